/-! ASSIGNING: the reference's parts -/
def Rv (τ A : tS) : Prop := (τ.1 1 = A.1 0 ∧ τ.1 2 = A.1 1 ∧ τ.1 3 = A.1 2 ∧ τ.1 4 = A.1 3 ∧ τ.1 5 = A.1 4) ∧ (∀ a k, k < rs a → τ.2.1 (rm a) k = A.2.1 a k) ∧ (∀ k, k < qS A → τ.2.1 7 k = A.2.1 11 k) ∧ (∀ k, k < qS A → τ.2.1 10 k = A.2.1 14 k) ∧ ∀ k, k < 40 → τ.2.1 9 k = if qS A ≤ k ∨ A.2.1 13 k ≠ 0 then 0 else 1
theorem Rv_of {τ A : tS} (h : Rf τ A) : Rv τ A := ⟨h.1, h.2.1, h.2.2.1, h.2.2.2.1, h.2.2.2.2.1⟩
theorem Rf_of {τ A : tS} (h : Rv τ A) (hv : ∀ k, k < 40 → τ.2.2 0 k = (A.2.1 15 k).toInt64) : Rf τ A := ⟨h.1, h.2.1, h.2.2.1, h.2.2.2.1, h.2.2.2.2, hv⟩
theorem Rv_r {τ A : tS} (h : Rv τ A) (a : Nat) {k : Nat} (hk : k < rs a) : τ.2.1 (rm a) k = A.2.1 a k := h.2.1 a k hk
theorem Rv_o {τ τ' A : tS} (h : Rv τ A) (h1 : ∀ i, i ≠ 0 → i ≠ 6 → τ'.1 i = τ.1 i) (h2 : ∀ a, a ≠ 17 → a ≠ 18 → a ≠ 19 → τ'.2.1 a = τ.2.1 a) : Rv τ' A := by
  obtain ⟨r1, r2, r3, r4, r5⟩ := h
  refine ⟨by rw [h1 1 (by decide) (by decide), h1 2 (by decide) (by decide), h1 3 (by decide) (by decide), h1 4 (by decide) (by decide), h1 5 (by decide) (by decide)]; exact r1, fun a k hk => ?_, fun k hk => ?_, fun k hk => ?_, fun k hk => ?_⟩
  · have := rm_ne a
    rw [h2 (rm a) (by omega) (by omega) (by omega)]; exact r2 a k hk
  · rw [h2 7 (by decide) (by decide) (by decide)]; exact r3 k hk
  · rw [h2 10 (by decide) (by decide) (by decide)]; exact r4 k hk
  · rw [h2 9 (by decide) (by decide) (by decide)]; exact r5 k hk
theorem rm_14 {a : Nat} (h : rm a = 14) : a = 19 := rm_inj (b := 19) h
theorem rm_15 {a : Nat} (h : rm a = 15) : a = 20 := rm_inj (b := 20) h
theorem rs_15 {k : Nat} : ¬ k < rs 15 := by simp [rs]
/-- the accumulated rows may be others -/
theorem Rv_X {τ τ' A : tS} {V V' : Nat → Nat} {U U' W W' : Nat → Int32} {L L' : Int32} (h : Rv τ (aX A V U W L)) (h1 : ∀ i, i ≠ 0 → i ≠ 5 → i ≠ 6 → τ'.1 i = τ.1 i) (h5 : τ'.1 5 = L') (h2 : ∀ a, a ≠ 14 → a ≠ 15 → a ≠ 17 → a ≠ 18 → a ≠ 19 → τ'.2.1 a = τ.2.1 a) (hW : ∀ p, p < 36 → τ'.2.1 14 p = W' p) (hU : ∀ x, x < 1440 → τ'.2.1 15 x = U' x) : Rv τ' (aX A V' U' W' L') := by
  obtain ⟨⟨r11, r12, r13, r14, r15⟩, r2, r3, r4, r5⟩ := h
  refine ⟨⟨by rw [h1 1 (by decide) (by decide) (by decide)]; exact r11, by rw [h1 2 (by decide) (by decide) (by decide)]; exact r12, by rw [h1 3 (by decide) (by decide) (by decide)]; exact r13, by rw [h1 4 (by decide) (by decide) (by decide)]; exact r14, h5⟩, fun a k hk => ?_, fun k hk => ?_, fun k hk => ?_, fun k hk => ?_⟩
  · have hr := rm_ne a
    by_cases e19 : a = 19
    · subst e19; exact hW k hk
    · by_cases e20 : a = 20
      · subst e20; exact hU k hk
      · have e15 : a ≠ 15 := fun e => by rw [e] at hk; exact rs_15 hk
        rw [h2 (rm a) (fun e => e19 (rm_14 e)) (fun e => e20 (rm_15 e)) (by omega) (by omega) (by omega), aX_ne ⟨e15, e19, e20⟩]
        have := r2 a k hk
        rw [aX_ne ⟨e15, e19, e20⟩] at this
        exact this
  · rw [h2 7 (by decide) (by decide) (by decide) (by decide) (by decide)]; exact r3 k hk
  · rw [h2 10 (by decide) (by decide) (by decide) (by decide) (by decide)]; exact r4 k hk
  · rw [h2 9 (by decide) (by decide) (by decide) (by decide) (by decide)]; exact r5 k hk
theorem byV_loop {A B : tS} (hB : Bnd A) (h46 : B.2.1 4 = A.2.1 4 ∧ B.2.1 6 = A.2.1 6) {pair mode : Nat} (hp : pair < 36) (hmo : mode < 3) : ∀ (k f i : Nat) (τ : tS), i + k = 3 → k < f → Rv τ B → (∀ m, m < i → τ.2.2 1 m = lN (mo A pair m)) → ∃ τ', ml_R_byMode_2 f (nI mode) (nI pair) (nI i) τ = some (nI (sh (qn A 4 pair) (mo A pair) 3 mode), τ') ∧ Rv τ' B ∧ τ'.1 = τ.1 ∧ (∀ a, a ≠ 17 → τ'.2.1 a = τ.2.1 a) ∧ ∀ a, a ≠ 1 → a ≠ 2 → τ'.2.2 a = τ.2.2 a := by
  have h4 : pair < bs 4 := hp
  have b4 : qn A 4 pair ≤ 1000000 := Bg_b hB 4 h4
  intro k
  induction k with
  | zero =>
    intro f i τ h1 h2 hc hs
    obtain ⟨f, rfl⟩ : ∃ q, f = q + 1 := ⟨f - 1, by omega⟩
    have e : i = 3 := by omega
    subst e
    have e4 : τ.2.1 12 pair = nI (qn A 4 pair) := (Rv_r hc 4 (k := pair) hp).trans (by rw [h46.1]; exact Bg_q hB 4 h4)
    obtain ⟨τ', r1, r2, r3, r3', r4⟩ := shareR (m := 3) (n := qn A 4 pair) (by decide) (by decide) b4 (num := mo A pair) (fun k hk => Nat.le_trans (Bg_b hB 6 (k := 36 * k + pair) (show 36 * k + pair < 108 by omega)) (show (1000 : Nat) ≤ 1000000000 by decide)) hs
    show ∃ τ', ms_R_byMode_2 (ml_R_byMode_2 f) (nI mode) (nI pair) (nI 3) τ = _ ∧ _
    unfold ms_R_byMode_2
    have r1' : mf_R_share (lN (qn A 4 pair)) 3 τ = some τ' := r1
    rw [if_pos (by decide), tg_n hp (by decide), nI_clamp (by omega), e4, nI_l (by omega), r1', tb1_s, tg_n (by omega) (by decide), nI_clamp (by omega), r4 mode hmo]
    exact ⟨τ', rfl, Rv_o hc (fun i _ _ => by rw [r2]) (fun a h _ _ => r3 a h), r2, r3, fun a _ h => r3' a h⟩
  | succ k ih =>
    intro f i τ h1 h2 hc hs
    obtain ⟨f, rfl⟩ : ∃ q, f = q + 1 := ⟨f - 1, by omega⟩
    have hk6 : 36 * i + pair < 108 := by omega
    have b6 : qn A 6 (36 * i + pair) ≤ 1000 := Bg_b hB 6 (k := 36 * i + pair) hk6
    have e6 : τ.2.1 13 (36 * i + pair) = nI (qn A 6 (36 * i + pair)) := (Rv_r hc 6 (k := 36 * i + pair) hk6).trans (by rw [h46.2]; exact Bg_q hB 6 (k := 36 * i + pair) hk6)
    show ∃ τ', ms_R_byMode_2 (ml_R_byMode_2 f) (nI mode) (nI pair) (nI i) τ = _ ∧ _
    unfold ms_R_byMode_2
    rw [if_neg (show ¬ (3 : Int32) ≤ nI i from nI_ge (b := 3) (by omega) (by decide)), nI_36.2, tg_n (by omega) (by decide), tg_n (by omega) (by decide), nI_clamp (by omega), nI_clamp (by omega), e6, nI_l (by omega), nI_1]
    obtain ⟨τ', r1, r2, r3, r4, r5⟩ := ih f (i + 1) (tJ τ 1 i (lN (qn A 6 (36 * i + pair)))) (by omega) (by omega) hc (fun m hm => by
      rw [tJ_at]; split
      · rename_i e; rw [e]; rfl
      · exact hs m (by omega))
    exact ⟨τ', r1, r2, r3, r4, fun a h1 h2 => by rw [r5 a h1 h2]; exact tJ_ne h1⟩
theorem nR_X {τ A : tS} {V : Nat → Nat} {U W : Nat → Int32} {L : Int32} (hB : Bnd A) (h : Rv τ (aX A V U W L)) {t : Nat → Nat} (ht : ∀ s, s < qS A → τ.2.2 3 s = lN (t s)) : nR (gA A t) (qN A) τ := by
  obtain ⟨eS, hS⟩ := Bg_S hB
  obtain ⟨eN, hN⟩ := Bg_N hB
  refine ⟨by rw [h.1.1]; exact eN, hN, by rw [h.1.2.2.1]; exact eS, hS, fun s hs => ?_⟩
  have hs4 : s < 40 := Nat.lt_of_lt_of_le hs hS
  obtain ⟨p1, p2⟩ := hB.2.2.2.2.1.2 s hs
  have r9 := h.2.2.2.2 s hs4
  have q13 := Bg_q hB 13 (k := s) hs4
  have b13 : qn A 13 s ≤ 1 := Bg_b hB 13 (k := s) hs4
  refine ⟨(Rv_r h 7 (k := s) hs4).trans (Bg_q hB 7 (k := s) hs4), p1, (Rv_r h 8 (k := s) hs4).trans (Bg_q hB 8 (k := s) hs4), p2, ?_, ht s hs⟩
  rw [r9]
  show (if qS A ≤ s ∨ A.2.1 13 s ≠ 0 then (0 : Int32) else 1) = if qn A 13 s = 0 then 1 else 0
  have hns : ¬ qS A ≤ s := by have : s < qS A := hs; omega
  by_cases h0 : qn A 13 s = 0
  · rw [if_pos h0, if_neg (fun q => q.elim hns (fun q => q (by rw [q13, h0]; rfl)))]
  · rw [if_neg h0, if_pos (Or.inr (by rw [q13]; exact nI_ne0 (by omega) (by omega)))]
theorem rowp_ok {A : tS} {W : Nat → Int32} {L : Int32} {pair go : Nat} (hp : pair < 36) (hgo : go < 2 ^ 31) {P : List Nat} (hP : P.length ≤ 11) (hPs : ∀ s, s ∈ P → s < 40) {v1 v2 v3 v4 : Int32} {v6 : Int64} : ∀ (k m r : Nat) (V : Nat → Nat) (U : Nat → Int32) (τ : tS), r + k = P.length → k < m → τ.1 6 = nI P.length → (∀ j, j < P.length → τ.2.1 19 j = nI (P.getD j 0)) → Rv τ (aX A V U W L) → (∀ s, s < 40 → τ.2.2 0 s = lN (V s)) → ∃ τ', ml_R_goPart_88 m v1 v2 v3 v4 (nI pair) v6 (nI go) (nI r) τ = some τ' ∧ Rv τ' (aX A (fun s => V s + go * (P.drop r).count s) (fun x => U x + nI (if x % 36 = pair then go * (P.drop r).count (x / 36) else 0)) W L) ∧ (∀ s, s < 40 → τ'.2.2 0 s = lN (V s + go * (P.drop r).count s)) ∧ (∀ a, a ≠ 0 → τ'.2.2 a = τ.2.2 a) ∧ τ'.1 = τ.1 := by
  intro k
  induction k with
  | zero =>
    intro m r V U τ h1 h2 h6 hrow hR hJ
    obtain ⟨m, rfl⟩ : ∃ q, m = q + 1 := ⟨m - 1, by omega⟩
    have e : r = P.length := by omega
    have ed : P.drop r = [] := by rw [e]; exact List.drop_length
    refine ⟨τ, ?_, ?_, fun s hs => by rw [ed]; simp; exact hJ s hs, fun _ _ => rfl, rfl⟩
    · show ms_R_goPart_88 (ml_R_goPart_88 m) v1 v2 v3 v4 (nI pair) v6 (nI go) (nI r) τ = _
      unfold ms_R_goPart_88
      rw [if_pos (by rw [h6, e]; exact Int32.le_refl _)]
    · have e1 : (fun s => V s + go * ([] : List Nat).count s) = V := by funext s; simp
      have e2 : (fun x => U x + nI (if x % 36 = pair then go * ([] : List Nat).count (x / 36) else 0)) = U := by
        funext x
        have : (if x % 36 = pair then go * ([] : List Nat).count (x / 36) else 0) = 0 := by split <;> simp
        rw [this, nI_0]; exact Int32.add_zero _
      rw [ed, e1, e2]; exact hR
  | succ k ih =>
    intro m r V U τ h1 h2 h6 hrow hR hJ
    obtain ⟨m, rfl⟩ : ∃ q, m = q + 1 := ⟨m - 1, by omega⟩
    have hr : r < P.length := by omega
    have hget : P.getD r 0 = P[r] := by simp [hr]
    have hs40 : P[r] < 40 := hPs _ (List.getElem_mem hr)
    have er := hrow r hr
    rw [hget] at er
    have hs1440 : 36 * P[r] + pair < 1440 := by omega
    have ed : P.drop r = P[r] :: P.drop (r + 1) := List.drop_eq_getElem_cons hr
    have eU : τ.2.1 15 (36 * P[r] + pair) = U (36 * P[r] + pair) := Rv_r hR 20 (k := 36 * P[r] + pair) hs1440
    have eW : ∀ p, p < 36 → τ.2.1 14 p = W p := fun p hp => Rv_r hR 19 (k := p) hp
    have eU' : ∀ x, x < 1440 → τ.2.1 15 x = U x := fun x hx => Rv_r hR 20 (k := x) hx
    obtain ⟨τ', r1, r2, r3, r4, r5⟩ := ih m (r + 1) (fun k => if k = P[r] then V k + go else V k) (fun x => if x = 36 * P[r] + pair then U x + nI go else U x) (tI (tJ τ 0 P[r] (lN (V P[r] + go))) 15 (36 * P[r] + pair) (U (36 * P[r] + pair) + nI go)) (by omega) (by omega) h6 (fun j hj => by rw [tI_ne (by decide)]; exact hrow j hj) (Rv_X hR (fun _ _ _ _ => rfl) hR.1.2.2.2.2 (fun a _ h15 _ _ _ => tI_ne h15) (fun p hp => by rw [tI_ne (by decide)]; exact eW p hp) (fun x hx => by
        rw [tI_at]
        split
        · rename_i e; rw [e]
        · exact eU' x hx)) (fun s hs => by
        show (tJ τ 0 P[r] (lN (V P[r] + go))).2.2 0 s = _
        rw [tJ_at]
        split
        · rename_i e; rw [e]
        · exact hJ s hs)
    have e1 : (fun k => (if k = P[r] then V k + go else V k) + go * (P.drop (r + 1)).count k) = fun k => V k + go * (P.drop r).count k := by
      funext k
      rw [ed, cnt_c, Nat.mul_add]
      by_cases hks : k = P[r]
      · rw [if_pos hks, if_pos hks]; omega
      · rw [if_neg hks, if_neg hks]; omega
    have e2 : (fun x => (if x = 36 * P[r] + pair then U x + nI go else U x) + nI (if x % 36 = pair then go * (P.drop (r + 1)).count (x / 36) else 0)) = fun x => U x + nI (if x % 36 = pair then go * (P.drop r).count (x / 36) else 0) := by
      funext x
      rw [ed, cnt_c, Nat.mul_add]
      by_cases hxp : x % 36 = pair
      · rw [if_pos hxp, if_pos hxp]
        by_cases hxs : x / 36 = P[r]
        · rw [if_pos (by omega), if_pos hxs, Int32.add_assoc, nI_add]
          congr 2; omega
        · rw [if_neg (by omega), if_neg hxs]; simp only [Nat.mul_zero, Nat.add_zero]
      · rw [if_neg hxp, if_neg hxp, if_neg (by omega)]
    rw [e1, e2] at r2
    refine ⟨τ', ?_, r2, fun s hs => ?_, fun a ha => by rw [r4 a ha]; exact tJ_ne ha, r5⟩
    · show ms_R_goPart_88 (ml_R_goPart_88 m) v1 v2 v3 v4 (nI pair) v6 (nI go) (nI r) τ = _
      unfold ms_R_goPart_88
      have T1 : ∀ {α : Type} (o : Option α), tg (nI r) 40 o = o := fun o => tg_n (by omega) (by decide)
      have C1 : (nI r).toNatClampNeg = r := nI_clamp (by omega)
      have T2 : ∀ {α : Type} (o : Option α), tg (nI P[r]) 40 o = o := fun o => tg_n hs40 (by decide)
      have C2 : (nI P[r]).toNatClampNeg = P[r] := nI_clamp (by omega)
      have T3 : ∀ {α : Type} (o : Option α), tg (nI (36 * P[r] + pair)) 1440 o = o := fun o => tg_n hs1440 (by decide)
      have C3 : (nI (36 * P[r] + pair)).toNatClampNeg = 36 * P[r] + pair := nI_clamp (by omega)
      rw [if_neg (by rw [h6]; exact nI_ge hr (by omega))]
      simp only [T1, C1, er, T2, C2, nI_36.2, T3, C3, eU, hJ _ hs40, nI_1]
      rw [nI_l hgo, lN_add]
      exact r1
    · have := r3 s hs
      rw [this]
      have := congrFun e1 s
      exact congrArg lN this
/-- a state of the reference that has added d -/
def rQ (A : tS) (t V : Nat → Nat) (U W : Nat → Int32) (L : Int32) (d : Nat → Nat → Nat) (τ : tS) : Prop := Rv τ (aY A V U W L d) ∧ (∀ s, s < 40 → τ.2.2 0 s = lN (V s + d 0 s)) ∧ ∀ s, s < qS A → τ.2.2 3 s = lN (t s)
theorem goPart_ok {A : tS} (hB : Bnd A) {V : Nat → Nat} {U W : Nat → Int32} {L : Int32} {t : Nat → Nat} (ht : ∀ s, t s ≤ 1000000) {p n : Nat} (hn1 : 1 ≤ n) (hn8 : n ≤ 8) (hp8 : p < 8) {i j : Nat} (hi : i < qZ A) (hj : j < qZ A) (hij : i ≠ j) {d : Nat → Nat → Nat} {τ : tS} (h : rQ A t V U W L d τ) : ∃ τ', mf_R_goPart (nI i) (nI j) (nI p) (nI n) τ = some τ' ∧ rQ A t V U W L (fun c x => d c x + E1 A t p n i j c x) τ' ∧ τ'.1 0 = τ.1 0 := by
  obtain ⟨eZ, hZ⟩ := Bg_Z hB
  obtain ⟨eN, hN⟩ := Bg_N hB
  have hk := gA_k hB ht
  have hu := hB.2.2.2.2.1.1 i hi
  have hz := hB.2.2.2.2.1.1 j hj
  have h36 : 6 * i + j < 36 := by omega
  obtain ⟨hR, hJ, h3⟩ := h
  have hdd : dd A i j = sh (qn A 4 (6 * i + j)) (mo A (6 * i + j)) 3 0 := if_neg hij
  have hdl := dd_le hB (i := i) (j := j) (by omega) (by omega)
  obtain ⟨m1, m2⟩ := dp_b hdl hp8
  have d1 : dd A i j * (p + 1) / n ≤ dd A i j * (p + 1) := Nat.div_le_self _ _
  have hgl : gp (dd A i j) p n < 2 ^ 31 := Nat.lt_of_le_of_lt (Nat.sub_le _ _) (Nat.lt_of_le_of_lt d1 (by omega))
  obtain ⟨τ1, q1, q2, q3, q4, q5⟩ := byV_loop (B := aY A V U W L d) hB ⟨rfl, rfl⟩ (pair := 6 * i + j) (mode := 0) h36 (by decide) 3 4096 0 τ (by decide) (by decide) hR (fun m hm => by omega)
  have q1' : mf_R_byMode 0 (nI (6 * i + j)) τ = some (nI (dd A i j), τ1) := by rw [hdd]; exact q1
  have h31 : ∀ s, s < qS A → τ1.2.2 3 s = lN (t s) := fun s hs => by rw [q5 3 (by decide) (by decide)]; exact h3 s hs
  have hJ1 : ∀ s, s < 40 → τ1.2.2 0 s = lN (V s + d 0 s) := fun s hs => by rw [q5 0 (by decide) (by decide)]; exact hJ s hs
  obtain ⟨τ2, w1, w2, w3, w4, w5⟩ := findWay_ok hk hz hu (nR_X hB q2 h31)
  have hR2 : Rv τ2 (aY A V U W L d) := Rv_o q2 (fun i _ h6 => w2 i h6) (fun a _ h2 h3 => w3 a h2 h3)
  have hJ2 : ∀ s, s < 40 → τ2.2.2 0 s = lN (V s + d 0 s) := fun s hs => by rw [w4 0 (by decide)]; exact hJ1 s hs
  have h32 : ∀ s, s < qS A → τ2.2.2 3 s = lN (t s) := fun s hs => by rw [w4 3 (by decide)]; exact h31 s hs
  have ei : τ1.2.1 0 i = nI (qn A 0 i) := (Rv_r q2 0 (k := i) (show i < 6 by omega)).trans (Bg_q hB 0 (k := i) (show i < 6 by omega))
  have ej : τ1.2.1 0 j = nI (qn A 0 j) := (Rv_r q2 0 (k := j) (show j < 6 by omega)).trans (Bg_q hB 0 (k := j) (show j < 6 by omega))
  have ego : ((((nI (dd A i j)).toInt64 * ((nI p + 1)).toInt64) / (nI n).toInt64) - (((nI (dd A i j)).toInt64 * (nI p).toInt64) / (nI n).toInt64)).toInt32 = nI (gp (dd A i j) p n) := by
    rw [nI_1, nI_l (by omega), nI_l (by omega), nI_l (by omega), nI_l (by omega), lN_mul, lN_mul, pk_lDiv (by omega) (by omega) (by omega), pk_lDiv (by omega) (by omega) (by omega), lN_sub gp_mono, lN_i]
    rfl
  have z0 : ∀ x : Int32, x + nI 0 = x := fun x => by rw [nI_0]; exact Int32.add_zero x
  have T0 : ∀ {α : Type} (o : Option α), tz ((nI n).toInt64) o = o := fun o => by rw [nI_l (by omega)]; exact tz_n (by omega) (by omega)
  have Ti : ∀ {α : Type} (o : Option α), tg (nI i) 6 o = o := fun o => tg_n (by omega) (by decide)
  have Tj : ∀ {α : Type} (o : Option α), tg (nI j) 6 o = o := fun o => tg_n (by omega) (by decide)
  have Ci : (nI i).toNatClampNeg = i := nI_clamp (by omega)
  have Cj : (nI j).toNatClampNeg = j := nI_clamp (by omega)
  have Tp : ∀ {α : Type} (o : Option α), tg (nI (6 * i + j)) 36 o = o := fun o => tg_n h36 (by decide)
  have Cp : (nI (6 * i + j)).toNatClampNeg = 6 * i + j := nI_clamp (by omega)
  have eW : ∀ p, p < 36 → τ2.2.1 14 p = W p + nI (d 2 p) := fun p hp => Rv_r hR2 19 (k := p) hp
  have eU : ∀ x, x < 1440 → τ2.2.1 15 x = U x + nI (d 1 x) := fun x hx => Rv_r hR2 20 (k := x) hx
  have eL : τ2.1 5 = L + nI (d 3 0) := hR2.1.2.2.2.2
  have eE : ∀ c x, E1 A t p n i j c x = pe (gA A t) (qn A 0 j) (qn A 0 i) (gp (dd A i j) p n) (6 * i + j) c x := fun _ _ => rfl
  have sumE : ∀ τ' : tS, Rv τ' (aX A (fun s => V s + d 0 s + E1 A t p n i j 0 s) (fun x => U x + nI (d 1 x) + nI (E1 A t p n i j 1 x)) (fun q => W q + nI (d 2 q) + nI (E1 A t p n i j 2 q)) (L + nI (d 3 0) + nI (E1 A t p n i j 3 0))) → Rv τ' (aY A V U W L (fun c x => d c x + E1 A t p n i j c x)) := fun τ' hh => by rw [← aY_add]; exact hh
  unfold mf_R_goPart
  rw [nI_6.2, q1', tb2_s]
  simp only [T0, Ti, Tj, Ci, Cj, ei, ej, w1, tb2_s, ego]
  by_cases hq : wD (gA A t) (qn A 0 j) (qn A 0 i) = wI
  · rw [if_pos hq, if_pos rfl]
    have p0 : ∀ c x, c < 3 → E1 A t p n i j c x = 0 := fun c x hc3 => by
      rw [eE]
      unfold pe eV
      simp only [if_pos hq]
      split
      · rfl
      · split
        · split <;> rfl
        · rw [if_pos (by omega)]
    have p3 : E1 A t p n i j 3 0 = gp (dd A i j) p n := if_pos hq
    refine ⟨_, rfl, ⟨sumE _ (Rv_X hR2 (fun i h0 h5 h6 => tF_ne h5) ?_ (fun _ _ _ _ _ _ => rfl) (fun p hp => ?_) (fun x hx => ?_)), fun s hs => ?_, h32⟩, ?_⟩
    · show τ2.1 5 + nI (gp (dd A i j) p n) = _
      rw [eL, p3]
    · rw [p0 2 p (by decide), z0]; exact eW p hp
    · rw [p0 1 x (by decide), z0]; exact eU x hx
    · show τ2.2.2 0 s = lN (V s + (d 0 s + E1 A t p n i j 0 s))
      rw [p0 0 s (by decide), Nat.add_zero]; exact hJ2 s hs
    · rw [tF_ne (by decide), w2 0 (by decide), q3]
  · rw [if_neg hq, if_neg i1n]
    obtain ⟨x1, x2, x3⟩ := w5 hq
    have hV := wD_V hk (show qn A 0 j < 12 by omega)
    have hPs := (wP_l hk hV (wD_s hk (show qn A 0 j < 12 by omega)) _ (qn A 0 i) hq rfl).2.1
    have hS := (Bg_S hB).2
    have e2 : ∀ q, E1 A t p n i j 2 q = if q = 6 * i + j then gp (dd A i j) p n else 0 := fun q => by
      show (if wD (gA A t) (qn A 0 j) (qn A 0 i) = wI then 0 else if q = 6 * i + j then gp (dd A i j) p n else 0) = _
      rw [if_neg hq]
    have e3 : E1 A t p n i j 3 0 = 0 := if_neg hq
    have e0 : ∀ s, E1 A t p n i j 0 s = gp (dd A i j) p n * (wP (gA A t) (wD (gA A t) (qn A 0 j)) (qn A 0 i)).count s := fun s => if_neg hq
    have e1 : ∀ x, E1 A t p n i j 1 x = if x % 36 = 6 * i + j then gp (dd A i j) p n * (wP (gA A t) (wD (gA A t) (qn A 0 j)) (qn A 0 i)).count (x / 36) else 0 := fun x => by
      show (if x % 36 = 6 * i + j then eV (gA A t) (qn A 0 j) (qn A 0 i) (gp (dd A i j) p n) (x / 36) else 0) = _
      unfold eV
      rw [if_neg hq]
    obtain ⟨τ', r1, r2, r3, r4, r5⟩ := rowp_ok (A := A) (W := fun q => W q + nI (d 2 q) + nI (E1 A t p n i j 2 q)) (L := L + nI (d 3 0) + nI (E1 A t p n i j 3 0)) h36 hgl x2 (fun s hs => Nat.lt_of_lt_of_le (hPs s hs) hS) (v1 := nI i) (v2 := nI j) (v3 := nI p) (v4 := nI n) (v6 := (nI (dd A i j)).toInt64) _ 4096 0 (fun s => V s + d 0 s) (fun x => U x + nI (d 1 x)) (tI τ2 14 (6 * i + j) (τ2.2.1 14 (6 * i + j) + nI (gp (dd A i j) p n))) (Nat.zero_add _) (by omega) x1 (fun j hj => by rw [tI_ne (by decide)]; exact x3 j hj) (Rv_X hR2 (fun _ _ _ _ => rfl) (by rw [e3, z0]; exact eL) (fun a h14 _ _ _ _ => tI_ne h14) (fun q hq' => by
        rw [tI_at, e2]
        by_cases hqq : q = 6 * i + j
        · rw [if_pos hqq, if_pos hqq, eW _ h36, hqq]
        · rw [if_neg hqq, if_neg hqq, z0]; exact eW q hq') (fun x hx => by rw [tI_ne (by decide)]; exact eU x hx)) hJ2
    rw [List.drop_zero] at r2 r3
    simp only [Tp, Cp]
    refine ⟨τ', r1, ⟨sumE _ ?_, fun s hs => ?_, fun s hs => ?_⟩, by rw [r5]; show τ2.1 0 = _; rw [w2 0 (by decide), q3]⟩
    · simp only [e0, e1]; exact r2
    · rw [r3 s hs]
      show lN (V s + d 0 s + _) = lN (V s + (d 0 s + E1 A t p n i j 0 s))
      rw [e0, Nat.add_assoc]
    · rw [r4 3 (by decide)]; exact h32 s hs
theorem E1_d {A : tS} {t : Nat → Nat} {p n i : Nat} (c x : Nat) : E1 A t p n i i c x = 0 := by
  have : gp (dd A i i) p n = 0 := by
    have : dd A i i = 0 := if_pos rfl
    rw [this]; unfold gp; simp
  unfold E1
  rw [this, pe_0]
theorem partRI {A : tS} (hB : Bnd A) {V : Nat → Nat} {U W : Nat → Int32} {L : Int32} {t : Nat → Nat} (ht : ∀ s, t s ≤ 1000000) {p n : Nat} (hn1 : 1 ≤ n) (hn8 : n ≤ 8) (hp8 : p < 8) {i : Nat} (hi : i < qZ A) {d : Nat → Nat → Nat} : ∀ (k f j : Nat) (τ : tS), j + k = qZ A → k < f → rQ A t V U W L (fun c x => d c x + sm j (fun j' => E1 A t p n i j' c x)) τ → ∃ τ' v, ml_R_assignAll_98 f (nI n) (nI p) (nI i) (nI j) τ = some (nI n, nI p, nI i, v, τ') ∧ rQ A t V U W L (fun c x => d c x + sm (qZ A) (fun j' => E1 A t p n i j' c x)) τ' ∧ τ'.1 0 = τ.1 0 := by
  obtain ⟨eZ, hZ⟩ := Bg_Z hB
  intro k
  induction k with
  | zero =>
    intro f j τ h1 h2 h
    obtain ⟨f, rfl⟩ : ∃ q, f = q + 1 := ⟨f - 1, by omega⟩
    have e : j = qZ A := by omega
    refine ⟨τ, nI j, ?_, by rw [← e]; exact h, rfl⟩
    show ms_R_assignAll_98 (ml_R_assignAll_98 f) (nI n) (nI p) (nI i) (nI j) τ = _
    unfold ms_R_assignAll_98
    rw [if_pos (by rw [show τ.1 2 = nI (qZ A) from h.1.1.2.1.trans eZ, e]; exact Int32.le_refl _)]
  | succ k ih =>
    intro f j τ h1 h2 h
    obtain ⟨f, rfl⟩ : ∃ q, f = q + 1 := ⟨f - 1, by omega⟩
    show ∃ τ' v, ms_R_assignAll_98 (ml_R_assignAll_98 f) (nI n) (nI p) (nI i) (nI j) τ = _ ∧ _
    unfold ms_R_assignAll_98
    rw [if_neg (by rw [show τ.1 2 = nI (qZ A) from h.1.1.2.1.trans eZ]; exact nI_ge (by omega) (by omega))]
    have es : (fun c x => d c x + sm (j + 1) (fun j' => E1 A t p n i j' c x)) = fun c x => (d c x + sm j (fun j' => E1 A t p n i j' c x)) + E1 A t p n i j c x := by
      funext c x
      show d c x + (sm j (fun j' => E1 A t p n i j' c x) + E1 A t p n i j c x) = _
      omega
    by_cases e : i = j
    · rw [if_pos (by rw [e]), nI_1]
      refine ih f (j + 1) τ (by omega) (by omega) ?_
      rw [es]
      have : (fun c x => (d c x + sm j (fun j' => E1 A t p n i j' c x)) + E1 A t p n i j c x) = fun c x => d c x + sm j (fun j' => E1 A t p n i j' c x) := by
        funext c x; rw [← e, E1_d, Nat.add_zero]
      rw [this]; exact h
    · obtain ⟨τ1, q1, q2, q3⟩ := goPart_ok hB ht hn1 hn8 hp8 hi (show j < qZ A by omega) e h
      rw [if_neg (by rw [nI_eq (by omega) (by omega)]; exact e), q1, tb1_s, nI_1]
      obtain ⟨τ', v, r1, r2, r3⟩ := ih f (j + 1) τ1 (by omega) (by omega) (by rw [es]; exact q2)
      exact ⟨τ', v, r1, r2, by rw [r3, q3]⟩
theorem partRO {A : tS} (hB : Bnd A) {V : Nat → Nat} {U W : Nat → Int32} {L : Int32} {t : Nat → Nat} (ht : ∀ s, t s ≤ 1000000) {p n : Nat} (hn1 : 1 ≤ n) (hn8 : n ≤ 8) (hp8 : p < 8) : ∀ (k f i : Nat) (τ : tS), i + k = qZ A → k < f → rQ A t V U W L (fun c x => sm i (fun i' => sm (qZ A) (fun j' => E1 A t p n i' j' c x))) τ → ∃ τ' v, ml_R_assignAll_87 f (nI n) (nI p) (nI i) τ = some (nI n, nI p, v, τ') ∧ rQ A t V U W L (fun c x => sm (qZ A) (fun i' => sm (qZ A) (fun j' => E1 A t p n i' j' c x))) τ' ∧ τ'.1 0 = τ.1 0 := by
  obtain ⟨eZ, hZ⟩ := Bg_Z hB
  intro k
  induction k with
  | zero =>
    intro f i τ h1 h2 h
    obtain ⟨f, rfl⟩ : ∃ q, f = q + 1 := ⟨f - 1, by omega⟩
    have e : i = qZ A := by omega
    refine ⟨τ, nI i, ?_, by rw [← e]; rw [← e] at h; exact h, rfl⟩
    show ms_R_assignAll_87 (ml_R_assignAll_87 f) (nI n) (nI p) (nI i) τ = _
    unfold ms_R_assignAll_87
    rw [if_pos (by rw [show τ.1 2 = nI (qZ A) from h.1.1.2.1.trans eZ, e]; exact Int32.le_refl _)]
  | succ k ih =>
    intro f i τ h1 h2 h
    obtain ⟨f, rfl⟩ : ∃ q, f = q + 1 := ⟨f - 1, by omega⟩
    obtain ⟨τ1, v, q1, q2, q3⟩ := partRI hB ht hn1 hn8 hp8 (show i < qZ A by omega) (d := fun c x => sm i (fun i' => sm (qZ A) (fun j' => E1 A t p n i' j' c x))) (qZ A) 4096 0 τ (by omega) (by omega) h
    have q1' : ml_R_assignAll_98 4096 (nI n) (nI p) (nI i) 0 τ = some (nI n, nI p, nI i, v, τ1) := q1
    obtain ⟨τ', v', r1, r2, r3⟩ := ih f (i + 1) τ1 (by omega) (by omega) q2
    refine ⟨τ', v', ?_, r2, by rw [r3, q3]⟩
    show ms_R_assignAll_87 (ml_R_assignAll_87 f) (nI n) (nI p) (nI i) τ = _
    unfold ms_R_assignAll_87
    rw [if_neg (by rw [show τ.1 2 = nI (qZ A) from h.1.1.2.1.trans eZ]; exact nI_ge (by omega) (by omega)), q1', tb1_s]
    simp only [nI_1]
    exact r1
