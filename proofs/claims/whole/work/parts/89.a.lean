/-! ASSIGNING: what one pair of zones adds, and sums of that -/
def aX (A : tS) (V : Nat → Nat) (U W : Nat → Int32) (L : Int32) : tS := (upd A.1 4 L, (fun a => if a = 15 then (fun k => nI (V k)) else if a = 19 then W else if a = 20 then U else A.2.1 a), A.2.2)
def aY (A : tS) (V : Nat → Nat) (U W : Nat → Int32) (L : Int32) (d : Nat → Nat → Nat) : tS := aX A (fun s => V s + d 0 s) (fun x => U x + nI (d 1 x)) (fun p => W p + nI (d 2 p)) (L + nI (d 3 0))
theorem aY_0 {A : tS} {V : Nat → Nat} {U W : Nat → Int32} {L : Int32} : aY A V U W L (fun _ _ => 0) = aX A V U W L := by
  unfold aY
  have e : ∀ x : Int32, x + nI 0 = x := fun x => by rw [nI_0]; exact Int32.add_zero x
  rw [e]
  congr 1
  · funext x; exact e _
  · funext x; exact e _
theorem aY_add {A : tS} {V : Nat → Nat} {U W : Nat → Int32} {L : Int32} {d e : Nat → Nat → Nat} : aX A (fun s => V s + d 0 s + e 0 s) (fun x => U x + nI (d 1 x) + nI (e 1 x)) (fun p => W p + nI (d 2 p) + nI (e 2 p)) (L + nI (d 3 0) + nI (e 3 0)) = aY A V U W L (fun c x => d c x + e c x) := by
  unfold aY
  have q : ∀ (x : Int32) (a b : Nat), x + nI a + nI b = x + nI (a + b) := fun x a b => by rw [Int32.add_assoc, nI_add]
  rw [q]
  congr 1
  · funext x; exact Nat.add_assoc _ _ _
  · funext x; exact q _ _ _
  · funext x; exact q _ _ _
theorem aX_ne {A : tS} {V : Nat → Nat} {U W : Nat → Int32} {L : Int32} {a : Nat} (h : a ≠ 15 ∧ a ≠ 19 ∧ a ≠ 20) : (aX A V U W L).2.1 a = A.2.1 a := by
  show (if a = 15 then (fun k => nI (V k)) else if a = 19 then W else if a = 20 then U else A.2.1 a) = _
  rw [if_neg h.1, if_neg h.2.1, if_neg h.2.2]
theorem aX_F {A : tS} {V : Nat → Nat} {U W : Nat → Int32} {L : Int32} {i : Nat} (h : i ≠ 4) : (aX A V U W L).1 i = A.1 i := if_neg h
theorem aX_q {A : tS} {V : Nat → Nat} {U W : Nat → Int32} {L : Int32} {a k : Nat} (h : a ≠ 15 ∧ a ≠ 19 ∧ a ≠ 20) : qn (aX A V U W L) a k = qn A a k := by unfold qn; rw [aX_ne h]
theorem Bnd_X {A : tS} {V : Nat → Nat} {U W : Nat → Int32} {L : Int32} (hB : Bnd A) (hV : ∀ k, k < 40 → V k ≤ 500000000) : Bnd (aX A V U W L) := by
  obtain ⟨b1, b2, b3, b4, b5, b6⟩ := hB
  refine ⟨⟨b1.1, b1.2.1, b1.2.2.1, b1.2.2.2.1, fun a k hk => ?_⟩, b2, b3, b4, b5, b6⟩
  have ha := bs_c hk
  by_cases h15 : a = 15
  · subst h15
    have hk' : k < 40 := hk
    have e : qn (aX A V U W L) 15 k = V k := by
      show (nI (V k)).toNatClampNeg = V k
      exact nI_clamp (by have := hV k hk'; omega)
    rw [e]
    exact ⟨rfl, hV k hk'⟩
  · rw [aX_ne (by omega), aX_q (by omega)]
    exact b1.2.2.2.2 a k hk
/-- what a pair adds: to volumes (0), to uses (1), to those who went (2), to the lost (3) -/
def eV (g : wG) (z u go s : Nat) : Nat := if wD g z u = wI then 0 else go * (wP g (wD g z) u).count s
def pe (g : wG) (z u go pair : Nat) (c x : Nat) : Nat := if c = 0 then eV g z u go x else if c = 1 then (if x % 36 = pair then eV g z u go (x / 36) else 0) else if c = 2 then (if wD g z u = wI then 0 else if x = pair then go else 0) else (if wD g z u = wI then go else 0)
theorem pe_0 {g : wG} {z u pair c x : Nat} : pe g z u 0 pair c x = 0 := by
  unfold pe eV
  simp
theorem sm_swap (F : Nat → Nat → Nat) (m : Nat) : ∀ n, sm n (fun i => sm m (fun j => F i j)) = sm m (fun j => sm n (fun i => F i j)) := by
  intro n
  induction n with
  | zero =>
    show 0 = sm m (fun _ => 0)
    induction m with
    | zero => rfl
    | succ m ih => show 0 = sm m (fun _ => 0) + 0; rw [← ih]
  | succ n ih =>
    show sm n (fun i => sm m (fun j => F i j)) + sm m (fun j => F n j) = sm m (fun j => sm n (fun i => F i j) + F n j)
    rw [ih]
    clear ih
    induction m with
    | zero => rfl
    | succ m ih =>
      show (sm m (fun j => sm n (fun i => F i j)) + sm n (fun i => F i m)) + (sm m (fun j => F n j) + F n m) = sm m (fun j => sm n (fun i => F i j) + F n j) + (sm n (fun i => F i m) + F n m)
      rw [← ih]; omega
theorem cnt_c {l : List Nat} {s k : Nat} : (s :: l).count k = l.count k + (if k = s then 1 else 0) := by
  rw [List.count_cons]
  congr 1
  by_cases h : k = s
  · rw [if_pos h, if_pos (by simp [h])]
  · rw [if_neg h, if_neg (by simp; exact fun e => h e.symm)]
/-! the class sends -/
theorem sendp_ok {g : wG} {z : Nat} (hk : wGk g) (hz : z < 12) {A : tS} {W : Nat → Int32} {L : Int32} {pair go : Nat} (hp : pair < 36) {v3 : Int32} : ∀ (f m u j : Nat) (V : Nat → Nat) (U : Nat → Int32) (σ : tS), wD g z u % 64 = f → u < 12 → wD g z u ≠ wI → f < m → j + f ≤ 12 → nC g σ → (∀ v, v < 12 → σ.2.1 17 v = wx (wn g (wD g z) v g.1)) → cC σ (aX A V U W L) → ∃ σ', ml_A_send_43 m (nI pair) (nI go) v3 (wx (wn g (wD g z) u g.1)) (nI j) σ = some σ' ∧ cC σ' (aX A (fun s => V s + go * (wP g (wD g z) u).count s) (fun x => U x + nI (if x % 36 = pair then go * (wP g (wD g z) u).count (x / 36) else 0)) W L) ∧ (∀ a, a = 16 ∨ a = 17 ∨ a = 18 → σ'.2.1 a = σ.2.1 a) ∧ σ'.2.2 = σ.2.2 := by
  have hV := wD_V hk hz
  have hst := wD_s hk hz
  intro f
  have atz : ∀ (m j : Nat) (V : Nat → Nat) (U : Nat → Int32) (σ : tS), 0 < m → cC σ (aX A V U W L) → ∃ σ', ml_A_send_43 m (nI pair) (nI go) v3 (wx (wn g (wD g z) z g.1)) (nI j) σ = some σ' ∧ cC σ' (aX A (fun s => V s + go * (wP g (wD g z) z).count s) (fun x => U x + nI (if x % 36 = pair then go * (wP g (wD g z) z).count (x / 36) else 0)) W L) ∧ (∀ a, a = 16 ∨ a = 17 ∨ a = 18 → σ'.2.1 a = σ.2.1 a) ∧ σ'.2.2 = σ.2.2 := by
    intro m j V U σ hm hc
    obtain ⟨m, rfl⟩ : ∃ q, m = q + 1 := ⟨m - 1, by omega⟩
    rw [wP_z hV, wn_z hV]
    refine ⟨σ, ?_, ?_, fun _ _ => rfl, rfl⟩
    · show ms_A_send_43 (ml_A_send_43 m) (nI pair) (nI go) v3 (-1) (nI j) σ = _
      unfold ms_A_send_43
      rw [if_pos (show (-1 : Int32) = -1 from rfl)]
      split <;> rfl
    · have e1 : (fun s => V s + go * ([] : List Nat).count s) = V := by funext s; simp
      have e2 : (fun x => U x + nI (if x % 36 = pair then go * ([] : List Nat).count (x / 36) else 0)) = U := by
        funext x
        have : (if x % 36 = pair then go * ([] : List Nat).count (x / 36) else 0) = 0 := by split <;> simp
        rw [this, nI_0]; exact Int32.add_zero _
      rw [e1, e2]; exact hc
  induction f with
  | zero =>
    intro m u j V U σ h0 hu hf hm hj hn hx hc
    have e := (wP_l hk hV hst 0 u hf h0).2.2 rfl
    subst e
    exact atz m j V U σ (by omega) hc
  | succ f ih =>
    intro m u j V U σ h0 hu hf hm hj hn hx hc
    by_cases e : u = z
    · subst e
      exact atz m j V U σ (by omega) hc
    obtain ⟨s, s1, s2, s3, s4, s5, s6, s7⟩ := wP_s hk hV hst hf e
    obtain ⟨m, rfl⟩ : ∃ q, m = q + 1 := ⟨m - 1, by omega⟩
    have hg40 := hn.2.1
    have hs1440 : 36 * s + pair < 1440 := by omega
    have e15 : σ.2.1 15 s = nI (V s) := by rw [hc.2 15 (by decide) (by decide) (by decide) (by decide) (by decide)]; rfl
    have e20 : σ.2.1 20 (36 * s + pair) = U (36 * s + pair) := by rw [hc.2 20 (by decide) (by decide) (by decide) (by decide) (by decide)]; rfl
    have hc' : cC (tI (tI σ 15 s (nI (V s + go))) 20 (36 * s + pair) (U (36 * s + pair) + nI go)) (aX A (fun k => if k = s then V k + go else V k) (fun x => if x = 36 * s + pair then U x + nI go else U x) W L) := by
      refine ⟨hc.1, fun a a1 a2 a3 a4 a5 => ?_⟩
      by_cases h20 : a = 20
      · subst h20
        funext x
        rw [tI_at]
        show _ = if x = 36 * s + pair then U x + nI go else U x
        by_cases hx' : x = 36 * s + pair
        · rw [if_pos hx', if_pos hx', hx']
        · rw [if_neg hx', if_neg hx', tI_ne (by decide), hc.2 20 (by decide) (by decide) (by decide) (by decide) (by decide)]; rfl
      · rw [tI_ne h20]
        by_cases h15 : a = 15
        · subst h15
          funext x
          rw [tI_at]
          show _ = nI (if x = s then V x + go else V x)
          by_cases hx' : x = s
          · rw [if_pos hx', if_pos hx', hx']
          · rw [if_neg hx', if_neg hx', hc.2 15 (by decide) (by decide) (by decide) (by decide) (by decide)]; rfl
        · rw [tI_ne h15, hc.2 a a1 a2 a3 a4 a5]
          show (if a = 15 then _ else if a = 19 then W else if a = 20 then _ else A.2.1 a) = (if a = 15 then _ else if a = 19 then W else if a = 20 then _ else A.2.1 a)
          rw [if_neg h15, if_neg h15, if_neg h20, if_neg h20]
    obtain ⟨σ', r1, r2, r3, r4⟩ := ih m (g.2.2.1 s) (j + 1) (fun k => if k = s then V k + go else V k) (fun x => if x = 36 * s + pair then U x + nI go else U x) (tI (tI σ 15 s (nI (V s + go))) 20 (36 * s + pair) (U (36 * s + pair) + nI go)) (by omega) s4 s5 (by omega) (by omega) (by
        obtain ⟨n1, n2, n3⟩ := hn
        refine ⟨n1, n2, fun s' hs' => ?_⟩
        rw [tI_ne (by decide), tI_ne (by decide), tI_ne (by decide), tI_ne (by decide), tI_ne (by decide), tI_ne (by decide), tI_ne (by decide), tI_ne (by decide)]
        exact n3 s' hs') (fun v hv => by rw [tI_ne (by decide), tI_ne (by decide)]; exact hx v hv) hc'
    refine ⟨σ', ?_, ?_, fun a ha => by rw [r3 a ha, tI_ne (by omega), tI_ne (by omega)], r4⟩
    · rw [s1]
      show ms_A_send_43 (ml_A_send_43 m) (nI pair) (nI go) v3 (nI s) (nI j) σ = _
      unfold ms_A_send_43 mf_A_placeOf
      have hne : ¬ nI s = -1 := fun q => by have := (wx_n (o := some s) (fun q hq => by cases hq; omega)).mp q; cases this
      have T1 : ∀ {α : Type} (o : Option α), tg (nI s) 40 o = o := fun o => tg_n (by omega) (by decide)
      have C1 : (nI s).toNatClampNeg = s := nI_clamp (by omega)
      have T2 : ∀ {α : Type} (o : Option α), tg (nI (36 * s + pair)) 1440 o = o := fun o => tg_n hs1440 (by decide)
      have C2 : (nI (36 * s + pair)).toNatClampNeg = 36 * s + pair := nI_clamp (by omega)
      have T3 : ∀ {α : Type} (o : Option α), tg (nI (g.2.2.1 s)) 12 o = o := fun o => tg_n s4 (by decide)
      have C3 : (nI (g.2.2.1 s)).toNatClampNeg = g.2.2.1 s := nI_clamp (by omega)
      have a8 := (hn.2.2 s s2).2.1
      have e8 : (tI σ 15 s (nI (V s + go))).2.1 8 s = nI (g.2.2.1 s) := by rw [tI_ne (by decide)]; exact a8
      have e17 : (tI σ 15 s (nI (V s + go))).2.1 17 (g.2.2.1 s) = wx (wn g (wD g z) (g.2.2.1 s) g.1) := by rw [tI_ne (by decide)]; exact hx _ s4
      have e20' : (tI σ 15 s (nI (V s + go))).2.1 20 (36 * s + pair) = U (36 * s + pair) := by rw [tI_ne (by decide)]; exact e20
      rw [if_neg (show ¬ (12 : Int32) ≤ nI j from nI_ge (b := 12) (by omega) (by decide)), if_neg hne]
      simp only [T1, C1, e15, nI_add, tb2_s, nI_36.1, T2, C2, e8, T3, C3, e17, e20', nI_1]
      exact r1
    · rw [s7]
      have e1 : (fun k => (if k = s then V k + go else V k) + go * (wP g (wD g z) (g.2.2.1 s)).count k) = fun k => V k + go * (s :: wP g (wD g z) (g.2.2.1 s)).count k := by
        funext k
        rw [cnt_c, Nat.mul_add]
        by_cases hks : k = s
        · rw [if_pos hks, if_pos hks]; omega
        · rw [if_neg hks, if_neg hks]; omega
      have e2 : (fun x => (if x = 36 * s + pair then U x + nI go else U x) + nI (if x % 36 = pair then go * (wP g (wD g z) (g.2.2.1 s)).count (x / 36) else 0)) = fun x => U x + nI (if x % 36 = pair then go * (s :: wP g (wD g z) (g.2.2.1 s)).count (x / 36) else 0) := by
        funext x
        rw [cnt_c, Nat.mul_add]
        by_cases hxp : x % 36 = pair
        · rw [if_pos hxp, if_pos hxp]
          by_cases hxs : x / 36 = s
          · rw [if_pos (by omega), if_pos hxs, Int32.add_assoc, nI_add]
            congr 2; omega
          · rw [if_neg (by omega), if_neg hxs, Nat.mul_zero, Nat.add_zero]
        · rw [if_neg hxp, if_neg hxp, if_neg (by omega)]
      rw [e1, e2] at r2
      exact r2
theorem send_ok {g : wG} {z : Nat} (hk : wGk g) (hz : z < 12) {A : tS} {V : Nat → Nat} {U W : Nat → Int32} {L : Int32} {d : Nat → Nat → Nat} {pair go u : Nat} (hp : pair < 36) (hu : u < 12) {σ : tS} (hn : nC g σ) (hcost : ∀ v, v < 12 → σ.2.2 0 v = lN (wD g z v)) (hx : ∀ v, v < 12 → σ.2.1 17 v = wx (wn g (wD g z) v g.1)) (hc : cC σ (aY A V U W L d)) : ∃ σ', mf_A_send (nI pair) (nI go) (nI u) σ = some σ' ∧ cC σ' (aY A V U W L (fun c x => d c x + pe g z u go pair c x)) ∧ (∀ a, a = 16 ∨ a = 17 ∨ a = 18 → σ'.2.1 a = σ.2.1 a) ∧ σ'.2.2 = σ.2.2 := by
  unfold mf_A_send
  rw [timeFrom_ok hk hz hcost hu, tb2_s]
  have z0 : ∀ x : Int32, x + nI 0 = x := fun x => by rw [nI_0]; exact Int32.add_zero x
  by_cases hq : wD g z u = wI
  · rw [if_pos hq, if_pos rfl]
    refine ⟨_, rfl, ?_, fun _ _ => rfl, rfl⟩
    rw [← aY_add]
    have eL : σ.1 4 = L + nI (d 3 0) := by rw [hc.1]; rfl
    refine ⟨?_, fun a a1 a2 a3 a4 a5 => ?_⟩
    · show upd σ.1 4 (σ.1 4 + nI go) = upd A.1 4 (L + nI (d 3 0) + nI (pe g z u go pair 3 0))
      have : pe g z u go pair 3 0 = go := if_pos hq
      rw [this, eL, hc.1]
      funext i
      show (if i = 4 then _ else (if i = 4 then _ else A.1 i)) = if i = 4 then _ else A.1 i
      by_cases h4 : i = 4
      · rw [if_pos h4, if_pos h4]
      · rw [if_neg h4, if_neg h4, if_neg h4]
    · have p0 : ∀ c x, c < 3 → pe g z u go pair c x = 0 := fun c x hc3 => by
        unfold pe eV
        simp only [if_pos hq]
        split
        · rfl
        · split
          · split <;> rfl
          · rw [if_pos (by omega)]
      show σ.2.1 a = (if a = 15 then (fun k => nI (V k + d 0 k + pe g z u go pair 0 k)) else if a = 19 then (fun p => W p + nI (d 2 p) + nI (pe g z u go pair 2 p)) else if a = 20 then (fun x => U x + nI (d 1 x) + nI (pe g z u go pair 1 x)) else A.2.1 a)
      rw [hc.2 a a1 a2 a3 a4 a5]
      simp only [p0 _ _ (by decide : 0 < 3), p0 _ _ (by decide : 1 < 3), p0 _ _ (by decide : 2 < 3), z0, Nat.add_zero]
      rfl
  · have hb := wV_b (wD_V hk hz) hu hq
    rw [if_neg hq, if_neg (fun q => by have := (wx_n (o := some (wD g z u / 64)) (fun q hq => by cases hq; omega)).mp q; cases this), tg_n hp (by decide), tg_n hp (by decide), tg_n hu (by decide), nI_clamp (by omega), nI_clamp (by omega), hx u hu]
    have e19 : σ.2.1 19 pair = W pair + nI (d 2 pair) := by rw [hc.2 19 (by decide) (by decide) (by decide) (by decide) (by decide)]; rfl
    have hc' : cC (tI σ 19 pair (σ.2.1 19 pair + nI go)) (aX A (fun s => V s + d 0 s) (fun x => U x + nI (d 1 x)) (fun p => W p + nI (d 2 p) + nI (pe g z u go pair 2 p)) (L + nI (d 3 0) + nI (pe g z u go pair 3 0))) := by
      have p3 : pe g z u go pair 3 0 = 0 := if_neg hq
      rw [p3, z0]
      refine ⟨hc.1, fun a a1 a2 a3 a4 a5 => ?_⟩
      by_cases h19 : a = 19
      · subst h19
        funext p
        rw [tI_at]
        show _ = W p + nI (d 2 p) + nI (if wD g z u = wI then 0 else if p = pair then go else 0)
        rw [if_neg hq]
        by_cases hpp : p = pair
        · rw [if_pos hpp, if_pos hpp, e19, hpp]
        · rw [if_neg hpp, if_neg hpp, z0, hc.2 19 (by decide) (by decide) (by decide) (by decide) (by decide)]; rfl
      · rw [tI_ne h19, hc.2 a a1 a2 a3 a4 a5]
        show (if a = 15 then _ else if a = 19 then _ else if a = 20 then _ else A.2.1 a) = (if a = 15 then _ else if a = 19 then _ else if a = 20 then _ else A.2.1 a)
        rw [if_neg h19, if_neg h19]
    obtain ⟨σ', r1, r2, r3, r4⟩ := sendp_ok hk hz hp (v3 := nI u) (wD g z u % 64) 4096 u 0 (fun s => V s + d 0 s) (fun x => U x + nI (d 1 x)) (tI σ 19 pair (σ.2.1 19 pair + nI go)) rfl hu hq (by omega) (by omega) (by
        obtain ⟨n1, n2, n3⟩ := hn
        refine ⟨n1, n2, fun s' hs' => ?_⟩
        rw [tI_ne (by decide), tI_ne (by decide), tI_ne (by decide), tI_ne (by decide)]
        exact n3 s' hs') (fun v hv => by rw [tI_ne (by decide)]; exact hx v hv) hc'
    refine ⟨σ', r1, ?_, fun a ha => by rw [r3 a ha, tI_ne (by omega)], r4⟩
    rw [← aY_add]
    have q0 : ∀ s, pe g z u go pair 0 s = go * (wP g (wD g z) u).count s := fun s => if_neg hq
    have q1 : ∀ x, pe g z u go pair 1 x = if x % 36 = pair then go * (wP g (wD g z) u).count (x / 36) else 0 := fun x => by
      show (if x % 36 = pair then eV g z u go (x / 36) else 0) = _
      unfold eV
      rw [if_neg hq]
    simp only [q0, q1]
    exact r2
