/-! THE LEAST COSTS AND THE STREET THAT COMES NEXT -/
def wD (g : wG) (z : Nat) : Nat → Nat := wk g 11 (w0 z)
theorem wD_V {g : wG} {z : Nat} (hk : wGk g) (hz : z < 12) : wV g z (wD g z) := wV_k hk (wV_0 hz) 11
theorem wD_s {g : wG} {z : Nat} (hk : wGk g) (hz : z < 12) : ∀ s, s < g.1 → wd g s (wD g z) = false := (wg_no (w_done hk hz)).2
theorem wk_st {g : wG} {D : Nat → Nat} {p : Nat} (h : wg g g.1 (wk g p D) = false) : ∀ m, wk g (p + m) D = wk g p D := by
  intro m
  induction m with
  | zero => rfl
  | succ m ih =>
    show wp g g.1 (wk g (p + m) D) = wk g p D
    rw [ih]; exact (wg_no h).1
theorem wk_D {g : wG} {z p : Nat} (h : wg g g.1 (wk g p (w0 z)) = false) (hp : p ≤ 11) : wk g p (w0 z) = wD g z := by
  have := wk_st h (11 - p)
  rw [Nat.add_sub_cancel' hp] at this
  exact this.symm
theorem wk_12 {g : wG} {z : Nat} (hk : wGk g) (hz : z < 12) : wk g 12 (w0 z) = wD g z := (wg_no (w_done hk hz)).1
def wt (g : wG) (D : Nat → Nat) (v s : Nat) : Bool := decide (g.2.2.2.2 s ≠ 0) && (decide (g.2.1 s = v) && (decide (D (g.2.2.1 s) ≠ wI) && decide (D (g.2.2.1 s) + (64 * g.2.2.2.1 s + 1) = D v)))
theorem wt_iff {g : wG} {D : Nat → Nat} {v s : Nat} : wt g D v s = true ↔ g.2.2.2.2 s ≠ 0 ∧ g.2.1 s = v ∧ D (g.2.2.1 s) ≠ wI ∧ D (g.2.2.1 s) + (64 * g.2.2.2.1 s + 1) = D v := by
  unfold wt
  simp only [Bool.and_eq_true, decide_eq_true_eq]
def wn (g : wG) (D : Nat → Nat) (v : Nat) : Nat → Option Nat
  | 0 => none
  | n + 1 => match wn g D v n with
    | some s => some s
    | none => if wt g D v n = true then some n else none
theorem wn_keep {g : wG} {D : Nat → Nat} {v i s : Nat} (h : wn g D v i = some s) : ∀ m, wn g D v (i + m) = some s := by
  intro m
  induction m with
  | zero => exact h
  | succ m ih =>
    show (match wn g D v (i + m) with
      | some s => some s
      | none => if wt g D v (i + m) = true then some (i + m) else none) = some s
    rw [ih]
theorem wn_some {g : wG} {D : Nat → Nat} {v i s n : Nat} (h : wn g D v i = some s) (hn : i ≤ n) : wn g D v n = some s := by
  have := wn_keep h (n - i)
  rw [Nat.add_sub_cancel' hn] at this
  exact this
theorem wn_s1 {g : wG} {D : Nat → Nat} {v n : Nat} (h : wn g D v n = none) : wn g D v (n + 1) = if wt g D v n = true then some n else none := by
  show (match wn g D v n with
      | some s => some s
      | none => if wt g D v n = true then some n else none) = _
  rw [h]
theorem wn_s2 {g : wG} {D : Nat → Nat} {v n s : Nat} (h : wn g D v n = some s) : wn g D v (n + 1) = some s := wn_keep h 1
theorem wn_spec {g : wG} {D : Nat → Nat} {v : Nat} : ∀ {n s : Nat}, wn g D v n = some s → s < n ∧ wt g D v s = true := by
  intro n
  induction n with
  | zero => intro s h; cases h
  | succ n ih =>
    intro s h
    rcases hq : wn g D v n with _ | s'
    · rw [wn_s1 hq] at h
      split at h
      · rename_i ht
        cases h
        exact ⟨Nat.lt_succ_self _, ht⟩
      · cases h
    · rw [wn_s2 hq] at h
      cases h
      have := ih hq
      exact ⟨by omega, this.2⟩
theorem wn_none {g : wG} {D : Nat → Nat} {v : Nat} : ∀ {n : Nat}, wn g D v n = none → ∀ s, s < n → wt g D v s = false := by
  intro n
  induction n with
  | zero => intro _ s hs; omega
  | succ n ih =>
    intro h s hs
    rcases hq : wn g D v n with _ | s'
    · rw [wn_s1 hq] at h
      by_cases ht : wt g D v n = true
      · rw [if_pos ht] at h; cases h
      · by_cases e : s = n
        · rw [e]; simpa using ht
        · exact ih hq s (by omega)
    · rw [wn_s2 hq] at h; cases h
/-- along a least way -/
theorem wn_go {g : wG} {z : Nat} (hk : wGk g) {D : Nat → Nat} (hV : wV g z D) (hs : ∀ s, s < g.1 → wd g s D = false) {v : Nat} (hf : D v ≠ wI) (hv : v ≠ z) : ∃ s, wn g D v g.1 = some s ∧ s < g.1 ∧ g.2.1 s = v ∧ g.2.2.1 s < 12 ∧ D (g.2.2.1 s) ≠ wI ∧ D v % 64 = D (g.2.2.1 s) % 64 + 1 := by
  rcases hq : wn g D v g.1 with _ | s
  · exfalso
    obtain ⟨s, q1, q2, q3, q4, q5⟩ := hV.2.2.2.2 v hf hv
    have n1 := wn_none hq s q1
    have n2 : ¬ wc g s D := fun q => by have := wd_iff.mpr q; rw [hs s q1] at this; cases this
    have n3 : ¬ D (g.2.2.1 s) + (64 * g.2.2.2.1 s + 1) < D (g.2.1 s) := fun q => n2 ⟨q2, q4, q⟩
    rw [q3] at n3
    have : wt g D v s = true := wt_iff.mpr ⟨q2, q3, q4, by omega⟩
    rw [n1] at this; cases this
  · obtain ⟨h1, h2⟩ := wn_spec hq
    obtain ⟨t1, t2, t3, t4⟩ := wt_iff.mp h2
    obtain ⟨-, kb, -⟩ := hk s h1
    have := wV_b hV kb t3
    exact ⟨s, rfl, h1, t2, kb, t3, by omega⟩
theorem wn_z {g : wG} {z : Nat} {D : Nat → Nat} (hV : wV g z D) : wn g D z g.1 = none := by
  rcases hq : wn g D z g.1 with _ | s
  · rfl
  · obtain ⟨t1, t2, t3, t4⟩ := wt_iff.mp (wn_spec hq).2
    rw [hV.1] at t4; omega
theorem wn_I {g : wG} {z : Nat} (hk : wGk g) {D : Nat → Nat} (hV : wV g z D) {v : Nat} (hf : D v = wI) : wn g D v g.1 = none := by
  rcases hq : wn g D v g.1 with _ | s
  · rfl
  · obtain ⟨h1, h2⟩ := wn_spec hq
    obtain ⟨t1, t2, t3, t4⟩ := wt_iff.mp h2
    obtain ⟨-, kb, kt⟩ := hk s h1
    have := wV_b hV kb t3
    rw [hf] at t4
    unfold wI at t4
    omega
/-- the streets of a least way -/
def wy (g : wG) (D : Nat → Nat) : Nat → Nat → List Nat
  | 0, _ => []
  | f + 1, v => match wn g D v g.1 with
    | none => []
    | some s => s :: wy g D f (g.2.2.1 s)
def wP (g : wG) (D : Nat → Nat) (v : Nat) : List Nat := wy g D (D v % 64) v
theorem wP_z {g : wG} {z : Nat} {D : Nat → Nat} (hV : wV g z D) : wP g D z = [] := by
  unfold wP; rw [hV.1]; rfl
theorem wP_s {g : wG} {z : Nat} (hk : wGk g) {D : Nat → Nat} (hV : wV g z D) (hs : ∀ s, s < g.1 → wd g s D = false) {v : Nat} (hf : D v ≠ wI) (hv : v ≠ z) : ∃ s, wn g D v g.1 = some s ∧ s < g.1 ∧ g.2.1 s = v ∧ g.2.2.1 s < 12 ∧ D (g.2.2.1 s) ≠ wI ∧ D v % 64 = D (g.2.2.1 s) % 64 + 1 ∧ wP g D v = s :: wP g D (g.2.2.1 s) := by
  obtain ⟨s, h1, h2, h3, h4, h5, h6⟩ := wn_go hk hV hs hf hv
  refine ⟨s, h1, h2, h3, h4, h5, h6, ?_⟩
  unfold wP
  rw [h6]
  show (match wn g D v g.1 with
    | none => []
    | some s => s :: wy g D (D (g.2.2.1 _) % 64) (g.2.2.1 s)) = _
  rw [h1]
theorem wP_l {g : wG} {z : Nat} (hk : wGk g) {D : Nat → Nat} (hV : wV g z D) (hs : ∀ s, s < g.1 → wd g s D = false) : ∀ (f v : Nat), D v ≠ wI → D v % 64 = f → (wP g D v).length = f ∧ (∀ s, s ∈ wP g D v → s < g.1) ∧ (f = 0 → v = z) := by
  intro f
  induction f with
  | zero =>
    intro v hf h0
    by_cases e : v = z
    · subst e; rw [wP_z hV]; exact ⟨rfl, fun s hs => (by cases hs), fun _ => rfl⟩
    · obtain ⟨s, -, -, -, -, -, h6, -⟩ := wP_s hk hV hs hf e
      omega
  | succ f ih =>
    intro v hf h0
    by_cases e : v = z
    · subst e; rw [hV.1] at h0; omega
    · obtain ⟨s, h1, h2, h3, h4, h5, h6, h7⟩ := wP_s hk hV hs hf e
      obtain ⟨i1, i2, i3⟩ := ih (g.2.2.1 s) h5 (by omega)
      rw [h7]
      refine ⟨by simp [i1], fun s' hs' => ?_, fun h => by omega⟩
      rcases List.mem_cons.mp hs' with e | e
      · rw [e]; exact h2
      · exact i2 s' e
def wx (o : Option Nat) : Int32 := match o with
  | none => -1
  | some s => nI s
theorem wx_n {o : Option Nat} (ho : ∀ s, o = some s → s < 2 ^ 31) : wx o = -1 ↔ o = none := by
  cases o with
  | none => exact ⟨fun _ => rfl, fun _ => rfl⟩
  | some s =>
    refine ⟨fun h => ?_, fun h => by cases h⟩
    exfalso
    have h' : nI s = -1 := h
    have := nI_pos' (n := s) (ho s rfl)
    rw [h'] at this
    exact absurd this (by decide)
