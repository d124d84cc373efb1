/-! LEAST WAYS, over plain numbers: a net is (how many streets, starts, ends, times, whether one is at will) -/
abbrev wG : Type := Nat × (Nat → Nat) × (Nat → Nat) × (Nat → Nat) × (Nat → Nat)
def wI : Nat := 1099511627776
def wc (g : wG) (s : Nat) (D : Nat → Nat) : Prop := g.2.2.2.2 s ≠ 0 ∧ D (g.2.2.1 s) ≠ wI ∧ D (g.2.2.1 s) + (64 * g.2.2.2.1 s + 1) < D (g.2.1 s)
def wd (g : wG) (s : Nat) (D : Nat → Nat) : Bool := decide (g.2.2.2.2 s ≠ 0) && (decide (D (g.2.2.1 s) ≠ wI) && decide (D (g.2.2.1 s) + (64 * g.2.2.2.1 s + 1) < D (g.2.1 s)))
theorem wd_iff {g : wG} {s : Nat} {D : Nat → Nat} : wd g s D = true ↔ wc g s D := by
  unfold wd wc
  simp only [Bool.and_eq_true, decide_eq_true_eq]
def wr (g : wG) (s : Nat) (D : Nat → Nat) : Nat → Nat := if wd g s D = true then (fun v => if v = g.2.1 s then D (g.2.2.1 s) + (64 * g.2.2.2.1 s + 1) else D v) else D
def wp (g : wG) : Nat → (Nat → Nat) → Nat → Nat
  | 0, D => D
  | n + 1, D => wr g n (wp g n D)
def wg (g : wG) : Nat → (Nat → Nat) → Bool
  | 0, _ => false
  | n + 1, D => wg g n D || wd g n (wp g n D)
def wk (g : wG) : Nat → (Nat → Nat) → Nat → Nat
  | 0, D => D
  | n + 1, D => wp g g.1 (wk g n D)
def w0 (z : Nat) : Nat → Nat := fun v => if v = z then 0 else wI
def ct : Nat → (Nat → Bool) → Nat
  | 0, _ => 0
  | n + 1, p => ct n p + (if p n = true then 1 else 0)
theorem ct_mono {p q : Nat → Bool} : ∀ {n : Nat}, (∀ k, k < n → p k = true → q k = true) → ct n p ≤ ct n q := by
  intro n
  induction n with
  | zero => intro _; exact Nat.le_refl _
  | succ n ih =>
    intro h
    have h1 := ih (fun k hk => h k (by omega))
    have h2 := h n (by omega)
    show ct n p + (if p n = true then 1 else 0) ≤ ct n q + (if q n = true then 1 else 0)
    by_cases hp : p n = true
    · rw [if_pos hp, if_pos (h2 hp)]; omega
    · rw [if_neg hp]; omega
theorem ct_lt {p q : Nat → Bool} : ∀ {n : Nat}, (∀ k, k < n → p k = true → q k = true) → (∃ k, k < n ∧ p k = false ∧ q k = true) → ct n p + 1 ≤ ct n q := by
  intro n
  induction n with
  | zero => rintro _ ⟨k, hk, _⟩; omega
  | succ n ih =>
    rintro h ⟨k, hk, hp, hq⟩
    show ct n p + (if p n = true then 1 else 0) + 1 ≤ ct n q + (if q n = true then 1 else 0)
    by_cases hkn : k = n
    · subst hkn
      have h1 := ct_mono (p := p) (q := q) (n := k) (fun j hj => h j (by omega))
      rw [if_neg (by rw [hp]; decide), if_pos hq]; omega
    · have h1 := ih (fun j hj => h j (by omega)) ⟨k, by omega, hp, hq⟩
      have h2 := h n (by omega)
      by_cases hpn : p n = true
      · rw [if_pos hpn, if_pos (h2 hpn)]; omega
      · rw [if_neg hpn]; omega
theorem ct_le {p : Nat → Bool} : ∀ {n : Nat}, ct n p ≤ n := by
  intro n
  induction n with
  | zero => exact Nat.le_refl _
  | succ n ih =>
    show ct n p + (if p n = true then 1 else 0) ≤ n + 1
    split <;> omega
theorem ct_all {p : Nat → Bool} {n : Nat} (h : n ≤ ct n p) : ∀ k, k < n → p k = true := by
  intro k hk
  by_cases hp : p k = true
  · exact hp
  · have h1 := ct_lt (p := p) (q := fun _ => true) (n := n) (fun _ _ _ => rfl) ⟨k, hk, by simpa using hp, rfl⟩
    have h2 := ct_le (p := fun _ => true) (n := n)
    omega
def wGk (g : wG) : Prop := ∀ s, s < g.1 → g.2.1 s < 12 ∧ g.2.2.1 s < 12 ∧ g.2.2.2.1 s ≤ 1000000
def wV (g : wG) (z : Nat) (D : Nat → Nat) : Prop := D z = 0 ∧ (∀ v, 12 ≤ v → D v = wI) ∧ (∀ v, D v ≤ wI) ∧ (∀ v, v < 12 → D v ≠ wI → D v % 64 + 1 ≤ ct 12 (fun u => decide (D u ≤ D v)) ∧ D v / 64 ≤ (D v % 64) * 1000000) ∧ ∀ v, D v ≠ wI → v ≠ z → ∃ s, s < g.1 ∧ g.2.2.2.2 s ≠ 0 ∧ g.2.1 s = v ∧ D (g.2.2.1 s) ≠ wI ∧ D (g.2.2.1 s) + (64 * g.2.2.2.1 s + 1) ≤ D v
theorem wV_b {g : wG} {z : Nat} {D : Nat → Nat} (h : wV g z D) {v : Nat} (hv : v < 12) (hf : D v ≠ wI) : D v % 64 ≤ 11 ∧ D v / 64 ≤ 11000000 := by
  obtain ⟨h1, h2⟩ := h.2.2.2.1 v hv hf
  have := ct_le (p := fun u => decide (D u ≤ D v)) (n := 12)
  omega
theorem wV_0 {g : wG} {z : Nat} (hz : z < 12) : wV g z (w0 z) := by
  refine ⟨if_pos rfl, fun v hv => if_neg (by omega), fun v => ?_, fun v hv hf => ?_, fun v hf hv => absurd (if_neg hv) hf⟩
  · unfold w0; split
    · exact Nat.zero_le _
    · exact Nat.le_refl _
  · have e : v = z := by
      by_cases e : v = z
      · exact e
      · exact absurd (if_neg e) hf
    subst e
    have e0 : w0 v v = 0 := if_pos rfl
    refine ⟨?_, by rw [e0]; decide⟩
    have := ct_lt (p := fun _ => false) (q := fun u => decide (w0 v u ≤ w0 v v)) (n := 12) (fun _ _ h => by cases h) ⟨v, hv, rfl, by simp⟩
    rw [e0] at this ⊢
    omega
theorem wV_r {g : wG} {z : Nat} (hk : wGk g) {D : Nat → Nat} (h : wV g z D) {s : Nat} (hs : s < g.1) : wV g z (wr g s D) := by
  by_cases hw : wd g s D = true
  · obtain ⟨c1, c2, c3⟩ := wd_iff.mp hw
    obtain ⟨ka, kb, kt⟩ := hk s hs
    have hb := wV_b h kb c2
    obtain ⟨h1, h2, h3, h4, h5⟩ := h
    have hb4 := h4 _ kb c2
    have e : ∀ v, wr g s D v = if v = g.2.1 s then D (g.2.2.1 s) + (64 * g.2.2.2.1 s + 1) else D v := fun v => by
      unfold wr; rw [if_pos hw]
    have hle : ∀ v, wr g s D v ≤ D v := fun v => by
      rw [e]; split
      · rename_i ev; rw [ev]; omega
      · exact Nat.le_refl _
    have haz : g.2.1 s ≠ z := fun q => by rw [q, h1] at c3; omega
    have hx : D (g.2.2.1 s) + (64 * g.2.2.2.1 s + 1) < wI := by unfold wI; omega
    have ea : wr g s D (g.2.1 s) = D (g.2.2.1 s) + (64 * g.2.2.2.1 s + 1) := by rw [e, if_pos rfl]
    have hab : g.2.2.1 s ≠ g.2.1 s := fun q => by rw [q] at c3; omega
    have eb : wr g s D (g.2.2.1 s) = D (g.2.2.1 s) := by rw [e, if_neg hab]
    refine ⟨?_, fun v hv => ?_, fun v => Nat.le_trans (hle v) (h3 v), fun v hv hf => ?_, fun v hf hv => ?_⟩
    · rw [e, if_neg (Ne.symm haz)]; exact h1
    · rw [e, if_neg (by omega)]; exact h2 v hv
    · by_cases hva : v = g.2.1 s
      · subst hva
        rw [ea]
        have d1 : (D (g.2.2.1 s) + (64 * g.2.2.2.1 s + 1)) / 64 = D (g.2.2.1 s) / 64 + g.2.2.2.1 s := by omega
        have d2 : (D (g.2.2.1 s) + (64 * g.2.2.2.1 s + 1)) % 64 = D (g.2.2.1 s) % 64 + 1 := by omega
        refine ⟨?_, by rw [d1, d2]; omega⟩
        have := ct_lt (p := fun u => decide (D u ≤ D (g.2.2.1 s))) (q := fun u => decide (wr g s D u ≤ D (g.2.2.1 s) + (64 * g.2.2.2.1 s + 1))) (n := 12)
          (fun k _ hp => by
            have := hle k
            simp only [decide_eq_true_eq] at hp ⊢
            omega)
          ⟨g.2.1 s, ka, by simp only [decide_eq_false_iff_not]; omega, by simp only [decide_eq_true_eq]; rw [ea]; exact Nat.le_refl _⟩
        omega
      · rw [e, if_neg hva] at hf ⊢
        obtain ⟨q1, q2⟩ := h4 v hv hf
        refine ⟨Nat.le_trans q1 (ct_mono (fun k _ hp => ?_)), q2⟩
        have := hle k
        simp only [decide_eq_true_eq] at hp ⊢
        omega
    · by_cases hva : v = g.2.1 s
      · subst hva
        exact ⟨s, hs, c1, rfl, by rw [eb]; exact c2, by rw [eb, ea]; exact Nat.le_refl _⟩
      · have hf' : D v ≠ wI := by rw [e, if_neg hva] at hf; exact hf
        obtain ⟨s', q1, q2, q3, q4, q5⟩ := h5 v hf' hv
        have := hle (g.2.2.1 s')
        have h3' := h3 (g.2.2.1 s')
        refine ⟨s', q1, q2, q3, by omega, ?_⟩
        rw [show wr g s D v = D v by rw [e, if_neg hva]]
        omega
  · have e : wr g s D = D := by unfold wr; rw [if_neg hw]
    rw [e]; exact h
theorem wV_p {g : wG} {z : Nat} (hk : wGk g) {D : Nat → Nat} (h : wV g z D) : ∀ n, n ≤ g.1 → wV g z (wp g n D) := by
  intro n
  induction n with
  | zero => intro _; exact h
  | succ n ih => intro hn; exact wV_r hk (ih (by omega)) (by omega)
theorem wV_k {g : wG} {z : Nat} (hk : wGk g) {D : Nat → Nat} (h : wV g z D) : ∀ n, wV g z (wk g n D) := by
  intro n
  induction n with
  | zero => exact h
  | succ n ih => exact wV_p hk ih g.1 (Nat.le_refl _)
theorem wr_le {g : wG} {s : Nat} {D : Nat → Nat} (v : Nat) : wr g s D v ≤ D v := by
  unfold wr
  split
  · rename_i h
    have := (wd_iff.mp h).2.2
    show (if v = g.2.1 s then D (g.2.2.1 s) + (64 * g.2.2.2.1 s + 1) else D v) ≤ D v
    split
    · rename_i e; rw [e]; omega
    · exact Nat.le_refl _
  · exact Nat.le_refl _
theorem wp_le {g : wG} {D : Nat → Nat} {n : Nat} (v : Nat) : ∀ m, wp g (n + m) D v ≤ wp g n D v := by
  intro m
  induction m with
  | zero => exact Nat.le_refl _
  | succ m ih => exact Nat.le_trans (wr_le (g := g) (s := n + m) (D := wp g (n + m) D) v) ih
theorem wg_no {g : wG} {D : Nat → Nat} : ∀ {n : Nat}, wg g n D = false → wp g n D = D ∧ ∀ s, s < n → wd g s D = false := by
  intro n
  induction n with
  | zero => intro _; exact ⟨rfl, fun s hs => by omega⟩
  | succ n ih =>
    intro h
    have h' : (wg g n D || wd g n (wp g n D)) = false := h
    obtain ⟨a1, a2⟩ := Bool.or_eq_false_iff.mp h'
    obtain ⟨b1, b2⟩ := ih a1
    rw [b1] at a2
    refine ⟨?_, fun s hs => ?_⟩
    · show wr g n (wp g n D) = D
      rw [b1]
      unfold wr
      rw [a2]; rfl
    · by_cases e : s = n
      · rw [e]; exact a2
      · exact b2 s (by omega)
theorem wg_of {g : wG} {D : Nat → Nat} : ∀ {n : Nat}, (∀ s, s < n → wd g s D = false) → wp g n D = D ∧ wg g n D = false := by
  intro n
  induction n with
  | zero => intro _; exact ⟨rfl, rfl⟩
  | succ n ih =>
    intro h
    obtain ⟨a1, a2⟩ := ih (fun s hs => h s (by omega))
    have hn := h n (by omega)
    refine ⟨?_, ?_⟩
    · show wr g n (wp g n D) = D
      rw [a1]; unfold wr; rw [hn]; rfl
    · show (wg g n D || wd g n (wp g n D)) = false
      rw [a2, a1, hn]; rfl
def sm : Nat → (Nat → Nat) → Nat
  | 0, _ => 0
  | n + 1, D => sm n D + D n
theorem sm_le {D E : Nat → Nat} : ∀ {n : Nat}, (∀ k, k < n → D k ≤ E k) → sm n D ≤ sm n E := by
  intro n
  induction n with
  | zero => intro _; exact Nat.le_refl _
  | succ n ih =>
    intro h
    have h1 := ih (fun k hk => h k (by omega))
    have h2 := h n (by omega)
    show sm n D + D n ≤ sm n E + E n
    omega
theorem sm_lt {D E : Nat → Nat} : ∀ {n : Nat}, (∀ k, k < n → D k ≤ E k) → (∃ k, k < n ∧ D k < E k) → sm n D < sm n E := by
  intro n
  induction n with
  | zero => rintro _ ⟨k, hk, _⟩; omega
  | succ n ih =>
    rintro h ⟨k, hk, hl⟩
    have h2 := h n (by omega)
    show sm n D + D n < sm n E + E n
    by_cases e : k = n
    · subst e
      have h1 := sm_le (D := D) (E := E) (n := k) (fun j hj => h j (by omega))
      omega
    · have h1 := ih (fun j hj => h j (by omega)) ⟨k, by omega, hl⟩
      omega
theorem sm_g {g : wG} (hk : wGk g) {D : Nat → Nat} : ∀ n, n ≤ g.1 → sm 12 (wp g n D) ≤ sm 12 D ∧ (wg g n D = true → sm 12 (wp g n D) < sm 12 D) := by
  intro n
  induction n with
  | zero => intro _; exact ⟨Nat.le_refl _, fun h => by cases h⟩
  | succ n ih =>
    intro hn
    obtain ⟨a1, a2⟩ := ih (by omega)
    have b1 : sm 12 (wr g n (wp g n D)) ≤ sm 12 (wp g n D) := sm_le (fun k _ => wr_le k)
    refine ⟨Nat.le_trans b1 a1, fun h => ?_⟩
    have h' : (wg g n D || wd g n (wp g n D)) = true := h
    rcases Bool.or_eq_true_iff.mp h' with h1 | h1
    · exact Nat.lt_of_le_of_lt b1 (a2 h1)
    · refine Nat.lt_of_lt_of_le (sm_lt (fun k _ => wr_le k) ⟨g.2.1 n, (hk n (by omega)).1, ?_⟩) a1
      show wr g n (wp g n D) (g.2.1 n) < wp g n D (g.2.1 n)
      unfold wr
      rw [if_pos h1]
      show (if g.2.1 n = g.2.1 n then wp g n D (g.2.2.1 n) + (64 * g.2.2.2.1 n + 1) else wp g n D (g.2.1 n)) < wp g n D (g.2.1 n)
      rw [if_pos rfl]
      exact (wd_iff.mp h1).2.2
theorem wk_add {g : wG} {D : Nat → Nat} : ∀ n, wk g (n + 1) D = wk g n (wp g g.1 D) := by
  intro n
  induction n with
  | zero => rfl
  | succ n ih =>
    show wp g g.1 (wk g (n + 1) D) = wp g g.1 (wk g n (wp g g.1 D))
    rw [ih]
theorem wk_end {g : wG} (hk : wGk g) : ∀ (m : Nat) (D : Nat → Nat), sm 12 D ≤ m → ∃ n, wg g g.1 (wk g n D) = false := by
  intro m
  induction m with
  | zero =>
    intro D hD
    refine ⟨0, ?_⟩
    show wg g g.1 D = false
    by_cases h : wg g g.1 D = true
    · have := (sm_g hk (D := D) g.1 (Nat.le_refl _)).2 h; omega
    · simpa using h
  | succ m ih =>
    intro D hD
    by_cases h : wg g g.1 D = true
    · have := (sm_g hk (D := D) g.1 (Nat.le_refl _)).2 h
      obtain ⟨n, hn⟩ := ih (wp g g.1 D) (by omega)
      exact ⟨n + 1, by rw [wk_add]; exact hn⟩
    · exact ⟨0, by show wg g g.1 D = false; simpa using h⟩
/-- a bound from below that nothing lowers -/
theorem wl_r {g : wG} {E D : Nat → Nat} (hE : ∀ s, s < g.1 → wd g s E = false) (hD : ∀ v, D v ≤ wI) (h : ∀ v, E v ≤ D v) {s : Nat} (hs : s < g.1) : ∀ v, E v ≤ wr g s D v := by
  intro v
  unfold wr
  split
  · rename_i hw
    obtain ⟨c1, c2, c3⟩ := wd_iff.mp hw
    show E v ≤ (if v = g.2.1 s then D (g.2.2.1 s) + (64 * g.2.2.2.1 s + 1) else D v)
    split
    · rename_i e
      subst e
      have n1 : ¬ wc g s E := fun q => by have := wd_iff.mpr q; rw [hE s hs] at this; cases this
      have n2 := h (g.2.2.1 s)
      have n3 := hD (g.2.2.1 s)
      have n4 : E (g.2.2.1 s) ≠ wI := fun q => by omega
      have n5 : ¬ E (g.2.2.1 s) + (64 * g.2.2.2.1 s + 1) < E (g.2.1 s) := fun q => n1 ⟨c1, n4, q⟩
      omega
    · exact h v
  · exact h v
theorem wl_p {g : wG} {z : Nat} (hk : wGk g) {E D : Nat → Nat} (hE : ∀ s, s < g.1 → wd g s E = false) (hD : wV g z D) (h : ∀ v, E v ≤ D v) : ∀ n, n ≤ g.1 → ∀ v, E v ≤ wp g n D v := by
  intro n
  induction n with
  | zero => intro _; exact h
  | succ n ih => intro hn; exact wl_r hE (wV_p hk hD n (by omega)).2.2.1 (ih (by omega)) (by omega)
theorem w_more {g : wG} {z : Nat} (hk : wGk g) {E D : Nat → Nat} (hE : ∀ s, s < g.1 → wd g s E = false) (hVE : wV g z E) (hD : wV g z D) (h : ∀ v, E v ≤ D v) (hne : ∃ v, v < 12 ∧ D v ≠ E v) : ct 12 (fun v => decide (D v = E v)) + 1 ≤ ct 12 (fun v => decide (wp g g.1 D v = E v)) := by
  obtain ⟨k, ⟨v, hv, hvne, hvk⟩, hmin⟩ := pk_least (fun k => ∃ v, v < 12 ∧ D v ≠ E v ∧ E v = k) (by obtain ⟨v, hv, hn⟩ := hne; exact ⟨E v, v, hv, hn, rfl⟩)
  have hL := wl_p hk hE hD h
  have e1 : E v ≠ wI := fun q => by have := hD.2.2.1 v; have := h v; omega
  have e2 : v ≠ z := fun q => by subst q; exact hvne (by rw [hD.1, hVE.1])
  obtain ⟨s, q1, q2, q3, q4, q5⟩ := hVE.2.2.2.2 v e1 e2
  have kb := (hk s q1).2.1
  have hset : D (g.2.2.1 s) = E (g.2.2.1 s) := by
    by_cases e : D (g.2.2.1 s) = E (g.2.2.1 s)
    · exact e
    · exact absurd ⟨g.2.2.1 s, kb, e, rfl⟩ (hmin (E (g.2.2.1 s)) (by omega))
  have f1 : wp g s D (g.2.2.1 s) = E (g.2.2.1 s) := by
    have a1 := hL s (by omega) (g.2.2.1 s)
    have a2 : wp g (0 + s) D (g.2.2.1 s) ≤ wp g 0 D (g.2.2.1 s) := wp_le (g.2.2.1 s) s
    rw [Nat.zero_add] at a2
    have a3 : wp g 0 D (g.2.2.1 s) = D (g.2.2.1 s) := rfl
    omega
  have f2 : wp g (s + 1) D v ≤ E (g.2.2.1 s) + (64 * g.2.2.2.1 s + 1) := by
    show wr g s (wp g s D) v ≤ _
    unfold wr
    by_cases hw : wd g s (wp g s D) = true
    · rw [if_pos hw]
      show (if v = g.2.1 s then wp g s D (g.2.2.1 s) + (64 * g.2.2.2.1 s + 1) else wp g s D v) ≤ _
      rw [if_pos q3.symm, f1]; exact Nat.le_refl _
    · rw [if_neg hw]
      have n5 : ¬ wp g s D (g.2.2.1 s) + (64 * g.2.2.2.1 s + 1) < wp g s D (g.2.1 s) := fun q => hw (wd_iff.mpr ⟨q2, by rw [f1]; exact q4, q⟩)
      rw [f1, q3] at n5
      omega
  have f3 : wp g g.1 D v ≤ wp g (s + 1) D v := by
    have := wp_le (g := g) (D := D) (n := s + 1) v (g.1 - (s + 1))
    rw [Nat.add_sub_cancel' (by omega)] at this
    exact this
  have f4 : wp g g.1 D v = E v := by
    have := hL g.1 (Nat.le_refl _) v
    omega
  refine ct_lt (fun u _ hu => ?_) ⟨v, hv, by simp only [decide_eq_false_iff_not]; exact hvne, by simp only [decide_eq_true_eq]; exact f4⟩
  simp only [decide_eq_true_eq] at hu ⊢
  have a1 := hL g.1 (Nat.le_refl _) u
  have a2 : wp g (0 + g.1) D u ≤ wp g 0 D u := wp_le u g.1
  rw [Nat.zero_add] at a2
  have a3 : wp g 0 D u = D u := rfl
  omega
/-- eleven passes are enough -/
theorem w_done {g : wG} {z : Nat} (hk : wGk g) (hz : z < 12) : wg g g.1 (wk g 11 (w0 z)) = false := by
  obtain ⟨n, hn⟩ := wk_end hk (sm 12 (w0 z)) (w0 z) (Nat.le_refl _)
  have V0 := wV_0 (g := g) hz
  have VE := wV_k hk V0 n
  obtain ⟨-, hE⟩ := wg_no hn
  have hEle : ∀ m v, wk g m (w0 z) v ≤ w0 z v := by
    intro m
    induction m with
    | zero => intro v; exact Nat.le_refl _
    | succ m ih =>
      intro v
      have a2 : wp g (0 + g.1) (wk g m (w0 z)) v ≤ wp g 0 (wk g m (w0 z)) v := wp_le v g.1
      rw [Nat.zero_add] at a2
      exact Nat.le_trans a2 (ih v)
  have key : ∀ m, (∀ v, wk g n (w0 z) v ≤ wk g m (w0 z) v) ∧ (m + 1 ≤ ct 12 (fun v => decide (wk g m (w0 z) v = wk g n (w0 z) v)) ∨ ∀ v, v < 12 → wk g m (w0 z) v = wk g n (w0 z) v) := by
    intro m
    induction m with
    | zero =>
      refine ⟨hEle n, Or.inl ?_⟩
      have := ct_lt (p := fun _ => false) (q := fun v => decide (wk g 0 (w0 z) v = wk g n (w0 z) v)) (n := 12) (fun _ _ h => by cases h) ⟨z, hz, rfl, by simp only [decide_eq_true_eq]; rw [VE.1]; exact V0.1⟩
      omega
    | succ m ih =>
      obtain ⟨i1, i2⟩ := ih
      have Vm := wV_k hk V0 m
      refine ⟨wl_p hk hE Vm i1 g.1 (Nat.le_refl _), ?_⟩
      by_cases hall : ∀ v, v < 12 → wk g m (w0 z) v = wk g n (w0 z) v
      · right
        intro v hv
        have a1 : wk g n (w0 z) v ≤ wp g g.1 (wk g m (w0 z)) v := wl_p hk hE Vm i1 g.1 (Nat.le_refl _) v
        have a2 : wp g (0 + g.1) (wk g m (w0 z)) v ≤ wp g 0 (wk g m (w0 z)) v := wp_le v g.1
        rw [Nat.zero_add] at a2
        have a3 : wp g 0 (wk g m (w0 z)) v = wk g m (w0 z) v := rfl
        have a4 := hall v hv
        show wp g g.1 (wk g m (w0 z)) v = wk g n (w0 z) v
        omega
      · left
        rcases i2 with i2 | i2
        · have hex : ∃ v, v < 12 ∧ wk g m (w0 z) v ≠ wk g n (w0 z) v := by
            obtain ⟨v, hv⟩ := Classical.not_forall.mp hall
            obtain ⟨h1, h2⟩ := Classical.not_imp.mp hv
            exact ⟨v, h1, h2⟩
          have := w_more hk hE VE Vm i1 hex
          show m + 1 + 1 ≤ ct 12 (fun v => decide (wp g g.1 (wk g m (w0 z)) v = wk g n (w0 z) v))
          omega
        · exact absurd i2 hall
  have e : wk g 11 (w0 z) = wk g n (w0 z) := by
    funext v
    by_cases hv : v < 12
    · rcases (key 11).2 with q | q
      · have := ct_all (p := fun v => decide (wk g 11 (w0 z) v = wk g n (w0 z) v)) (n := 12) q v hv
        simpa using this
      · exact q v hv
    · rw [(wV_k hk V0 11).2.1 v (by omega), VE.2.1 v (by omega)]
  rw [e]; exact hn
