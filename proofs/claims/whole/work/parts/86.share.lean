/-! SHARING, over plain numbers -/
def sb (n d : Nat) (num : Nat → Nat) (k : Nat) : Nat := n * num k / d
def sq (n d : Nat) (num : Nat → Nat) (k : Nat) : Nat := n * num k % d + 1
def bm (r : Nat → Nat) : Nat → Nat
  | 0 => 0
  | i + 1 => if r (bm r i) < r i then i else bm r i
def gv1 (m : Nat) (p : (Nat → Nat) × (Nat → Nat)) : (Nat → Nat) × (Nat → Nat) := (fun k => if k = bm p.2 m then p.1 k + 1 else p.1 k, fun k => if k = bm p.2 m then 0 else p.2 k)
def gv (m : Nat) (p : (Nat → Nat) × (Nat → Nat)) : Nat → (Nat → Nat) × (Nat → Nat)
  | 0 => p
  | j + 1 => gv1 m (gv m p j)
def sh (n : Nat) (num : Nat → Nat) (m k : Nat) : Nat := if sm m num = 0 then 0 else (gv m (sb n (sm m num) num, sq n (sm m num) num) (n - sm m (sb n (sm m num) num))).1 k
theorem bm_lt {r : Nat → Nat} : ∀ {m : Nat}, 0 < m → bm r m < m := by
  intro m
  induction m with
  | zero => intro h; omega
  | succ m ih =>
    intro _
    show (if r (bm r m) < r m then m else bm r m) < m + 1
    split
    · omega
    · by_cases h : m = 0
      · subst h; exact Nat.lt_succ_self 0
      · have := ih (by omega); omega
theorem sm_ext {f g : Nat → Nat} : ∀ {m : Nat}, (∀ k, k < m → f k = g k) → sm m f = sm m g := by
  intro m
  induction m with
  | zero => intro _; rfl
  | succ m ih =>
    intro h
    show sm m f + f m = sm m g + g m
    rw [ih (fun k hk => h k (by omega)), h m (by omega)]
theorem sm_at {f : Nat → Nat} {b : Nat} : ∀ {m : Nat}, b < m → sm m (fun k => if k = b then f k + 1 else f k) = sm m f + 1 := by
  intro m
  induction m with
  | zero => intro h; omega
  | succ m ih =>
    intro h
    show sm m (fun k => if k = b then f k + 1 else f k) + (if m = b then f m + 1 else f m) = sm m f + f m + 1
    by_cases e : m = b
    · rw [if_pos e, sm_ext (g := f) (fun k hk => if_neg (by omega))]; omega
    · rw [if_neg e, ih (by omega)]; omega
theorem sm_k {f : Nat → Nat} : ∀ {m k : Nat}, k < m → f k ≤ sm m f := by
  intro m
  induction m with
  | zero => intro k h; omega
  | succ m ih =>
    intro k h
    show f k ≤ sm m f + f m
    by_cases e : k = m
    · rw [e]; omega
    · have := ih (k := k) (by omega); omega
theorem sm_mo {f : Nat → Nat} : ∀ {m : Nat} (d : Nat), sm m f ≤ sm (m + d) f := by
  intro m d
  induction d with
  | zero => exact Nat.le_refl _
  | succ d ih => exact Nat.le_trans ih (Nat.le_add_right _ _)
theorem sb_sum {n d : Nat} {num : Nat → Nat} : ∀ m, sm m (sb n d num) * d + sm m (fun k => n * num k % d) = n * sm m num := by
  intro m
  induction m with
  | zero => show 0 * d + 0 = n * 0; omega
  | succ m ih =>
    show (sm m (sb n d num) + n * num m / d) * d + (sm m (fun k => n * num k % d) + n * num m % d) = n * (sm m num + num m)
    have := Nat.div_add_mod (n * num m) d
    rw [Nat.add_mul, Nat.mul_add, Nat.mul_comm (n * num m / d) d]
    omega
theorem sb_le {n m : Nat} {num : Nat → Nat} (h : 0 < sm m num) : sm m (sb n (sm m num) num) ≤ n := by
  have := sb_sum (n := n) (d := sm m num) (num := num) m
  refine Nat.le_of_mul_le_mul_right (c := sm m num) ?_ h
  omega
theorem sm_bd {f : Nat → Nat} {c : Nat} : ∀ {m : Nat}, (∀ k, k < m → f k ≤ c) → sm m f ≤ m * c := by
  intro m
  induction m with
  | zero => intro _; show 0 ≤ 0 * c; omega
  | succ m ih =>
    intro h
    have h1 := ih (fun k hk => h k (by omega))
    have h2 := h m (by omega)
    show sm m f + f m ≤ (m + 1) * c
    rw [Nat.add_mul]; omega
theorem sb_left {n m : Nat} {num : Nat → Nat} (h : 0 < sm m num) : n - sm m (sb n (sm m num) num) ≤ m := by
  have e := sb_sum (n := n) (d := sm m num) (num := num) m
  have hl := sb_le (n := n) h
  have b := sm_bd (f := fun k => n * num k % sm m num) (c := sm m num) (m := m) (fun k _ => Nat.le_of_lt (Nat.mod_lt _ h))
  refine Nat.le_of_mul_le_mul_right (c := sm m num) ?_ h
  rw [Nat.sub_mul]
  omega
theorem gv_sum {m : Nat} (hm : 0 < m) {p : (Nat → Nat) × (Nat → Nat)} : ∀ j, sm m (gv m p j).1 = sm m p.1 + j := by
  intro j
  induction j with
  | zero => rfl
  | succ j ih =>
    show sm m (gv1 m (gv m p j)).1 = _
    rw [show (gv1 m (gv m p j)).1 = fun k => if k = bm (gv m p j).2 m then (gv m p j).1 k + 1 else (gv m p j).1 k from rfl, sm_at (bm_lt hm), ih]; omega
theorem gv_2 {m B : Nat} {p : (Nat → Nat) × (Nat → Nat)} (h : ∀ k, k < m → p.2 k ≤ B) : ∀ j k, k < m → (gv m p j).2 k ≤ B := by
  intro j
  induction j with
  | zero => exact h
  | succ j ih =>
    intro k hk
    show (if k = bm (gv m p j).2 m then 0 else (gv m p j).2 k) ≤ B
    split
    · omega
    · exact ih k hk
theorem sh_le {n m : Nat} {num : Nat → Nat} {k : Nat} (hk : k < m) : sh n num m k ≤ n := by
  unfold sh
  split
  · omega
  · rename_i h
    have h0 : 0 < sm m num := by omega
    have e := gv_sum (m := m) (by omega) (p := (sb n (sm m num) num, sq n (sm m num) num)) (n - sm m (sb n (sm m num) num))
    have hl := sb_le (n := n) h0
    have := sm_k (f := (gv m (sb n (sm m num) num, sq n (sm m num) num) (n - sm m (sb n (sm m num) num))).1) hk
    have e' : sm m (sb n (sm m num) num, sq n (sm m num) num).1 = sm m (sb n (sm m num) num) := rfl
    omega
theorem bm_ext {r r' : Nat → Nat} : ∀ {m : Nat}, (∀ k, k < m → r k = r' k) → bm r m = bm r' m := by
  intro m
  induction m with
  | zero => intro _; rfl
  | succ m ih =>
    intro h
    have e := ih (fun k hk => h k (by omega))
    show (if r (bm r m) < r m then m else bm r m) = (if r' (bm r' m) < r' m then m else bm r' m)
    by_cases h0 : m = 0
    · subst h0; show (if r 0 < r 0 then 0 else 0) = (if r' 0 < r' 0 then 0 else 0); rw [if_neg (Nat.lt_irrefl _), if_neg (Nat.lt_irrefl _)]
    · have := bm_lt (r := r') (m := m) (by omega)
      rw [e, h m (by omega), h (bm r' m) (by omega)]
theorem gv_ext {m : Nat} {p p' : (Nat → Nat) × (Nat → Nat)} (h : ∀ k, k < m → p.1 k = p'.1 k ∧ p.2 k = p'.2 k) : ∀ j k, k < m → (gv m p j).1 k = (gv m p' j).1 k ∧ (gv m p j).2 k = (gv m p' j).2 k := by
  intro j
  induction j with
  | zero => exact h
  | succ j ih =>
    intro k hk
    have e := bm_ext (r := (gv m p j).2) (r' := (gv m p' j).2) (m := m) (fun k hk => (ih k hk).2)
    show (if k = bm (gv m p j).2 m then (gv m p j).1 k + 1 else (gv m p j).1 k) = (if k = bm (gv m p' j).2 m then (gv m p' j).1 k + 1 else (gv m p' j).1 k) ∧ (if k = bm (gv m p j).2 m then 0 else (gv m p j).2 k) = (if k = bm (gv m p' j).2 m then 0 else (gv m p' j).2 k)
    rw [e, (ih k hk).1, (ih k hk).2]; exact ⟨rfl, rfl⟩
/-- equal numbers are shared alike -/
theorem sh_ext {n m : Nat} {num num' : Nat → Nat} (h : ∀ k, k < m → num k = num' k) {k : Nat} (hk : k < m) : sh n num m k = sh n num' m k := by
  have e := sm_ext h
  unfold sh
  rw [e]
  split
  · rfl
  · have e2 : sm m (sb n (sm m num') num) = sm m (sb n (sm m num') num') := sm_ext (fun k hk => by unfold sb; rw [h k hk])
    rw [e2]
    exact (gv_ext (fun k hk => by show sb n _ num k = sb n _ num' k ∧ sq n _ num k = sq n _ num' k; unfold sb sq; rw [h k hk]; exact ⟨rfl, rfl⟩) _ k hk).1
def rI (x : Nat) : Int64 := lN x - 1
theorem rI_s (x : Nat) : rI (x + 1) = lN x := by
  show lN (x + 1) - lN 1 = _
  rw [lN_sub (by omega)]; rfl
theorem rI_t {x : Nat} (h : x < 2 ^ 62) : (rI x).toInt = (x : Int) - 1 := by
  cases x with
  | zero => rfl
  | succ x => rw [rI_s, pk_lT (by omega)]; omega
theorem rI_le {x y : Nat} (hx : x < 2 ^ 62) (hy : y < 2 ^ 62) : lg_cmp (rI x) (rI y) ≤ 0 ↔ x ≤ y := by
  rw [lg_cmp_le, Int64.le_iff_toInt_le, rI_t hx, rI_t hy]; omega
/-! the table's sharing -/
theorem giveH7 {m : Nat} (hm : 0 < m) (hm6 : m ≤ 6) {r : Nat → Nat} (hr : ∀ k, k < m → r k < 2 ^ 62) : ∀ (k n i : Nat) (σ : tS), i + k = m → k < n → 0 < i → (∀ k, k < m → σ.2.2 2 k = rI (r k)) → ml_H7_giveOne_4 n (nI m) (nI (bm r i)) (nI i) σ = some (tJ (tI σ 21 (bm r m) (σ.2.1 21 (bm r m) + 1)) 2 (bm r m) (-1)) := by
  intro k
  induction k with
  | zero =>
    intro n i σ h1 h2 h0 hc
    obtain ⟨n, rfl⟩ : ∃ q, n = q + 1 := ⟨n - 1, by omega⟩
    have e : i = m := by omega
    subst e
    have hb := bm_lt (r := r) hm
    show ms_H7_giveOne_4 (ml_H7_giveOne_4 n) (nI i) (nI (bm r i)) (nI i) σ = _
    unfold ms_H7_giveOne_4
    rw [if_pos (Int32.le_refl _), tg_n (by omega) (by decide), tg_n (by omega) (by decide), tg_n (by omega) (by decide), nI_clamp (by omega)]
  | succ k ih =>
    intro n i σ h1 h2 h0 hc
    obtain ⟨n, rfl⟩ : ∃ q, n = q + 1 := ⟨n - 1, by omega⟩
    have hb := bm_lt (r := r) (m := i) h0
    show ms_H7_giveOne_4 (ml_H7_giveOne_4 n) (nI m) (nI (bm r i)) (nI i) σ = _
    unfold ms_H7_giveOne_4
    rw [if_neg (nI_ge (by omega) (by omega)), tg_n (by omega) (by decide), tg_n (by omega) (by decide), nI_clamp (by omega), nI_clamp (by omega), hc i (by omega), hc (bm r i) (by omega), nI_1]
    have hs : bm r (i + 1) = if r (bm r i) < r i then i else bm r i := rfl
    by_cases hl : r i ≤ r (bm r i)
    · rw [if_pos ((rI_le (hr _ (by omega)) (hr _ (by omega))).mpr hl)]
      rw [if_neg (by omega)] at hs
      have := ih n (i + 1) σ (by omega) (by omega) (by omega) hc
      rw [hs] at this; exact this
    · rw [if_neg (fun q => hl ((rI_le (hr _ (by omega)) (hr _ (by omega))).mp q))]
      rw [if_pos (by omega)] at hs
      have := ih n (i + 1) σ (by omega) (by omega) (by omega) hc
      rw [hs] at this; exact this
theorem givesH7 {m : Nat} (hm : 0 < m) (hm6 : m ≤ 6) {p : (Nat → Nat) × (Nat → Nat)} (hr : ∀ k, k < m → p.2 k ≤ 2 ^ 61) (L : Nat) (hL : L < 2 ^ 31) (v1 : Int32) (v3 : Int64) : ∀ (k n j : Nat) (σ : tS), j + k = L → k < n → (∀ k, k < m → σ.2.1 21 k = nI ((gv m p j).1 k) ∧ σ.2.2 2 k = rI ((gv m p j).2 k)) → ∃ σ', ml_H7_shareOut_110 n v1 (nI m) v3 (nI L) (nI j) σ = some σ' ∧ σ'.1 = σ.1 ∧ (∀ a, a ≠ 21 → σ'.2.1 a = σ.2.1 a) ∧ ∀ k, k < m → σ'.2.1 21 k = nI ((gv m p L).1 k) := by
  intro k
  induction k with
  | zero =>
    intro n j σ h1 h2 hc
    obtain ⟨n, rfl⟩ : ∃ q, n = q + 1 := ⟨n - 1, by omega⟩
    have e : j = L := by omega
    subst e
    refine ⟨σ, ?_, rfl, fun _ _ => rfl, fun k hk => (hc k hk).1⟩
    show ms_H7_shareOut_110 (ml_H7_shareOut_110 n) v1 (nI m) v3 (nI j) (nI j) σ = _
    unfold ms_H7_shareOut_110
    rw [if_pos (Int32.le_refl _)]
  | succ k ih =>
    intro n j σ h1 h2 hc
    obtain ⟨n, rfl⟩ : ∃ q, n = q + 1 := ⟨n - 1, by omega⟩
    have hr' := gv_2 (m := m) (B := 2 ^ 61) hr j
    have hb := bm_lt (r := (gv m p j).2) hm
    have g1 := giveH7 hm hm6 (r := (gv m p j).2) (fun k hk => by have := hr' k hk; omega) (m - 1) 4096 1 σ (by omega) (by omega) (by decide) (fun k hk => (hc k hk).2)
    have b1 : bm (gv m p j).2 1 = 0 := by show (if _ < _ then 0 else 0) = 0; split <;> rfl
    rw [b1] at g1
    have g1' : mf_H7_giveOne (nI m) σ = _ := g1
    show ∃ σ', ms_H7_shareOut_110 (ml_H7_shareOut_110 n) v1 (nI m) v3 (nI L) (nI j) σ = _ ∧ _
    unfold ms_H7_shareOut_110
    rw [if_neg (nI_ge (by omega) hL), g1', tb1_s, nI_1]
    obtain ⟨σ', r1, r2, r3, r4⟩ := ih n (j + 1) (tJ (tI σ 21 (bm (gv m p j).2 m) (σ.2.1 21 (bm (gv m p j).2 m) + 1)) 2 (bm (gv m p j).2 m) (-1)) (by omega) (by omega) (fun k hk => by
      show (tI σ 21 (bm (gv m p j).2 m) (σ.2.1 21 (bm (gv m p j).2 m) + 1)).2.1 21 k = nI (if k = bm (gv m p j).2 m then (gv m p j).1 k + 1 else (gv m p j).1 k) ∧ (tJ (tI σ 21 (bm (gv m p j).2 m) (σ.2.1 21 (bm (gv m p j).2 m) + 1)) 2 (bm (gv m p j).2 m) (-1)).2.2 2 k = rI (if k = bm (gv m p j).2 m then 0 else (gv m p j).2 k)
      rw [tI_at, tJ_at]
      split
      · rename_i e
        rw [← e, (hc k hk).1, nI_1]; exact ⟨rfl, rfl⟩
      · exact hc k hk)
    exact ⟨σ', r1, r2, fun a ha => by rw [r3 a ha]; exact tI_ne ha, r4⟩
theorem partsH7 {m n : Nat} (hm : 0 < m) (hm6 : m ≤ 6) (hn : n ≤ 1000000) {num : Nat → Nat} (hnum : ∀ k, k < m → num k ≤ 1000000000) (hd : 0 < sm m num) : ∀ (k f i : Nat) (σ : tS), i + k = m → k < f → (∀ k, k < m → σ.2.2 1 k = lN (num k)) → (∀ k, k < i → σ.2.1 21 k = nI (sb n (sm m num) num k) ∧ σ.2.2 2 k = rI (sq n (sm m num) num k)) → ∃ σ', ml_H7_shareOut_48 f (nI n) (nI m) (lN (sm m num)) (nI (n - sm i (sb n (sm m num) num))) (nI i) σ = some σ' ∧ σ'.1 = σ.1 ∧ (∀ a, a ≠ 21 → σ'.2.1 a = σ.2.1 a) ∧ ∀ k, k < m → σ'.2.1 21 k = nI (sh n num m k) := by
  have hD : sm m num ≤ 6000000000 := by
    have := sm_bd hnum
    have : m * 1000000000 ≤ 6 * 1000000000 := Nat.mul_le_mul_right _ (by omega)
    omega
  have hle := sb_le (n := n) hd
  have hleft := sb_left (n := n) hd
  intro k
  induction k with
  | zero =>
    intro f i σ h1 h2 hc hs
    obtain ⟨f, rfl⟩ : ∃ q, f = q + 1 := ⟨f - 1, by omega⟩
    have e : i = m := by omega
    subst e
    show ∃ σ', ms_H7_shareOut_48 (ml_H7_shareOut_48 f) (nI n) (nI i) (lN (sm i num)) (nI (n - sm i (sb n (sm i num) num))) (nI i) σ = _ ∧ _
    unfold ms_H7_shareOut_48
    rw [if_pos (Int32.le_refl _)]
    obtain ⟨σ', r1, r2, r3, r4⟩ := givesH7 hm hm6 (p := (sb n (sm i num) num, sq n (sm i num) num)) (fun k hk => by
      show n * num k % sm i num + 1 ≤ _
      have := Nat.mod_lt (n * num k) hd
      omega) (n - sm i (sb n (sm i num) num)) (by omega) (nI n) (lN (sm i num)) (n - sm i (sb n (sm i num) num)) 4096 0 σ (by omega) (by omega) hs
    refine ⟨σ', r1, r2, r3, fun k hk => ?_⟩
    rw [r4 k hk]
    unfold sh
    rw [if_neg (by omega)]
  | succ k ih =>
    intro f i σ h1 h2 hc hs
    obtain ⟨f, rfl⟩ : ∃ q, f = q + 1 := ⟨f - 1, by omega⟩
    have hx : n * num i ≤ 1000000 * 1000000000 := Nat.mul_le_mul hn (hnum i (by omega))
    have hbn : sm (i + 1) (sb n (sm m num) num) ≤ n := by
      have := sm_mo (f := sb n (sm m num) num) (m := i + 1) (m - (i + 1))
      rw [Nat.add_sub_cancel' (by omega)] at this
      omega
    have hbs : sm (i + 1) (sb n (sm m num) num) = sm i (sb n (sm m num) num) + sb n (sm m num) num i := rfl
    show ∃ σ', ms_H7_shareOut_48 (ml_H7_shareOut_48 f) (nI n) (nI m) (lN (sm m num)) (nI (n - sm i (sb n (sm m num) num))) (nI i) σ = _ ∧ _
    unfold ms_H7_shareOut_48
    have T1 : ∀ {α : Type} (o : Option α), tg (nI i) 6 o = o := fun o => tg_n (by omega) (by decide)
    have C1 : (nI i).toNatClampNeg = i := nI_clamp (by omega)
    have T2 : ∀ {α : Type} (o : Option α), tz (lN (sm m num)) o = o := fun o => tz_n hd (by omega)
    rw [if_neg (nI_ge (by omega) (by omega))]
    simp only [T1, C1, T2, hc i (by omega), nI_1, tI_at, ↓reduceIte]
    rw [nI_l (by omega), lN_mul, pk_lRem (by omega) hd (by omega), pk_lDiv (by omega) hd (by omega), lN_i]
    have e1 : nI (n - sm i (sb n (sm m num) num)) - nI (n * num i / sm m num) = nI (n - sm (i + 1) (sb n (sm m num) num)) := by
      have : sb n (sm m num) num i = n * num i / sm m num := rfl
      rw [pk_sub (by omega), hbs, Nat.sub_sub, this]
    rw [e1]
    obtain ⟨σ', r1, r2, r3, r4⟩ := ih f (i + 1) (tJ (tI σ 21 i (nI (n * num i / sm m num))) 2 i (lN (n * num i % sm m num))) (by omega) (by omega) (fun k hk => by
      rw [tJ_ne (by decide)]; exact hc k hk) (fun k hk => by
      show (tI σ 21 i (nI (n * num i / sm m num))).2.1 21 k = _ ∧ _
      rw [tI_at, tJ_at]
      split
      · rename_i e; rw [e]; exact ⟨rfl, (rI_s _).symm⟩
      · exact hs k (by omega))
    exact ⟨σ', r1, r2, fun a ha => by rw [r3 a ha]; exact tI_ne ha, r4⟩
theorem sharesH7 {m n : Nat} (hm : 0 < m) (hm6 : m ≤ 6) (hn : n ≤ 1000000) {num : Nat → Nat} (hnum : ∀ k, k < m → num k ≤ 1000000000) : ∀ (k f i : Nat) (σ : tS), i + k = m → k < f → (∀ k, k < m → σ.2.2 1 k = lN (num k)) → ∃ σ', ml_H7_shareOut_5 f (nI n) (nI m) (lN (sm i num)) (nI i) σ = some σ' ∧ σ'.1 = σ.1 ∧ (∀ a, a ≠ 21 → σ'.2.1 a = σ.2.1 a) ∧ ∀ k, k < m → σ'.2.1 21 k = nI (sh n num m k) := by
  have hD : sm m num ≤ 6000000000 := by
    have := sm_bd hnum
    have : m * 1000000000 ≤ 6 * 1000000000 := Nat.mul_le_mul_right _ (by omega)
    omega
  intro k
  induction k with
  | zero =>
    intro f i σ h1 h2 hc
    obtain ⟨f, rfl⟩ : ∃ q, f = q + 1 := ⟨f - 1, by omega⟩
    have e : i = m := by omega
    subst e
    show ∃ σ', ms_H7_shareOut_5 (ml_H7_shareOut_5 f) (nI n) (nI i) (lN (sm i num)) (nI i) σ = _ ∧ _
    unfold ms_H7_shareOut_5
    rw [if_pos (Int32.le_refl _)]
    by_cases h0 : sm i num = 0
    · rw [if_pos (by rw [lg_cmp_eq, h0]; rfl)]
      refine ⟨_, rfl, rfl, fun a ha => tIf_ne ha, fun k hk => ?_⟩
      rw [tIf_at]; unfold sh; rw [if_pos h0]; rfl
    · rw [if_neg (by
        rw [lg_cmp_eq]
        show ¬ lN (sm i num) = lN 0
        rw [pk_lEQ (by omega) (by decide)]; exact h0)]
      exact partsH7 hm hm6 hn hnum (by omega) i 4096 0 σ (by omega) (by omega) hc (fun k hk => by omega)
  | succ k ih =>
    intro f i σ h1 h2 hc
    obtain ⟨f, rfl⟩ : ∃ q, f = q + 1 := ⟨f - 1, by omega⟩
    show ∃ σ', ms_H7_shareOut_5 (ml_H7_shareOut_5 f) (nI n) (nI m) (lN (sm i num)) (nI i) σ = _ ∧ _
    unfold ms_H7_shareOut_5
    rw [if_neg (nI_ge (by omega) (by omega)), tg_n (by omega) (by decide), nI_clamp (by omega), hc i (by omega), lN_add, nI_1]
    exact ih f (i + 1) σ (by omega) (by omega) hc
theorem shareH7 {m n : Nat} (hm : 0 < m) (hm6 : m ≤ 6) (hn : n ≤ 1000000) {num : Nat → Nat} (hnum : ∀ k, k < m → num k ≤ 1000000000) {σ : tS} (hc : ∀ k, k < m → σ.2.2 1 k = lN (num k)) : ∃ σ', mf_H7_shareOut (nI n) (nI m) σ = some σ' ∧ σ'.1 = σ.1 ∧ (∀ a, a ≠ 21 → σ'.2.1 a = σ.2.1 a) ∧ ∀ k, k < m → σ'.2.1 21 k = nI (sh n num m k) :=
  sharesH7 hm hm6 hn hnum m 4096 0 σ (by omega) (by omega) hc
/-! the modes' sharing -/
theorem giveH8 {m : Nat} (hm : 0 < m) (hm6 : m ≤ 3) {r : Nat → Nat} (hr : ∀ k, k < m → r k < 2 ^ 62) : ∀ (k n i : Nat) (σ : tS), i + k = m → k < n → 0 < i → (∀ k, k < m → σ.2.2 4 k = rI (r k)) → ml_H8_giveOne_4 n (nI m) (nI (bm r i)) (nI i) σ = some (tJ (tI σ 22 (bm r m) (σ.2.1 22 (bm r m) + 1)) 4 (bm r m) (-1)) := by
  intro k
  induction k with
  | zero =>
    intro n i σ h1 h2 h0 hc
    obtain ⟨n, rfl⟩ : ∃ q, n = q + 1 := ⟨n - 1, by omega⟩
    have e : i = m := by omega
    subst e
    have hb := bm_lt (r := r) hm
    show ms_H8_giveOne_4 (ml_H8_giveOne_4 n) (nI i) (nI (bm r i)) (nI i) σ = _
    unfold ms_H8_giveOne_4
    rw [if_pos (Int32.le_refl _), tg_n (by omega) (by decide), tg_n (by omega) (by decide), tg_n (by omega) (by decide), nI_clamp (by omega)]
  | succ k ih =>
    intro n i σ h1 h2 h0 hc
    obtain ⟨n, rfl⟩ : ∃ q, n = q + 1 := ⟨n - 1, by omega⟩
    have hb := bm_lt (r := r) (m := i) h0
    show ms_H8_giveOne_4 (ml_H8_giveOne_4 n) (nI m) (nI (bm r i)) (nI i) σ = _
    unfold ms_H8_giveOne_4
    rw [if_neg (nI_ge (by omega) (by omega)), tg_n (by omega) (by decide), tg_n (by omega) (by decide), nI_clamp (by omega), nI_clamp (by omega), hc i (by omega), hc (bm r i) (by omega), nI_1]
    have hs : bm r (i + 1) = if r (bm r i) < r i then i else bm r i := rfl
    by_cases hl : r i ≤ r (bm r i)
    · rw [if_pos ((rI_le (hr _ (by omega)) (hr _ (by omega))).mpr hl)]
      rw [if_neg (by omega)] at hs
      have := ih n (i + 1) σ (by omega) (by omega) (by omega) hc
      rw [hs] at this; exact this
    · rw [if_neg (fun q => hl ((rI_le (hr _ (by omega)) (hr _ (by omega))).mp q))]
      rw [if_pos (by omega)] at hs
      have := ih n (i + 1) σ (by omega) (by omega) (by omega) hc
      rw [hs] at this; exact this
theorem givesH8 {m : Nat} (hm : 0 < m) (hm6 : m ≤ 3) {p : (Nat → Nat) × (Nat → Nat)} (hr : ∀ k, k < m → p.2 k ≤ 2 ^ 61) (L : Nat) (hL : L < 2 ^ 31) (v1 : Int32) (v3 : Int64) : ∀ (k n j : Nat) (σ : tS), j + k = L → k < n → (∀ k, k < m → σ.2.1 22 k = nI ((gv m p j).1 k) ∧ σ.2.2 4 k = rI ((gv m p j).2 k)) → ∃ σ', ml_H8_shareOut_110 n v1 (nI m) v3 (nI L) (nI j) σ = some σ' ∧ σ'.1 = σ.1 ∧ (∀ a, a ≠ 22 → σ'.2.1 a = σ.2.1 a) ∧ ∀ k, k < m → σ'.2.1 22 k = nI ((gv m p L).1 k) := by
  intro k
  induction k with
  | zero =>
    intro n j σ h1 h2 hc
    obtain ⟨n, rfl⟩ : ∃ q, n = q + 1 := ⟨n - 1, by omega⟩
    have e : j = L := by omega
    subst e
    refine ⟨σ, ?_, rfl, fun _ _ => rfl, fun k hk => (hc k hk).1⟩
    show ms_H8_shareOut_110 (ml_H8_shareOut_110 n) v1 (nI m) v3 (nI j) (nI j) σ = _
    unfold ms_H8_shareOut_110
    rw [if_pos (Int32.le_refl _)]
  | succ k ih =>
    intro n j σ h1 h2 hc
    obtain ⟨n, rfl⟩ : ∃ q, n = q + 1 := ⟨n - 1, by omega⟩
    have hr' := gv_2 (m := m) (B := 2 ^ 61) hr j
    have hb := bm_lt (r := (gv m p j).2) hm
    have g1 := giveH8 hm hm6 (r := (gv m p j).2) (fun k hk => by have := hr' k hk; omega) (m - 1) 4096 1 σ (by omega) (by omega) (by decide) (fun k hk => (hc k hk).2)
    have b1 : bm (gv m p j).2 1 = 0 := by show (if _ < _ then 0 else 0) = 0; split <;> rfl
    rw [b1] at g1
    have g1' : mf_H8_giveOne (nI m) σ = _ := g1
    show ∃ σ', ms_H8_shareOut_110 (ml_H8_shareOut_110 n) v1 (nI m) v3 (nI L) (nI j) σ = _ ∧ _
    unfold ms_H8_shareOut_110
    rw [if_neg (nI_ge (by omega) hL), g1', tb1_s, nI_1]
    obtain ⟨σ', r1, r2, r3, r4⟩ := ih n (j + 1) (tJ (tI σ 22 (bm (gv m p j).2 m) (σ.2.1 22 (bm (gv m p j).2 m) + 1)) 4 (bm (gv m p j).2 m) (-1)) (by omega) (by omega) (fun k hk => by
      show (tI σ 22 (bm (gv m p j).2 m) (σ.2.1 22 (bm (gv m p j).2 m) + 1)).2.1 22 k = nI (if k = bm (gv m p j).2 m then (gv m p j).1 k + 1 else (gv m p j).1 k) ∧ (tJ (tI σ 22 (bm (gv m p j).2 m) (σ.2.1 22 (bm (gv m p j).2 m) + 1)) 4 (bm (gv m p j).2 m) (-1)).2.2 4 k = rI (if k = bm (gv m p j).2 m then 0 else (gv m p j).2 k)
      rw [tI_at, tJ_at]
      split
      · rename_i e
        rw [← e, (hc k hk).1, nI_1]; exact ⟨rfl, rfl⟩
      · exact hc k hk)
    exact ⟨σ', r1, r2, fun a ha => by rw [r3 a ha]; exact tI_ne ha, r4⟩
theorem partsH8 {m n : Nat} (hm : 0 < m) (hm6 : m ≤ 3) (hn : n ≤ 1000000) {num : Nat → Nat} (hnum : ∀ k, k < m → num k ≤ 1000000000) (hd : 0 < sm m num) : ∀ (k f i : Nat) (σ : tS), i + k = m → k < f → (∀ k, k < m → σ.2.2 3 k = lN (num k)) → (∀ k, k < i → σ.2.1 22 k = nI (sb n (sm m num) num k) ∧ σ.2.2 4 k = rI (sq n (sm m num) num k)) → ∃ σ', ml_H8_shareOut_48 f (nI n) (nI m) (lN (sm m num)) (nI (n - sm i (sb n (sm m num) num))) (nI i) σ = some σ' ∧ σ'.1 = σ.1 ∧ (∀ a, a ≠ 22 → σ'.2.1 a = σ.2.1 a) ∧ ∀ k, k < m → σ'.2.1 22 k = nI (sh n num m k) := by
  have hD : sm m num ≤ 6000000000 := by
    have := sm_bd hnum
    have : m * 1000000000 ≤ 6 * 1000000000 := Nat.mul_le_mul_right _ (by omega)
    omega
  have hle := sb_le (n := n) hd
  have hleft := sb_left (n := n) hd
  intro k
  induction k with
  | zero =>
    intro f i σ h1 h2 hc hs
    obtain ⟨f, rfl⟩ : ∃ q, f = q + 1 := ⟨f - 1, by omega⟩
    have e : i = m := by omega
    subst e
    show ∃ σ', ms_H8_shareOut_48 (ml_H8_shareOut_48 f) (nI n) (nI i) (lN (sm i num)) (nI (n - sm i (sb n (sm i num) num))) (nI i) σ = _ ∧ _
    unfold ms_H8_shareOut_48
    rw [if_pos (Int32.le_refl _)]
    obtain ⟨σ', r1, r2, r3, r4⟩ := givesH8 hm hm6 (p := (sb n (sm i num) num, sq n (sm i num) num)) (fun k hk => by
      show n * num k % sm i num + 1 ≤ _
      have := Nat.mod_lt (n * num k) hd
      omega) (n - sm i (sb n (sm i num) num)) (by omega) (nI n) (lN (sm i num)) (n - sm i (sb n (sm i num) num)) 4096 0 σ (by omega) (by omega) hs
    refine ⟨σ', r1, r2, r3, fun k hk => ?_⟩
    rw [r4 k hk]
    unfold sh
    rw [if_neg (by omega)]
  | succ k ih =>
    intro f i σ h1 h2 hc hs
    obtain ⟨f, rfl⟩ : ∃ q, f = q + 1 := ⟨f - 1, by omega⟩
    have hx : n * num i ≤ 1000000 * 1000000000 := Nat.mul_le_mul hn (hnum i (by omega))
    have hbn : sm (i + 1) (sb n (sm m num) num) ≤ n := by
      have := sm_mo (f := sb n (sm m num) num) (m := i + 1) (m - (i + 1))
      rw [Nat.add_sub_cancel' (by omega)] at this
      omega
    have hbs : sm (i + 1) (sb n (sm m num) num) = sm i (sb n (sm m num) num) + sb n (sm m num) num i := rfl
    show ∃ σ', ms_H8_shareOut_48 (ml_H8_shareOut_48 f) (nI n) (nI m) (lN (sm m num)) (nI (n - sm i (sb n (sm m num) num))) (nI i) σ = _ ∧ _
    unfold ms_H8_shareOut_48
    have T1 : ∀ {α : Type} (o : Option α), tg (nI i) 3 o = o := fun o => tg_n (by omega) (by decide)
    have C1 : (nI i).toNatClampNeg = i := nI_clamp (by omega)
    have T2 : ∀ {α : Type} (o : Option α), tz (lN (sm m num)) o = o := fun o => tz_n hd (by omega)
    rw [if_neg (nI_ge (by omega) (by omega))]
    simp only [T1, C1, T2, hc i (by omega), nI_1, tI_at, ↓reduceIte]
    rw [nI_l (by omega), lN_mul, pk_lRem (by omega) hd (by omega), pk_lDiv (by omega) hd (by omega), lN_i]
    have e1 : nI (n - sm i (sb n (sm m num) num)) - nI (n * num i / sm m num) = nI (n - sm (i + 1) (sb n (sm m num) num)) := by
      have : sb n (sm m num) num i = n * num i / sm m num := rfl
      rw [pk_sub (by omega), hbs, Nat.sub_sub, this]
    rw [e1]
    obtain ⟨σ', r1, r2, r3, r4⟩ := ih f (i + 1) (tJ (tI σ 22 i (nI (n * num i / sm m num))) 4 i (lN (n * num i % sm m num))) (by omega) (by omega) (fun k hk => by
      rw [tJ_ne (by decide)]; exact hc k hk) (fun k hk => by
      show (tI σ 22 i (nI (n * num i / sm m num))).2.1 22 k = _ ∧ _
      rw [tI_at, tJ_at]
      split
      · rename_i e; rw [e]; exact ⟨rfl, (rI_s _).symm⟩
      · exact hs k (by omega))
    exact ⟨σ', r1, r2, fun a ha => by rw [r3 a ha]; exact tI_ne ha, r4⟩
theorem sharesH8 {m n : Nat} (hm : 0 < m) (hm6 : m ≤ 3) (hn : n ≤ 1000000) {num : Nat → Nat} (hnum : ∀ k, k < m → num k ≤ 1000000000) : ∀ (k f i : Nat) (σ : tS), i + k = m → k < f → (∀ k, k < m → σ.2.2 3 k = lN (num k)) → ∃ σ', ml_H8_shareOut_5 f (nI n) (nI m) (lN (sm i num)) (nI i) σ = some σ' ∧ σ'.1 = σ.1 ∧ (∀ a, a ≠ 22 → σ'.2.1 a = σ.2.1 a) ∧ ∀ k, k < m → σ'.2.1 22 k = nI (sh n num m k) := by
  have hD : sm m num ≤ 6000000000 := by
    have := sm_bd hnum
    have : m * 1000000000 ≤ 6 * 1000000000 := Nat.mul_le_mul_right _ (by omega)
    omega
  intro k
  induction k with
  | zero =>
    intro f i σ h1 h2 hc
    obtain ⟨f, rfl⟩ : ∃ q, f = q + 1 := ⟨f - 1, by omega⟩
    have e : i = m := by omega
    subst e
    show ∃ σ', ms_H8_shareOut_5 (ml_H8_shareOut_5 f) (nI n) (nI i) (lN (sm i num)) (nI i) σ = _ ∧ _
    unfold ms_H8_shareOut_5
    rw [if_pos (Int32.le_refl _)]
    by_cases h0 : sm i num = 0
    · rw [if_pos (by rw [lg_cmp_eq, h0]; rfl)]
      refine ⟨_, rfl, rfl, fun a ha => tIf_ne ha, fun k hk => ?_⟩
      rw [tIf_at]; unfold sh; rw [if_pos h0]; rfl
    · rw [if_neg (by
        rw [lg_cmp_eq]
        show ¬ lN (sm i num) = lN 0
        rw [pk_lEQ (by omega) (by decide)]; exact h0)]
      exact partsH8 hm hm6 hn hnum (by omega) i 4096 0 σ (by omega) (by omega) hc (fun k hk => by omega)
  | succ k ih =>
    intro f i σ h1 h2 hc
    obtain ⟨f, rfl⟩ : ∃ q, f = q + 1 := ⟨f - 1, by omega⟩
    show ∃ σ', ms_H8_shareOut_5 (ml_H8_shareOut_5 f) (nI n) (nI m) (lN (sm i num)) (nI i) σ = _ ∧ _
    unfold ms_H8_shareOut_5
    rw [if_neg (nI_ge (by omega) (by omega)), tg_n (by omega) (by decide), nI_clamp (by omega), hc i (by omega), lN_add, nI_1]
    exact ih f (i + 1) σ (by omega) (by omega) hc
theorem shareH8 {m n : Nat} (hm : 0 < m) (hm6 : m ≤ 3) (hn : n ≤ 1000000) {num : Nat → Nat} (hnum : ∀ k, k < m → num k ≤ 1000000000) {σ : tS} (hc : ∀ k, k < m → σ.2.2 3 k = lN (num k)) : ∃ σ', mf_H8_shareOut (nI n) (nI m) σ = some σ' ∧ σ'.1 = σ.1 ∧ (∀ a, a ≠ 22 → σ'.2.1 a = σ.2.1 a) ∧ ∀ k, k < m → σ'.2.1 22 k = nI (sh n num m k) :=
  sharesH8 hm hm6 hn hnum m 4096 0 σ (by omega) (by omega) hc
/-! the reference's sharing -/
theorem giveR {m : Nat} (hm6 : m ≤ 6) {r : Nat → Nat} (hr : ∀ k, k < m → r k < 2 ^ 62) (v1 v4 v6 : Int64) : ∀ (k n i : Nat) (σ : tS), i + k = m → k < n → 0 < i → (∀ k, k < m → σ.2.2 2 k = rI (r k)) → ∃ v9, ml_R_share_142 n v1 (nI m) v4 v6 (nI (bm r i)) (nI i) σ = some (v1, nI m, v4, v6, nI (bm r m), v9, σ) := by
  intro k
  induction k with
  | zero =>
    intro n i σ h1 h2 h0 hc
    obtain ⟨n, rfl⟩ : ∃ q, n = q + 1 := ⟨n - 1, by omega⟩
    have e : i = m := by omega
    subst e
    refine ⟨nI i, ?_⟩
    show ms_R_share_142 (ml_R_share_142 n) v1 (nI i) v4 v6 (nI (bm r i)) (nI i) σ = _
    unfold ms_R_share_142
    rw [if_pos (Int32.le_refl _)]
  | succ k ih =>
    intro n i σ h1 h2 h0 hc
    obtain ⟨n, rfl⟩ : ∃ q, n = q + 1 := ⟨n - 1, by omega⟩
    have hb := bm_lt (r := r) (m := i) h0
    show ∃ v9, ms_R_share_142 (ml_R_share_142 n) v1 (nI m) v4 v6 (nI (bm r i)) (nI i) σ = _
    unfold ms_R_share_142
    rw [if_neg (nI_ge (by omega) (by omega)), tg_n (by omega) (by decide), tg_n (by omega) (by decide), nI_clamp (by omega), nI_clamp (by omega), hc i (by omega), hc (bm r i) (by omega), nI_1]
    have hs : bm r (i + 1) = if r (bm r i) < r i then i else bm r i := rfl
    by_cases hl : r i ≤ r (bm r i)
    · rw [if_pos ((rI_le (hr _ (by omega)) (hr _ (by omega))).mpr hl)]
      rw [if_neg (by omega)] at hs
      have := ih n (i + 1) σ (by omega) (by omega) (by omega) hc
      rw [hs] at this; exact this
    · rw [if_neg (fun q => hl ((rI_le (hr _ (by omega)) (hr _ (by omega))).mp q))]
      rw [if_pos (by omega)] at hs
      have := ih n (i + 1) σ (by omega) (by omega) (by omega) hc
      rw [hs] at this; exact this
theorem givesR {m : Nat} (hm : 0 < m) (hm6 : m ≤ 6) {p : (Nat → Nat) × (Nat → Nat)} (hr : ∀ k, k < m → p.2 k ≤ 2 ^ 61) (L d : Nat) (hL : L < 2 ^ 31) (hd : 0 < d) (hd2 : d < 2 ^ 63) (v1 : Int64) : ∀ (k n j : Nat) (v8 : Int32) (σ : tS), j + k = L → k < n → (∀ k, k < m → σ.2.1 17 k = nI ((gv m p j).1 k) ∧ σ.2.2 2 k = rI ((gv m p j).2 k)) → ∃ σ', ml_R_share_122 n v1 (nI m) (lN d) (lN k) v8 σ = some σ' ∧ σ'.1 = σ.1 ∧ (∀ a, a ≠ 17 → σ'.2.1 a = σ.2.1 a) ∧ (∀ a, a ≠ 2 → σ'.2.2 a = σ.2.2 a) ∧ ∀ k, k < m → σ'.2.1 17 k = nI ((gv m p L).1 k) := by
  have hd0 : ¬ lg_cmp (lN d) 0 ≤ 0 := by
    rw [lg_cmp_le]
    show ¬ lN d ≤ lN 0
    rw [pk_lLE hd2 (by decide)]; omega
  intro k
  induction k with
  | zero =>
    intro n j v8 σ h1 h2 hc
    obtain ⟨n, rfl⟩ : ∃ q, n = q + 1 := ⟨n - 1, by omega⟩
    have e : j = L := by omega
    subst e
    refine ⟨σ, ?_, rfl, fun _ _ => rfl, fun _ _ => rfl, fun k hk => (hc k hk).1⟩
    show ms_R_share_122 (ml_R_share_122 n) v1 (nI m) (lN d) (lN 0) v8 σ = _
    unfold ms_R_share_122
    rw [if_neg hd0, if_pos (by decide)]
  | succ k ih =>
    intro n j v8 σ h1 h2 hc
    obtain ⟨n, rfl⟩ : ∃ q, n = q + 1 := ⟨n - 1, by omega⟩
    have hr' := gv_2 (m := m) (B := 2 ^ 61) hr j
    have hb := bm_lt (r := (gv m p j).2) hm
    obtain ⟨v9, g1⟩ := giveR hm6 (r := (gv m p j).2) (fun k hk => by have := hr' k hk; omega) v1 (lN d) (lN (k + 1)) (m - 1) 4096 1 σ (by omega) (by omega) (by decide) (fun k hk => (hc k hk).2)
    have b1 : bm (gv m p j).2 1 = 0 := by show (if _ < _ then 0 else 0) = 0; split <;> rfl
    rw [b1] at g1
    have g1' : ml_R_share_142 4096 v1 (nI m) (lN d) (lN (k + 1)) 0 1 σ = _ := g1
    have hk0 : ¬ lg_cmp (lN (k + 1)) 0 ≤ 0 := by
      rw [lg_cmp_le]
      show ¬ lN (k + 1) ≤ lN 0
      rw [pk_lLE (by omega) (by decide)]; omega
    show ∃ σ', ms_R_share_122 (ml_R_share_122 n) v1 (nI m) (lN d) (lN (k + 1)) v8 σ = _ ∧ _
    unfold ms_R_share_122
    have T1 : ∀ {α : Type} (o : Option α), tg (nI (bm (gv m p j).2 m)) 6 o = o := fun o => tg_n (by omega) (by decide)
    have C1 : (nI (bm (gv m p j).2 m)).toNatClampNeg = bm (gv m p j).2 m := nI_clamp (by omega)
    have e1 : lN (k + 1) - 1 = lN k := rI_s k
    rw [if_neg hd0, if_neg hk0, g1', tb1_s]
    simp only [T1, C1, e1]
    obtain ⟨σ', r1, r2, r3, r3', r4⟩ := ih n (j + 1) (nI (bm (gv m p j).2 m)) (tJ (tI σ 17 (bm (gv m p j).2 m) (σ.2.1 17 (bm (gv m p j).2 m) + 1)) 2 (bm (gv m p j).2 m) (-1)) (by omega) (by omega) (fun k hk => by
      show (tI σ 17 (bm (gv m p j).2 m) (σ.2.1 17 (bm (gv m p j).2 m) + 1)).2.1 17 k = nI (if k = bm (gv m p j).2 m then (gv m p j).1 k + 1 else (gv m p j).1 k) ∧ (tJ (tI σ 17 (bm (gv m p j).2 m) (σ.2.1 17 (bm (gv m p j).2 m) + 1)) 2 (bm (gv m p j).2 m) (-1)).2.2 2 k = rI (if k = bm (gv m p j).2 m then 0 else (gv m p j).2 k)
      rw [tI_at, tJ_at]
      split
      · rename_i e
        rw [← e, (hc k hk).1, nI_1]; exact ⟨rfl, rfl⟩
      · exact hc k hk)
    exact ⟨σ', r1, r2, fun a ha => by rw [r3 a ha]; exact tI_ne ha, fun a ha => by rw [r3' a ha]; exact tJ_ne ha, r4⟩
theorem partsR {m n : Nat} (hm : 0 < m) (hm6 : m ≤ 6) (hn : n ≤ 1000000) {num : Nat → Nat} (hnum : ∀ k, k < m → num k ≤ 1000000000) (hd : 0 < sm m num) : ∀ (k f i : Nat) (σ : tS), i + k = m → k < f → (∀ k, k < m → σ.2.2 1 k = lN (num k)) → (∀ k, k < i → σ.2.1 17 k = nI (sb n (sm m num) num k) ∧ σ.2.2 2 k = rI (sq n (sm m num) num k)) → ∃ σ', ml_R_share_36 f (lN n) (nI m) (lN (sm m num)) (lN (n - sm i (sb n (sm m num) num))) (nI i) σ = some σ' ∧ σ'.1 = σ.1 ∧ (∀ a, a ≠ 17 → σ'.2.1 a = σ.2.1 a) ∧ (∀ a, a ≠ 2 → σ'.2.2 a = σ.2.2 a) ∧ ∀ k, k < m → σ'.2.1 17 k = nI (sh n num m k) := by
  have hD : sm m num ≤ 6000000000 := by
    have := sm_bd hnum
    have : m * 1000000000 ≤ 6 * 1000000000 := Nat.mul_le_mul_right _ (by omega)
    omega
  have hle := sb_le (n := n) hd
  have hleft := sb_left (n := n) hd
  intro k
  induction k with
  | zero =>
    intro f i σ h1 h2 hc hs
    obtain ⟨f, rfl⟩ : ∃ q, f = q + 1 := ⟨f - 1, by omega⟩
    have e : i = m := by omega
    subst e
    show ∃ σ', ms_R_share_36 (ml_R_share_36 f) (lN n) (nI i) (lN (sm i num)) (lN (n - sm i (sb n (sm i num) num))) (nI i) σ = _ ∧ _
    unfold ms_R_share_36
    rw [if_pos (Int32.le_refl _)]
    obtain ⟨σ', r1, r2, r3, r3', r4⟩ := givesR hm hm6 (p := (sb n (sm i num) num, sq n (sm i num) num)) (fun k hk => by
      show n * num k % sm i num + 1 ≤ _
      have := Nat.mod_lt (n * num k) hd
      omega) (n - sm i (sb n (sm i num) num)) (sm i num) (by omega) hd (by omega) (lN n) (n - sm i (sb n (sm i num) num)) 4096 0 (nI i) σ (by omega) (by omega) hs
    refine ⟨σ', r1, r2, r3, r3', fun k hk => ?_⟩
    rw [r4 k hk]
    unfold sh
    rw [if_neg (by omega)]
  | succ k ih =>
    intro f i σ h1 h2 hc hs
    obtain ⟨f, rfl⟩ : ∃ q, f = q + 1 := ⟨f - 1, by omega⟩
    have hx : n * num i ≤ 1000000 * 1000000000 := Nat.mul_le_mul hn (hnum i (by omega))
    have hbn : sm (i + 1) (sb n (sm m num) num) ≤ n := by
      have := sm_mo (f := sb n (sm m num) num) (m := i + 1) (m - (i + 1))
      rw [Nat.add_sub_cancel' (by omega)] at this
      omega
    have hbs : sm (i + 1) (sb n (sm m num) num) = sm i (sb n (sm m num) num) + sb n (sm m num) num i := rfl
    have hbe : sb n (sm m num) num i = n * num i / sm m num := rfl
    show ∃ σ', ms_R_share_36 (ml_R_share_36 f) (lN n) (nI m) (lN (sm m num)) (lN (n - sm i (sb n (sm m num) num))) (nI i) σ = _ ∧ _
    unfold ms_R_share_36
    have T1 : ∀ {α : Type} (o : Option α), tg (nI i) 6 o = o := fun o => tg_n (by omega) (by decide)
    have C1 : (nI i).toNatClampNeg = i := nI_clamp (by omega)
    have T2 : ∀ {α : Type} (o : Option α), tz (lN (sm m num)) o = o := fun o => tz_n hd (by omega)
    have hd0 : ¬ lg_cmp (lN (sm m num)) 0 = 0 := by
      rw [lg_cmp_eq]
      show ¬ lN (sm m num) = lN 0
      rw [pk_lEQ (by omega) (by decide)]; omega
    rw [if_neg (nI_ge (by omega) (by omega)), if_neg hd0, if_neg hd0]
    simp only [T1, C1, T2, hc i (by omega), nI_1, tI_at, ↓reduceIte]
    rw [lN_mul, pk_lRem (by omega) hd (by omega), pk_lDiv (by omega) hd (by omega), lN_i]
    have e1 : lN (n - sm i (sb n (sm m num) num)) - (nI (n * num i / sm m num)).toInt64 = lN (n - sm (i + 1) (sb n (sm m num) num)) := by
      rw [nI_l (by omega), lN_sub (by omega), hbs, Nat.sub_sub, hbe]
    rw [e1]
    obtain ⟨σ', r1, r2, r3, r3', r4⟩ := ih f (i + 1) (tJ (tI σ 17 i (nI (n * num i / sm m num))) 2 i (lN (n * num i % sm m num))) (by omega) (by omega) (fun k hk => by
      rw [tJ_ne (by decide)]; exact hc k hk) (fun k hk => by
      show (tI σ 17 i (nI (n * num i / sm m num))).2.1 17 k = _ ∧ _
      rw [tI_at, tJ_at]
      split
      · rename_i e; rw [e]; exact ⟨rfl, (rI_s _).symm⟩
      · exact hs k (by omega))
    exact ⟨σ', r1, r2, fun a ha => by rw [r3 a ha]; exact tI_ne ha, fun a ha => by rw [r3' a ha]; exact tJ_ne ha, r4⟩
theorem zerosR {m : Nat} (hm6 : m ≤ 6) (v1 : Int64) : ∀ (k f i : Nat) (v6 : Int64) (σ : tS), i + k = m → k < f → (∀ k, k < i → σ.2.1 17 k = 0) → ∃ σ', ml_R_share_36 f v1 (nI m) 0 v6 (nI i) σ = some σ' ∧ σ'.1 = σ.1 ∧ (∀ a, a ≠ 17 → σ'.2.1 a = σ.2.1 a) ∧ (∀ a, a ≠ 2 → σ'.2.2 a = σ.2.2 a) ∧ ∀ k, k < m → σ'.2.1 17 k = 0 := by
  intro k
  induction k with
  | zero =>
    intro f i v6 σ h1 h2 hs
    obtain ⟨f, rfl⟩ : ∃ q, f = q + 1 := ⟨f - 1, by omega⟩
    have e : i = m := by omega
    subst e
    refine ⟨σ, ?_, rfl, fun _ _ => rfl, fun _ _ => rfl, hs⟩
    show ms_R_share_36 (ml_R_share_36 f) v1 (nI i) 0 v6 (nI i) σ = _
    unfold ms_R_share_36
    rw [if_pos (Int32.le_refl _)]
    show ms_R_share_122 (ml_R_share_122 4095) v1 (nI i) 0 v6 (nI i) σ = _
    unfold ms_R_share_122
    rw [if_pos (by decide)]
  | succ k ih =>
    intro f i v6 σ h1 h2 hs
    obtain ⟨f, rfl⟩ : ∃ q, f = q + 1 := ⟨f - 1, by omega⟩
    show ∃ σ', ms_R_share_36 (ml_R_share_36 f) v1 (nI m) 0 v6 (nI i) σ = _ ∧ _
    unfold ms_R_share_36
    have T1 : ∀ {α : Type} (o : Option α), tg (nI i) 6 o = o := fun o => tg_n (by omega) (by decide)
    have C1 : (nI i).toNatClampNeg = i := nI_clamp (by omega)
    have h0 : lg_cmp (0 : Int64) 0 = 0 := by decide
    rw [if_neg (nI_ge (by omega) (by omega)), if_pos h0, if_pos h0]
    simp only [T1, C1, nI_1]
    obtain ⟨σ', r1, r2, r3, r3', r4⟩ := ih f (i + 1) (v6 - ((tI σ 17 i 0).2.1 17 i).toInt64) (tJ (tI σ 17 i 0) 2 i 0) (by omega) (by omega) (fun k hk => by
      show (tI σ 17 i 0).2.1 17 k = 0
      rw [tI_at]
      split
      · rfl
      · exact hs k (by omega))
    exact ⟨σ', r1, r2, fun a ha => by rw [r3 a ha]; exact tI_ne ha, fun a ha => by rw [r3' a ha]; exact tJ_ne ha, r4⟩
theorem sharesR {m n : Nat} (hm : 0 < m) (hm6 : m ≤ 6) (hn : n ≤ 1000000) {num : Nat → Nat} (hnum : ∀ k, k < m → num k ≤ 1000000000) : ∀ (k f i : Nat) (σ : tS), i + k = m → k < f → (∀ k, k < m → σ.2.2 1 k = lN (num k)) → ∃ σ', ml_R_share_6 f (lN n) (nI m) (lN (sm i num)) (nI i) σ = some σ' ∧ σ'.1 = σ.1 ∧ (∀ a, a ≠ 17 → σ'.2.1 a = σ.2.1 a) ∧ (∀ a, a ≠ 2 → σ'.2.2 a = σ.2.2 a) ∧ ∀ k, k < m → σ'.2.1 17 k = nI (sh n num m k) := by
  intro k
  induction k with
  | zero =>
    intro f i σ h1 h2 hc
    obtain ⟨f, rfl⟩ : ∃ q, f = q + 1 := ⟨f - 1, by omega⟩
    have e : i = m := by omega
    subst e
    show ∃ σ', ms_R_share_6 (ml_R_share_6 f) (lN n) (nI i) (lN (sm i num)) (nI i) σ = _ ∧ _
    unfold ms_R_share_6
    rw [if_pos (Int32.le_refl _)]
    by_cases h0 : sm i num = 0
    · obtain ⟨σ', r1, r2, r3, r3', r4⟩ := zerosR hm6 (lN n) i 4096 0 (lN n) σ (by omega) (by omega) (fun k hk => by omega)
      refine ⟨σ', by rw [h0]; exact r1, r2, r3, r3', fun k hk => ?_⟩
      rw [r4 k hk]; unfold sh; rw [if_pos h0]; rfl
    · exact partsR hm hm6 hn hnum (by omega) i 4096 0 σ (by omega) (by omega) hc (fun k hk => by omega)
  | succ k ih =>
    intro f i σ h1 h2 hc
    obtain ⟨f, rfl⟩ : ∃ q, f = q + 1 := ⟨f - 1, by omega⟩
    show ∃ σ', ms_R_share_6 (ml_R_share_6 f) (lN n) (nI m) (lN (sm i num)) (nI i) σ = _ ∧ _
    unfold ms_R_share_6
    rw [if_neg (nI_ge (by omega) (by omega)), tg_n (by omega) (by decide), nI_clamp (by omega), hc i (by omega), lN_add, nI_1]
    exact ih f (i + 1) σ (by omega) (by omega) hc
theorem shareR {m n : Nat} (hm : 0 < m) (hm6 : m ≤ 6) (hn : n ≤ 1000000) {num : Nat → Nat} (hnum : ∀ k, k < m → num k ≤ 1000000000) {σ : tS} (hc : ∀ k, k < m → σ.2.2 1 k = lN (num k)) : ∃ σ', mf_R_share (lN n) (nI m) σ = some σ' ∧ σ'.1 = σ.1 ∧ (∀ a, a ≠ 17 → σ'.2.1 a = σ.2.1 a) ∧ (∀ a, a ≠ 2 → σ'.2.2 a = σ.2.2 a) ∧ ∀ k, k < m → σ'.2.1 17 k = nI (sh n num m k) :=
  sharesR hm hm6 hn hnum m 4096 0 σ (by omega) (by omega) hc
