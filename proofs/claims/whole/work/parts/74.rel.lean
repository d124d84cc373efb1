/-! THE CLASS'S AND THE REFERENCE'S STATES SIDE BY SIDE: bounds of the class's (Bnd), what the reference holds then (Rf) -/
def qn (A : tS) (a k : Nat) : Nat := (A.2.1 a k).toNatClampNeg
def qN (A : tS) : Nat := (A.1 0).toNatClampNeg
def qZ (A : tS) : Nat := (A.1 1).toNatClampNeg
def qS (A : tS) : Nat := (A.1 2).toNatClampNeg
def qP (A : tS) : Nat := (A.1 3).toNatClampNeg
def bs (a : Nat) : Nat := if a < 3 then 6 else if a < 5 then 36 else if a = 5 then 0 else if a = 6 then 108 else if a < 14 then 40 else if a = 15 then 40 else 0
def bh (a : Nat) : Nat := if a = 0 then 11 else if a < 3 then 100000 else if a = 3 then 1000 else if a = 4 then 1000000 else if a = 6 then 1000 else if a < 9 then 11 else if a = 11 then 1000000 else if a = 13 then 1 else if a = 15 then 500000000 else 1000
def rm (a : Nat) : Nat := if a < 3 then a else if a = 3 then 11 else if a = 4 then 12 else if a = 5 then 16 else if a = 6 then 13 else if a < 11 then a - 4 else if a = 12 then 8 else if a = 19 then 14 else if a = 20 then 15 else 100 + a
def rs (a : Nat) : Nat := if a < 3 then 6 else if a < 5 then 36 else if a = 5 then 6 else if a = 6 then 108 else if a < 11 then 40 else if a = 12 then 40 else if a = 19 then 36 else if a = 20 then 1440 else 0
def Bg (A : tS) : Prop := (A.1 0 = nI (qN A) ∧ qN A ≤ 12) ∧ (A.1 1 = nI (qZ A) ∧ qZ A ≤ 6) ∧ (A.1 2 = nI (qS A) ∧ qS A ≤ 40) ∧ (A.1 3 = nI (qP A) ∧ qP A ≤ 8) ∧ ∀ a k, k < bs a → A.2.1 a k = nI (qn A a k) ∧ qn A a k ≤ bh a
def Bf (A : tS) : Prop := (∀ k, k < 6 → A.2.1 5 k = -1 ∨ (A.2.1 5 k = nI (qn A 5 k) ∧ 1 ≤ qn A 5 k ∧ qn A 5 k ≤ 1000000)) ∧ ∀ k, qZ A ≤ k → k < 6 → A.2.1 5 k = -1
def Bc (A : tS) : Prop := (∀ k, k < 40 → A.2.1 14 k = -1 ∨ (A.2.1 14 k = nI (qn A 14 k) ∧ qn A 14 k ≤ 1000000)) ∧ ∀ k, qS A ≤ k → k < 40 → A.2.1 14 k = -1
def Br (A : tS) : Prop := ∀ k, k < 40 → 1 ≤ qn A 11 k
def Bp (A : tS) : Prop := (∀ k, k < qZ A → qn A 0 k < qN A) ∧ ∀ k, k < qS A → qn A 7 k < qN A ∧ qn A 8 k < qN A
def Bz (A : tS) : Prop := ∀ i j, i < 6 → j < 6 → (qZ A ≤ i ∨ qZ A ≤ j) → A.2.1 4 (6 * i + j) = 0
def Bnd (A : tS) : Prop := Bg A ∧ Bf A ∧ Bc A ∧ Br A ∧ Bp A ∧ Bz A
def Rf (τ A : tS) : Prop := (τ.1 1 = A.1 0 ∧ τ.1 2 = A.1 1 ∧ τ.1 3 = A.1 2 ∧ τ.1 4 = A.1 3 ∧ τ.1 5 = A.1 4) ∧ (∀ a k, k < rs a → τ.2.1 (rm a) k = A.2.1 a k) ∧ (∀ k, k < qS A → τ.2.1 7 k = A.2.1 11 k) ∧ (∀ k, k < qS A → τ.2.1 10 k = A.2.1 14 k) ∧ (∀ k, k < 40 → τ.2.1 9 k = if qS A ≤ k ∨ A.2.1 13 k ≠ 0 then 0 else 1) ∧ ∀ k, k < 40 → τ.2.2 0 k = (A.2.1 15 k).toInt64
def Rel (σ τ : tS) : Prop := Bnd σ ∧ Rf τ σ
/-! reading a changed state -/
theorem tI_ne {A : tS} {a b k : Nat} {v : Int32} (h : b ≠ a) : (tI A a k v).2.1 b = A.2.1 b := if_neg h
theorem tI_at {A : tS} {a k j : Nat} {v : Int32} : (tI A a k v).2.1 a j = if j = k then v else A.2.1 a j := by
  show (if a = a then upd (A.2.1 a) k v else A.2.1 a) j = _
  rw [if_pos rfl]; rfl
theorem tJ_ne {A : tS} {a b k : Nat} {v : Int64} (h : b ≠ a) : (tJ A a k v).2.2 b = A.2.2 b := if_neg h
theorem tJ_at {A : tS} {a k j : Nat} {v : Int64} : (tJ A a k v).2.2 a j = if j = k then v else A.2.2 a j := by
  show (if a = a then vp_updL (A.2.2 a) k v else A.2.2 a) j = _
  rw [if_pos rfl]; rfl
theorem tF_at {A : tS} {i j : Nat} {v : Int32} : (tF A i v).1 j = if j = i then v else A.1 j := rfl
theorem tF_ne {A : tS} {i j : Nat} {v : Int32} (h : j ≠ i) : (tF A i v).1 j = A.1 j := if_neg h
theorem tIf_at {A : tS} {a j : Nat} {v : Int32} : (tIf A a v).2.1 a j = v := by
  show (if a = a then (fun _ => v) else A.2.1 a) j = _
  rw [if_pos rfl]
theorem tIf_ne {A : tS} {a b : Nat} {v : Int32} (h : b ≠ a) : (tIf A a v).2.1 b = A.2.1 b := if_neg h
theorem tJf_at {A : tS} {a j : Nat} {v : Int64} : (tJf A a v).2.2 a j = v := by
  show (if a = a then (fun _ => v) else A.2.2 a) j = _
  rw [if_pos rfl]
theorem tJf_ne {A : tS} {a b : Nat} {v : Int64} (h : b ≠ a) : (tJf A a v).2.2 b = A.2.2 b := if_neg h
theorem tg_n {α : Type} {i n : Nat} {k : Option α} (h : i < n) (hn : n < 2 ^ 31) : tg (nI i) n k = k := if_neg (nI_in h hn)
theorem tg_x {α : Type} {x : Int32} {i n : Nat} {k : Option α} (hx : x = nI i) (h : i < n) (hn : n < 2 ^ 31) : tg x n k = k := by rw [hx]; exact tg_n h hn
theorem tb_0 {α : Type} {k : Option α} : tb 0 k = k := if_pos (Or.inl rfl)
theorem tb_1 {α : Type} {k : Option α} : tb 1 k = k := if_pos (Or.inr rfl)
theorem tb1_s {α β : Type} {a : α} {k : α → Option β} : tb1 (some a) k = k a := rfl
theorem tb2_s {α β : Type} {a : α} {s : tS} {k : α → tS → Option β} : tb2 (some (a, s)) k = k a s := rfl
theorem tx_s {α : Type} {a : α} {k : Option α} : tx (some a) k = some a := rfl
theorem tx_n {α : Type} {k : Option α} : tx none k = k := rfl
theorem lf1_s {k0 : Nat} {σ : tS} {f : Nat → Int64} {n : Option (Int32 × tS × (Nat → Int64))} : lf1 k0 (some k0) σ f n = some (1, σ, f) := if_pos rfl
theorem lf1_n {k0 : Nat} {σ : tS} {f : Nat → Int64} {n : Option (Int32 × tS × (Nat → Int64))} : lf1 k0 none σ f n = n := rfl
theorem lf2_1 {σ : tS} {f : Nat → Int64} {n : Option (Int32 × tS × (Nat → Int64))} : lf2 (some 1) σ f n = some (1, σ, f) := rfl
theorem lf2_2 {σ : tS} {f : Nat → Int64} {n : Option (Int32 × tS × (Nat → Int64))} : lf2 (some 2) σ f n = some (2, σ, f) := rfl
theorem lf2_n {σ : tS} {f : Nat → Int64} {n : Option (Int32 × tS × (Nat → Int64))} : lf2 none σ f n = n := rfl
theorem i10 : ¬ (1 : Int32) ≤ 0 := by decide
theorem i20 : ¬ (2 : Int32) ≤ 0 := by decide
theorem i00 : (0 : Int32) ≤ 0 := by decide
theorem i1n : ¬ (1 : Int32) = 0 := by decide
theorem i0e : (0 : Int32) = 0 := rfl
/-! the reference's code and its scratch rows are not related -/
theorem Rf_F0 {τ A : tS} {v : Int32} (h : Rf τ A) : Rf (tF τ 0 v) A := h
theorem Rf_F6 {τ A : tS} {v : Int32} (h : Rf τ A) : Rf (tF τ 6 v) A := h
theorem rm_ne (a : Nat) : rm a ≠ 17 ∧ rm a ≠ 18 ∧ rm a ≠ 19 ∧ rm a ≠ 7 ∧ rm a ≠ 10 ∧ rm a ≠ 9 := by
  unfold rm
  refine ⟨?_, ?_, ?_, ?_, ?_, ?_⟩ <;> (repeat' split) <;> omega
theorem rm_inj {a b : Nat} (h : rm a = rm b) : a = b := by
  unfold rm at h
  revert h
  (repeat' split) <;> omega
theorem Rf_Is {τ A : tS} {a k : Nat} {v : Int32} (ha : a = 17 ∨ a = 18 ∨ a = 19) (h : Rf τ A) : Rf (tI τ a k v) A := by
  obtain ⟨h1, h2, h3, h4, h5, h6⟩ := h
  refine ⟨h1, fun b j hj => ?_, fun j hj => ?_, fun j hj => ?_, fun j hj => ?_, h6⟩
  · rw [tI_ne (by have := rm_ne b; omega)]; exact h2 b j hj
  · rw [tI_ne (by omega)]; exact h3 j hj
  · rw [tI_ne (by omega)]; exact h4 j hj
  · rw [tI_ne (by omega)]; exact h5 j hj
theorem Rf_Js {τ A : tS} {a k : Nat} {v : Int64} (ha : a ≠ 0) (h : Rf τ A) : Rf (tJ τ a k v) A := by
  obtain ⟨h1, h2, h3, h4, h5, h6⟩ := h
  exact ⟨h1, h2, h3, h4, h5, fun j hj => by rw [tJ_ne (Ne.symm ha)]; exact h6 j hj⟩
theorem qS_I {A : tS} {a k : Nat} {v : Int32} : qS (tI A a k v) = qS A := rfl
theorem qn_ne {A : tS} {a b k j : Nat} {v : Int32} (h : b ≠ a) : qn (tI A a k v) b j = qn A b j := by unfold qn; rw [tI_ne h]
theorem qn_at {A : tS} {a k j : Nat} {v : Int32} : qn (tI A a k v) a j = if j = k then v.toNatClampNeg else qn A a j := by
  unfold qn; rw [tI_at]; split <;> rfl
theorem bh_lt (a : Nat) : bh a < 2 ^ 31 := by unfold bh; (repeat' split) <;> decide
/-- an array with a twin, both written alike -/
theorem Rf_I {τ A : tS} {a k : Nat} {v : Int32} (ha : a ≠ 11 ∧ a ≠ 14 ∧ a ≠ 13 ∧ a ≠ 15) (h : Rf τ A) : Rf (tI τ (rm a) k v) (tI A a k v) := by
  obtain ⟨h1, h2, h3, h4, h5, h6⟩ := h
  have hr := rm_ne a
  refine ⟨h1, fun b j hj => ?_, fun j hj => ?_, fun j hj => ?_, fun j hj => ?_, fun j hj => ?_⟩
  · by_cases hb : b = a
    · subst hb
      rw [tI_at, tI_at, h2 b j hj]
    · rw [tI_ne hb, tI_ne (fun e => hb (rm_inj e))]; exact h2 b j hj
  · rw [tI_ne (by omega), tI_ne (by omega)]; exact h3 j hj
  · rw [tI_ne (by omega), tI_ne (by omega)]; exact h4 j hj
  · rw [tI_ne (by omega), tI_ne (by omega)]; exact h5 j hj
  · rw [tI_ne (by omega)]; exact h6 j hj
theorem Bg_I {A : tS} {a k n : Nat} (h : Bg A) (hn : n ≤ bh a) : Bg (tI A a k (nI n)) := by
  obtain ⟨h1, h2, h3, h4, h5⟩ := h
  refine ⟨h1, h2, h3, h4, fun b j hj => ?_⟩
  by_cases hb : b = a
  · subst hb
    rw [tI_at, qn_at]
    have := bh_lt b
    split
    · rw [nI_clamp (by omega)]; exact ⟨rfl, hn⟩
    · exact h5 b j hj
  · rw [tI_ne hb, qn_ne hb]; exact h5 b j hj
theorem Bf_I {A : tS} {a k : Nat} {v : Int32} (h : Bf A) (ha : a ≠ 5) : Bf (tI A a k v) := by
  refine ⟨fun j hj => ?_, fun j h1 h2 => ?_⟩
  · rw [tI_ne (Ne.symm ha), qn_ne (Ne.symm ha)]; exact h.1 j hj
  · rw [tI_ne (Ne.symm ha)]; exact h.2 j h1 h2
theorem Bc_I {A : tS} {a k : Nat} {v : Int32} (h : Bc A) (ha : a ≠ 14) : Bc (tI A a k v) := by
  refine ⟨fun j hj => ?_, fun j h1 h2 => ?_⟩
  · rw [tI_ne (Ne.symm ha), qn_ne (Ne.symm ha)]; exact h.1 j hj
  · rw [tI_ne (Ne.symm ha)]; exact h.2 j h1 h2
theorem Br_I {A : tS} {a k : Nat} {v : Int32} (h : Br A) (ha : a ≠ 11) : Br (tI A a k v) := fun j hj => by rw [qn_ne (Ne.symm ha)]; exact h j hj
theorem Bp_I {A : tS} {a k : Nat} {v : Int32} (h : Bp A) (ha : a ≠ 0 ∧ a ≠ 7 ∧ a ≠ 8) : Bp (tI A a k v) := by
  refine ⟨fun j hj => ?_, fun j hj => ?_⟩
  · rw [qn_ne (Ne.symm ha.1)]; exact h.1 j hj
  · rw [qn_ne (Ne.symm ha.2.1), qn_ne (Ne.symm ha.2.2)]; exact h.2 j hj
theorem Bz_I {A : tS} {a k : Nat} {v : Int32} (h : Bz A) (ha : a ≠ 4) : Bz (tI A a k v) := fun i j hi hj hz => by
  rw [tI_ne (Ne.symm ha)]; exact h i j hi hj hz
theorem Bnd_I {A : tS} {a k n : Nat} (h : Bnd A) (ha : a ≠ 0 ∧ a ≠ 4 ∧ a ≠ 5 ∧ a ≠ 7 ∧ a ≠ 8 ∧ a ≠ 11 ∧ a ≠ 14) (hn : n ≤ bh a) : Bnd (tI A a k (nI n)) :=
  ⟨Bg_I h.1 hn, Bf_I h.2.1 (by omega), Bc_I h.2.2.1 (by omega), Br_I h.2.2.2.1 (by omega), Bp_I h.2.2.2.2.1 (by omega), Bz_I h.2.2.2.2.2 (by omega)⟩
/-! the guards -/
theorem nd_of (p : Int32) {n : Nat} (hn : n < 2 ^ 30) : (∃ k, k < n ∧ p = nI k ∧ ¬ p < 0 ∧ p < nI n ∧ ¬ (nI n - 1 < p)) ∨ p < 0 ∨ (¬ p < 0 ∧ ¬ p < nI n ∧ nI n - 1 < p) := by
  have e1 : (nI n - 1).toInt = (n : Int) - (1 : Nat) := pk_sub_toInt (b := 1) hn (by decide)
  rcases pk_ix p (n := n) (by omega) with h | h | ⟨k, hk, rfl⟩
  · exact Or.inr (Or.inl h)
  · refine Or.inr (Or.inr ⟨?_, ?_, ?_⟩)
    · rw [Int32.le_iff_toInt_le, nI_toInt (by omega)] at h
      rw [Int32.lt_iff_toInt_lt]
      have : (0 : Int32).toInt = 0 := rfl
      omega
    · rw [Int32.le_iff_toInt_le, nI_toInt (by omega)] at h
      rw [Int32.lt_iff_toInt_lt, nI_toInt (by omega)]
      omega
    · rw [Int32.le_iff_toInt_le, nI_toInt (by omega)] at h
      rw [Int32.lt_iff_toInt_lt, e1]
      omega
  · refine Or.inl ⟨k, hk, rfl, nI_pos (by omega), nI_lt hk (by omega), ?_⟩
    rw [Int32.lt_iff_toInt_lt, e1, nI_toInt (by omega)]
    omega
theorem nd_isIn0 {τ : tS} {p x : Int32} (h : p < 0 ∨ (¬ p < 0 ∧ ¬ p < x ∧ x - 1 < p)) : mf_R_isIn p 0 (x - 1) τ = some (0, τ) := by
  unfold mf_R_isIn
  rcases h with h | ⟨h1, -, h2⟩
  · rw [if_pos h, tb_0]
  · rw [if_neg h1, if_pos h2, tb_0]
theorem nd_isIn1 {τ : tS} {p x : Int32} (h1 : ¬ p < 0) (h2 : ¬ (x - 1 < p)) : mf_R_isIn p 0 (x - 1) τ = some (1, τ) := by
  unfold mf_R_isIn
  rw [if_neg h1, if_neg h2, tb_1]
theorem nd_node {σ τ : tS} (h : Rel σ τ) (p : Int32) : (mx_T_needNode p σ = some 1 ∧ mf_R_isNode p τ = some (0, τ)) ∨ ∃ k, k < qN σ ∧ p = nI k ∧ mx_T_needNode p σ = none ∧ mf_T_needNode p σ = some σ ∧ mf_R_isNode p τ = some (1, τ) := by
  obtain ⟨⟨⟨⟨e, hb⟩, -⟩, -⟩, ⟨e1, -⟩, -⟩ := h
  unfold mx_T_needNode mf_T_needNode mf_R_isNode
  rw [e1, e]
  rcases nd_of p (n := qN σ) (by omega) with ⟨k, hk, hp, g1, g2, g3⟩ | g
  · exact Or.inr ⟨k, hk, hp, by rw [if_neg g1, if_pos g2], by rw [if_neg g1, if_pos g2], by rw [nd_isIn1 g1 g3, tb2_s, tb_1]⟩
  · refine Or.inl ⟨?_, by rw [nd_isIn0 g, tb2_s, tb_0]⟩
    rcases g with g | ⟨g1, g2, -⟩
    · rw [if_pos g]
    · rw [if_neg g1, if_neg g2]
theorem nd_zone {σ τ : tS} (h : Rel σ τ) (p : Int32) : (mx_T_needZone p σ = some 1 ∧ mf_R_isZone p τ = some (0, τ)) ∨ ∃ k, k < qZ σ ∧ p = nI k ∧ mx_T_needZone p σ = none ∧ mf_T_needZone p σ = some σ ∧ mf_R_isZone p τ = some (1, τ) := by
  obtain ⟨⟨⟨-, ⟨e, hb⟩, -⟩, -⟩, ⟨-, e1, -⟩, -⟩ := h
  unfold mx_T_needZone mf_T_needZone mf_R_isZone
  rw [e1, e]
  rcases nd_of p (n := qZ σ) (by omega) with ⟨k, hk, hp, g1, g2, g3⟩ | g
  · exact Or.inr ⟨k, hk, hp, by rw [if_neg g1, if_pos g2], by rw [if_neg g1, if_pos g2], by rw [nd_isIn1 g1 g3, tb2_s, tb_1]⟩
  · refine Or.inl ⟨?_, by rw [nd_isIn0 g, tb2_s, tb_0]⟩
    rcases g with g | ⟨g1, g2, -⟩
    · rw [if_pos g]
    · rw [if_neg g1, if_neg g2]
theorem nd_street {σ τ : tS} (h : Rel σ τ) (p : Int32) : (mx_T_needStreet p σ = some 1 ∧ mf_R_isStreet p τ = some (0, τ)) ∨ ∃ k, k < qS σ ∧ p = nI k ∧ mx_T_needStreet p σ = none ∧ mf_T_needStreet p σ = some σ ∧ mf_R_isStreet p τ = some (1, τ) := by
  obtain ⟨⟨⟨-, -, ⟨e, hb⟩, -⟩, -⟩, ⟨-, -, e1, -⟩, -⟩ := h
  unfold mx_T_needStreet mf_T_needStreet mf_R_isStreet
  rw [e1, e]
  rcases nd_of p (n := qS σ) (by omega) with ⟨k, hk, hp, g1, g2, g3⟩ | g
  · exact Or.inr ⟨k, hk, hp, by rw [if_neg g1, if_pos g2], by rw [if_neg g1, if_pos g2], by rw [nd_isIn1 g1 g3, tb2_s, tb_1]⟩
  · refine Or.inl ⟨?_, by rw [nd_isIn0 g, tb2_s, tb_0]⟩
    rcases g with g | ⟨g1, g2, -⟩
    · rw [if_pos g]
    · rw [if_neg g1, if_neg g2]
theorem nd_pair {τ : tS} {p q : Int32} {a b : Int32} (ha : mf_R_isZone p τ = some (a, τ)) (hb : mf_R_isZone q τ = some (b, τ)) : mf_R_isPair p q τ = some (if a = 0 ∨ b = 0 then 0 else 1, τ) := by
  unfold mf_R_isPair
  rw [ha, tb2_s, hb, tb2_s]
  by_cases h1 : a = 0
  · rw [if_pos h1, tb_0, if_pos (Or.inl h1)]
  · rw [if_neg h1]
    by_cases h2 : b = 0
    · rw [if_pos h2, tb_0, if_pos (Or.inr h2)]
    · rw [if_neg h2, tb_1, if_neg (by simp [h1, h2])]
theorem nd_in (p a b : Int32) (σ τ : tS) : (mx_T_needWithin p a b σ = some 1 ∧ mf_R_isIn p a b τ = some (0, τ)) ∨ (¬ p < a ∧ p ≤ b ∧ mx_T_needWithin p a b σ = none ∧ mf_T_needWithin p a b σ = some σ ∧ mf_R_isIn p a b τ = some (1, τ)) := by
  unfold mx_T_needWithin mf_T_needWithin mf_R_isIn
  by_cases h1 : p < a
  · exact Or.inl ⟨by rw [if_pos h1], by rw [if_pos h1, tb_0]⟩
  · by_cases h2 : p ≤ b
    · have h3 : ¬ b < p := by rw [Int32.lt_iff_toInt_lt]; rw [Int32.le_iff_toInt_le] at h2; omega
      exact Or.inr ⟨h1, h2, by rw [if_neg h1, if_pos h2], by rw [if_neg h1, if_pos h2], by rw [if_neg h1, if_neg h3, tb_1]⟩
    · have h3 : b < p := by rw [Int32.lt_iff_toInt_lt]; rw [Int32.le_iff_toInt_le] at h2; omega
      exact Or.inl ⟨by rw [if_neg h1, if_neg h2], by rw [if_neg h1, if_pos h3, tb_0]⟩
theorem nd_nat {p b : Int32} {n : Nat} (hb : b.toInt = n) (h1 : ¬ p < 0) (h2 : p ≤ b) : ∃ j, j ≤ n ∧ p = nI j := nI_of2 hb h1 h2
/-! the ends of a call -/
theorem op_fail {σ τ : tS} {f : Nat → Int64} {L : Option (Int32 × tS × (Nat → Int64))} {R : Option (Int32 × tS)} (h : Rel σ τ) (e1 : L = some (1, σ, f)) (e2 : R = some (0, tF τ 0 1)) : ∃ (res : Int32 × tS × (Nat → Int64)) (bb : Int32) (τ' : tS), L = some res ∧ R = some (bb, τ') ∧ mf_R_thrown τ' = some (res.1, τ') ∧ (res.1 = 0 → res.2.2 0 = bb.toInt64) ∧ Rel res.2.1 τ' :=
  ⟨(1, σ, f), 0, tF τ 0 1, e1, e2, rfl, fun (q : (1 : Int32) = 0) => absurd q (by decide), h.1, Rf_F0 h.2⟩
theorem op_fail2 {σ τ : tS} {f : Nat → Int64} {L : Option (Int32 × tS × (Nat → Int64))} {R : Option (Int32 × tS)} (h : Rel σ τ) (e1 : L = some (2, σ, f)) (e2 : R = some (0, tF τ 0 2)) : ∃ (res : Int32 × tS × (Nat → Int64)) (bb : Int32) (τ' : tS), L = some res ∧ R = some (bb, τ') ∧ mf_R_thrown τ' = some (res.1, τ') ∧ (res.1 = 0 → res.2.2 0 = bb.toInt64) ∧ Rel res.2.1 τ' :=
  ⟨(2, σ, f), 0, tF τ 0 2, e1, e2, rfl, fun (q : (2 : Int32) = 0) => absurd q (by decide), h.1, Rf_F0 h.2⟩
theorem op_win {σ' τ' : tS} {f : Nat → Int64} {v : Int32} {L : Option (Int32 × tS × (Nat → Int64))} {R : Option (Int32 × tS)} (e1 : L = some (0, σ', vp_updL f 0 v.toInt64)) (e2 : R = some (v, τ')) (h0 : τ'.1 0 = 0) (h : Rel σ' τ') : ∃ (res : Int32 × tS × (Nat → Int64)) (bb : Int32) (τ' : tS), L = some res ∧ R = some (bb, τ') ∧ mf_R_thrown τ' = some (res.1, τ') ∧ (res.1 = 0 → res.2.2 0 = bb.toInt64) ∧ Rel res.2.1 τ' :=
  ⟨_, v, τ', e1, e2, by unfold mf_R_thrown; rw [h0], fun _ => (pk_uLs : vp_updL f 0 v.toInt64 0 = v.toInt64), h⟩
/-! the accesses -/
theorem Bg_q {A : tS} (h : Bnd A) (a : Nat) {k : Nat} (hk : k < bs a) : A.2.1 a k = nI (qn A a k) := (h.1.2.2.2.2 a k hk).1
theorem Bg_b {A : tS} (h : Bnd A) (a : Nat) {k : Nat} (hk : k < bs a) : qn A a k ≤ bh a := (h.1.2.2.2.2 a k hk).2
theorem Bg_N {A : tS} (h : Bnd A) : A.1 0 = nI (qN A) ∧ qN A ≤ 12 := h.1.1
theorem Bg_Z {A : tS} (h : Bnd A) : A.1 1 = nI (qZ A) ∧ qZ A ≤ 6 := h.1.2.1
theorem Bg_S {A : tS} (h : Bnd A) : A.1 2 = nI (qS A) ∧ qS A ≤ 40 := h.1.2.2.1
theorem Bg_P {A : tS} (h : Bnd A) : A.1 3 = nI (qP A) ∧ qP A ≤ 8 := h.1.2.2.2.1
theorem Rf_r {τ A : tS} (h : Rf τ A) (a : Nat) {k : Nat} (hk : k < rs a) : τ.2.1 (rm a) k = A.2.1 a k := h.2.1 a k hk
