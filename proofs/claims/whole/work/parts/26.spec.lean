-- swaps
def fitV (v : VT) (o c t sl : Int) : Int := fitI (v (o + 13 + t) 1) (v (o + 13 + t) 2) (v (o + 13 + t) 3) (v (o + 13 + t) 4) (v (o + 13 + t) 5) (v (o + 13 + t) 6) c (v (o + 5 + c) 0) sl
def wantI (v : VT) (o a x b y sl : Int) : Int := if fitV v o a y sl = 1 ∧ fitV v o b x sl = 1 ∧ v (o + 3) (a * 10 + x) < v (o + 3) (a * 10 + y) ∧ v (o + 3) (b * 10 + y) < v (o + 3) (b * 10 + x) then 1 else 0
theorem wantI_01 (v : VT) (o a x b y sl : Int) : wantI v o a x b y sl = 0 ∨ wantI v o a x b y sl = 1 := bdec
theorem wornI_rng {v : VT} {o c s : Int} (h : 0 ≤ v o 5) (hn : ¬ wornI v o c s = -4) : 0 ≤ wornI v o c s ∧ wornI v o c s < v o 5 ∧ v (o + 13 + wornI v o c s) 0 = s ∧ v (o + 13 + wornI v o c s) 7 = c := by
  rcases wornI_Q (c := c) (s := s) h with ⟨h1, -⟩ | ⟨h1, h2, h3, h4, -⟩
  · exact absurd h1 hn
  · exact ⟨h1, h2, h3, h4⟩
def swp (v : VT) (o sl s a b : Int) : Prop := ¬ wornI v o a s = -4 ∧ ¬ wornI v o b s = -4 ∧ wantI v o a (wornI v o a s) b (wornI v o b s) sl = 1
/-- the first swap, by slots, then by children -/
def swapQ (P : Int → Int → Int → Prop) (nC x : Int) : Prop :=
  (x = -4 ∧ ∀ s a b, 0 ≤ s → s < 2 → 0 ≤ a → a < b → b < nC → ¬ P s a b) ∨
  (∃ s a b, x = 100 * s + 10 * a + b ∧ 0 ≤ s ∧ s < 2 ∧ 0 ≤ a ∧ a < b ∧ b < nC ∧ P s a b ∧ ∀ s' a' b', 0 ≤ s' → 0 ≤ a' → a' < b' → b' < nC → (s' < s ∨ (s' = s ∧ (a' < a ∨ (a' = a ∧ b' < b)))) → ¬ P s' a' b')
def swF (v : VT) (o s a b : Int) : VT := if (0 ≤ wornI v o a s ∧ wornI v o a s < v o 5) ∧ (0 ≤ wornI v o b s ∧ wornI v o b s < v o 5) then upd2 (upd2 v (o + 13 + wornI v o a s) 7 b) (o + 13 + wornI v o b s) 7 a else v
theorem lcmpv_ge {x y : Int} : 0 ≤ lcmpv x y ↔ y ≤ x := by unfold lcmpv; split <;> (try split) <;> omega
theorem lcmpv_le {x y : Int} : lcmpv x y ≤ 0 ↔ x ≤ y := by unfold lcmpv; split <;> (try split) <;> omega
/-- who wears thing t, by the children's own rows: the last such -/
def whoN (v : VT) (t : Int) : Nat → Int
  | 0 => -4
  | k + 1 => if v 120 (1 + 5 * (k : Int) + 3 + v 120 (42 + 7 * t + 0)) = t then (k : Int) else whoN v t k
theorem whoN_step {v : VT} {t c : Int} (h : 0 ≤ c) : whoN v t (c + 1).toNat = if v 120 (1 + 5 * c + 3 + v 120 (42 + 7 * t + 0)) = t then c else whoN v t c.toNat := by
  have e : (c + 1).toNat = c.toNat + 1 := by omega
  rw [e, whoN, Int.toNat_of_nonneg h]
/-- st's part copied: n places from b on to a on -/
def cpsF (v : VT) (a b n : Int) : VT := fun r j => if r = 120 ∧ a ≤ j ∧ j < a + n then v 120 (b + (j - a)) else v r j
theorem cpsF_out {v : VT} {a b n r j : Int} (h : ¬ r = 120 ∨ j < a ∨ a + n ≤ j) : cpsF v a b n r j = v r j := by
  unfold cpsF
  rw [if_neg (by omega)]
theorem cpsF_0 {v : VT} {a b : Int} : v = cpsF v a b 0 := by
  funext r j
  rw [cpsF_out (by omega)]
theorem cpsF_s {v : VT} {a b t : Int} (ht : 0 ≤ t ∧ t < 199) (hs : a + 199 ≤ b ∨ b + 199 ≤ a) : upd2 (cpsF v a b t) 120 (a + t) (cpsF v a b t 120 (b + t)) = cpsF v a b (t + 1) := by
  rw [cpsF_out (by omega)]
  funext r j
  unfold upd2 cpsF
  by_cases h : r = 120 ∧ j = a + t
  · rw [if_pos h, if_pos (by omega)]
    congr 1
    omega
  · rw [if_neg h]
    by_cases h2 : r = 120 ∧ a ≤ j ∧ j < a + t
    · rw [if_pos h2, if_pos (by omega)]
    · rw [if_neg h2, if_neg (by omega)]
def fitS (v : VT) (c t : Int) : Int := fitI (v 120 (42 + 7 * t + 1)) (v 120 (42 + 7 * t + 2)) (v 120 (42 + 7 * t + 3)) (v 120 (42 + 7 * t + 4)) (v 120 (42 + 7 * t + 5)) (v 120 (42 + 7 * t + 6)) c (v 120 (1 + 5 * c)) (v 119 2)
def putS (v : VT) (c t : Int) : VT := if fitS v c t = 2 then upd2 (upd2 (upd2 v 120 (42 + 7 * t + 2) (v 120 (42 + 7 * t + 2) + 2)) 120 (42 + 7 * t + 5) 1) 120 (1 + 5 * c + 3 + v 120 (42 + 7 * t + 0)) t else upd2 v 120 (1 + 5 * c + 3 + v 120 (42 + 7 * t + 0)) t
def canS (v : VT) (k c : Int) : Int := if (if 40 < v 120 (1 + 5 * c) + k * v 120 (1 + 5 * c + 1) then 40 else v 120 (1 + 5 * c) + k * v 120 (1 + 5 * c + 1)) ≤ v 120 (113 + k) ∧ v 120 (113 + k) ≤ (if 40 < v 120 (1 + 5 * c) + k * v 120 (1 + 5 * c + 1) then 40 else v 120 (1 + 5 * c) + k * v 120 (1 + 5 * c + 1)) + v 119 2 then 1 else 0
