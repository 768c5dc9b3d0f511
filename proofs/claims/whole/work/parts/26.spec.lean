-- swaps
def fitV (v : VT) (o c t sl : Int) : Int := fitI (v (o + 13 + t) 1) (v (o + 13 + t) 2) (v (o + 13 + t) 3) (v (o + 13 + t) 4) (v (o + 13 + t) 5) (v (o + 13 + t) 6) c (v (o + 5 + c) 0) sl
def wantI (v : VT) (o a x b y sl : Int) : Int := if fitV v o a y sl = 1 ∧ fitV v o b x sl = 1 ∧ v (o + 3) (a * 10 + x) < v (o + 3) (a * 10 + y) ∧ v (o + 3) (b * 10 + y) < v (o + 3) (b * 10 + x) then 1 else 0
theorem wantI_01 (v : VT) (o a x b y sl : Int) : wantI v o a x b y sl = 0 ∨ wantI v o a x b y sl = 1 := bdec
theorem wornI_rng {v : VT} {o c s : Int} (h : 0 ≤ v o 5) (hn : ¬ wornI v o c s = -4) : 0 ≤ wornI v o c s ∧ wornI v o c s < v o 5 ∧ v (o + 13 + wornI v o c s) 0 = s ∧ v (o + 13 + wornI v o c s) 7 = c := by
  rcases wornI_Q (c := c) (s := s) h with ⟨h1, -⟩ | ⟨h1, h2, h3, h4, -⟩
  · exact absurd h1 hn
  · exact ⟨h1, h2, h3, h4⟩
def swp (v : VT) (o sl s a b : Int) : Prop := ¬ wornI v o a s = -4 ∧ ¬ wornI v o b s = -4 ∧ wantI v o a (wornI v o a s) b (wornI v o b s) sl = 1
/-- the first swap, by slots, then by children -/
def swapQ (P : Int → Int → Int → Prop) (nC x : Int) : Prop :=
  (x = -4 ∧ ∀ s a b, 0 ≤ s → s < 2 → 0 ≤ a → a < b → b < nC → ¬ P s a b) ∨
  (∃ s a b, x = 100 * s + 10 * a + b ∧ 0 ≤ s ∧ s < 2 ∧ 0 ≤ a ∧ a < b ∧ b < nC ∧ P s a b ∧ ∀ s' a' b', 0 ≤ s' → 0 ≤ a' → a' < b' → b' < nC → (s' < s ∨ (s' = s ∧ (a' < a ∨ (a' = a ∧ b' < b)))) → ¬ P s' a' b')
def swF (v : VT) (o s a b : Int) : VT := if (0 ≤ wornI v o a s ∧ wornI v o a s < v o 5) ∧ (0 ≤ wornI v o b s ∧ wornI v o b s < v o 5) then upd2 (upd2 v (o + 13 + wornI v o a s) 7 b) (o + 13 + wornI v o b s) 7 a else v
