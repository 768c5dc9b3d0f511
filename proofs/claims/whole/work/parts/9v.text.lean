-- the text, in numbers: tokens
def byF (f : Int → Int) (L p : Int) : Int := if p < L then f p else -1
def cby (f : Int → Int) (L p : Int) : Int := if p < L then (if f p < 128 then f p else f p - 256) else -1
def scnN (a b : Int) (f : Int → Int) (L : Int) : Nat → Int → Int
  | 0, p => p
  | k + 1, p => if p < L ∧ a ≤ f p ∧ f p ≤ b then scnN a b f L k (p + 1) else p
def scn (a b : Int) (f : Int → Int) (L p : Int) : Int := scnN a b f L (L - p).toNat p
section SCN
variable {a b L p q : Int} {f : Int → Int}
theorem scn_no (h : ¬ (p < L ∧ a ≤ f p ∧ f p ≤ b)) : scn a b f L p = p := by
  unfold scn
  cases hk : (L - p).toNat with
  | zero => rfl
  | succ k => rw [scnN, if_neg h]
theorem scn_yes (h1 : p < L) (h2 : a ≤ f p ∧ f p ≤ b) : scn a b f L p = scn a b f L (p + 1) := by
  unfold scn
  obtain ⟨k, hk⟩ : ∃ k, (L - p).toNat = k + 1 := ⟨(L - p).toNat - 1, by omega⟩
  rw [hk, show (L - (p + 1)).toNat = k by omega, scnN, if_pos ⟨h1, h2⟩]
theorem scn_ge : p ≤ scn a b f L p := by
  have h : ∀ (k : Nat) (p : Int), p ≤ scnN a b f L k p := by
    intro k
    induction k with
    | zero => exact fun p => Int.le_refl p
    | succ k ih =>
      intro p
      rw [scnN]
      split
      · have := ih (p + 1)
        omega
      · exact Int.le_refl p
  exact h _ p
theorem scn_le (h : p ≤ L) : scn a b f L p ≤ L := by
  have h2 : ∀ (k : Nat) (p : Int), p ≤ L → scnN a b f L k p ≤ L := by
    intro k
    induction k with
    | zero => exact fun p h => h
    | succ k ih =>
      intro p h
      rw [scnN]
      split
      · exact ih (p + 1) (by omega)
      · exact h
  exact h2 _ p h
theorem scn_in : ∀ j, p ≤ j → j < scn a b f L p → a ≤ f j ∧ f j ≤ b := by
  have h : ∀ (k : Nat) (p : Int), ∀ j, p ≤ j → j < scnN a b f L k p → a ≤ f j ∧ f j ≤ b := by
    intro k
    induction k with
    | zero =>
      intro p j h1 h2
      rw [scnN] at h2
      omega
    | succ k ih =>
      intro p j h1 h2
      rw [scnN] at h2
      by_cases hc : p < L ∧ a ≤ f p ∧ f p ≤ b
      · rw [if_pos hc] at h2
        by_cases e : j = p
        · rw [e]
          exact hc.2
        · exact ih (p + 1) j (by omega) h2
      · rw [if_neg hc] at h2
        omega
  exact h _ p
theorem scn_pos (h1 : p < L) (h2 : a ≤ f p ∧ f p ≤ b) : p + 1 ≤ scn a b f L p := by
  rw [scn_yes h1 h2]
  exact scn_ge
end SCN
/-- where the token behind p begins, what it is, where it ends, its number -/
def tS (f : Int → Int) (L p : Int) : Int := scn 32 32 f L p
def tK (f : Int → Int) (L p : Int) : Int := if L ≤ tS f L p then 0 else if f (tS f L p) = 59 then 3 else if 97 ≤ f (tS f L p) ∧ f (tS f L p) ≤ 122 then 1 else if (48 ≤ f (tS f L p) ∧ f (tS f L p) ≤ 57) ∧ scn 48 57 f L (tS f L p) - tS f L p ≤ 2 then 2 else 4
def tE (f : Int → Int) (L p : Int) : Int := if L ≤ tS f L p then tS f L p else if f (tS f L p) = 59 then tS f L p + 1 else if 97 ≤ f (tS f L p) ∧ f (tS f L p) ≤ 122 then scn 97 122 f L (tS f L p) else scn 48 57 f L (tS f L p)
def numF (f : Int → Int) (s e : Int) : Int := if e - s = 1 then f s - 48 else 10 * (f s - 48) + f (s + 1) - 48
def tV (f : Int → Int) (L p : Int) : Int := numF f (tS f L p) (tE f L p)
section TOK
variable {L p q lo hi : Int} {f : Int → Int}
theorem tS_ge : p ≤ tS f L p := scn_ge
theorem tS_le (h : p ≤ L) : tS f L p ≤ L := scn_le h
theorem tE_gS : tS f L p ≤ tE f L p := by
  unfold tE
  have h1 : tS f L p ≤ scn 97 122 f L (tS f L p) := scn_ge
  have h2 : tS f L p ≤ scn 48 57 f L (tS f L p) := scn_ge
  split
  · omega
  · split
    · omega
    · split <;> omega
theorem tE_ge : p ≤ tE f L p := by
  have h1 : p ≤ tS f L p := scn_ge
  have h2 : tS f L p ≤ tE f L p := tE_gS
  omega
theorem tE_le (h : p ≤ L) : tE f L p ≤ L := by
  unfold tE
  have h1 : tS f L p ≤ L := scn_le h
  have h2 : scn 97 122 f L (tS f L p) ≤ L := scn_le h1
  have h3 : scn 48 57 f L (tS f L p) ≤ L := scn_le h1
  split
  · omega
  · split
    · omega
    · split <;> omega
theorem tK_rng : tK f L p = 0 ∨ tK f L p = 1 ∨ tK f L p = 2 ∨ tK f L p = 3 ∨ tK f L p = 4 := by
  unfold tK
  split
  · omega
  · split
    · omega
    · split
      · omega
      · split <;> omega
theorem tK_0 (h : L ≤ tS f L p) : tK f L p = 0 ∧ tE f L p = tS f L p := by
  unfold tK tE
  rw [if_pos h, if_pos h]
  exact ⟨rfl, rfl⟩
theorem tK_3 (h : tS f L p < L) (h2 : f (tS f L p) = 59) : tK f L p = 3 ∧ tE f L p = tS f L p + 1 := by
  unfold tK tE
  have g : ¬ L ≤ tS f L p := by omega
  rw [if_neg g, if_pos h2, if_neg g, if_pos h2]
  exact ⟨rfl, rfl⟩
theorem tK_1 (h : tS f L p < L) (h2 : 97 ≤ f (tS f L p) ∧ f (tS f L p) ≤ 122) : tK f L p = 1 ∧ tE f L p = scn 97 122 f L (tS f L p) := by
  unfold tK tE
  have g : ¬ L ≤ tS f L p := by omega
  have g2 : ¬ f (tS f L p) = 59 := by omega
  rw [if_neg g, if_neg g2, if_pos h2, if_neg g, if_neg g2, if_pos h2]
  exact ⟨rfl, rfl⟩
theorem tK_n (h : tS f L p < L) (h1 : ¬ f (tS f L p) = 59) (h2 : ¬ (97 ≤ f (tS f L p) ∧ f (tS f L p) ≤ 122)) : tK f L p = (if (48 ≤ f (tS f L p) ∧ f (tS f L p) ≤ 57) ∧ scn 48 57 f L (tS f L p) - tS f L p ≤ 2 then 2 else 4) ∧ tE f L p = scn 48 57 f L (tS f L p) := by
  unfold tK tE
  have g : ¬ L ≤ tS f L p := by omega
  rw [if_neg g, if_neg h1, if_neg h2, if_neg g, if_neg h1, if_neg h2]
  exact ⟨rfl, rfl⟩
theorem tok_lt (h : ¬ tK f L p = 0) : tS f L p < L := by
  by_cases g : tS f L p < L
  · exact g
  · exact absurd (tK_0 (by omega)).1 h
theorem tok_adv (h : ¬ tK f L p = 0) (h4 : ¬ tK f L p = 4) : tS f L p < tE f L p := by
  have g := tok_lt h
  by_cases h1 : f (tS f L p) = 59
  · rw [(tK_3 g h1).2]; omega
  · by_cases h2 : 97 ≤ f (tS f L p) ∧ f (tS f L p) ≤ 122
    · rw [(tK_1 g h2).2]
      have := scn_pos g h2
      omega
    · have h3 := tK_n g h1 h2
      rw [h3.2]
      by_cases h5 : (48 ≤ f (tS f L p) ∧ f (tS f L p) ≤ 57) ∧ scn 48 57 f L (tS f L p) - tS f L p ≤ 2
      · have := scn_pos g h5.1
        omega
      · rw [if_neg h5] at h3
        exact absurd h3.1 h4
theorem tok_num (h : tK f L p = 2) : tS f L p < L ∧ (48 ≤ f (tS f L p) ∧ f (tS f L p) ≤ 57) ∧ tE f L p = scn 48 57 f L (tS f L p) ∧ tE f L p - tS f L p ≤ 2 ∧ tS f L p + 1 ≤ tE f L p := by
  have g := tok_lt (f := f) (L := L) (p := p) (by omega)
  by_cases h1 : f (tS f L p) = 59
  · have := (tK_3 g h1).1; omega
  · by_cases h2 : 97 ≤ f (tS f L p) ∧ f (tS f L p) ≤ 122
    · have := (tK_1 g h2).1; omega
    · have h3 := tK_n g h1 h2
      by_cases h5 : (48 ≤ f (tS f L p) ∧ f (tS f L p) ≤ 57) ∧ scn 48 57 f L (tS f L p) - tS f L p ≤ 2
      · refine ⟨g, h5.1, h3.2, ?_, ?_⟩
        · rw [h3.2]; exact h5.2
        · rw [h3.2]; exact scn_pos g h5.1
      · rw [if_neg h5] at h3
        omega
theorem tV_rng (h : tK f L p = 2) : 0 ≤ tV f L p ∧ tV f L p ≤ 99 := by
  obtain ⟨h1, h2, h3, h4, h5⟩ := tok_num h
  unfold tV numF
  split
  · omega
  · have := scn_in (a := 48) (b := 57) (f := f) (L := L) (p := tS f L p) (tS f L p + 1) (by omega) (by rw [← h3]; omega)
    omega
theorem byF_in {a b : Int} (ha : 0 ≤ a) : (a ≤ byF f L p ∧ byF f L p ≤ b) ↔ (p < L ∧ a ≤ f p ∧ f p ≤ b) := by
  unfold byF
  by_cases h : p < L
  · rw [if_pos h]
    exact ⟨fun q => ⟨h, q⟩, fun q => q.2⟩
  · rw [if_neg h]
    exact ⟨fun q => by omega, fun q => absurd q.1 h⟩
theorem cby_in {a b : Int} (ha : 0 ≤ a) (hb : b < 128) (hf : p < L → 0 ≤ f p ∧ f p ≤ 255) : (a ≤ cby f L p ∧ cby f L p ≤ b) ↔ (p < L ∧ a ≤ f p ∧ f p ≤ b) := by
  unfold cby
  by_cases h : p < L
  · have := hf h
    rw [if_pos h]
    split
    · exact ⟨fun q => ⟨h, q⟩, fun q => q.2⟩
    · exact ⟨fun q => by omega, fun q => by omega⟩
  · rw [if_neg h]
    exact ⟨fun q => by omega, fun q => absurd q.1 h⟩
theorem cby_lt (h : p < L) (hf : p < L → 0 ≤ f p ∧ f p ≤ 255) : cby f L p = (if f p < 128 then f p else f p - 256) ∧ -128 ≤ cby f L p ∧ cby f L p ≤ 127 := by
  have := hf h
  unfold cby
  rw [if_pos h]
  refine ⟨rfl, ?_⟩
  split <;> omega
end TOK
-- words
def wB : Nat → List Int
  | 0 => [115, 108, 97, 99, 107]
  | 1 => [99, 104, 105, 108, 100]
  | 2 => [99, 111, 97, 116]
  | 3 => [98, 111, 111, 116, 115]
  | 4 => [108, 105, 107, 101]
  | 5 => [109, 97, 114, 107]
  | 6 => [112, 108, 97, 105, 110]
  | 7 => [116, 117, 114, 110, 101, 100]
  | 8 => [108, 101, 116]
  | 9 => [98, 111, 116, 104]
  | _ => [107, 101, 112, 116]
def eqW (f : Int → Int) : Int → List Int → Bool
  | _, [] => true
  | s, x :: xs => decide (f s = x) && eqW f (s + 1) xs
def nmB (f : Int → Int) (s e : Int) (i : Nat) : Bool := decide (e - s = ((wB i).length : Int)) && eqW f s (wB i)
theorem eqW_iff {f : Int → Int} : ∀ {xs : List Int} {s : Int}, eqW f s xs = true ↔ ∀ j : Nat, j < xs.length → f (s + (j : Int)) = xs.getD j 0
  | [], s => ⟨fun _ j h => absurd h (Nat.not_lt_zero j), fun _ => rfl⟩
  | x :: xs, s => by
    rw [eqW, Bool.and_eq_true, decide_eq_true_iff, eqW_iff]
    constructor
    · rintro ⟨h1, h2⟩ j hj
      cases j with
      | zero => simpa using h1
      | succ j =>
        have := h2 j (by simpa using hj)
        rw [show s + ((j + 1 : Nat) : Int) = s + 1 + (j : Int) by omega]
        simpa using this
    · intro h
      refine ⟨by simpa using h 0 (by simp), fun j hj => ?_⟩
      have := h (j + 1) (by simpa using hj)
      rw [show s + ((j + 1 : Nat) : Int) = s + 1 + (j : Int) by omega] at this
      simpa using this
theorem nmB_iff {f : Int → Int} {s e : Int} {i : Nat} : nmB f s e i = true ↔ e - s = ((wB i).length : Int) ∧ ∀ j : Nat, j < (wB i).length → f (s + (j : Int)) = (wB i).getD j 0 := by
  rw [nmB, Bool.and_eq_true, decide_eq_true_iff, eqW_iff]
theorem nm_ex {f : Int → Int} {s e : Int} {i j : Nat} (hi : i < 11) (hj : j < 11) (h1 : nmB f s e i = true) (h2 : nmB f s e j = true) : i = j := by
  rw [nmB_iff] at h1 h2
  have key : ∀ i j : Fin 11, i = j ∨ (wB i.val).length ≠ (wB j.val).length ∨ ∃ k : Fin 6, k.val < (wB i.val).length ∧ (wB i.val).getD k.val 0 ≠ (wB j.val).getD k.val 0 := by decide +kernel
  rcases key ⟨i, hi⟩ ⟨j, hj⟩ with h | h | ⟨k, h3, h4⟩
  · exact congrArg Fin.val h
  · simp only at h
    omega
  · simp only at h3 h4
    have a := h1.2 k.val h3
    have b := h2.2 k.val (by omega)
    exact absurd (a.symm.trans b) h4
theorem nm_no {f : Int → Int} {s e : Int} {i j : Nat} (h1 : nmB f s e i = true) (hi : i < 11) (hj : j < 11) (hij : i ≠ j) : ¬ nmB f s e j = true := fun h2 => hij (nm_ex hi hj h1 h2)
def wdF (f : Int → Int) (s e : Int) : Int := if nmB f s e 2 = true then 0 else if nmB f s e 3 = true then 1 else if nmB f s e 0 = true then 2 else if nmB f s e 1 = true then 3 else if nmB f s e 4 = true then 4 else if nmB f s e 5 = true then 5 else -4
def kdF (f : Int → Int) (s e : Int) : Int := if nmB f s e 6 = true then 0 else if nmB f s e 7 = true then 1 else if nmB f s e 8 = true then 2 else if nmB f s e 9 = true then 3 else if nmB f s e 10 = true then 4 else -4
section WD
variable {f : Int → Int} {s e : Int}
theorem wd_0 (h : nmB f s e 0 = true) : wdF f s e = 2 := by
  rw [wdF, if_neg (nm_no h (by decide) (by decide) (by decide)), if_neg (nm_no h (by decide) (by decide) (by decide)), if_pos h]
theorem wd_1 (h : nmB f s e 1 = true) : wdF f s e = 3 := by
  rw [wdF, if_neg (nm_no h (by decide) (by decide) (by decide)), if_neg (nm_no h (by decide) (by decide) (by decide)), if_neg (nm_no h (by decide) (by decide) (by decide)), if_pos h]
theorem wd_2 (h : nmB f s e 2 = true) : wdF f s e = 0 := by
  rw [wdF, if_pos h]
theorem wd_3 (h : nmB f s e 3 = true) : wdF f s e = 1 := by
  rw [wdF, if_neg (nm_no h (by decide) (by decide) (by decide)), if_pos h]
theorem wd_4 (h : nmB f s e 4 = true) : wdF f s e = 4 := by
  rw [wdF, if_neg (nm_no h (by decide) (by decide) (by decide)), if_neg (nm_no h (by decide) (by decide) (by decide)), if_neg (nm_no h (by decide) (by decide) (by decide)), if_neg (nm_no h (by decide) (by decide) (by decide)), if_pos h]
theorem wd_5 (h : nmB f s e 5 = true) : wdF f s e = 5 := by
  rw [wdF, if_neg (nm_no h (by decide) (by decide) (by decide)), if_neg (nm_no h (by decide) (by decide) (by decide)), if_neg (nm_no h (by decide) (by decide) (by decide)), if_neg (nm_no h (by decide) (by decide) (by decide)), if_neg (nm_no h (by decide) (by decide) (by decide)), if_pos h]
theorem wd_n (h0 : ¬ nmB f s e 0 = true) (h1 : ¬ nmB f s e 1 = true) (h2 : ¬ nmB f s e 2 = true) (h3 : ¬ nmB f s e 3 = true) (h4 : ¬ nmB f s e 4 = true) (h5 : ¬ nmB f s e 5 = true) : wdF f s e = -4 := by
  rw [wdF, if_neg h2, if_neg h3, if_neg h0, if_neg h1, if_neg h4, if_neg h5]
theorem wd_rng : wdF f s e = -4 ∨ (0 ≤ wdF f s e ∧ wdF f s e ≤ 5) := by
  unfold wdF
  repeat' split
  all_goals omega
theorem kd_rng : kdF f s e = -4 ∨ (0 ≤ kdF f s e ∧ kdF f s e ≤ 4) := by
  unfold kdF
  repeat' split
  all_goals omega
end WD
-- lines
def orF (F H : Int × Int) : Int × Int := if F.1 = 0 then H else F
def nP (f : Int → Int) (L q lo hi : Int) : Int × Int := (if tK f L q = 2 then (if lo ≤ tV f L q ∧ tV f L q ≤ hi then 0 else 3) else if tK f L q = 4 then 1 else 2, tS f L q)
def sP (f : Int → Int) (L q : Int) : Int × Int := (if tK f L q = 3 then 0 else if tK f L q = 4 then 1 else 2, tS f L q)
def kdT (f : Int → Int) (L q : Int) : Int := if tK f L q = 1 then kdF f (tS f L q) (tE f L q) else -4
def wdT (f : Int → Int) (L q : Int) : Int := if tK f L q = 1 then wdF f (tS f L q) (tE f L q) else -4
def kP (f : Int → Int) (L q : Int) : Int × Int := (if kdT f L q = -4 then (if tK f L q = 4 then 1 else 2) else 0, tS f L q)
/-- the village that a text tells of, and what it says beside: row 23 -/
def hdP (f : Int → Int) (L : Int) (B : VT) (q k : Int) : Int × Int :=
  (if k = -4 then (if tK f L q = 4 then 1 else 2) else if (k = 3 ∧ 8 ≤ B 0 4) ∨ ((k = 0 ∨ k = 1) ∧ 10 ≤ B 0 5) ∨ (k = 5 ∧ 6 ≤ B 0 6) then 5 else if k = 2 ∧ ¬ B 23 7 = 0 then 4 else 0, tS f L q)
def slF (f : Int → Int) (L q : Int) : Int × Int := orF (nP f L q 0 4) (sP f L (tE f L q))
def chF (f : Int → Int) (L q : Int) : Int × Int := orF (orF (orF (nP f L q 1 40) (nP f L (tE f L q) 0 4)) (nP f L (tE f L (tE f L q)) (tV f L (tE f L q)) 4)) (sP f L (tE f L (tE f L (tE f L q))))
def liF (f : Int → Int) (L q : Int) : Int × Int := orF (orF (orF (nP f L q 0 7) (nP f L (tE f L q) 0 9)) (nP f L (tE f L (tE f L q)) 0 9)) (sP f L (tE f L (tE f L (tE f L q))))
def maF (f : Int → Int) (L q : Int) : Int × Int := orF (nP f L q 1 40) (sP f L (tE f L q))
/-- the size and how often it lasts, from q on -/
def thF (f : Int → Int) (L q : Int) : Int × Int := orF (orF (nP f L q 1 40) (nP f L (tE f L q) 1 9)) (sP f L (tE f L (tE f L q)))
def cmx (x y : Int) : Int := if x < y then y else x
/-- where the size of a thing begins, q behind the name -/
def thS (f : Int → Int) (L q : Int) : Int := if kdT f L q = 4 then tE f L (tE f L q) else tE f L q
def heirT (f : Int → Int) (L q : Int) : Int := if kdT f L q = 4 then tV f L (tE f L q) else -4
def tgF (f : Int → Int) (L q : Int) : Int × Int := orF (orF (kP f L q) (if kdT f L q = 4 then nP f L (tE f L q) 0 7 else (0, 0))) (thF f L (thS f L q))
def slB (f : Int → Int) (L : Int) (B : VT) (q : Int) : VT := upd2 (upd2 B 23 7 1) 23 6 (tV f L q)
def chB (f : Int → Int) (L : Int) (B : VT) (q : Int) : VT := upd2 (upd2 (upd2 (upd2 B (5 + B 0 4) 0 (tV f L q)) (5 + B 0 4) 1 (tV f L (tE f L q))) (5 + B 0 4) 2 (tV f L (tE f L (tE f L q)))) 0 4 (B 0 4 + 1)
def liB (f : Int → Int) (L : Int) (B : VT) (q : Int) : VT := upd2 (upd2 (upd2 B 23 8 (cmx (B 23 8) (tV f L q + 1))) 23 9 (cmx (B 23 9) (tV f L (tE f L q) + 1))) 3 (tV f L q * 10 + tV f L (tE f L q)) (tV f L (tE f L (tE f L q)))
def maB (f : Int → Int) (L : Int) (B : VT) (q : Int) : VT := upd2 (upd2 B 4 (B 0 6) (tV f L q)) 0 6 (B 0 6 + 1)
def keB (f : Int → Int) (L : Int) (B : VT) (q : Int) : VT := if kdT f L q = 4 then upd2 B 23 8 (cmx (B 23 8) (tV f L (tE f L q) + 1)) else B
def tgB (f : Int → Int) (L : Int) (B : VT) (k q : Int) : VT := upd2 (upd2 (upd2 (plainF (keB f L B q) (13 + B 0 5) k (tV f L (thS f L q)) (tV f L (tE f L (thS f L q)))) 0 5 (B 0 5 + 1)) (13 + B 0 5) 1 (kdT f L q)) (13 + B 0 5) 6 (heirT f L q)
def linF (f : Int → Int) (L : Int) (B : VT) (q : Int) : Int × Int :=
  orF (hdP f L B q (wdT f L q)) (if wdT f L q = 2 then slF f L (tE f L q) else if wdT f L q = 3 then chF f L (tE f L q) else if wdT f L q = 4 then liF f L (tE f L q) else if wdT f L q = 5 then maF f L (tE f L q) else tgF f L (tE f L q))
def linB (f : Int → Int) (L : Int) (B : VT) (q : Int) : VT :=
  if wdT f L q = 2 then slB f L B (tE f L q) else if wdT f L q = 3 then chB f L B (tE f L q) else if wdT f L q = 4 then liB f L B (tE f L q) else if wdT f L q = 5 then maB f L B (tE f L q) else tgB f L B (wdT f L q) (tE f L q)
/-- where a line ends, q behind its name -/
def linE (f : Int → Int) (L q : Int) : Int :=
  if wdT f L q = 2 ∨ wdT f L q = 5 then tE f L (tE f L (tE f L q)) else if wdT f L q = 3 ∨ wdT f L q = 4 then tE f L (tE f L (tE f L (tE f L (tE f L q)))) else tE f L (tE f L (tE f L (thS f L (tE f L q))))
def parN (f : Int → Int) (L : Int) : Nat → Int → VT → Int → (Int × Int) × Int × VT
  | 0, _, B, n => ((7, 0), n, B)
  | k + 1, q, B, n => if tK f L q = 0 then ((if B 0 4 < B 23 8 ∨ B 0 5 < B 23 9 then 6 else 0, tS f L q), n, B) else if (linF f L B q).1 = 0 then parN f L k (linE f L q) (linB f L B q) (n + 1) else (linF f L B q, n, B)
