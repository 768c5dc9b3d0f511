-- the Model's words
def isB (f : Int → Int) (L s e n a b c d : Int) : Bool := decide (e - s = n ∧ byF f L s = a ∧ byF f L (s + 1) = b ∧ byF f L (s + 2) = c ∧ (n < 4 ∨ byF f L (s + 3) = d))
def endB (f : Int → Int) (L s a b : Int) : Bool := decide (byF f L (s + 4) = a ∧ (b = 0 ∨ byF f L (s + 5) = b))
section MW
variable {f : Int → Int} {L s e n a b c d g : Int} {F H : Int × Int}
theorem is_4 (he : e ≤ L) : (isB f L s e 4 a b c d = true) ↔ (e - s = 4 ∧ f s = a ∧ f (s + 1) = b ∧ f (s + 2) = c ∧ f (s + 3) = d) := by
  unfold isB
  rw [decide_eq_true_iff]
  by_cases h : e - s = 4
  · rw [byF_lt (show s < L by omega), byF_lt (show s + 1 < L by omega), byF_lt (show s + 2 < L by omega), byF_lt (show s + 3 < L by omega)]
    omega
  · exact ⟨fun z => absurd z.1 h, fun z => absurd z.1 h⟩
theorem is_3 (he : e ≤ L) : (isB f L s e 3 a b c d = true) ↔ (e - s = 3 ∧ f s = a ∧ f (s + 1) = b ∧ f (s + 2) = c) := by
  unfold isB
  rw [decide_eq_true_iff]
  by_cases h : e - s = 3
  · rw [byF_lt (show s < L by omega), byF_lt (show s + 1 < L by omega), byF_lt (show s + 2 < L by omega)]
    omega
  · exact ⟨fun z => absurd z.1 h, fun z => absurd z.1 h⟩
theorem is_5 (he : e ≤ L) : (isB f L s e 5 a b c d = true ∧ endB f L s g 0 = true) ↔ (e - s = 5 ∧ f s = a ∧ f (s + 1) = b ∧ f (s + 2) = c ∧ f (s + 3) = d ∧ f (s + 4) = g) := by
  unfold isB endB
  rw [decide_eq_true_iff, decide_eq_true_iff]
  by_cases h : e - s = 5
  · rw [byF_lt (show s < L by omega), byF_lt (show s + 1 < L by omega), byF_lt (show s + 2 < L by omega), byF_lt (show s + 3 < L by omega), byF_lt (show s + 4 < L by omega)]
    omega
  · exact ⟨fun z => absurd z.1.1 h, fun z => absurd z.1 h⟩
theorem is_6 (he : e ≤ L) (hg : ¬ n = 0) : (isB f L s e 6 a b c d = true ∧ endB f L s g n = true) ↔ (e - s = 6 ∧ f s = a ∧ f (s + 1) = b ∧ f (s + 2) = c ∧ f (s + 3) = d ∧ f (s + 4) = g ∧ f (s + 5) = n) := by
  unfold isB endB
  rw [decide_eq_true_iff, decide_eq_true_iff]
  by_cases h : e - s = 6
  · rw [byF_lt (show s < L by omega), byF_lt (show s + 1 < L by omega), byF_lt (show s + 2 < L by omega), byF_lt (show s + 3 < L by omega), byF_lt (show s + 4 < L by omega), byF_lt (show s + 5 < L by omega)]
    omega
  · exact ⟨fun z => absurd z.1.1 h, fun z => absurd z.1 h⟩
theorem nw_4 {i : Nat} (hw : wB i = [a, b, c, d]) : nmB f s e i = true ↔ (e - s = 4 ∧ f s = a ∧ f (s + 1) = b ∧ f (s + 2) = c ∧ f (s + 3) = d) := by
  unfold nmB
  rw [hw, Bool.and_eq_true, decide_eq_true_iff, eqW, eqW, eqW, eqW, eqW, Bool.and_eq_true, Bool.and_eq_true, Bool.and_eq_true, Bool.and_eq_true, decide_eq_true_iff, decide_eq_true_iff, decide_eq_true_iff, decide_eq_true_iff, show s + 1 + 1 = s + 2 by omega, show s + 2 + 1 = s + 3 by omega]
  simp
theorem nw_3 {i : Nat} (hw : wB i = [a, b, c]) : nmB f s e i = true ↔ (e - s = 3 ∧ f s = a ∧ f (s + 1) = b ∧ f (s + 2) = c) := by
  unfold nmB
  rw [hw, Bool.and_eq_true, decide_eq_true_iff, eqW, eqW, eqW, eqW, Bool.and_eq_true, Bool.and_eq_true, Bool.and_eq_true, decide_eq_true_iff, decide_eq_true_iff, decide_eq_true_iff, show s + 1 + 1 = s + 2 by omega]
  simp
theorem nw_5 {i : Nat} (hw : wB i = [a, b, c, d, g]) : nmB f s e i = true ↔ (e - s = 5 ∧ f s = a ∧ f (s + 1) = b ∧ f (s + 2) = c ∧ f (s + 3) = d ∧ f (s + 4) = g) := by
  unfold nmB
  rw [hw, Bool.and_eq_true, decide_eq_true_iff, eqW, eqW, eqW, eqW, eqW, eqW, Bool.and_eq_true, Bool.and_eq_true, Bool.and_eq_true, Bool.and_eq_true, Bool.and_eq_true, decide_eq_true_iff, decide_eq_true_iff, decide_eq_true_iff, decide_eq_true_iff, decide_eq_true_iff, show s + 1 + 1 = s + 2 by omega, show s + 2 + 1 = s + 3 by omega, show s + 3 + 1 = s + 4 by omega]
  simp
theorem nw_6 {i : Nat} (hw : wB i = [a, b, c, d, g, n]) : nmB f s e i = true ↔ (e - s = 6 ∧ f s = a ∧ f (s + 1) = b ∧ f (s + 2) = c ∧ f (s + 3) = d ∧ f (s + 4) = g ∧ f (s + 5) = n) := by
  unfold nmB
  rw [hw, Bool.and_eq_true, decide_eq_true_iff, eqW, eqW, eqW, eqW, eqW, eqW, eqW, Bool.and_eq_true, Bool.and_eq_true, Bool.and_eq_true, Bool.and_eq_true, Bool.and_eq_true, Bool.and_eq_true, decide_eq_true_iff, decide_eq_true_iff, decide_eq_true_iff, decide_eq_true_iff, decide_eq_true_iff, decide_eq_true_iff, show s + 1 + 1 = s + 2 by omega, show s + 2 + 1 = s + 3 by omega, show s + 3 + 1 = s + 4 by omega, show s + 4 + 1 = s + 5 by omega]
  simp
theorem nm_0 (he : e ≤ L) : nmB f s e 0 = true ↔ (isB f L s e 5 115 108 97 99 = true ∧ endB f L s 107 0 = true) := (nw_5 rfl).trans (is_5 he).symm
theorem nm_1 (he : e ≤ L) : nmB f s e 1 = true ↔ (isB f L s e 5 99 104 105 108 = true ∧ endB f L s 100 0 = true) := (nw_5 rfl).trans (is_5 he).symm
theorem nm_2 (he : e ≤ L) : nmB f s e 2 = true ↔ isB f L s e 4 99 111 97 116 = true := (nw_4 rfl).trans (is_4 he).symm
theorem nm_3 (he : e ≤ L) : nmB f s e 3 = true ↔ (isB f L s e 5 98 111 111 116 = true ∧ endB f L s 115 0 = true) := (nw_5 rfl).trans (is_5 he).symm
theorem nm_4 (he : e ≤ L) : nmB f s e 4 = true ↔ isB f L s e 4 108 105 107 101 = true := (nw_4 rfl).trans (is_4 he).symm
theorem nm_5 (he : e ≤ L) : nmB f s e 5 = true ↔ isB f L s e 4 109 97 114 107 = true := (nw_4 rfl).trans (is_4 he).symm
theorem nm_6 (he : e ≤ L) : nmB f s e 6 = true ↔ (isB f L s e 5 112 108 97 105 = true ∧ endB f L s 110 0 = true) := (nw_5 rfl).trans (is_5 he).symm
theorem nm_7 (he : e ≤ L) : nmB f s e 7 = true ↔ (isB f L s e 6 116 117 114 110 = true ∧ endB f L s 101 100 = true) := (nw_6 rfl).trans (is_6 he (by decide)).symm
theorem nm_8 (he : e ≤ L) : nmB f s e 8 = true ↔ isB f L s e 3 108 101 116 0 = true := (nw_3 rfl).trans (is_3 he).symm
theorem nm_9 (he : e ≤ L) : nmB f s e 9 = true ↔ isB f L s e 4 98 111 116 104 = true := (nw_4 rfl).trans (is_4 he).symm
theorem nm_10 (he : e ≤ L) : nmB f s e 10 = true ↔ isB f L s e 4 107 101 112 116 = true := (nw_4 rfl).trans (is_4 he).symm
theorem isB_v : (if isB f L s e n a b c d = true then (1 : Int) else 0) = if e - s = n ∧ byF f L s = a ∧ byF f L (s + 1) = b ∧ byF f L (s + 2) = c ∧ (n < 4 ∨ byF f L (s + 3) = d) then 1 else 0 := by
  by_cases h : e - s = n ∧ byF f L s = a ∧ byF f L (s + 1) = b ∧ byF f L (s + 2) = c ∧ (n < 4 ∨ byF f L (s + 3) = d)
  · rw [if_pos h]
    exact if_pos (decide_eq_true h)
  · rw [if_neg h]
    exact if_neg (fun z => h (of_decide_eq_true z))
theorem endB_v : (if endB f L s a b = true then (1 : Int) else 0) = if byF f L (s + 4) = a ∧ (b = 0 ∨ byF f L (s + 5) = b) then 1 else 0 := by
  by_cases h : byF f L (s + 4) = a ∧ (b = 0 ∨ byF f L (s + 5) = b)
  · rw [if_pos h]
    exact if_pos (decide_eq_true h)
  · rw [if_neg h]
    exact if_neg (fun z => h (of_decide_eq_true z))
theorem orF_1 : (F.1 = 0 ∧ (orF F H).1 = H.1) ∨ (¬ F.1 = 0 ∧ (orF F H).1 = F.1) := by
  by_cases h : F.1 = 0
  · rw [orF_0 h]
    exact Or.inl ⟨h, rfl⟩
  · rw [orF_n h]
    exact Or.inr ⟨h, rfl⟩
end MW
