-- the deal's rows
def mayP (v : VT) (o s sl c : Int) : Int → Bool := fun t => decide (v (o + 13 + t) 0 = s) && decide (¬ fitV v o c t sl = 0)
def mayV (v : VT) (o s sl c k t j : Int) : Int := if j < c then orN (mayP v o s sl j) (v o 5).toNat else orN (mayP v o s sl c) t.toNat
def begF (v : VT) (o s sl c k t : Int) : VT := fun a j =>
  if a = 54 ∧ j = 5 then v o 4 else if a = 54 ∧ j = 6 then v o 5 else if a = 54 ∧ j = 7 then 0
  else if a = 57 ∧ 0 ≤ j ∧ j < 20 then -4 else if a = 56 ∧ 0 ≤ j ∧ j < k then -4
  else if a = 55 ∧ 0 ≤ j ∧ j < k then mayV v o s sl c k t j else v a j
theorem begF_out {v : VT} {o s sl c k t a j : Int} (h : a < 54 ∨ 57 < a) : begF v o s sl c k t a j = v a j := by
  unfold begF
  rw [if_neg (by omega), if_neg (by omega), if_neg (by omega), if_neg (by omega), if_neg (by omega), if_neg (by omega)]
theorem begF_5 {v : VT} {o s sl c k t : Int} : begF v o s sl c k t 54 5 = v o 4 := by
  unfold begF
  rw [if_pos ⟨rfl, rfl⟩]
theorem begF_6 {v : VT} {o s sl c k t : Int} : begF v o s sl c k t 54 6 = v o 5 := by
  unfold begF
  rw [if_neg (by omega), if_pos ⟨rfl, rfl⟩]
theorem begF_54 {v : VT} {o s sl c k t j : Int} (h : ¬ j = 5 ∧ ¬ j = 6 ∧ ¬ j = 7) : begF v o s sl c k t 54 j = v 54 j := by
  unfold begF
  rw [if_neg (by omega), if_neg (by omega), if_neg (by omega), if_neg (by omega), if_neg (by omega), if_neg (by omega)]
theorem begF_m {v : VT} {o s sl c t : Int} (hc : 0 ≤ c) : begF v o s sl c (c + 1) t 55 c = orN (mayP v o s sl c) t.toNat := by
  unfold begF
  rw [if_neg (by omega), if_neg (by omega), if_neg (by omega), if_neg (by omega), if_neg (by omega), if_pos ⟨rfl, by omega, by omega⟩]
  unfold mayV
  rw [if_neg (by omega)]
theorem begF_0 {v : VT} {o s sl : Int} (ho : ¬ o = 54) : fillF (upd2 (upd2 (upd2 v 54 5 (v o 4)) 54 6 (v o 5)) 54 7 0) 57 (-4) 20 = begF v o s sl 0 0 0 := by
  funext a j
  unfold begF fillF upd2
  by_cases h1 : a = 54 ∧ j = 5
  · rw [if_neg (by omega), if_neg (by omega), if_neg (by omega), if_pos h1, if_pos h1]
  · by_cases h2 : a = 54 ∧ j = 6
    · rw [if_neg (by omega), if_neg (by omega), if_pos h2, if_neg h1, if_pos h2]
    · by_cases h3 : a = 54 ∧ j = 7
      · rw [if_neg (by omega), if_pos h3, if_neg h1, if_neg h2, if_pos h3]
      · by_cases h4 : a = 57 ∧ 0 ≤ j ∧ j < 20
        · rw [if_pos h4, if_neg h1, if_neg h2, if_neg h3, if_pos h4]
        · rw [if_neg h4, if_neg h3, if_neg h2, if_neg h1, if_neg h1, if_neg h2, if_neg h3, if_neg h4, if_neg (by omega), if_neg (by omega)]
theorem begF_c {v : VT} {o s sl c : Int} (hc : 0 ≤ c) : upd2 (upd2 (begF v o s sl c c 0) 56 c (-4)) 55 c 0 = begF v o s sl c (c + 1) 0 := by
  funext a j
  by_cases h5 : a = 55 ∧ j = c
  · rw [h5.1, h5.2, upd2_same, begF_m hc]
    rfl
  · rw [upd2_ne _ _ _ _ _ _ (by omega)]
    by_cases h6 : a = 56 ∧ j = c
    · rw [h6.1, h6.2, upd2_same]
      unfold begF
      rw [if_neg (by omega), if_neg (by omega), if_neg (by omega), if_neg (by omega), if_pos ⟨rfl, by omega, by omega⟩]
    · rw [upd2_ne _ _ _ _ _ _ (by omega)]
      unfold begF mayV
      (repeat' split) <;> first | rfl | (exfalso; omega)
theorem begF_k {v : VT} {o s sl c k t c' t' : Int} (h : ∀ j, 0 ≤ j → j < k → mayV v o s sl c k t j = mayV v o s sl c' k t' j) : begF v o s sl c k t = begF v o s sl c' k t' := by
  funext a j
  unfold begF
  by_cases h8 : a = 55 ∧ 0 ≤ j ∧ j < k
  · rw [h j h8.2.1 h8.2.2]
  · rw [if_neg h8, if_neg h8]
theorem begF_t {v : VT} {o s sl c t : Int} (hc : 0 ≤ c) (ht : 0 ≤ t) (hp : mayP v o s sl c t = true) : upd2 (begF v o s sl c (c + 1) t) 55 c (jor (orN (mayP v o s sl c) t.toNat) (jshl 1 t)) = begF v o s sl c (c + 1) (t + 1) := by
  funext a j
  by_cases h5 : a = 55 ∧ j = c
  · rw [h5.1, h5.2, upd2_same, begF_m hc, orN_step ht, if_pos hp]
  · rw [upd2_ne _ _ _ _ _ _ (by omega)]
    unfold begF mayV
    (repeat' split) <;> first | rfl | (exfalso; omega)
theorem begF_n {v : VT} {o s sl c t : Int} (ht : 0 ≤ t) (hp : mayP v o s sl c t = false) : begF v o s sl c (c + 1) t = begF v o s sl c (c + 1) (t + 1) := by
  refine begF_k (fun j h1 h2 => ?_)
  unfold mayV
  rw [orN_step ht, hp]
  rfl
theorem begF_e {v : VT} {o s sl c t : Int} (ht : t = v o 5) : begF v o s sl c (c + 1) t = begF v o s sl (c + 1) (c + 1) 0 := by
  refine begF_k (fun j h1 h2 => ?_)
  unfold mayV
  by_cases h : j < c
  · rw [if_pos h, if_pos (by omega)]
  · rw [if_neg h, if_pos (by omega), show j = c by omega, ht]
def leftB (v : VT) (o s q : Int) : Int → Bool := fun t => decide (v (o + 13 + t) 0 = s) && decide (v 57 t = -4) && decide (¬ outI (v (o + 13 + t) 1) (v (o + 13 + t) 3) (v (o + 13 + t) 4) = 1) && decide (¬ q = 0 ∨ ¬ v (o + 13 + t) 1 = 4)
theorem leftB_iff {v : VT} {o s q t : Int} : leftB v o s q t = true ↔ (v (o + 13 + t) 0 = s ∧ v 57 t = -4 ∧ ¬ outI (v (o + 13 + t) 1) (v (o + 13 + t) 3) (v (o + 13 + t) 4) = 1 ∧ (¬ q = 0 ∨ ¬ v (o + 13 + t) 1 = 4)) := by
  unfold leftB
  simp only [Bool.and_eq_true, decide_eq_true_eq, and_assoc]
