-- the Model's rows
theorem cpyF_0 {v : VT} {r r2 : Int} : v = cpyF v r r2 0 := by
  funext a j
  unfold cpyF
  rw [if_neg (by omega)]
theorem cpyF_s {v : VT} {r r2 t : Int} (ht : 0 ≤ t) : upd2 (cpyF v r r2 t) r t (v r2 t) = cpyF v r r2 (t + 1) := by
  funext a j
  unfold upd2 cpyF
  by_cases h : a = r ∧ j = t
  · rw [if_pos h, if_pos (by omega), h.2]
  · rw [if_neg h]
    by_cases h2 : a = r ∧ 0 ≤ j ∧ j < t
    · rw [if_pos h2, if_pos (by omega)]
    · rw [if_neg h2, if_neg (by omega)]
theorem jor_0 {x : Int} (hx : in32 x) : jor x 0 = x := by
  refine bt_ext (jor_in _ _) hx (fun t h1 h2 => ?_)
  rw [bt_or, bt_0]
  simp
theorem jshl_0 {t : Int} (ht : 0 ≤ t ∧ t < 32) : jshl 0 t = 0 := by
  have key : ∀ k : Fin 32, jshl 0 (k.val : Int) = 0 := by decide +kernel
  have h1 := key ⟨t.toNat, by omega⟩
  simp only at h1
  rw [Int.toNat_of_nonneg ht.1] at h1
  exact h1
def mayS (v : VT) (s c : Int) : Int → Bool := fun t => decide (v 120 (42 + 7 * t + 0) = s) && decide (0 < fitS v c t)
def canV (v : VT) (s c t j : Int) : Int := if j < c then orN (mayS v s j) (v 120 41).toNat else orN (mayS v s c) t.toNat
def canF (v : VT) (s c k t : Int) : VT := fun a j => if a = 119 ∧ j = 16 then v 120 0 else if a = 124 ∧ 0 ≤ j ∧ j < k then canV v s c t j else v a j
theorem canF_out {v : VT} {s c k t a j : Int} (h : (¬ a = 119 ∨ ¬ j = 16) ∧ ¬ a = 124) : canF v s c k t a j = v a j := by
  unfold canF
  rw [if_neg (by omega), if_neg (by omega)]
theorem canF_16 {v : VT} {s c k t : Int} : canF v s c k t 119 16 = v 120 0 := by
  unfold canF
  rw [if_pos ⟨rfl, rfl⟩]
theorem canF_m {v : VT} {s c t : Int} (hc : 0 ≤ c) : canF v s c (c + 1) t 124 c = orN (mayS v s c) t.toNat := by
  unfold canF canV
  rw [if_neg (by omega), if_pos (by omega), if_neg (by omega)]
theorem canF_0 {v : VT} {s : Int} : upd2 v 119 16 (v 120 0) = canF v s 0 0 0 := by
  funext a j
  unfold canF upd2
  (repeat' split) <;> first | rfl | (exfalso; omega)
theorem canF_c {v : VT} {s c : Int} (hc : 0 ≤ c) : upd2 (canF v s c c 0) 124 c 0 = canF v s c (c + 1) 0 := by
  funext a j
  by_cases h5 : a = 124 ∧ j = c
  · rw [h5.1, h5.2, upd2_same, canF_m hc]
    rfl
  · rw [upd2_ne _ _ _ _ _ _ (by omega)]
    unfold canF canV
    (repeat' split) <;> first | rfl | (exfalso; omega)
theorem canF_t {v : VT} {s c t x : Int} (hc : 0 ≤ c) (ht : 0 ≤ t ∧ t < 32) (hx : (mayS v s c t = true ∧ x = 1) ∨ (mayS v s c t = false ∧ x = 0)) : upd2 (canF v s c (c + 1) t) 124 c (jor (orN (mayS v s c) t.toNat) (jshl x t)) = canF v s c (c + 1) (t + 1) := by
  funext a j
  by_cases h5 : a = 124 ∧ j = c
  · rw [h5.1, h5.2, upd2_same, canF_m hc, orN_step ht.1]
    rcases hx with ⟨h1, h2⟩ | ⟨h1, h2⟩
    · rw [if_pos h1, h2]
    · rw [h1, h2, jshl_0 ht, jor_0 (orN_in _ _)]
      rfl
  · rw [upd2_ne _ _ _ _ _ _ (by omega)]
    unfold canF canV
    (repeat' split) <;> first | rfl | (exfalso; omega)
theorem canF_e {v : VT} {s c t : Int} (ht : t = v 120 41) : canF v s c (c + 1) t = canF v s (c + 1) (c + 1) 0 := by
  funext a j
  unfold canF canV
  by_cases h : j < c
  · rw [if_pos h, if_pos (show j < c + 1 by omega)]
  · rw [if_neg h]
    by_cases h1 : j = c
    · rw [if_pos (show j < c + 1 by omega), h1, ht]
    · (repeat' split) <;> first | rfl | (exfalso; omega)
