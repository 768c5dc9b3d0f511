-- the first world
def V1 : VT := updL (updL zV ls_X8_init_1) ls9
def V0 : VT := keD9 (drD V1)
theorem v1_z {r j : Int} (h1 : hasK ls9 r j = false) (h2 : hasK ls_X8_init_1 r j = false) : V1 r j = 0 := by
  unfold V1
  rw [updL_no h1, updL_no h2]
  rfl
theorem hasK_row {l : List (Int × Int × Int)} {r j : Int} (h : l.all (fun q => decide (¬ q.1 = r)) = true) : hasK l r j = false := by
  unfold hasK
  rw [List.any_eq_false]
  intro q hq
  have := List.all_eq_true.mp h q hq
  simp only [decide_eq_true_eq] at this
  simp [this]
theorem v1_row {r j : Int} (h1 : ls9.all (fun q => decide (¬ q.1 = r)) = true) (h2 : ls_X8_init_1.all (fun q => decide (¬ q.1 = r)) = true) : V1 r j = 0 := v1_z (hasK_row h1) (hasK_row h2)
theorem v0_o {a j : Int} (h1 : ¬ a = 122) (h2 : ¬ a = 120) (h3 : ¬ a = 121) (h4 : ¬ a = 119 ∨ j < 2 ∨ j = 3 ∨ 7 < j) : V0 a j = V1 a j := by
  unfold V0 keD9
  rw [ux_ne (by omega), ux_ne (by omega), ux_ne (by omega), congrFun (cpyF_row h2) j]
  unfold drD
  rw [ux_ne (by omega), ux_ne (by omega), ux_ne (by omega), ux_ne (by omega), congrFun (fillF_row h1) j]
theorem v0_st {j : Int} (h0 : 0 ≤ j) (h1 : j < 199) : V0 120 j = 0 := by
  unfold V0 keD9
  rw [ux_ne (by omega), ux_ne (by omega), ux_ne (by omega)]
  unfold cpyF
  rw [if_pos ⟨rfl, h0, h1⟩]
  unfold drD
  rw [ux_ne (by omega), ux_ne (by omega), ux_ne (by omega), ux_ne (by omega)]
  unfold fillF
  rw [if_pos ⟨rfl, h0, h1⟩]
theorem v0_121 {k : Int} (hk : 0 ≤ k ∧ k < 2) : V0 121 k = 0 := by
  unfold V0 keD9
  rcases (show k = 0 ∨ k = 1 by omega) with rfl | rfl
  · rw [ux_ne (by omega), ux_at rfl]
  · rw [ux_at rfl]
theorem v0_2 : V0 119 2 = 2 := by
  unfold V0 keD9
  rw [ux_ne (by omega), ux_ne (by omega), ux_at rfl]
  unfold drD
  rw [ux_ne (by omega), ux_ne (by omega), ux_ne (by omega), ux_at rfl]
theorem v1_at {r j x : Int} (h : updL (updL zV ls_X8_init_1) ls9 r j = x) : V1 r j = x := h
theorem inv0 : INV V0 := by
  have hA : WFV zV 0 := ⟨by show (0 : Int) ≤ 0 ∧ (0 : Int) ≤ 8; decide, by show (0 : Int) ≤ 0 ∧ (0 : Int) ≤ 10; decide, fun c a b => by have : c < 0 := b; omega, fun c a b => by have : c < 0 := b; omega, fun t u a b => by have : t < 0 := b; omega⟩
  have h44 : V0 4 4 = 0 := by rw [v0_o (by omega) (by omega) (by omega) (by omega)]; exact v1_at (by decide +kernel)
  have h45 : V0 4 5 = 0 := by rw [v0_o (by omega) (by omega) (by omega) (by omega)]; exact v1_at (by decide +kernel)
  have h46 : V0 4 6 = 0 := by rw [v0_o (by omega) (by omega) (by omega) (by omega)]; exact v1_at (by decide +kernel)
  have hlane : ∀ k : Fin 4, updL (updL zV ls_X8_init_1) ls9 (111 + 2 * (k.val : Int)) 1 = updL (updL zV ls_X8_init_1) ls9 135 (k.val : Int) ∧ updL (updL zV ls_X8_init_1) ls9 (111 + 2 * (k.val : Int)) 2 = 0 ∧ ls9.all (fun q => decide (¬ q.1 = 111 + 2 * (k.val : Int) + 1)) = true ∧ ls_X8_init_1.all (fun q => decide (¬ q.1 = 111 + 2 * (k.val : Int) + 1)) = true := by decide +kernel
  refine ⟨⟨zV, hA, ⟨h44, h45, fun c k a b => by have : c < 0 := b; omega, fun c k a b => by have : c < 0 := b; omega⟩, ⟨v0_st (by decide) (by decide), v0_st (by decide) (by decide), fun c k a b => by have : c < 0 := b; omega, fun c k a b => by have : c < 0 := b; omega, fun c k a b => by have : c < 0 := b; omega⟩, fun i a b => ?_, fun c t _ _ _ _ => rfl, ?_⟩, ⟨?_, ?_, ?_⟩, ?_, ?_, fun k a b => ?_, fun k a b => ?_, ?_⟩
  · refine ⟨?_, v0_st (by omega) (by omega), by show (0 : Int) ≤ 0; decide, by show (0 : Int) ≤ 9; decide⟩
    rw [v0_o (by omega) (by omega) (by omega) (by omega)]
    exact v1_row (by decide +kernel) (by decide +kernel)
  · have e := v0_st (j := 112) (by decide) (by decide)
    exact ⟨by rw [e]; exact h46, by omega, by omega, fun k a b => by omega⟩
  · rw [v0_2, v0_o (by omega) (by omega) (by omega) (by omega)]
    exact v1_at (by decide +kernel)
  · rw [v0_2]; decide
  · rw [v0_2]; decide
  · refine ⟨fun _ => 0, 0, ⟨?_, by omega, fun q a b => by omega, fun q a b => by omega⟩, ⟨?_, by omega, fun q a b => by omega, fun q a b => by omega⟩⟩
    · rw [v0_o (by omega) (by omega) (by omega) (by omega)]
      exact v1_at (by decide +kernel)
    · rw [v0_o (by omega) (by omega) (by omega) (by omega)]
      exact v1_at (by decide +kernel)
  · rw [v0_o (by omega) (by omega) (by omega) (by omega), v0_o (by omega) (by omega) (by omega) (by omega)]
    exact (v1_at (x := 0) (by decide +kernel)).trans (v1_at (x := 0) (by decide +kernel)).symm
  · have h := v0_121 ⟨a, b⟩
    refine ⟨?_, Or.inl h⟩
    rw [h, v0_o (by omega) (by omega) (by omega) (by omega)]
    exact v1_row (by decide +kernel) (by decide +kernel)
  · obtain ⟨h1, h2, h3, h4⟩ := hlane ⟨k.toNat, by omega⟩
    simp only [Int.toNat_of_nonneg a] at h1 h2 h3 h4
    have e136 : V0 136 k = 0 := by
      rw [v0_o (by omega) (by omega) (by omega) (by omega)]
      exact v1_row (by decide +kernel) (by decide +kernel)
    refine ⟨?_, ?_, by omega, by omega, fun i i0 i1 => ?_⟩
    · rw [v0_o (by omega) (by omega) (by omega) (by omega), v0_o (by omega) (by omega) (by omega) (by omega)]
      exact h1
    · rw [e136, v0_o (by omega) (by omega) (by omega) (by omega)]
      exact h2
    · rw [v0_o (by omega) (by omega) (by omega) (by omega), v0_o (by omega) (by omega) (by omega) (by omega), v1_row h3 h4]
      exact (v1_row (by decide +kernel) (by decide +kernel)).symm
  · rw [v0_o (by omega) (by omega) (by omega) (by omega), v0_o (by omega) (by omega) (by omega) (by omega)]
    exact (v1_at (x := 0) (by decide +kernel)).trans (v1_at (x := 0) (by decide +kernel)).symm
