-- a village becomes another one, whole
def allF (v : VT) (o o2 : Int) : VT := upd2 (cpyF (cpyF (bodF v o o2 (v o2 4) (v o2 5)) (o + 3) (o2 + 3) 80) (o + 4) (o2 + 4) 6) o 6 (v o2 6)
theorem all_sm {v : VT} {o o2 : Int} (hc : 0 ≤ v o2 4 ∧ v o2 4 ≤ 8) (hb : 0 ≤ v o2 5 ∧ v o2 5 ≤ 10) : Sm (allF v o o2) o v o2 := by
  have h := sm_bod (v := v) (o := o) hc hb
  have e : ∀ a j, ¬ a = o + 3 → ¬ a = o + 4 → (¬ a = o ∨ ¬ j = 6) → allF v o o2 a j = bodF v o o2 (v o2 4) (v o2 5) a j := fun a j h1 h2 h3 => by
    unfold allF
    rw [u_ne (by omega), cpyF_row h2, cpyF_row h1]
  refine ⟨by rw [e _ _ (by omega) (by omega) (by omega)]; exact h.1, by rw [e _ _ (by omega) (by omega) (by omega)]; exact h.2.1, fun c k a b d f => ?_, fun t k a b d f => ?_⟩
  · rw [e _ _ (by omega) (by omega) (by omega)]; exact h.2.2.1 c k a b d f
  · rw [e _ _ (by omega) (by omega) (by omega)]; exact h.2.2.2 t k a b d f
theorem all_lk {v : VT} {o o2 i : Int} (hs : o + 23 ≤ o2 ∨ o2 + 23 ≤ o) (hi : 0 ≤ i ∧ i < 80) (hc : v o2 4 ≤ 8) (hb : v o2 5 ≤ 10) : allF v o o2 (o + 3) i = v (o2 + 3) i := by
  unfold allF
  rw [u_ne (by omega), cpyF_row (by omega)]
  unfold cpyF
  rw [if_pos ⟨rfl, hi⟩]
  exact bodF_out hc hb (by omega)
theorem all_mk {v : VT} {o o2 i : Int} (hs : o + 23 ≤ o2 ∨ o2 + 23 ≤ o) (hi : 0 ≤ i ∧ i < 6) (hc : v o2 4 ≤ 8) (hb : v o2 5 ≤ 10) : allF v o o2 (o + 4) i = v (o2 + 4) i := by
  unfold allF
  rw [u_ne (by omega)]
  have e : cpyF (bodF v o o2 (v o2 4) (v o2 5)) (o + 3) (o2 + 3) 80 (o2 + 4) i = v (o2 + 4) i := by
    rw [cpyF_row (by omega)]
    exact bodF_out hc hb (by omega)
  unfold cpyF at e ⊢
  rw [if_pos ⟨rfl, hi⟩]
  exact e
theorem all_6 {v : VT} {o o2 : Int} : allF v o o2 o 6 = v o2 6 := upd2_same _ _ _ _
theorem all_out {v : VT} {o o2 a j : Int} (h : a < o ∨ o + 23 ≤ a) (hc : v o2 4 ≤ 8) (hb : v o2 5 ≤ 10) : allF v o o2 a j = v a j := by
  unfold allF
  rw [u_ne (by omega), cpyF_row (by omega), cpyF_row (by omega)]
  exact bodF_out hc hb (by omega)
