-- the Model's way through the rows, a turn
theorem off_bit {u c : Int} (hu : in32 u) (hc : 0 ≤ c ∧ c < 32) (hb : bt u c = false) : jand (jor u (jshl 1 c)) (jxor (jshl 1 c) (-1)) = u := by
  refine bt_ext (jand_in _ _) hu (fun t h1 h2 => ?_)
  rw [bt_and, bt_or, bt_not ⟨h1, h2⟩, bt_shl hc ⟨h1, h2⟩]
  by_cases e : c = t
  · rw [← e, hb, decide_eq_true rfl]
    rfl
  · rw [decide_eq_false e, Bool.or_false, Bool.not_false, Bool.and_true]
theorem use_in (r : Int → Int) : ∀ k : Nat, in32 (useR r k)
  | 0 => by unfold useR in32; omega
  | _ + 1 => jor_in _ _
def WayI (n K : Int) (r : Int → Int) (a u c : Int) : Prop := (0 ≤ a ∧ a < K) ∧ u = useR r a.toNat ∧ (0 ≤ c ∧ c ≤ n) ∧ ∀ i, 0 ≤ i → i < a → (0 ≤ r i ∧ r i < n) ∧ bt (useR r i.toNat) (r i) = false
theorem WayI.congr {n K a u c : Int} {r s : Int → Int} (h : WayI n K r a u c) (hr : ∀ i, 0 ≤ i → i < a → s i = r i) : WayI n K s a u c := by
  obtain ⟨h1, h2, h3, h4⟩ := h
  refine ⟨h1, by rw [h2]; exact (useR_congr _ (fun i g1 g2 => (hr i g1 (by omega)).symm)).1, h3, fun i g1 g2 => ?_⟩
  rw [hr i g1 g2, (useR_congr (r := s) (s := r) i.toNat (fun j g3 g4 => hr j g3 (by omega))).1]
  exact h4 i g1 g2
theorem WayI.skip {n K a u c : Int} {r : Int → Int} (h : WayI n K r a u c) (hc : c < n) : WayI n K r a u (c + 1) :=
  ⟨h.1, h.2.1, ⟨by have := h.2.2.1; omega, by omega⟩, h.2.2.2⟩
theorem WayI.pop {n K a u c : Int} {r : Int → Int} (hn : n ≤ 8) (h : WayI n K r a u c) (ha : 0 < a) : WayI n K r (a - 1) (jand u (jxor (jshl 1 (r (a - 1))) (-1))) (r (a - 1) + 1) := by
  obtain ⟨h1, h2, h3, h4⟩ := h
  have hl := h4 (a - 1) (by omega) (by omega)
  have e : u = jor (useR r (a - 1).toNat) (jshl 1 (r (a - 1))) := by
    rw [h2, show a.toNat = (a - 1).toNat + 1 by omega, useR, Int.toNat_of_nonneg (by omega)]
  refine ⟨by omega, by rw [e]; exact off_bit (use_in _ _) ⟨hl.1.1, by omega⟩ hl.2, by omega, fun i g1 g2 => h4 i g1 (by omega)⟩
theorem WayI.deep {n K a u c : Int} {r : Int → Int} (hn : 0 ≤ n) (h : WayI n K r a u c) (hc : c < n) (hr : r a = c) (hb : bt u c = false) (ha : a + 1 < K) : WayI n K r (a + 1) (jor u (jshl 1 c)) 0 := by
  obtain ⟨h1, h2, h3, h4⟩ := h
  refine ⟨by omega, by rw [show (a + 1).toNat = a.toNat + 1 by omega, useR, Int.toNat_of_nonneg h1.1, hr, h2], by omega, fun i g1 g2 => ?_⟩
  by_cases e : i = a
  · rw [e, hr, ← h2]
    exact ⟨⟨h3.1, hc⟩, hb⟩
  · exact h4 i g1 (by omega)
