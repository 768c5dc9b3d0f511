-- the Model's way through the rows, its measure
def mesA (n K : Int) (r : Int → Int) (a c : Int) : Int := if a < 0 then 0 else mesR n K.toNat r a.toNat c
theorem WayI.mes {n K a u c : Int} {r : Int → Int} (hn : 0 ≤ n) (h : WayI n K r a u c) : 1 ≤ mesA n K r a c := by
  unfold mesA
  rw [if_neg (by have := h.1; omega)]
  exact mes_pos hn _ _ h.2.2.1.2 (fun i g1 g2 => (h.2.2.2 i g1 (by have := h.1; omega)).1.2)
theorem WayI.mskip {n K a u c : Int} {r s : Int → Int} (hn : 0 ≤ n) (h : WayI n K r a u c) (hr : ∀ i, 0 ≤ i → i < a → s i = r i) : (mesA n K s a (c + 1)).toNat < (mesA n K r a c).toNat := by
  have h1 := h.mes hn
  have h0 := h.1.1
  unfold mesA at h1 ⊢
  rw [if_neg (by omega)] at h1
  rw [if_neg (by omega), if_neg (by omega)]
  have h2 := mes_next (K := K.toNat) (k := a.toNat) (r := r) (c := c) hn
  rw [mes_congr a.toNat (c + 1) (fun i g1 g2 => hr i g1 (by omega))]
  omega
theorem WayI.mpop {n K a u : Int} {r : Int → Int} (hn : 0 ≤ n) (h : WayI n K r a u n) (ha : 0 < a) : (mesA n K r (a - 1) (r (a - 1) + 1)).toNat < (mesA n K r a n).toNat := by
  have h1 := h.mes hn
  unfold mesA at *
  rw [if_neg (by omega)] at *
  have h2 := mes_pop (n := n) (K := K.toNat) (k := (a - 1).toNat) (r := r)
  rw [show (a - 1).toNat + 1 = a.toNat by omega, Int.toNat_of_nonneg (by omega)] at h2
  rw [if_neg (by omega)]
  omega
theorem WayI.mdeep {n K a u c : Int} {r s : Int → Int} (hn : 0 ≤ n) (h : WayI n K r a u c) (hr : ∀ i, 0 ≤ i → i < a → s i = r i) (hs : s a = c) (ha : a + 1 < K) : (mesA n K s (a + 1) 0).toNat < (mesA n K r a c).toNat := by
  have h1 := h.mes hn
  have h0 := h.1.1
  unfold mesA at *
  rw [if_neg (by omega)] at *
  have h2 := mes_deep (n := n) (K := K.toNat) (k := a.toNat) (r := s) (by omega)
  rw [Int.toNat_of_nonneg h0, hs, mes_congr a.toNat c (fun i g1 g2 => hr i g1 (by omega))] at h2
  rw [if_neg (by omega), show (a + 1).toNat = a.toNat + 1 by omega]
  omega
