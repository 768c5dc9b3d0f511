-- the Model's way through the rows, a turn of it and what is told
def FndI (f : Int → Int → Bool) (n K : Int) (done : List (List Int)) (r : Int → Int) (a u c : Int) : Prop := (a = -1 ∧ done = enuM f n K.toNat 0 0) ∨ (WayI n K r a u c ∧ done ++ rstR f n K.toNat r a.toNat c = enuM f n K.toNat 0 0)
theorem FndI.zero {f : Int → Int → Bool} {n K : Int} {r : Int → Int} (hK : 0 < K) (hn : 0 ≤ n) : FndI f n K [] r 0 0 0 :=
  Or.inr ⟨⟨by omega, rfl, by omega, fun i g1 g2 => by omega⟩, by rw [List.nil_append]; exact rstR_all (by omega)⟩
theorem FndI.fin {f : Int → Int → Bool} {n K a b c x y : Int} {done : List (List Int)} {r : Int → Int} (D : done ++ rstR f n K.toNat r a.toNat c = enuM f n K.toNat 0 0) (hc : n ≤ c) (ha : a = 0) (hb : b = -1) : FndI f n K done r b x y := by
  refine Or.inl ⟨hb, ?_⟩
  rw [← D, ha]
  show done = done ++ rstR f n K.toNat r 0 c
  rw [rstR_end hc, List.append_nil]
theorem FndI.pop {f : Int → Int → Bool} {n K a u c : Int} {done : List (List Int)} {r : Int → Int} (hn : n ≤ 8) (h : WayI n K r a u c) (D : done ++ rstR f n K.toNat r a.toNat c = enuM f n K.toNat 0 0) (hc : c = n) (ha : 0 < a) : FndI f n K done r (a + (-1)) (jand u (jxor (jshl 1 (r (a + (-1)))) (-1))) (r (a + (-1)) + 1) := by
  show FndI f n K done r (a - 1) (jand u (jxor (jshl 1 (r (a - 1))) (-1))) (r (a - 1) + 1)
  rw [hc] at h D
  refine Or.inr ⟨h.pop hn ha, ?_⟩
  rw [← D, show a.toNat = (a - 1).toNat + 1 by omega, rstR_pop (Int.le_refl n), Int.toNat_of_nonneg (by omega)]
theorem FndI.no {f : Int → Int → Bool} {n K a u c : Int} {done : List (List Int)} {r : Int → Int} (h : WayI n K r a u c) (D : done ++ rstR f n K.toNat r a.toNat c = enuM f n K.toNat 0 0) (hc : c < n) (ho : ¬ (f a c = true ∧ bt u c = false)) : FndI f n K done r a u (c + 1) := by
  refine Or.inr ⟨h.skip hc, ?_⟩
  rw [← D, rstR_no hc (fun q => ho ?_)]
  have q := okR_iff.mp q
  rw [← h.2.1, Int.toNat_of_nonneg h.1.1] at q
  exact q
theorem FndI.take {f : Int → Int → Bool} {n K a u c : Int} {done : List (List Int)} {r s : Int → Int} (h : WayI n K r a u c) (D : done ++ rstR f n K.toNat r a.toNat c = enuM f n K.toNat 0 0) (hc : c < n) (ho : f a c = true ∧ bt u c = false) (hk : a + 1 = K) (hs : ∀ i, ¬ i = a → s i = r i) (hsa : s a = c) : FndI f n K (done ++ [preR s K.toNat]) s a u (c + 1) := by
  have h0 := h.1.1
  have g : ∀ i : Int, 0 ≤ i → i < a.toNat → s i = r i := fun i g1 g2 => hs i (by omega)
  refine Or.inr ⟨(h.skip hc).congr (fun i g1 g2 => hs i (by omega)), ?_⟩
  have q : okR f a.toNat c (useR r a.toNat) = true := okR_iff.mpr (by rw [← h.2.1, Int.toNat_of_nonneg h0]; exact ho)
  rw [← D, rstR_take hc q (by omega), List.append_assoc, rstR_congr a.toNat _ g, show K.toNat = a.toNat + 1 by omega, preR, (useR_congr a.toNat g).2, Int.toNat_of_nonneg h0, hsa]
theorem FndI.deep {f : Int → Int → Bool} {n K a u c : Int} {done : List (List Int)} {r s : Int → Int} (hn : 0 ≤ n) (h : WayI n K r a u c) (D : done ++ rstR f n K.toNat r a.toNat c = enuM f n K.toNat 0 0) (hc : c < n) (ho : f a c = true ∧ bt u c = false) (hk : a + 1 < K) (hs : ∀ i, ¬ i = a → s i = r i) (hsa : s a = c) : FndI f n K done s (a + 1) (jor u (jshl 1 c)) 0 := by
  have h0 := h.1.1
  have h2 := h.congr (s := s) (fun i g1 g2 => hs i (by omega))
  refine Or.inr ⟨h2.deep hn hc hsa ho.2 hk, ?_⟩
  have e : s (a.toNat : Int) = c := by rw [Int.toNat_of_nonneg h0]; exact hsa
  have q : okR f a.toNat (s a.toNat) (useR s a.toNat) = true := okR_iff.mpr (by rw [← h2.2.1, e, Int.toNat_of_nonneg h0]; exact ho)
  rw [← D, show (a + 1).toNat = a.toNat + 1 by omega, ← rstR_deep (by rw [e]; exact hc) q (by omega), e, rstR_congr a.toNat c (fun i g1 g2 => hs i (by omega))]
theorem FndI.bd {f : Int → Int → Bool} {n K a c N : Int} {done : List (List Int)} {r : Int → Int} (D : done ++ rstR f n K.toNat r a.toNat c = enuM f n K.toNat 0 0) (hN : ((enuM f n K.toNat 0 0).length : Int) ≤ N) : 0 ≤ (done.length : Int) ∧ (done.length : Int) ≤ N := by
  rw [← D, List.length_append] at hN
  omega
theorem WayI.mpop' {n K a u c : Int} {r : Int → Int} (hn : 0 ≤ n) (h : WayI n K r a u c) (hc : c = n) (ha : 0 < a) : (mesA n K r (a + (-1)) (r (a + (-1)) + 1)).toNat < (mesA n K r a c).toNat := by
  rw [hc] at h ⊢
  exact h.mpop hn ha
theorem WayI.mfin {n K a u c b x : Int} {r s : Int → Int} (hn : 0 ≤ n) (h : WayI n K r a u c) (hb : b < 0) : (mesA n K s b x).toNat < (mesA n K r a c).toNat := by
  have h1 := h.mes hn
  rw [show mesA n K s b x = 0 from if_pos hb]
  omega
theorem bsh1 {u c : Int} (hc : 0 ≤ c ∧ c < 32) (h : jand (jshr u c) 1 = 1) : bt u c = true := by
  have e : jand (jshr u c) 1 = if bt u c then 1 else 0 := bitI_bt hc
  cases q : bt u c with
  | true => rfl
  | false => rw [e, q] at h; exact absurd h (by decide)
theorem bsh0 {u c : Int} (hc : 0 ≤ c ∧ c < 32) (h : ¬ jand (jshr u c) 1 = 1) : bt u c = false := by
  have e : jand (jshr u c) 1 = if bt u c then 1 else 0 := bitI_bt hc
  cases q : bt u c with
  | false => rfl
  | true => rw [e, q] at h; exact absurd rfl h
theorem can_mk2 {A v w : VT} {sl k c : Int} (hA : WFV A 0) (hM : MR A (v 120)) (h : ∀ j, w 120 j = v 120 j) (hs : w 119 2 = sl) (hsl : 0 ≤ sl ∧ sl ≤ 4) (hk : 0 ≤ k ∧ k < 6) (hc : 0 ≤ c ∧ c < A 0 4) :
    (0 ≤ w 120 (1 + 5 * c) ∧ w 120 (1 + 5 * c) ≤ 1000 ∧ 0 ≤ w 120 (1 + 5 * c + 1) ∧ w 120 (1 + 5 * c + 1) ≤ 1000 ∧ 0 ≤ w 119 2 ∧ w 119 2 ≤ 1000) ∧ (in32 (k * w 120 (1 + 5 * c + 1)) ∧ 0 ≤ k * w 120 (1 + 5 * c + 1) ∧ k * w 120 (1 + 5 * c + 1) ≤ 10000) ∧ canS w k c = if mkB A 0 (fun k => v 120 (113 + k)) sl k c = true then 1 else 0 := by
  have e0 := (h (1 + 5 * c)).trans (hM.c0 hc)
  have e1 := (h (1 + 5 * c + 1)).trans (hM.2.2.1 c 1 hc.1 hc.2 (by omega) (by omega))
  have hch := hA.ch c hc.1 hc.2
  have hx : 0 ≤ k * A (0 + 5 + c) 1 ∧ k * A (0 + 5 + c) 1 ≤ 500 := by
    rcases (by omega : k = 0 ∨ k = 1 ∨ k = 2 ∨ k = 3 ∨ k = 4 ∨ k = 5) with e | e | e | e | e | e <;> (rw [e]; omega)
  refine ⟨by omega, by rw [e1]; unfold in32; omega, ?_⟩
  unfold canS mkB
  rw [e0, e1, hs, h]
  simp only [decide_eq_true_eq]
theorem TakeQ.hd {K i : Int} {done : List (List Int)} {w : VT} (h : TakeQ K done w) (h0 : ¬ w 119 30 = 0) (hi : 0 ≤ i) (hK : i < K) : ∃ t, done.head? = some t ∧ w 134 i = t.getD i.toNat (-4) := by
  cases done with
  | nil => exact absurd h.1 h0
  | cons s l => exact ⟨s, rfl, h.2.1 s rfl i hi hK⟩
theorem enu_0 {f : Int → Int → Bool} {n K u : Int} (h : K = 0) : ((enuM f n K.toNat 0 u).length : Int) = 1 := by
  rw [h]
  rfl
