-- what holds between asks
def InVil (A v : VT) (o : Int) (st : Int → Int) : Prop :=
  WFV A 0 ∧ Sm v o A 0 ∧ MR A st ∧
  (∀ i, 0 ≤ i → i < 80 → v (o + 3) i = A (0 + 3) i ∧ st (119 + i) = A (0 + 3) i ∧ 0 ≤ A (0 + 3) i ∧ A (0 + 3) i ≤ 9) ∧
  (∀ c t, 0 ≤ c → c < 8 → A 0 5 ≤ t → t < 10 → A (0 + 3) (10 * c + t) = 0) ∧
  (v o 6 = st 112 ∧ 0 ≤ st 112 ∧ st 112 ≤ 6 ∧ ∀ k, 0 ≤ k → k < st 112 → v (o + 4) k = st (113 + k) ∧ 1 ≤ st (113 + k) ∧ st (113 + k) ≤ 40)
/-- an image, and a sheet -/
def InImg (v : VT) (k : Int) : Prop := v 52 k = v 121 k ∧ (v 121 k = 0 ∨ (v 121 k = 1 ∧ ∃ B, InVil B v (65 + 23 * k) (fun j => v 120 (199 * (k + 1) + j))))
def InSh (v : VT) (k : Int) : Prop := v (111 + 2 * k) 1 = v 135 k ∧ v (111 + 2 * k) 2 = v 136 k ∧ 0 ≤ v 136 k ∧ v 136 k ≤ 40 ∧ ∀ i, 0 ≤ i → i < 40 → v (111 + 2 * k + 1) i = v 137 (40 * k + i)
def InTape (v : VT) : Prop := ∃ f L, TapC f L v ∧ TapM f L v
def InR (v : VT) : Prop := (v 1 10 = v 119 2 ∧ 0 ≤ v 119 2 ∧ v 119 2 ≤ 4) ∧ InTape v ∧ v 1 11 = v 119 14 ∧ (∀ k, 0 ≤ k → k < 2 → InImg v k) ∧ (∀ k, 0 ≤ k → k < 4 → InSh v k) ∧ v 1 12 = v 119 37
def INV (v : VT) : Prop := (∃ A, InVil A v 4 (v 120)) ∧ InR v
/-- the places that the rest rests on -/
def RP (a j : Int) : Prop := (a = 1 ∧ 10 ≤ j ∧ j ≤ 12) ∨ a = 2 ∨ a = 3 ∨ a = 52 ∨ (65 ≤ a ∧ a ≤ 118) ∨ (a = 119 ∧ (j = 2 ∨ j = 9 ∨ j = 14 ∨ j = 37)) ∨ (a = 120 ∧ 199 ≤ j ∧ j < 597) ∨ a = 121 ∨ a = 123 ∨ (135 ≤ a ∧ a ≤ 137)
def KP (a j : Int) : Prop := RP a j ∨ (4 ≤ a ∧ a ≤ 26) ∨ (a = 120 ∧ 0 ≤ j ∧ j < 199)
section INVS
variable {A A' B v w u : VT} {o k x i : Int} {st st2 : Int → Int} {f : Int → Int} {L : Int}
theorem zadd (x : Int) : 0 + x = x := Int.zero_add x
theorem MR.st' (h : MR A st) (hA : WFV A 0) (he : ∀ j, 0 ≤ j → j < 199 → st2 j = st j) : MR A st2 := h.st hA (fun j a b => he j a (by omega))
theorem InVil.same (h : InVil A v o st) (e : ∀ a j, o ≤ a → a ≤ o + 22 → w a j = v a j) (e2 : ∀ j, 0 ≤ j → j < 199 → st2 j = st j) : InVil A w o st2 := by
  obtain ⟨hA, hS, hM, hl, hz, hm, hm0, hm6, hmk⟩ := h
  have hb4 := hA.1
  have hb5 := hA.2.1
  have e112 := e2 112 (by decide) (by decide)
  refine ⟨hA, ?_, hM.st' hA e2, fun i a b => ?_, hz, ?_, by omega, by omega, fun k a b => ?_⟩
  · obtain ⟨h1, h2, h3, h4⟩ := hS
    exact ⟨(e o 4 (by omega) (by omega)).trans h1, (e o 5 (by omega) (by omega)).trans h2, fun c k a b d f => (e _ _ (by omega) (by omega)).trans (h3 c k a b d f), fun t k a b d f => (e _ _ (by omega) (by omega)).trans (h4 t k a b d f)⟩
  · obtain ⟨h1, h2, h3⟩ := hl i a b
    exact ⟨(e _ _ (by omega) (by omega)).trans h1, (e2 _ (by omega) (by omega)).trans h2, h3⟩
  · rw [e o 6 (by omega) (by omega), e112]
    exact hm
  · obtain ⟨h1, h2⟩ := hmk k a (by omega)
    rw [e _ _ (by omega) (by omega), e2 (113 + k) (by omega) (by omega)]
    exact ⟨h1, h2⟩
theorem InVil.step (h : InVil A v 4 (v 120)) (hA' : WFV A' 0) (hS' : Sm u 4 A' 0) (hM' : MR A' (u 120)) (h5 : A' 0 5 = A 0 5) (e3 : ∀ i, 0 ≤ i → i < 80 → A' (0 + 3) i = A (0 + 3) i) (e7 : ∀ i, 0 ≤ i → i < 80 → u (4 + 3) i = v (4 + 3) i) (e120 : ∀ j, 112 ≤ j → j < 199 → u 120 j = v 120 j) (e46 : u 4 6 = v 4 6) (e8 : ∀ k, 0 ≤ k → k < 6 → u (4 + 4) k = v (4 + 4) k) : InVil A' u 4 (u 120) := by
  obtain ⟨hA, hS, hM, hl, hz, hm, hm0, hm6, hmk⟩ := h
  have e112 := e120 112 (by decide) (by decide)
  have hb5 := hA.2.1
  refine ⟨hA', hS', hM', fun i a b => ?_, fun c t a b d f => ?_, by rw [e46, e112]; exact hm, by omega, by omega, fun k a b => ?_⟩
  · rw [e7 i a b, e120 _ (by omega) (by omega), e3 i a b]
    exact hl i a b
  · rw [h5] at d
    rw [e3 _ (by omega) (by omega)]
    exact hz c t a b d f
  · rw [e8 k a (by omega), e120 (113 + k) (by omega) (by omega)]
    exact hmk k a (by omega)
theorem InImg.same (hk : 0 ≤ k ∧ k < 2) (h : InImg v k) (e : ∀ a j, RP a j → w a j = v a j) : InImg w k := by
  obtain ⟨h1, h2⟩ := h
  have e1 : w 52 k = v 52 k := e _ _ (by unfold RP; omega)
  have e2 : w 121 k = v 121 k := e _ _ (by unfold RP; omega)
  refine ⟨by omega, ?_⟩
  rcases h2 with h2 | ⟨h2, B, hB⟩
  · exact Or.inl (by omega)
  · exact Or.inr ⟨by omega, B, hB.same (fun a j a1 a2 => e a j (by unfold RP; omega)) (fun j a1 a2 => e _ _ (by unfold RP; omega))⟩
theorem InSh.same (hk : 0 ≤ k ∧ k < 4) (h : InSh v k) (e : ∀ a j, RP a j → w a j = v a j) : InSh w k := by
  obtain ⟨h1, h2, h3, h4, h5⟩ := h
  have e1 : w (111 + 2 * k) 1 = v (111 + 2 * k) 1 := e _ _ (by unfold RP; omega)
  have e2 : w (111 + 2 * k) 2 = v (111 + 2 * k) 2 := e _ _ (by unfold RP; omega)
  have e3 : w 135 k = v 135 k := e _ _ (by unfold RP; omega)
  have e4 : w 136 k = v 136 k := e _ _ (by unfold RP; omega)
  exact ⟨by omega, by omega, by omega, by omega, fun i a b => by rw [e (111 + 2 * k + 1) i (by unfold RP; omega), e 137 _ (by unfold RP; omega)]; exact h5 i a b⟩
theorem InTape.same (h : InTape v) (e : ∀ a j, RP a j → w a j = v a j) : InTape w := by
  obtain ⟨f, L, h1, h2⟩ := h
  exact ⟨f, L, h1.of (fun j => e _ _ (by unfold RP; omega)) (fun j => e _ _ (by unfold RP; omega)), h2.of (e _ _ (by unfold RP; omega)) (fun j => e _ _ (by unfold RP; omega))⟩
theorem InR.same (h : InR v) (e : ∀ a j, RP a j → w a j = v a j) : InR w := by
  obtain ⟨⟨h1, h2, h3⟩, h4, h5, h6, h7, h8⟩ := h
  have e1 : w 1 10 = v 1 10 := e _ _ (by unfold RP; omega)
  have e2 : w 119 2 = v 119 2 := e _ _ (by unfold RP; omega)
  have e3 : w 1 11 = v 1 11 := e _ _ (by unfold RP; omega)
  have e4 : w 119 14 = v 119 14 := e _ _ (by unfold RP; omega)
  have e5 : w 1 12 = v 1 12 := e _ _ (by unfold RP; omega)
  have e6 : w 119 37 = v 119 37 := e _ _ (by unfold RP; omega)
  exact ⟨⟨by omega, by omega, by omega⟩, h4.same e, by omega, fun k a b => (h6 k a b).same ⟨a, b⟩ e, fun k a b => (h7 k a b).same ⟨a, b⟩ e, by omega⟩
theorem INV.same (h : INV v) (e : ∀ a j, KP a j → w a j = v a j) : INV w := by
  obtain ⟨⟨A, h1⟩, h2⟩ := h
  exact ⟨⟨A, h1.same (fun a j a1 a2 => e a j (by unfold KP; omega)) (fun j a1 a2 => e _ _ (by unfold KP; omega))⟩, h2.same (fun a j g => e a j (Or.inl g))⟩
theorem InR.h01c (h : InR v) : ∀ k, 0 ≤ k → k < 2 → v 52 k = 0 ∨ v 52 k = 1 := fun k a b => by
  obtain ⟨h1, h2⟩ := h.2.2.2.1 k a b
  omega
theorem InR.h01 (h : InR v) : ∀ k, 0 ≤ k → k < 2 → v 121 k = 0 ∨ v 121 k = 1 := fun k a b => by
  obtain ⟨h1, h2⟩ := h.2.2.2.1 k a b
  omega
theorem row_eq {r : Int} (e : ∀ j, w r j = v r j) : w r = v r := funext e
theorem Sm.off (h : Sm v o u k) (h8 : u k 4 ≤ 8) : Sm (offF v o x) o (offF u k x) k := by
  unfold offF
  rw [h.2.1]
  split
  · exact h.u7 (by omega) h8
  · exact h
theorem Sm.wear {c t sl : Int} (h : Sm v o u k) (hc : 0 ≤ c ∧ c < u k 4) (ht : 0 ≤ t ∧ t < u k 5) (h8 : u k 4 ≤ 8) : Sm (wearF v o c t sl) o (wearF u k c t sl) k := by
  unfold wearF
  have e1 : wornI v o c (v (o + 13 + t) 0) = wornI u k c (u (k + 13 + t) 0) := by
    rw [h.2.2.2 t 0 ht.1 ht.2 (by decide) (by decide)]
    exact h.wo (by omega)
  have e2 : v (o + 5 + c) 0 = u (k + 5 + c) 0 := h.2.2.1 c 0 hc.1 hc.2 (by decide) (by decide)
  rw [e1, e2]
  exact (h.off h8).put (by rw [offF_45 (Or.inr rfl)]; exact ht) (by rw [offF_45 (Or.inl rfl)]; exact h8)
theorem wear_ne {c t sl a j : Int} (ht : 0 ≤ t ∧ t < v o 5) (hb : v o 5 ≤ 10) (h : a < o + 13 ∨ o + 23 ≤ a) : wearF v o c t sl a j = v a j := by
  unfold wearF
  rw [putF_ne (by omega), offF_ne (by omega)]
theorem Sm.child {c : Int} (h : Sm v o u k) (h5 : 0 ≤ u k 5) : childI v o c x = childI u k c x := by
  unfold childI
  rw [h.1, h.wo h5, h.wo h5]
  by_cases g : 0 ≤ c ∧ c < u k 4
  · rw [if_pos g, if_pos g]
    by_cases g2 : 0 ≤ x ∧ x ≤ 2
    · rw [if_pos g2, if_pos g2]
      exact h.2.2.1 c x g.1 g.2 g2.1 (by omega)
    · rw [if_neg g2, if_neg g2]
  · rw [if_neg g, if_neg g]
theorem Sm.thing {t : Int} (h : Sm v o u k) : thingI v o t x = thingI u k t x := by
  unfold thingI
  rw [h.2.1]
  by_cases g : 0 ≤ t ∧ t < u k 5
  · rw [if_pos g, if_pos g]
    by_cases g2 : 0 ≤ x ∧ x ≤ 7
    · rw [if_pos g2, if_pos g2]
      exact h.2.2.2 t x g.1 g.2 g2.1 (by omega)
    · rw [if_neg g2, if_neg g2]
  · rw [if_neg g, if_neg g]
end INVS
