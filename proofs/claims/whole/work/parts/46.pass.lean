-- passing along: a way back from a free thing makes one more warm
def Con (g ow : Int → Int) (nC nT : Int) : Prop :=
  (∀ c, 0 ≤ c → c < nC → g c = -4 ∨ (0 ≤ g c ∧ g c < nT ∧ ow (g c) = c)) ∧ (∀ x, 0 ≤ x → x < nT → ow x = -4 ∨ (0 ≤ ow x ∧ ow x < nC ∧ g (ow x) = x))
def Way (g m sk : Int → Int) (nC nT fm bar : Int) (D : Int → Prop) (rk : Int → Int) : Prop :=
  ∀ x, D x → 0 ≤ x ∧ x < nT ∧ bt bar x = false ∧ 0 ≤ sk x ∧ sk x < nC ∧ bt (m (sk x)) x = true ∧ 0 ≤ rk (sk x) ∧ rk (sk x) < 8 ∧
    ((g (sk x) = -4 ∧ fm ≤ sk x) ∨ (D (g (sk x)) ∧ rk (sk (g (sk x))) < rk (sk x)))
/-- on the way: t is to be given on -/
def PI (g ow m sk : Int → Int) (nC nT bar : Int) (D : Int → Prop) (rk p q : Int → Int) (t step : Int) : Prop :=
  D t ∧ rk (sk t) + step ≤ 7 ∧
  (∀ c, 0 ≤ c → c < nC → p c = -4 ∨ (0 ≤ p c ∧ p c < nT ∧ q (p c) = c ∧ ¬ p c = t)) ∧
  (∀ x, 0 ≤ x → x < nT → x = t ∨ q x = -4 ∨ (0 ≤ q x ∧ q x < nC ∧ p (q x) = x)) ∧
  (∀ c, rk c ≤ rk (sk t) → p c = g c) ∧
  (∀ c, ¬ p c = g c → 0 ≤ c ∧ c < nC ∧ bt (m c) (p c) = true ∧ bt bar (p c) = false ∧ 0 ≤ p c ∧ ¬ g c = -4 ∧ bt bar (g c) = false) ∧
  (∀ x, ¬ q x = ow x → 0 ≤ x ∧ x < nT ∧ bt bar x = false)
/-- what it comes to -/
def Flip (g ow m : Int → Int) (nC nT fm bar : Int) (p q : Int → Int) : Prop :=
  Con p q nC nT ∧ (∃ root, 0 ≤ root ∧ root < nC ∧ fm ≤ root ∧ g root = -4 ∧ ¬ p root = -4 ∧ ∀ c, ¬ c = root → (p c = -4 ↔ g c = -4)) ∧
  (∀ c, ¬ p c = g c → 0 ≤ c ∧ c < nC ∧ bt (m c) (p c) = true ∧ bt bar (p c) = false ∧ 0 ≤ p c ∧ ((g c = -4 ∧ fm ≤ c) ∨ (¬ g c = -4 ∧ bt bar (g c) = false))) ∧
  (∀ x, ¬ q x = ow x → 0 ≤ x ∧ x < nT ∧ bt bar x = false)
theorem PI_0 {g ow m sk : Int → Int} {nC nT fm bar : Int} {D : Int → Prop} {rk : Int → Int} {t : Int} (hC : Con g ow nC nT) (hW : Way g m sk nC nT fm bar D rk) (hD : D t) (ho : ow t = -4) : PI g ow m sk nC nT bar D rk g ow t 0 := by
  have hw := hW t hD
  refine ⟨hD, by omega, fun c h1 h2 => ?_, fun x h1 h2 => Or.inr (hC.2 x h1 h2), fun c _ => rfl, fun c h => absurd rfl h, fun x h => absurd rfl h⟩
  rcases hC.1 c h1 h2 with a | ⟨a1, a2, a3⟩
  · exact Or.inl a
  · exact Or.inr ⟨a1, a2, a3, fun e => by rw [e, ho] at a3; omega⟩
theorem PI_cold {g ow m sk : Int → Int} {nC nT fm bar : Int} {D : Int → Prop} {rk p q p1 q1 : Int → Int} {t step : Int} (hW : Way g m sk nC nT fm bar D rk) (h : PI g ow m sk nC nT bar D rk p q t step) (hc : p (sk t) = -4)
    (hp : p1 = fun j => if j = sk t then t else p j) (hq : q1 = fun j => if j = t then sk t else q j) : Flip g ow m nC nT fm bar p1 q1 := by
  obtain ⟨hD, hr, h1, h2, h3, h4, h5⟩ := h
  obtain ⟨w1, w2, w3, w4, w5, w6, w7, w8, w9⟩ := hW t hD
  have po : ∀ j, ¬ j = sk t → p1 j = p j := fun j hj => by rw [hp]; show (if j = sk t then _ else _) = _; rw [if_neg hj]
  have pn : p1 (sk t) = t := by rw [hp]; show (if sk t = sk t then _ else _) = _; rw [if_pos rfl]
  have qo : ∀ j, ¬ j = t → q1 j = q j := fun j hj => by rw [hq]; show (if j = t then _ else _) = _; rw [if_neg hj]
  have qn : q1 t = sk t := by rw [hq]; show (if t = t then _ else _) = _; rw [if_pos rfl]
  have hg : g (sk t) = -4 := by rw [← h3 (sk t) (Int.le_refl _)]; exact hc
  have hfm : fm ≤ sk t := by
    rcases w9 with a | ⟨a, -⟩
    · exact a.2
    · rw [hg] at a
      have := (hW _ a).1
      omega
  refine ⟨⟨fun c k1 k2 => ?_, fun x k1 k2 => ?_⟩, ⟨sk t, w4, w5, hfm, hg, by rw [pn]; omega, fun c hne => ?_⟩, fun c hne => ?_, fun x hne => ?_⟩
  · by_cases e : c = sk t
    · rw [e, pn]
      exact Or.inr ⟨w1, w2, qn⟩
    · rw [po c e]
      rcases h1 c k1 k2 with a | ⟨a1, a2, a3, a4⟩
      · exact Or.inl a
      · exact Or.inr ⟨a1, a2, by rw [qo _ a4]; exact a3⟩
  · by_cases e : x = t
    · rw [e, qn]
      exact Or.inr ⟨w4, w5, pn⟩
    · rw [qo x e]
      rcases h2 x k1 k2 with a | a | ⟨a1, a2, a3⟩
      · exact absurd a e
      · exact Or.inl a
      · refine Or.inr ⟨a1, a2, ?_⟩
        rw [po _ (fun z => by rw [z, hc] at a3; omega)]
        exact a3
  · rw [po c hne]
    by_cases e : p c = g c
    · rw [e]
    · have := h4 c e
      constructor
      · intro z; rw [z] at this; omega
      · intro z; exact absurd z this.2.2.2.2.2.1
  · by_cases e : c = sk t
    · rw [e, pn]
      exact ⟨w4, w5, w6, w3, w1, Or.inl ⟨hg, hfm⟩⟩
    · rw [po c e] at hne ⊢
      obtain ⟨a1, a2, a3, a4, a5, a6, a7⟩ := h4 c hne
      exact ⟨a1, a2, a3, a4, a5, Or.inr ⟨a6, a7⟩⟩
  · by_cases e : x = t
    · rw [e]
      exact ⟨w1, w2, w3⟩
    · rw [qo x e] at hne
      exact h5 x hne
theorem PI_next {g ow m sk : Int → Int} {nC nT fm bar : Int} {D : Int → Prop} {rk p q p1 q1 : Int → Int} {t step : Int} (hW : Way g m sk nC nT fm bar D rk) (h : PI g ow m sk nC nT bar D rk p q t step) (hc : ¬ p (sk t) = -4)
    (hp : p1 = fun j => if j = sk t then t else p j) (hq : q1 = fun j => if j = t then sk t else q j) : PI g ow m sk nC nT bar D rk p1 q1 (p (sk t)) (step + 1) := by
  obtain ⟨hD, hr, h1, h2, h3, h4, h5⟩ := h
  obtain ⟨w1, w2, w3, w4, w5, w6, w7, w8, w9⟩ := hW t hD
  have po : ∀ j, ¬ j = sk t → p1 j = p j := fun j hj => by rw [hp]; show (if j = sk t then _ else _) = _; rw [if_neg hj]
  have pn : p1 (sk t) = t := by rw [hp]; show (if sk t = sk t then _ else _) = _; rw [if_pos rfl]
  have qo : ∀ j, ¬ j = t → q1 j = q j := fun j hj => by rw [hq]; show (if j = t then _ else _) = _; rw [if_neg hj]
  have qn : q1 t = sk t := by rw [hq]; show (if t = t then _ else _) = _; rw [if_pos rfl]
  have eg : p (sk t) = g (sk t) := h3 (sk t) (Int.le_refl _)
  have hg : ¬ g (sk t) = -4 := by rw [← eg]; exact hc
  obtain ⟨d1, d2⟩ : D (g (sk t)) ∧ rk (sk (g (sk t))) < rk (sk t) := by
    rcases w9 with a | a
    · exact absurd a.1 hg
    · exact a
  rw [eg]
  have own : p (sk t) = -4 ∨ (0 ≤ p (sk t) ∧ p (sk t) < nT ∧ q (p (sk t)) = sk t ∧ ¬ p (sk t) = t) := h1 (sk t) w4 w5
  rcases own with own | ⟨o1, o2, o3, o4⟩
  · exact absurd own hc
  rw [eg] at o1 o2 o3 o4
  have wd := hW _ d1
  refine ⟨d1, by omega, fun c k1 k2 => ?_, fun x k1 k2 => ?_, fun c k1 => ?_, fun c hne => ?_, fun x hne => ?_⟩
  · by_cases e : c = sk t
    · rw [e, pn]
      exact Or.inr ⟨w1, w2, qn, fun z => o4 z.symm⟩
    · rw [po c e]
      rcases h1 c k1 k2 with a | ⟨a1, a2, a3, a4⟩
      · exact Or.inl a
      · refine Or.inr ⟨a1, a2, by rw [qo _ a4]; exact a3, fun z => e ?_⟩
        rw [← a3, z, o3]
  · by_cases e : x = t
    · rw [e, qn]
      exact Or.inr (Or.inr ⟨w4, w5, pn⟩)
    · rw [qo x e]
      rcases h2 x k1 k2 with a | a | ⟨a1, a2, a3⟩
      · exact absurd a e
      · exact Or.inr (Or.inl a)
      · by_cases z : q x = sk t
        · rw [z, eg] at a3
          exact Or.inl a3.symm
        · exact Or.inr (Or.inr ⟨a1, a2, by rw [po _ z]; exact a3⟩)
  · have : ¬ c = sk t := fun z => by rw [z] at k1; omega
    rw [po c this]
    exact h3 c (by omega)
  · by_cases e : c = sk t
    · rw [e, pn]
      exact ⟨w4, w5, w6, w3, w1, hg, wd.2.2.1⟩
    · rw [po c e] at hne ⊢
      exact h4 c hne
  · by_cases e : x = t
    · rw [e]
      exact ⟨w1, w2, w3⟩
    · rw [qo x e] at hne
      exact h5 x hne
