-- the best cut; sewing; wishes
theorem Sm.cut {v u : VT} {o p t z : Int} (h : Sm v o u p) (ht : 0 ≤ t ∧ t < u p 5) (h8 : u p 4 ≤ 8) : Sm (cutV v o t z) o (cutV u p t z) p := by
  unfold cutV
  refine ⟨by rw [u_ne (by omega), u_ne (by omega)]; exact h.1, by rw [u_ne (by omega), u_ne (by omega)]; exact h.2.1, fun c k a b d e => ?_, fun x k a b d e => ?_⟩
  · rw [u_ne (by omega)] at b
    rw [u_ne (by omega), u_ne (by omega)]
    exact h.2.2.1 c k a b d e
  · rw [u_ne (by omega)] at b
    by_cases hx : x = t ∧ k = 2
    · rw [hx.1, hx.2, upd2_same, upd2_same]
    · rw [u_ne (by omega), u_ne (by omega)]
      exact h.2.2.2 x k a b d e
theorem Sm.cta {v u : VT} {o p t s q sl z : Int} {y : Nat} (h : Sm v o u p) (ht : 0 ≤ t ∧ t < u p 5) (h8 : 0 ≤ u p 4 ∧ u p 4 ≤ 8) : cutA v o t s q sl y z = cutA u p t s q sl y z := by
  unfold cutA
  exact (h.cut ht h8.2).ahs (by unfold cutV; rw [u_ne (by omega)]; exact h8) y
theorem CutQ.uniq {f : Int → Int} {sz b0 t z0 z1 n th zz n2 th2 zz2 : Int} (ht : 0 ≤ t) (h : CutQ f sz b0 t (-4) z0 0 n th zz) (h2 : CutQ f sz b0 t (-4) z1 0 n2 th2 zz2) : n = n2 ∧ th = th2 ∧ (¬ th = -4 → zz = zz2) := by
  rcases h with ⟨x, a1, a2, a3, a4, a5, a6, a7, a8⟩ | ⟨a1, a2, a3, a4⟩ <;> rcases h2 with ⟨y, c1, c2, c3, c4, c5, c6, c7, c8⟩ | ⟨c1, c2, c3, c4⟩
  · have e1 := a4 y c1 c2
    have e2 := c4 x a1 a2
    have e : x = y := by
      by_cases k1 : x < y
      · have := a5 y k1 c2; omega
      · by_cases k2 : y < x
        · have := c5 x k2 a2; omega
        · omega
    subst e
    exact ⟨by omega, by omega, fun _ => by omega⟩
  · have := c1 x a1 a2
    omega
  · have := a1 y c1 c2
    omega
  · exact ⟨by omega, by omega, fun k => absurd a3 k⟩
def BestQ (f : Int → Int → Int) (sz : Int → Int) (el : Int → Prop) (b0 T n th zz : Int) : Prop :=
  (th = -4 ∧ n = b0 ∧ ∀ t, 0 ≤ t → t < T → el t → ∀ i, 0 < i → i < sz t → b0 ≤ f t i) ∨
  ((0 ≤ th ∧ th < T ∧ el th ∧ 0 < zz ∧ zz < sz th ∧ n = f th zz ∧ n < b0) ∧ (∀ t, 0 ≤ t → t < T → el t → ∀ i, 0 < i → i < sz t → n ≤ f t i) ∧ (∀ t, 0 ≤ t → t < th → el t → ∀ i, 0 < i → i < sz t → n < f t i) ∧ ∀ i, zz < i → i < sz th → n < f th i)
theorem BestQ.none {f : Int → Int → Int} {sz : Int → Int} {el : Int → Prop} {b0 zz : Int} : BestQ f sz el b0 0 b0 (-4) zz := Or.inl ⟨rfl, rfl, fun t h1 h2 => by omega⟩
theorem BestQ.skip {f : Int → Int → Int} {sz : Int → Int} {el : Int → Prop} {b0 T n th zz : Int} (h : BestQ f sz el b0 T n th zz) (he : ¬ el T) : BestQ f sz el b0 (T + 1) n th zz := by
  have key : ∀ t, t < T + 1 → el t → t < T := fun t k1 k2 => by
    have : ¬ t = T := fun e => he (by rw [← e]; exact k2)
    omega
  rcases h with ⟨a1, a2, a3⟩ | ⟨a1, a2, a3, a4⟩
  · exact Or.inl ⟨a1, a2, fun t k1 k2 k3 => a3 t k1 (key t k2 k3) k3⟩
  · exact Or.inr ⟨⟨a1.1, by omega, a1.2.2⟩, fun t k1 k2 k3 => a2 t k1 (key t k2 k3) k3, a3, a4⟩
theorem BestQ.step {f : Int → Int → Int} {sz : Int → Int} {el : Int → Prop} {b0 T n th zz n2 th2 zz2 : Int} (hT : 0 ≤ T) (h : BestQ f sz el b0 T n th zz) (he : el T) (hc : CutQ (f T) (sz T) n T th zz 0 n2 th2 zz2) : BestQ f sz el b0 (T + 1) n2 th2 zz2 := by
  rcases hc with ⟨x, c1, c2, c3, c4, c5, c6, c7, c8⟩ | ⟨c1, c2, c3, c4⟩
  · have hn : n ≤ b0 := by
      rcases h with ⟨a1, a2, a3⟩ | ⟨a1, a2, a3, a4⟩ <;> omega
    have hl : ∀ t, 0 ≤ t → t < T → el t → ∀ i, 0 < i → i < sz t → n ≤ f t i := by
      rcases h with ⟨a1, a2, a3⟩ | ⟨a1, a2, a3, a4⟩
      · rw [a2]; exact a3
      · exact a2
    rw [c6, c7, c8]
    refine Or.inr ⟨⟨hT, by omega, he, c1, c2, rfl, by omega⟩, fun t k1 k2 k3 i k4 k5 => ?_, fun t k1 k2 k3 i k4 k5 => ?_, c5⟩
    · by_cases e : t = T
      · rw [e] at k5 ⊢; exact c4 i k4 k5
      · have := hl t k1 (by omega) k3 i k4 k5; omega
    · have := hl t k1 k2 k3 i k4 k5; omega
  · rw [c2, c3, c4]
    rcases h with ⟨a1, a2, a3⟩ | ⟨a1, a2, a3, a4⟩
    · refine Or.inl ⟨a1, a2, fun t k1 k2 k3 i k4 k5 => ?_⟩
      by_cases e : t = T
      · rw [e] at k5 ⊢; have := c1 i k4 k5; omega
      · exact a3 t k1 (by omega) k3 i k4 k5
    · refine Or.inr ⟨⟨a1.1, by omega, a1.2.2⟩, fun t k1 k2 k3 i k4 k5 => ?_, a3, a4⟩
      by_cases e : t = T
      · rw [e] at k5 ⊢; exact c1 i k4 k5
      · exact a2 t k1 (by omega) k3 i k4 k5
theorem BestQ.uniq {f : Int → Int → Int} {sz : Int → Int} {el : Int → Prop} {b0 T n th zz n2 th2 zz2 : Int} (h : BestQ f sz el b0 T n th zz) (h2 : BestQ f sz el b0 T n2 th2 zz2) : n = n2 ∧ th = th2 ∧ (¬ th = -4 → zz = zz2) := by
  rcases h with ⟨a1, a2, a3⟩ | ⟨a1, a2, a3, a4⟩ <;> rcases h2 with ⟨c1, c2, c3⟩ | ⟨c1, c2, c3, c4⟩
  · exact ⟨by omega, by omega, fun k => absurd a1 k⟩
  · have := a3 th2 c1.1 c1.2.1 c1.2.2.1 zz2 c1.2.2.2.1 c1.2.2.2.2.1
    omega
  · have := c3 th a1.1 a1.2.1 a1.2.2.1 zz a1.2.2.2.1 a1.2.2.2.2.1
    omega
  · have e1 := a2 th2 c1.1 c1.2.1 c1.2.2.1 zz2 c1.2.2.2.1 c1.2.2.2.2.1
    have e2 := c2 th a1.1 a1.2.1 a1.2.2.1 zz a1.2.2.2.1 a1.2.2.2.2.1
    have e : th = th2 := by
      by_cases k1 : th < th2
      · have := c3 th a1.1 k1 a1.2.2.1 zz a1.2.2.2.1 a1.2.2.2.2.1; omega
      · by_cases k2 : th2 < th
        · have := a3 th2 c1.1 k2 c1.2.2.1 zz2 c1.2.2.2.1 c1.2.2.2.2.1; omega
        · omega
    subst e
    have ez : zz = zz2 := by
      by_cases k1 : zz < zz2
      · have := a4 zz2 k1 c1.2.2.2.2.1; omega
      · by_cases k2 : zz2 < zz
        · have := c4 zz k2 a1.2.2.2.2.1; omega
        · omega
    exact ⟨by omega, rfl, fun _ => ez⟩
/-- one thing more -/
def sewV (v : VT) (o s z l : Int) : VT := upd2 (plainF v (o + 13 + v o 5) s z l) o 5 (v o 5 + 1)
theorem plainF_at {v : VT} {r s z l j : Int} (h : 0 ≤ j ∧ j < 8) : plainF v r s z l r j = if j = 0 then s else if j = 2 then z else if j = 3 then l else if j = 6 ∨ j = 7 then -4 else 0 := by
  unfold plainF
  rcases (show j = 0 ∨ j = 1 ∨ j = 2 ∨ j = 3 ∨ j = 4 ∨ j = 5 ∨ j = 6 ∨ j = 7 by omega) with rfl | rfl | rfl | rfl | rfl | rfl | rfl | rfl <;> simp [upd2]
theorem sewV_5 {v : VT} {o s z l : Int} : sewV v o s z l o 5 = v o 5 + 1 := upd2_same _ _ _ _
theorem sewV_o {v : VT} {o s z l a j : Int} (h : ¬ a = o + 13 + v o 5) (h2 : ¬ a = o ∨ ¬ j = 5) : sewV v o s z l a j = v a j := by
  unfold sewV
  rw [u_ne (by omega), plainF_ne h]
theorem sewV_t {v : VT} {o s z l j : Int} (h5 : 0 ≤ v o 5) (h : 0 ≤ j ∧ j < 8) : sewV v o s z l (o + 13 + v o 5) j = if j = 0 then s else if j = 2 then z else if j = 3 then l else if j = 6 ∨ j = 7 then -4 else 0 := by
  unfold sewV
  rw [u_ne (by omega), plainF_at h]
theorem Sm.sew {v u : VT} {o p s z l : Int} (h : Sm v o u p) (h8 : u p 4 ≤ 8) (h5 : 0 ≤ u p 5) : Sm (sewV v o s z l) o (sewV u p s z l) p := by
  have e5 := h.2.1
  refine ⟨by rw [sewV_o (by omega) (by omega), sewV_o (by omega) (by omega)]; exact h.1, by rw [sewV_5, sewV_5, h.2.1], fun c k a b d e => ?_, fun x k a b d e => ?_⟩
  · rw [sewV_o (by omega) (by omega)] at b
    rw [sewV_o (by omega) (by omega), sewV_o (by omega) (by omega)]
    exact h.2.2.1 c k a b d e
  · rw [sewV_5] at b
    by_cases hx : x = u p 5
    · have h1 := sewV_t (v := v) (o := o) (s := s) (z := z) (l := l) (j := k) (by omega) ⟨d, e⟩
      have h2 := sewV_t (v := u) (o := p) (s := s) (z := z) (l := l) (j := k) h5 ⟨d, e⟩
      rw [e5] at h1
      rw [hx, h1, h2]
    · rw [sewV_o (by omega) (by omega), sewV_o (by omega) (by omega)]
      exact h.2.2.2 x k a (by omega) d e
theorem WFV.sew {v : VT} {o s z l : Int} (hw : WFV v o) (h10 : v o 5 < 10) (hs : s = 0 ∨ s = 1) (hz : 1 ≤ z ∧ z ≤ 40) (hl : 1 ≤ l ∧ l ≤ 9) : WFV (sewV v o s z l) o := by
  obtain ⟨w1, w2, w3, w4, w5⟩ := hw
  have e4 : sewV v o s z l o 4 = v o 4 := sewV_o (by omega) (by omega)
  have ht := fun j h => sewV_t (v := v) (o := o) (s := s) (z := z) (l := l) (j := j) w2.1 h
  refine ⟨by rw [e4]; exact w1, by rw [sewV_5]; omega, fun c a b => ?_, fun x a b => ?_, fun x y a b d e f g k => ?_⟩
  · rw [e4] at b
    have := w3 c a b
    have q : ∀ j, sewV v o s z l (o + 5 + c) j = v (o + 5 + c) j := fun j => sewV_o (by omega) (by omega)
    unfold chOK at *
    rw [q, q, q]
    exact this
  · rw [sewV_5] at b
    rw [e4]
    by_cases hx : x = v o 5
    · have q0 : sewV v o s z l (o + 13 + v o 5) 0 = s := (ht 0 (by omega)).trans rfl
      have q1 : sewV v o s z l (o + 13 + v o 5) 1 = 0 := (ht 1 (by omega)).trans rfl
      have q2 : sewV v o s z l (o + 13 + v o 5) 2 = z := (ht 2 (by omega)).trans rfl
      have q3 : sewV v o s z l (o + 13 + v o 5) 3 = l := (ht 3 (by omega)).trans rfl
      have q4 : sewV v o s z l (o + 13 + v o 5) 4 = 0 := (ht 4 (by omega)).trans rfl
      have q5 : sewV v o s z l (o + 13 + v o 5) 5 = 0 := (ht 5 (by omega)).trans rfl
      have q6 : sewV v o s z l (o + 13 + v o 5) 6 = -4 := (ht 6 (by omega)).trans rfl
      have q7 : sewV v o s z l (o + 13 + v o 5) 7 = -4 := (ht 7 (by omega)).trans rfl
      unfold tgOK
      rw [hx, q0, q1, q2, q3, q4, q5, q6, q7]
      exact ⟨hs, by omega, by omega, by omega, by omega, Or.inl rfl, by omega, Or.inl rfl, Or.inl rfl, fun h => absurd rfl h⟩
    · have := w4 x a (by omega)
      have q : ∀ j, sewV v o s z l (o + 13 + x) j = v (o + 13 + x) j := fun j => sewV_o (by omega) (by omega)
      unfold tgOK at *
      simp only [q]
      exact this
  · rw [sewV_5] at b e
    have h7 : sewV v o s z l (o + 13 + v o 5) 7 = -4 := by
      rw [ht 7 (by omega)]
      rfl
    have q : ∀ x j, 0 ≤ x → ¬ x = v o 5 → sewV v o s z l (o + 13 + x) j = v (o + 13 + x) j := fun x j h0 hx => sewV_o (by omega) (by omega)
    by_cases hx : x = v o 5
    · rw [hx, h7] at f
      exact absurd rfl f
    · by_cases hy : y = v o 5
      · rw [hy, h7] at g
        exact absurd g f
      · rw [q x 7 a hx] at f g
        rw [q y 7 d hy] at g
        rw [q x 0 a hx, q y 0 d hy] at k
        exact w5 x y a (by omega) d (by omega) f g k
noncomputable def wishA (v : VT) (o s q sl : Int) (y : Nat) (z : Int) : Int := ahdS (sewV v o s z 9) o s q sl y
def LeastQ (f : Int → Int) (hi z n : Int) : Prop := 1 ≤ z ∧ z ≤ hi ∧ n = f z ∧ (∀ i, 1 ≤ i → i ≤ hi → n ≤ f i) ∧ ∀ i, 1 ≤ i → i < z → n < f i
theorem LeastQ.uniq {f : Int → Int} {hi z n z2 n2 : Int} (h : LeastQ f hi z n) (h2 : LeastQ f hi z2 n2) : z = z2 ∧ n = n2 := by
  obtain ⟨a1, a2, a3, a4, a5⟩ := h
  obtain ⟨c1, c2, c3, c4, c5⟩ := h2
  have e1 := a4 z2 c1 c2
  have e2 := c4 z a1 a2
  have e : z = z2 := by
    by_cases k1 : z < z2
    · have := c5 z a1 k1; omega
    · by_cases k2 : z2 < z
      · have := a5 z2 c1 k2; omega
      · omega
  exact ⟨e, by omega⟩
theorem LeastQ.keep {f : Int → Int} {hi z n : Int} (h : LeastQ f hi z n) (hf : n ≤ f (hi + 1)) : LeastQ f (hi + 1) z n := by
  obtain ⟨a1, a2, a3, a4, a5⟩ := h
  refine ⟨a1, by omega, a3, fun i k1 k2 => ?_, a5⟩
  by_cases e : i = hi + 1
  · rw [e]; exact hf
  · exact a4 i k1 (by omega)
theorem LeastQ.next {f : Int → Int} {hi z n : Int} (h : LeastQ f hi z n) (hf : f (hi + 1) < n) : LeastQ f (hi + 1) (hi + 1) (f (hi + 1)) := by
  obtain ⟨a1, a2, a3, a4, a5⟩ := h
  refine ⟨by omega, by omega, rfl, fun i k1 k2 => ?_, fun i k1 k2 => ?_⟩
  · by_cases e : i = hi + 1
    · rw [e]; omega
    · have := a4 i k1 (by omega); omega
  · have := a4 i k1 (by omega); omega
theorem LeastQ.one {f : Int → Int} : LeastQ f 1 1 (f 1) := ⟨by omega, by omega, rfl, fun i k1 k2 => by rw [show i = 1 by omega]; exact Int.le_refl _, fun i k1 k2 => by omega⟩
