-- the same village in two places; what keeps a village as told
def Sm (v : VT) (o : Int) (u : VT) (p : Int) : Prop := v o 4 = u p 4 ∧ v o 5 = u p 5 ∧ (∀ c k, 0 ≤ c → c < u p 4 → 0 ≤ k → k < 3 → v (o + 5 + c) k = u (p + 5 + c) k) ∧ (∀ t k, 0 ≤ t → t < u p 5 → 0 ≤ k → k < 8 → v (o + 13 + t) k = u (p + 13 + t) k)
theorem Sm.rf {v : VT} {o : Int} : Sm v o v o := ⟨rfl, rfl, fun _ _ _ _ _ _ => rfl, fun _ _ _ _ _ _ => rfl⟩
theorem Sm.sy {v u : VT} {o p : Int} (h : Sm v o u p) : Sm u p v o := ⟨h.1.symm, h.2.1.symm, fun c k a b d e => (h.2.2.1 c k a (by rw [← h.1]; exact b) d e).symm, fun t k a b d e => (h.2.2.2 t k a (by rw [← h.2.1]; exact b) d e).symm⟩
theorem Sm.tr {v u x : VT} {o p q : Int} (h : Sm v o u p) (h2 : Sm u p x q) : Sm v o x q := ⟨h.1.trans h2.1, h.2.1.trans h2.2.1, fun c k a b d e => (h.2.2.1 c k a (by rw [h2.1]; exact b) d e).trans (h2.2.2.1 c k a b d e), fun t k a b d e => (h.2.2.2 t k a (by rw [h2.2.1]; exact b) d e).trans (h2.2.2.2 t k a b d e)⟩
theorem Sm.wfv {v u : VT} {o p : Int} (h : Sm v o u p) (hw : WFV u p) : WFV v o := by
  obtain ⟨h1, h2, h3, h4⟩ := h
  obtain ⟨w1, w2, w3, w4, w5⟩ := hw
  refine ⟨by rw [h1]; exact w1, by rw [h2]; exact w2, fun c a b => ?_, fun t a b => ?_, fun t x a b d e f g k => ?_⟩
  · rw [h1] at b
    have := w3 c a b
    unfold chOK at *
    rw [h3 c 0 a b (by omega) (by omega), h3 c 1 a b (by omega) (by omega), h3 c 2 a b (by omega) (by omega)]
    exact this
  · rw [h2] at b
    have := w4 t a b
    unfold tgOK at *
    rw [h1, h4 t 0 a b (by omega) (by omega), h4 t 1 a b (by omega) (by omega), h4 t 2 a b (by omega) (by omega), h4 t 3 a b (by omega) (by omega), h4 t 4 a b (by omega) (by omega), h4 t 5 a b (by omega) (by omega), h4 t 6 a b (by omega) (by omega), h4 t 7 a b (by omega) (by omega)]
    exact this
  · rw [h2] at b e
    rw [h4 t 7 a b (by omega) (by omega)] at f g
    rw [h4 x 7 d e (by omega) (by omega)] at g
    rw [h4 t 0 a b (by omega) (by omega), h4 x 0 d e (by omega) (by omega)] at k
    exact w5 t x a b d e f g k
theorem Sm.fit {v u : VT} {o p c t sl : Int} (h : Sm v o u p) (hc : 0 ≤ c ∧ c < u p 4) (ht : 0 ≤ t ∧ t < u p 5) : fitV v o c t sl = fitV u p c t sl := by
  obtain ⟨h1, h2, h3, h4⟩ := h
  unfold fitV
  rw [h3 c 0 hc.1 hc.2 (by omega) (by omega), h4 t 1 ht.1 ht.2 (by omega) (by omega), h4 t 2 ht.1 ht.2 (by omega) (by omega), h4 t 3 ht.1 ht.2 (by omega) (by omega), h4 t 4 ht.1 ht.2 (by omega) (by omega), h4 t 5 ht.1 ht.2 (by omega) (by omega), h4 t 6 ht.1 ht.2 (by omega) (by omega)]
theorem Sm.may {v u : VT} {o p s sl : Int} (h : Sm v o u p) : mayA v o s sl = mayA u p s sl := by
  funext c t
  apply propext
  unfold mayA
  constructor
  · rintro ⟨a1, a2, a3, a4, a5, a6⟩
    rw [h.1] at a2
    rw [h.2.1] at a4
    rw [h.2.2.2 t 0 a3 a4 (by omega) (by omega)] at a5
    rw [h.fit ⟨a1, a2⟩ ⟨a3, a4⟩] at a6
    exact ⟨a1, a2, a3, a4, a5, a6⟩
  · rintro ⟨a1, a2, a3, a4, a5, a6⟩
    rw [← h.fit ⟨a1, a2⟩ ⟨a3, a4⟩] at a6
    rw [← h.2.2.2 t 0 a3 a4 (by omega) (by omega)] at a5
    rw [← h.1] at a2
    rw [← h.2.1] at a4
    exact ⟨a1, a2, a3, a4, a5, a6⟩
theorem Sm.deal {v u : VT} {o p s sl : Int} (h : Sm v o u p) : dealV v o s sl = dealV u p s sl := by
  unfold dealV
  rw [h.may, h.1]
theorem Sm.warm {v u : VT} {o p s sl : Int} (h : Sm v o u p) : warmV v o s sl = warmV u p s sl := by
  unfold warmV
  rw [h.deal, h.1]
theorem firstT_congr {p q : Int → Bool} : ∀ (k : Nat) (i : Int), (∀ j, i ≤ j → j < i + k → p j = q j) → firstT p k i = firstT q k i
  | 0, _, _ => rfl
  | k + 1, i, h => by
    unfold firstT
    rw [h i (by omega) (by omega), firstT_congr k (i + 1) (fun j a b => h j (by omega) (by omega))]
theorem Sm.wo {v u : VT} {o p c s : Int} (h : Sm v o u p) (hb : 0 ≤ u p 5) : wornI v o c s = wornI u p c s := by
  unfold wornI
  rw [h.2.1]
  refine firstT_congr _ _ (fun j a b => ?_)
  have b2 : j < u p 5 := by omega
  rw [h.2.2.2 j 0 a b2 (by omega) (by omega), h.2.2.2 j 7 a b2 (by omega) (by omega)]
theorem sm_bod {v : VT} {o o2 : Int} (hc : 0 ≤ v o2 4 ∧ v o2 4 ≤ 8) (hb : 0 ≤ v o2 5 ∧ v o2 5 ≤ 10) : Sm (bodF v o o2 (v o2 4) (v o2 5)) o v o2 := by
  refine ⟨bodF_4, bodF_5, fun c k a b d e => ?_, fun t k a b d e => ?_⟩
  · unfold bodF
    rw [if_neg (by omega), if_neg (by omega), if_pos (Or.inl ⟨by omega, by omega, d, e⟩)]
    congr 1
    omega
  · unfold bodF
    rw [if_neg (by omega), if_neg (by omega), if_pos (Or.inr ⟨by omega, by omega, d, e⟩)]
    congr 1
    omega
/-- some take off what they wear -/
theorem WFV.off {v u : VT} {o : Int} (hw : WFV v o) (h1 : u o 4 = v o 4) (h2 : u o 5 = v o 5) (h3 : ∀ c k, 0 ≤ c → c < v o 4 → u (o + 5 + c) k = v (o + 5 + c) k) (h4 : ∀ t k, 0 ≤ t → t < v o 5 → ¬ k = 7 → u (o + 13 + t) k = v (o + 13 + t) k) (h5 : ∀ t, 0 ≤ t → t < v o 5 → u (o + 13 + t) 7 = -4 ∨ u (o + 13 + t) 7 = v (o + 13 + t) 7) : WFV u o := by
  obtain ⟨w1, w2, w3, w4, w5⟩ := hw
  refine ⟨by rw [h1]; exact w1, by rw [h2]; exact w2, fun c a b => ?_, fun t a b => ?_, fun t x a b d e f g k => ?_⟩
  · rw [h1] at b
    have := w3 c a b
    unfold chOK at *
    rw [h3 c 0 a b, h3 c 1 a b, h3 c 2 a b]
    exact this
  · rw [h2] at b
    have := w4 t a b
    have h6 := h5 t a b
    unfold tgOK at *
    rw [h1, h4 t 0 a b (by omega), h4 t 1 a b (by omega), h4 t 2 a b (by omega), h4 t 3 a b (by omega), h4 t 4 a b (by omega), h4 t 5 a b (by omega), h4 t 6 a b (by omega)]
    obtain ⟨t1, t2, t3, t4, t5, t6, t7, t8, t9, t10⟩ := this
    refine ⟨t1, t2, t3, t4, t5, t6, t7, t8, ?_, fun hz => ?_⟩
    · omega
    · exact t10 (by omega)
  · rw [h2] at b e
    rw [h4 t 0 a b (by omega), h4 x 0 d e (by omega)] at k
    have h6 := h5 t a b
    have h7 := h5 x d e
    exact w5 t x a b d e (by omega) (by omega) k
theorem WFV.und {v : VT} {o s : Int} (hw : WFV v o) : WFV (undF v o s (v o 5)) o := by
  refine hw.off (undF_out (by omega)) (undF_out (by omega)) (fun c k a b => undF_out (by have := hw.1; omega)) (fun t k a b hk => undF_out (by omega)) (fun t a b => ?_)
  unfold undF
  split
  · exact Or.inl rfl
  · exact Or.inr rfl
theorem fit_ne {k z l w lt h c b sl : Int} (hf : ¬ fitI k z l w lt h c b sl = 0) : outI k l w = 0 := by
  rcases outI_01 k l w with h0 | h0
  · exact h0
  · exfalso
    apply hf
    unfold fitI
    rw [if_pos (Or.inl h0)]
theorem fit_two {k z l w lt h c b sl : Int} (hf : fitI k z l w lt h c b sl = 2) : lt = 0 := by
  unfold fitI at hf
  by_cases hl : lt = 0
  · exact hl
  · exfalso
    (repeat' split at hf) <;> omega
/-- c puts on t, which fits, where he wears nothing of that slot -/
theorem putF_at {v : VT} {r c b sl j : Int} : putF v r c b sl r j = if j = 7 then c else if fitI (v r 1) (v r 2) (v r 3) (v r 4) (v r 5) (v r 6) c b sl = 2 ∧ j = 2 then v r 2 + 2 else if fitI (v r 1) (v r 2) (v r 3) (v r 4) (v r 5) (v r 6) c b sl = 2 ∧ j = 5 then 1 else v r j := by
  unfold putF
  by_cases hf : fitI (v r 1) (v r 2) (v r 3) (v r 4) (v r 5) (v r 6) c b sl = 2
  · rw [if_pos hf]
    simp only [upd2, hf, true_and]
  · rw [if_neg hf]
    simp only [upd2, hf, true_and, false_and, if_false]
theorem WFV.put {v : VT} {o c t sl : Int} (hw : WFV v o) (hc : 0 ≤ c ∧ c < v o 4) (ht : 0 ≤ t ∧ t < v o 5) (hf : ¬ fitV v o c t sl = 0) (hn : ∀ x, 0 ≤ x → x < v o 5 → ¬ x = t → v (o + 13 + x) 0 = v (o + 13 + t) 0 → ¬ v (o + 13 + x) 7 = c) : WFV (putF v (o + 13 + t) c (v (o + 5 + c) 0) sl) o := by
  have e4 : putF v (o + 13 + t) c (v (o + 5 + c) 0) sl o 4 = v o 4 := putF_ne (by omega)
  have e5 : putF v (o + 13 + t) c (v (o + 5 + c) 0) sl o 5 = v o 5 := putF_ne (by omega)
  have e6 : ∀ x j, ¬ x = t → putF v (o + 13 + t) c (v (o + 5 + c) 0) sl (o + 13 + x) j = v (o + 13 + x) j := fun x j h => putF_ne (by omega)
  have e0 : ∀ x, putF v (o + 13 + t) c (v (o + 5 + c) 0) sl (o + 13 + x) 0 = v (o + 13 + x) 0 := fun x => by
    by_cases h : x = t
    · rw [h, putF_at, if_neg (by omega), if_neg (by omega), if_neg (by omega)]
    · exact e6 x 0 h
  have e7 : putF v (o + 13 + t) c (v (o + 5 + c) 0) sl (o + 13 + t) 7 = c := by rw [putF_at, if_pos rfl]
  obtain ⟨w1, w2, w3, w4, w5⟩ := hw
  refine ⟨by rw [e4]; exact w1, by rw [e5]; exact w2, fun d a b => ?_, fun x a b => ?_, fun x y a b d e f g k => ?_⟩
  · rw [e4] at b
    have := w3 d a b
    unfold chOK at *
    have q : ∀ j, putF v (o + 13 + t) c (v (o + 5 + c) 0) sl (o + 5 + d) j = v (o + 5 + d) j := fun j => putF_ne (by omega)
    rw [q, q, q]
    exact this
  · rw [e5] at b
    have := w4 x a b
    unfold tgOK at *
    rw [e4]
    by_cases hx : x = t
    · subst hx
      have q := fun j => putF_at (v := v) (r := o + 13 + x) (c := c) (b := v (o + 5 + c) 0) (sl := sl) (j := j)
      have hf2 := fit_two (k := v (o + 13 + x) 1) (z := v (o + 13 + x) 2) (l := v (o + 13 + x) 3) (w := v (o + 13 + x) 4) (lt := v (o + 13 + x) 5) (h := v (o + 13 + x) 6) (c := c) (b := v (o + 5 + c) 0) (sl := sl)
      have ho := fit_ne hf
      have q2 := q 2
      have q5 := q 5
      simp only [show ¬ (2 : Int) = 7 by omega, show ¬ (5 : Int) = 7 by omega, show ¬ (5 : Int) = 2 by omega, show ¬ (2 : Int) = 5 by omega, if_false, and_true, and_false] at q2 q5
      rw [e0, e7, q 1, q 3, q 4, q 6, if_neg (by omega), if_neg (by omega), if_neg (by omega), if_neg (by omega), if_neg (by omega), if_neg (by omega), if_neg (by omega), if_neg (by omega), if_neg (by omega), if_neg (by omega), if_neg (by omega), if_neg (by omega), q2, q5]
      obtain ⟨t1, t2, t3, t4, t5, t6, t7, t8, t9, t10⟩ := this
      refine ⟨t1, t2, ?_, t4, t5, ?_, ?_, t8, Or.inr hc, fun _ => ho⟩
      · split
        · rename_i hz
          have := t7 (hf2 hz)
          omega
        · exact t3
      · split
        · exact Or.inr rfl
        · exact t6
      · split
        · intro hz; omega
        · exact t7
    · simp only [e6 x _ hx]
      exact this
  · rw [e5] at b e
    rw [e0, e0] at k
    by_cases hx : x = t
    · subst hx
      by_cases hy : y = x
      · exact hy.symm
      · rw [e7, e6 y 7 hy] at g
        exact absurd g.symm (hn y d e hy k.symm)
    · by_cases hy : y = t
      · subst hy
        rw [e7, e6 x 7 hx] at g
        exact absurd g (hn x a b hx k)
      · rw [e6 x 7 hx] at f g
        rw [e6 y 7 hy] at g
        exact w5 x y a b d e f g k
theorem WFV.win {v : VT} {o : Int} (hw : WFV v o) : WFV (winF v o (v o 5)) o := by
  have e4 : winF v o (v o 5) o 4 = v o 4 := winF_out (by omega)
  have e5 : winF v o (v o 5) o 5 = v o 5 := winF_out (by omega)
  have q : ∀ t j, 0 ≤ t → t < v o 5 → winF v o (v o 5) (o + 13 + t) j = if ¬ v (o + 13 + t) 7 = -4 then (if j = 4 then v (o + 13 + t) 4 + 1 else if j = 7 ∧ outI (v (o + 13 + t) 1) (v (o + 13 + t) 3) (v (o + 13 + t) 4 + 1) = 1 then -4 else v (o + 13 + t) j) else v (o + 13 + t) j := fun t j a b => by
    unfold winF
    by_cases h : v (o + 13 + t) 7 = -4
    · rw [if_neg (by omega), if_neg (by omega)]
    · rw [if_pos ⟨by omega, by omega, h⟩, if_pos h]
  have qo : ∀ t j, 0 ≤ t → t < v o 5 → ¬ j = 4 → ¬ j = 7 → winF v o (v o 5) (o + 13 + t) j = v (o + 13 + t) j := fun t j a b h1 h2 => by
    rw [q t j a b]
    by_cases hz : v (o + 13 + t) 7 = -4
    · rw [if_neg (fun z => z hz)]
    · rw [if_pos hz, if_neg h1, if_neg (fun z => h2 z.1)]
  have q7 : ∀ t, 0 ≤ t → t < v o 5 → winF v o (v o 5) (o + 13 + t) 7 = -4 ∨ (winF v o (v o 5) (o + 13 + t) 7 = v (o + 13 + t) 7 ∧ ¬ v (o + 13 + t) 7 = -4 ∧ outI (v (o + 13 + t) 1) (v (o + 13 + t) 3) (v (o + 13 + t) 4 + 1) = 0) := fun t a b => by
    rw [q t 7 a b]
    by_cases h : v (o + 13 + t) 7 = -4
    · rw [if_neg (fun z => z h)]
      exact Or.inl h
    · rw [if_pos h, if_neg (by omega)]
      rcases outI_01 (v (o + 13 + t) 1) (v (o + 13 + t) 3) (v (o + 13 + t) 4 + 1) with k | k
      · rw [if_neg (by omega)]
        exact Or.inr ⟨rfl, h, k⟩
      · rw [if_pos ⟨rfl, k⟩]
        exact Or.inl rfl
  obtain ⟨w1, w2, w3, w4, w5⟩ := hw
  refine ⟨by rw [e4]; exact w1, by rw [e5]; exact w2, fun d a b => ?_, fun x a b => ?_, fun x y a b d e f g k => ?_⟩
  · rw [e4] at b
    have := w3 d a b
    unfold chOK at *
    have qq : ∀ j, winF v o (v o 5) (o + 5 + d) j = v (o + 5 + d) j := fun j => winF_out (by omega)
    rw [qq, qq, qq]
    exact this
  · rw [e5] at b
    have := w4 x a b
    unfold tgOK at *
    rw [e4, qo x 0 a b (by omega) (by omega), qo x 1 a b (by omega) (by omega), qo x 2 a b (by omega) (by omega), qo x 3 a b (by omega) (by omega), qo x 5 a b (by omega) (by omega), qo x 6 a b (by omega) (by omega)]
    obtain ⟨t1, t2, t3, t4, t5, t6, t7, t8, t9, t10⟩ := this
    have h4 := q x 4 a b
    rw [if_pos rfl] at h4
    refine ⟨t1, t2, t3, t4, ?_, t6, t7, t8, ?_, fun hz => ?_⟩
    · by_cases h : v (o + 13 + x) 7 = -4
      · rw [if_neg (fun z => z h)] at h4
        rw [h4]; exact t5
      · rw [if_pos h] at h4
        have := t10 h
        unfold outI at this
        rw [h4]
        (repeat' split at this) <;> omega
    · rcases q7 x a b with h | h
      · exact Or.inl h
      · rw [h.1]; exact t9
    · rcases q7 x a b with h | h
      · exact absurd h hz
      · rw [if_pos h.2.1] at h4
        rw [h4]
        exact h.2.2
  · rw [e5] at b e
    rw [qo x 0 a b (by omega) (by omega), qo y 0 d e (by omega) (by omega)] at k
    rcases q7 x a b with h | h
    · exact absurd h f
    · rcases q7 y d e with h2 | h2
      · omega
      · exact w5 x y a b d e h.2.1 (by omega) k
theorem WFV.grw {v : VT} {o q : Int} (hw : WFV v o) : WFV (grwF v o q (v o 4)) o := by
  obtain ⟨w1, w2, w3, w4, w5⟩ := hw
  have e4 : grwF v o q (v o 4) o 4 = v o 4 := grwF_out (by omega)
  have e5 : grwF v o q (v o 4) o 5 = v o 5 := grwF_out (by omega)
  have et : ∀ t j, 0 ≤ t → grwF v o q (v o 4) (o + 13 + t) j = v (o + 13 + t) j := fun t j h => grwF_out (by omega)
  refine ⟨by rw [e4]; exact w1, by rw [e5]; exact w2, fun d a b => ?_, fun x a b => ?_, fun x y a b d e f g k => ?_⟩
  · rw [e4] at b
    have := w3 d a b
    unfold chOK at *
    have h0 : grwF v o q (v o 4) (o + 5 + d) 0 = grwV v q (o + 5 + d) := by
      unfold grwF
      rw [if_pos ⟨by omega, by omega, rfl⟩]
    rw [h0, grwF_out (by omega), grwF_out (by omega)]
    obtain ⟨c1, c2, c3, c4, c5, c6⟩ := this
    refine ⟨?_, ?_, c3, c4, c5, c6⟩ <;> unfold grwV growI <;> (repeat' split) <;> omega
  · rw [e5] at b
    have := w4 x a b
    unfold tgOK at *
    rw [e4]
    simp only [et x _ a]
    exact this
  · rw [e5] at b e
    rw [et x _ a] at f g k
    rw [et y _ d] at g k
    exact w5 x y a b d e f g k
theorem WFV.spr {v : VT} {o sl q : Int} (hw : WFV v o) : WFV (sprF (grwF v o q (v o 4)) o (v o 4) sl (v o 5)) o := by
  have h0 := hw.grw (q := q)
  have e4 : grwF v o q (v o 4) o 4 = v o 4 := grwF_out (by omega)
  have e5 : grwF v o q (v o 4) o 5 = v o 5 := grwF_out (by omega)
  refine h0.off (sprF_out (by omega)) (sprF_out (by omega)) (fun c k a b => sprF_out (by rw [e4] at b; have := hw.1; omega)) (fun t k a b hk => sprF_out (by omega)) (fun t a b => ?_)
  unfold sprF
  split
  · exact Or.inl rfl
  · exact Or.inr rfl
theorem WFV.str {v : VT} {o s l : Int} (hw : WFV v o) (hl : 1 ≤ l ∧ l ≤ 9) : WFV (strF v o s l (v o 5)) o := by
  obtain ⟨w1, w2, w3, w4, w5⟩ := hw
  have e4 : strF v o s l (v o 5) o 4 = v o 4 := strF_out (by omega)
  have e5 : strF v o s l (v o 5) o 5 = v o 5 := strF_out (by omega)
  have et : ∀ t j, ¬ j = 3 → strF v o s l (v o 5) (o + 13 + t) j = v (o + 13 + t) j := fun t j h => strF_out (by omega)
  refine ⟨by rw [e4]; exact w1, by rw [e5]; exact w2, fun d a b => ?_, fun x a b => ?_, fun x y a b d e f g k => ?_⟩
  · rw [e4] at b
    have := w3 d a b
    unfold chOK at *
    have qq : ∀ j, strF v o s l (v o 5) (o + 5 + d) j = v (o + 5 + d) j := fun j => strF_out (by omega)
    rw [qq, qq, qq]
    exact this
  · rw [e5] at b
    have := w4 x a b
    unfold tgOK at *
    rw [e4, et x 0 (by omega), et x 1 (by omega), et x 2 (by omega), et x 4 (by omega), et x 5 (by omega), et x 6 (by omega), et x 7 (by omega)]
    obtain ⟨t1, t2, t3, t4, t5, t6, t7, t8, t9, t10⟩ := this
    have h3 : strF v o s l (v o 5) (o + 13 + x) 3 = v (o + 13 + x) 3 ∨ (strF v o s l (v o 5) (o + 13 + x) 3 = l ∧ v (o + 13 + x) 3 < l) := by
      unfold strF lasV
      (repeat' split) <;> omega
    refine ⟨t1, t2, t3, by omega, t5, t6, t7, t8, t9, fun hz => ?_⟩
    have := t10 hz
    unfold outI at *
    (repeat' split at this) <;> (repeat' split) <;> omega
  · rw [e5] at b e
    rw [et x _ (by omega)] at f g k
    rw [et y _ (by omega)] at g
    rw [et y _ (by omega)] at k
    exact w5 x y a b d e f g k
