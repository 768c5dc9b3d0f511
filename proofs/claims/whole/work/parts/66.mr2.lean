-- how the Model's row follows a village
theorem worn_at {B : VT} {o t c s : Int} (hW : WFV B o) (ht : 0 ≤ t ∧ t < B o 5) (h7 : B (o + 13 + t) 7 = c) (hc : ¬ c = -4) (h0 : B (o + 13 + t) 0 = s) : wornI B o c s = t := by
  refine (wornQ_eq hW.2.1.1 (Or.inr ⟨ht.1, ht.2, h0, h7, fun j a b z => ?_⟩)).symm
  have := hW.2.2.2.2 t j ht.1 ht.2 a (by omega) (by rw [h7]; exact hc) (by rw [h7, z.2]) (by rw [h0, z.1])
  omega
theorem worn_no {B : VT} {o c s : Int} (hb : 0 ≤ B o 5) (h : ∀ t, 0 ≤ t → t < B o 5 → ¬ (B (o + 13 + t) 0 = s ∧ B (o + 13 + t) 7 = c)) : wornI B o c s = -4 :=
  (wornQ_eq hb (Or.inl ⟨rfl, h⟩)).symm
theorem worn_neg {B : VT} {o c s : Int} (hb : 0 ≤ B o 5) (h : wornI B o c s = -4) : ∀ t, 0 ≤ t → t < B o 5 → ¬ (B (o + 13 + t) 0 = s ∧ B (o + 13 + t) 7 = c) := by
  rcases wornI_Q (c := c) (s := s) hb with h2 | h2
  · exact h2.2
  · omega
theorem MR.sm {A B : VT} {st : Int → Int} (h : MR B st) (hs : Sm A 0 B 0) (hb : 0 ≤ B 0 5) : MR A st := by
  refine ⟨h.1.trans hs.1.symm, h.2.1.trans hs.2.1.symm, fun c k a b d e => ?_, fun t k a b d e => ?_, fun c s a b d e => ?_⟩
  · rw [hs.1] at b
    rw [hs.2.2.1 c k a b d e]
    exact h.2.2.1 c k a b d e
  · rw [hs.2.1] at b
    rw [hs.2.2.2 t k a b d (by omega)]
    exact h.2.2.2.1 t k a b d e
  · rw [hs.1] at b
    rw [hs.wo hb]
    exact h.2.2.2.2 c s a b d e
theorem MR.st {A : VT} {st st2 : Int → Int} (h : MR A st) (hA : WFV A 0) (he : ∀ j, 0 ≤ j → j < 112 → st2 j = st j) : MR A st2 := by
  have h1 := hA.1
  have h2 := hA.2.1
  exact ⟨(he _ (by omega) (by omega)).trans h.1, (he _ (by omega) (by omega)).trans h.2.1, fun c k a b d e => (he _ (by omega) (by omega)).trans (h.2.2.1 c k a b d e), fun t k a b d e => (he _ (by omega) (by omega)).trans (h.2.2.2.1 t k a b d e), fun c s a b d e => (he _ (by omega) (by omega)).trans (h.2.2.2.2 c s a b d e)⟩
theorem u_ne {B : VT} {r i x a j : Int} (h : a ≠ r ∨ j ≠ i) : upd2 B r i x a j = B a j := upd2_ne _ _ _ _ _ _ h
theorem MR.off {B : VT} {st : Int → Int} {t c s : Int} (h : MR B st) (hW : WFV B 0) (ht : 0 ≤ t ∧ t < B 0 5) (hc : 0 ≤ c ∧ c < B 0 4) (h7 : B (0 + 13 + t) 7 = c) (h0 : B (0 + 13 + t) 0 = s) :
    MR (upd2 B (0 + 13 + t) 7 (-4)) (fun j => if j = 1 + 5 * c + 3 + s then -4 else st j) ∧ WFV (upd2 B (0 + 13 + t) 7 (-4)) 0 := by
  have hs : 0 ≤ s ∧ s < 2 := by
    have := (hW.2.2.2.1 t ht.1 ht.2).1
    omega
  have hb1 := hW.1
  have hb2 := hW.2.1
  have e4 : upd2 B (0 + 13 + t) 7 (-4) 0 4 = B 0 4 := u_ne (by omega)
  have e5 : upd2 B (0 + 13 + t) 7 (-4) 0 5 = B 0 5 := u_ne (by omega)
  have hW2 : WFV (upd2 B (0 + 13 + t) 7 (-4)) 0 := hW.off e4 e5 (fun d k a b => u_ne (by omega)) (fun x k a b hk => u_ne (by omega)) (fun x a b => by
    by_cases hx : x = t
    · rw [hx, upd2_same]; exact Or.inl rfl
    · exact Or.inr (u_ne (by omega)))
  refine ⟨⟨?_, ?_, fun d k a b g e => ?_, fun x k a b g e => ?_, fun d r a b g e => ?_⟩, hW2⟩
  · rw [e4]; exact (if_neg (by omega)).trans h.1
  · rw [e5]; exact (if_neg (by omega)).trans h.2.1
  · rw [e4] at b
    rw [u_ne (by omega)]
    exact (if_neg (by omega)).trans (h.2.2.1 d k a b g e)
  · rw [e5] at b
    rw [u_ne (by omega)]
    exact (if_neg (by omega)).trans (h.2.2.2.1 x k a b g e)
  · rw [e4] at b
    show (if 1 + 5 * d + 3 + r = 1 + 5 * c + 3 + s then (-4 : Int) else st (1 + 5 * d + 3 + r)) = _
    by_cases hd : d = c ∧ r = s
    · rw [if_pos (by omega)]
      refine (worn_no (by rw [e5]; exact hb2.1) (fun x x1 x2 z => ?_)).symm
      rw [e5] at x2
      by_cases hx : x = t
      · rw [hx, upd2_same] at z
        omega
      · rw [u_ne (by omega), u_ne (by omega)] at z
        exact hx (hW.2.2.2.2 x t x1 x2 ht.1 ht.2 (by omega) (by rw [z.2, h7]; exact hd.1) (by rw [z.1, h0]; exact hd.2))
    · rw [if_neg (by omega), h.2.2.2.2 d r a b g e]
      by_cases hy : wornI B 0 d r = -4
      · rw [hy]
        refine (worn_no (by rw [e5]; exact hb2.1) (fun x x1 x2 z => ?_)).symm
        rw [e5] at x2
        rw [u_ne (by omega)] at z
        by_cases hx : x = t
        · rw [hx, upd2_same] at z
          omega
        · rw [u_ne (by omega)] at z
          exact worn_neg hb2.1 hy x x1 x2 z
      · obtain ⟨y1, y2, y3, y4⟩ := wornI_rng hb2.1 hy
        have hyt : ¬ wornI B 0 d r = t := fun z => hd ⟨by rw [← y4, z, h7], by rw [← y3, z, h0]⟩
        exact (worn_at hW2 ⟨y1, by rw [e5]; exact y2⟩ (by rw [u_ne (by omega)]; exact y4) (by omega) (by rw [u_ne (by omega)]; exact y3)).symm
theorem MR.on {B : VT} {st : Int → Int} {t c s : Int} (h : MR B st) (hW : WFV B 0) (hW2 : WFV (upd2 B (0 + 13 + t) 7 c) 0) (ht : 0 ≤ t ∧ t < B 0 5) (hc : 0 ≤ c ∧ c < B 0 4) (h7 : B (0 + 13 + t) 7 = -4) (h0 : B (0 + 13 + t) 0 = s) :
    MR (upd2 B (0 + 13 + t) 7 c) (fun j => if j = 1 + 5 * c + 3 + s then t else st j) := by
  have hs : 0 ≤ s ∧ s < 2 := by
    have := (hW.2.2.2.1 t ht.1 ht.2).1
    omega
  have hb1 := hW.1
  have hb2 := hW.2.1
  have e4 : upd2 B (0 + 13 + t) 7 c 0 4 = B 0 4 := u_ne (by omega)
  have e5 : upd2 B (0 + 13 + t) 7 c 0 5 = B 0 5 := u_ne (by omega)
  refine ⟨?_, ?_, fun d k a b g e => ?_, fun x k a b g e => ?_, fun d r a b g e => ?_⟩
  · rw [e4]; exact (if_neg (by omega)).trans h.1
  · rw [e5]; exact (if_neg (by omega)).trans h.2.1
  · rw [e4] at b
    rw [u_ne (by omega)]
    exact (if_neg (by omega)).trans (h.2.2.1 d k a b g e)
  · rw [e5] at b
    rw [u_ne (by omega)]
    exact (if_neg (by omega)).trans (h.2.2.2.1 x k a b g e)
  · rw [e4] at b
    show (if 1 + 5 * d + 3 + r = 1 + 5 * c + 3 + s then t else st (1 + 5 * d + 3 + r)) = _
    by_cases hd : d = c ∧ r = s
    · rw [if_pos (by omega)]
      exact (worn_at hW2 ⟨ht.1, by rw [e5]; exact ht.2⟩ (by rw [upd2_same]; exact hd.1.symm) (by omega) (by rw [u_ne (by omega), h0]; exact hd.2.symm)).symm
    · rw [if_neg (by omega), h.2.2.2.2 d r a b g e]
      by_cases hy : wornI B 0 d r = -4
      · rw [hy]
        refine (worn_no (by rw [e5]; exact hb2.1) (fun x x1 x2 z => ?_)).symm
        rw [e5] at x2
        rw [u_ne (by omega)] at z
        by_cases hx : x = t
        · rw [hx, upd2_same, h0] at z
          exact hd ⟨z.2.symm, z.1.symm⟩
        · rw [u_ne (by omega)] at z
          exact worn_neg hb2.1 hy x x1 x2 z
      · obtain ⟨y1, y2, y3, y4⟩ := wornI_rng hb2.1 hy
        have hyt : ¬ wornI B 0 d r = t := fun z => by rw [z, h7] at y4; omega
        exact (worn_at hW2 ⟨y1, by rw [e5]; exact y2⟩ (by rw [u_ne (by omega)]; exact y4) (by omega) (by rw [u_ne (by omega)]; exact y3)).symm
theorem worn_same {B B2 : VT} {o c s : Int} (h5 : B2 o 5 = B o 5) (hb : 0 ≤ B o 5) (h : ∀ t, 0 ≤ t → t < B o 5 → B2 (o + 13 + t) 0 = B (o + 13 + t) 0 ∧ B2 (o + 13 + t) 7 = B (o + 13 + t) 7) : wornI B2 o c s = wornI B o c s := by
  unfold wornI
  rw [h5]
  refine firstT_congr _ _ (fun j a b => ?_)
  have := h j a (by omega)
  rw [this.1, this.2]
theorem MR.set {B : VT} {st : Int → Int} {t k x : Int} (h : MR B st) (hW : WFV B 0) (ht : 0 ≤ t ∧ t < B 0 5) (hk : 0 < k ∧ k < 7) : MR (upd2 B (0 + 13 + t) k x) (fun j => if j = 42 + 7 * t + k then x else st j) := by
  have hb1 := hW.1
  have hb2 := hW.2.1
  have e4 : upd2 B (0 + 13 + t) k x 0 4 = B 0 4 := u_ne (by omega)
  have e5 : upd2 B (0 + 13 + t) k x 0 5 = B 0 5 := u_ne (by omega)
  refine ⟨?_, ?_, fun d r a b g e => ?_, fun y r a b g e => ?_, fun d r a b g e => ?_⟩
  · rw [e4]; exact (if_neg (by omega)).trans h.1
  · rw [e5]; exact (if_neg (by omega)).trans h.2.1
  · rw [e4] at b
    rw [u_ne (by omega)]
    exact (if_neg (by omega)).trans (h.2.2.1 d r a b g e)
  · rw [e5] at b
    show (if 42 + 7 * y + r = 42 + 7 * t + k then x else st (42 + 7 * y + r)) = _
    by_cases hy : y = t ∧ r = k
    · rw [if_pos (by omega), hy.1, hy.2, upd2_same]
    · rw [if_neg (by omega), u_ne (by omega)]
      exact h.2.2.2.1 y r a b g e
  · rw [e4] at b
    rw [worn_same (B := B) e5 hb2.1 (fun y a b => ⟨u_ne (by omega), u_ne (by omega)⟩)]
    exact (if_neg (by omega)).trans (h.2.2.2.2 d r a b g e)
theorem MR.chd {B : VT} {st : Int → Int} {c x : Int} (h : MR B st) (hW : WFV B 0) (hc : 0 ≤ c ∧ c < B 0 4) : MR (upd2 B (0 + 5 + c) 0 x) (fun j => if j = 1 + 5 * c then x else st j) := by
  have hb1 := hW.1
  have hb2 := hW.2.1
  have e4 : upd2 B (0 + 5 + c) 0 x 0 4 = B 0 4 := u_ne (by omega)
  have e5 : upd2 B (0 + 5 + c) 0 x 0 5 = B 0 5 := u_ne (by omega)
  refine ⟨?_, ?_, fun d r a b g e => ?_, fun y r a b g e => ?_, fun d r a b g e => ?_⟩
  · rw [e4]; exact (if_neg (by omega)).trans h.1
  · rw [e5]; exact (if_neg (by omega)).trans h.2.1
  · rw [e4] at b
    show (if 1 + 5 * d + r = 1 + 5 * c then x else st (1 + 5 * d + r)) = _
    by_cases hy : d = c ∧ r = 0
    · rw [if_pos (by omega), hy.1, hy.2, upd2_same]
    · rw [if_neg (by omega), u_ne (by omega)]
      exact h.2.2.1 d r a b g e
  · rw [e5] at b
    rw [u_ne (by omega)]
    exact (if_neg (by omega)).trans (h.2.2.2.1 y r a b g e)
  · rw [e4] at b
    rw [worn_same (B := B) e5 hb2.1 (fun y a b => ⟨u_ne (by omega), u_ne (by omega)⟩)]
    exact (if_neg (by omega)).trans (h.2.2.2.2 d r a b g e)
/-- undressed -/
theorem MR.und {A : VT} {st st2 : Int → Int} {s : Int} (h : MR A st) (hW : WFV A 0) (hs : 0 ≤ s ∧ s < 2) (h1 : ∀ d, 0 ≤ d → d < A 0 4 → st2 (1 + 5 * d + 3 + s) = -4) (h2 : ∀ j, (∀ d, 0 ≤ d → d < A 0 4 → ¬ j = 1 + 5 * d + 3 + s) → st2 j = st j) : MR (undF A 0 s (A 0 5)) st2 := by
  have hb1 := hW.1
  have hb2 := hW.2.1
  have e4 : undF A 0 s (A 0 5) 0 4 = A 0 4 := undF_out (by omega)
  have e5 : undF A 0 s (A 0 5) 0 5 = A 0 5 := undF_out (by omega)
  refine ⟨?_, ?_, fun d r a b g e => ?_, fun y r a b g e => ?_, fun d r a b g e => ?_⟩
  · rw [e4, h2 _ (fun d a b => by omega)]; exact h.1
  · rw [e5, h2 _ (fun d a b => by omega)]; exact h.2.1
  · rw [e4] at b
    rw [undF_out (by omega), h2 _ (fun d a b => by omega)]
    exact h.2.2.1 d r a b g e
  · rw [e5] at b
    rw [undF_out (by omega), h2 _ (fun d a b => by omega)]
    exact h.2.2.2.1 y r a b g e
  · rw [e4] at b
    by_cases hr : r = s
    · rw [hr, h1 d a b]
      refine (worn_no (by rw [e5]; exact hb2.1) (fun x x1 x2 z => ?_)).symm
      rw [e5] at x2
      rw [und_ne7 (by omega), und_7 ⟨x1, x2⟩] at z
      rw [if_pos z.1] at z
      omega
    · rw [h2 _ (fun d2 a2 b2 => by omega), h.2.2.2.2 d r a b g e]
      by_cases hy : wornI A 0 d r = -4
      · rw [hy]
        refine (worn_no (by rw [e5]; exact hb2.1) (fun x x1 x2 z => ?_)).symm
        rw [e5] at x2
        rw [und_ne7 (by omega), und_7 ⟨x1, x2⟩] at z
        rw [if_neg (by omega)] at z
        exact worn_neg hb2.1 hy x x1 x2 z
      · obtain ⟨y1, y2, y3, y4⟩ := wornI_rng hb2.1 hy
        exact (worn_at hW.und ⟨y1, by rw [e5]; exact y2⟩ (by rw [und_7 ⟨y1, y2⟩, if_neg (by omega)]; exact y4) (by omega) (by rw [und_ne7 (by omega)]; exact y3)).symm
theorem may_und {v : VT} {o s r n sl : Int} (hn : v o 4 ≤ 8) : mayA (undF v o r n) o s sl = mayA v o s sl := by
  funext c t
  apply propext
  unfold mayA
  have e4 : undF v o r n o 4 = v o 4 := undF_out (by omega)
  have e5 : undF v o r n o 5 = v o 5 := undF_out (by omega)
  rw [e4, e5, und_ne7 (by omega)]
  constructor
  · rintro ⟨a1, a2, a3, a4, a5, a6⟩
    refine ⟨a1, a2, a3, a4, a5, ?_⟩
    rw [← fitV_of (v := undF v o r n) (u := v) (undF_out (by omega)) (fun j b1 b2 => und_ne7 (by omega))]
    exact a6
  · rintro ⟨a1, a2, a3, a4, a5, a6⟩
    refine ⟨a1, a2, a3, a4, a5, ?_⟩
    rw [fitV_of (v := undF v o r n) (u := v) (undF_out (by omega)) (fun j b1 b2 => und_ne7 (by omega))]
    exact a6
theorem deal_und {v : VT} {o s r n sl : Int} (hn : v o 4 ≤ 8) : dealV (undF v o r n) o s sl = dealV v o s sl ∧ warmV (undF v o r n) o s sl = warmV v o s sl := by
  have e4 : undF v o r n o 4 = v o 4 := undF_out (by omega)
  have e : dealV (undF v o r n) o s sl = dealV v o s sl := by
    unfold dealV
    rw [e4, may_und hn]
  refine ⟨e, ?_⟩
  unfold warmV
  rw [e, e4]
/-- put on, as the Model does it -/
theorem MR.pts {B w : VT} {t c s sl : Int} (h : MR B (w 120)) (hs : w 119 2 = sl) (hW : WFV B 0) (ht : 0 ≤ t ∧ t < B 0 5) (hc : 0 ≤ c ∧ c < B 0 4) (h7 : B (0 + 13 + t) 7 = -4) (h0 : B (0 + 13 + t) 0 = s) (hf : ¬ fitV B 0 c t sl = 0) (hn : ∀ x, 0 ≤ x → x < B 0 5 → ¬ x = t → B (0 + 13 + x) 0 = s → ¬ B (0 + 13 + x) 7 = c) :
    MR (putF B (0 + 13 + t) c (B (0 + 5 + c) 0) sl) (putS w c t 120) ∧ (∀ a j, ¬ a = 120 → putS w c t a j = w a j) ∧ (∀ j, (j < 1 ∨ j = 41 ∨ 112 ≤ j) → putS w c t 120 j = w 120 j) := by
  have hb1 := hW.1
  have hb2 := hW.2.1
  have hWp := hW.put hc ht hf (by rw [h0]; exact hn)
  have hsl : 0 ≤ s ∧ s < 2 := by
    have := (hW.2.2.2.1 t ht.1 ht.2).1
    omega
  have es : w 120 (42 + 7 * t + 0) = s := by rw [h.2.2.2.1 t 0 ht.1 ht.2 (by omega) (by omega)]; exact h0
  have ef : fitS w c t = fitV B 0 c t sl := h.fit hs hc ht
  have e2 : w 120 (42 + 7 * t + 2) = B (0 + 13 + t) 2 := h.2.2.2.1 t 2 ht.1 ht.2 (by omega) (by omega)
  unfold putS
  rw [es]
  by_cases h2 : fitV B 0 c t sl = 2
  · rw [ef, if_pos h2]
    have p : putF B (0 + 13 + t) c (B (0 + 5 + c) 0) sl = upd2 (upd2 (upd2 B (0 + 13 + t) 5 1) (0 + 13 + t) 2 (B (0 + 13 + t) 2 + 2)) (0 + 13 + t) 7 c := by
      unfold putF
      unfold fitV at h2
      rw [if_pos h2]
    have m1 := h.set (t := t) (k := 2) (x := B (0 + 13 + t) 2 + 2) hW ht (by omega)
    have w0 : WFV (upd2 (upd2 B (0 + 13 + t) 5 1) (0 + 13 + t) 2 (B (0 + 13 + t) 2 + 2)) 0 := by
      have := hWp
      rw [p] at this
      refine this.off (u_ne (by omega)).symm (u_ne (by omega)).symm (fun d k a b => by rw [u_ne (by omega), u_ne (by omega), u_ne (by omega)] at b; exact (u_ne (by omega)).symm) (fun x k a b hk => (u_ne (by omega)).symm) (fun x a b => ?_)
      by_cases hx : x = t
      · left
        rw [hx, u_ne (by omega), u_ne (by omega)]
        exact h7
      · exact Or.inr (u_ne (by omega)).symm
    have w1 : WFV B 0 := hW
    refine ⟨?_, fun a j ha => by rw [u_ne (by omega), u_ne (by omega), u_ne (by omega)], fun j hj => by rw [u_ne (by omega), u_ne (by omega), u_ne (by omega)]⟩
    rw [p, upd2_row, upd2_row, upd2_row, e2]
    have m2 : MR (upd2 (upd2 B (0 + 13 + t) 5 1) (0 + 13 + t) 2 (B (0 + 13 + t) 2 + 2)) (fun j => if j = 42 + 7 * t + 5 then 1 else if j = 42 + 7 * t + 2 then B (0 + 13 + t) 2 + 2 else w 120 j) := by
      have q4 : upd2 (upd2 B (0 + 13 + t) 5 1) (0 + 13 + t) 2 (B (0 + 13 + t) 2 + 2) 0 4 = B 0 4 := by rw [u_ne (by omega), u_ne (by omega)]
      have q5 : upd2 (upd2 B (0 + 13 + t) 5 1) (0 + 13 + t) 2 (B (0 + 13 + t) 2 + 2) 0 5 = B 0 5 := by rw [u_ne (by omega), u_ne (by omega)]
      refine ⟨?_, ?_, fun d r a b g e => ?_, fun y r a b g e => ?_, fun d r a b g e => ?_⟩
      · rw [q4]; exact (if_neg (by omega)).trans ((if_neg (by omega)).trans h.1)
      · rw [q5]; exact (if_neg (by omega)).trans ((if_neg (by omega)).trans h.2.1)
      · rw [q4] at b
        rw [u_ne (by omega), u_ne (by omega)]
        exact (if_neg (by omega)).trans ((if_neg (by omega)).trans (h.2.2.1 d r a b g e))
      · rw [q5] at b
        show (if 42 + 7 * y + r = 42 + 7 * t + 5 then (1 : Int) else if 42 + 7 * y + r = 42 + 7 * t + 2 then B (0 + 13 + t) 2 + 2 else w 120 (42 + 7 * y + r)) = _
        by_cases hy5 : y = t ∧ r = 5
        · rw [if_pos (by omega), hy5.1, hy5.2, u_ne (by omega), upd2_same]
        · rw [if_neg (by omega)]
          by_cases hy2 : y = t ∧ r = 2
          · rw [if_pos (by omega), hy2.1, hy2.2, upd2_same]
          · rw [if_neg (by omega), u_ne (by omega), u_ne (by omega)]
            exact h.2.2.2.1 y r a b g e
      · rw [q4] at b
        rw [worn_same (B := B) q5 hb2.1 (fun y a b => ⟨by rw [u_ne (by omega), u_ne (by omega)], by rw [u_ne (by omega), u_ne (by omega)]⟩)]
        exact (if_neg (by omega)).trans ((if_neg (by omega)).trans (h.2.2.2.2 d r a b g e))
    refine m2.on w0 (by rw [← p]; exact hWp) ?_ ?_ ?_ ?_
    · rw [u_ne (by omega), u_ne (by omega)]; exact ht
    · rw [u_ne (by omega), u_ne (by omega)]; exact hc
    · rw [u_ne (by omega), u_ne (by omega)]; exact h7
    · rw [u_ne (by omega), u_ne (by omega)]; exact h0
  · rw [ef, if_neg h2]
    have p : putF B (0 + 13 + t) c (B (0 + 5 + c) 0) sl = upd2 B (0 + 13 + t) 7 c := by
      unfold putF
      unfold fitV at h2
      rw [if_neg h2]
    refine ⟨?_, fun a j ha => u_ne (by omega), fun j hj => u_ne (by omega)⟩
    rw [p, upd2_row]
    exact h.on hW (by rw [← p]; exact hWp) ht hc h7 h0
