-- who wears what, by the Model's row; wear, doff
theorem worn_iff {A : VT} {t c : Int} (hA : WFV A 0) (ht : 0 ≤ t ∧ t < A 0 5) (hc : 0 ≤ c) : wornI A 0 c (A (0 + 13 + t) 0) = t ↔ A (0 + 13 + t) 7 = c := by
  constructor
  · intro h
    obtain ⟨y1, y2, y3, y4⟩ := wornI_rng (v := A) (o := 0) (c := c) (s := A (0 + 13 + t) 0) hA.2.1.1 (by omega)
    rw [h] at y4
    exact y4
  · intro h
    exact worn_at hA ht h (by omega) rfl
theorem MR.who {A v : VT} {t : Int} (h : MR A (v 120)) (hA : WFV A 0) (ht : 0 ≤ t ∧ t < A 0 5) : whoN v t (v 120 0).toNat = A (0 + 13 + t) 7 := by
  have h9 := (hA.2.2.2.1 t ht.1 ht.2)
  have hs := h9.1
  have h9 := h9.2.2.2.2.2.2.2.2.1
  have e0 : v 120 (42 + 7 * t + 0) = A (0 + 13 + t) 0 := h.2.2.2.1 t 0 ht.1 ht.2 (by omega) (by omega)
  have key : ∀ k : Nat, (k : Int) ≤ A 0 4 → whoN v t k = if 0 ≤ A (0 + 13 + t) 7 ∧ A (0 + 13 + t) 7 < (k : Int) then A (0 + 13 + t) 7 else -4 := by
    intro k
    induction k with
    | zero =>
      intro _
      rw [if_neg (by omega)]
      rfl
    | succ k ih =>
      intro hk
      rw [whoN, e0, h.2.2.2.2 (k : Int) (A (0 + 13 + t) 0) (by omega) (by omega) (by omega) (by omega), ih (by omega)]
      by_cases hw : A (0 + 13 + t) 7 = (k : Int)
      · rw [if_pos ((worn_iff hA ht (by omega)).mpr hw), if_pos (by omega), hw]
      · rw [if_neg (fun z => hw ((worn_iff hA ht (by omega)).mp z))]
        by_cases hz : 0 ≤ A (0 + 13 + t) 7 ∧ A (0 + 13 + t) 7 < (k : Int)
        · rw [if_pos hz, if_pos (by omega)]
        · rw [if_neg hz, if_neg (by omega)]
  have hA1 := hA.1
  rw [h.1, key (A 0 4).toNat (by omega)]
  split <;> omega
theorem MR.no {B : VT} {st : Int → Int} {c s : Int} (h : MR B st) (hW : WFV B 0) (hc : 0 ≤ c ∧ c < B 0 4) (hs : 0 ≤ s ∧ s < 2) (hn : wornI B 0 c s = -4) : MR B (fun j => if j = 1 + 5 * c + 3 + s then -4 else st j) := by
  have hb1 := hW.1
  have hb2 := hW.2.1
  refine ⟨(if_neg (by omega)).trans h.1, (if_neg (by omega)).trans h.2.1, fun d k a b g e => (if_neg (by omega)).trans (h.2.2.1 d k a b g e), fun x k a b g e => (if_neg (by omega)).trans (h.2.2.2.1 x k a b g e), fun d r a b g e => ?_⟩
  show (if 1 + 5 * d + 3 + r = 1 + 5 * c + 3 + s then (-4 : Int) else st (1 + 5 * d + 3 + r)) = _
  by_cases hd : d = c ∧ r = s
  · rw [if_pos (by omega), hd.1, hd.2, hn]
  · rw [if_neg (by omega)]
    exact h.2.2.2.2 d r a b g e
theorem MR.dof {B : VT} {st : Int → Int} {c s : Int} (h : MR B st) (hW : WFV B 0) (hc : 0 ≤ c ∧ c < B 0 4) (hs : 0 ≤ s ∧ s < 2) : MR (offF B 0 (wornI B 0 c s)) (fun j => if j = 1 + 5 * c + 3 + s then -4 else st j) ∧ WFV (offF B 0 (wornI B 0 c s)) 0 ∧ wornI (offF B 0 (wornI B 0 c s)) 0 c s = -4 := by
  by_cases hz : wornI B 0 c s = -4
  · have e : offF B 0 (wornI B 0 c s) = B := by
      unfold offF
      rw [if_neg (by omega)]
    rw [e]
    exact ⟨h.no hW hc hs hz, hW, hz⟩
  · obtain ⟨y1, y2, y3, y4⟩ := wornI_rng hW.2.1.1 hz
    have e : offF B 0 (wornI B 0 c s) = upd2 B (0 + 13 + wornI B 0 c s) 7 (-4) := by
      unfold offF
      rw [if_pos ⟨y1, y2⟩]
    have ho := h.off hW ⟨y1, y2⟩ hc y4 y3
    rw [e]
    refine ⟨ho.1, ho.2, ?_⟩
    have e5 : upd2 B (0 + 13 + wornI B 0 c s) 7 (-4) 0 5 = B 0 5 := u_ne (by omega)
    refine worn_no (by rw [e5]; exact hW.2.1.1) (fun x x1 x2 z => ?_)
    rw [e5] at x2
    by_cases hx : x = wornI B 0 c s
    · rw [hx, upd2_same] at z
      omega
    · rw [u_ne (by omega), u_ne (by omega)] at z
      exact hx (hW.2.2.2.2 x _ x1 x2 y1 y2 (by omega) (by rw [z.2, y4]) (by rw [z.1, y3]))
theorem offF_45 {B : VT} {o x j : Int} (h : j = 4 ∨ j = 5) : offF B o x o j = B o j := offF_ne (by omega)
theorem putS_over {w w2 : VT} {c t s x : Int} (hs : w 120 (42 + 7 * t + 0) = s) (h2 : w2 = upd2 w 120 (1 + 5 * c + 3 + s) x) (ht : 0 ≤ t) (hc : 0 ≤ c ∧ c < 8) (h01 : 0 ≤ s ∧ s < 2) : putS w2 c t 120 = putS w c t 120 := by
  have hf : fitS w2 c t = fitS w c t := by
    unfold fitS
    rw [h2, u_ne (by omega), u_ne (by omega), u_ne (by omega), u_ne (by omega), u_ne (by omega), u_ne (by omega), u_ne (by omega), u_ne (by omega)]
  have hz : w2 120 (42 + 7 * t + 0) = s := by rw [h2, u_ne (by omega)]; exact hs
  have hz2 : w2 120 (42 + 7 * t + 2) = w 120 (42 + 7 * t + 2) := by rw [h2, u_ne (by omega)]
  funext j
  unfold putS
  rw [hf, hz, hs, hz2, h2]
  split
  · simp only [upd2, true_and]
    (repeat' split) <;> first | rfl | omega
  · simp only [upd2, true_and]
    (repeat' split) <;> first | rfl | omega
/-- what the Model does ahead of putting on -/
def preS (w : VT) (t who : Int) : VT := if who = -4 then w else upd2 w 120 (1 + 5 * who + 3 + w 120 (42 + 7 * t + 0)) (-4)
theorem MR.wear {A w : VT} {c t sl : Int} (h : MR A (w 120)) (hA : WFV A 0) (hal : w 119 2 = sl) (hc : 0 ≤ c ∧ c < A 0 4) (ht : 0 ≤ t ∧ t < A 0 5) (hf : ¬ fitV A 0 c t sl = 0) :
    MR (wearF A 0 c t sl) (putS (preS w t (A (0 + 13 + t) 7)) c t 120) ∧ WFV (wearF A 0 c t sl) 0 ∧ (∀ a j, ¬ a = 120 → putS (preS w t (A (0 + 13 + t) 7)) c t a j = w a j) ∧ (∀ j, (j < 1 ∨ j = 41 ∨ 112 ≤ j) → putS (preS w t (A (0 + 13 + t) 7)) c t 120 j = w 120 j) := by
  have hA1 := hA.1
  have hA2 := hA.2.1
  obtain ⟨hs, -, -, -, -, -, -, -, h9, -⟩ := hA.2.2.2.1 t ht.1 ht.2
  have e0 : w 120 (42 + 7 * t + 0) = A (0 + 13 + t) 0 := h.2.2.2.1 t 0 ht.1 ht.2 (by omega) (by omega)
  -- the thing off whoever wears it
  have s1 : ∃ B, MR B (preS w t (A (0 + 13 + t) 7) 120) ∧ WFV B 0 ∧ B 0 4 = A 0 4 ∧ B 0 5 = A 0 5 ∧ (∀ r j, ¬ (r = 0 + 13 + t ∧ j = 7) → B r j = A r j) ∧ B (0 + 13 + t) 7 = -4 ∧ (∀ a j, ¬ a = 120 → preS w t (A (0 + 13 + t) 7) a j = w a j) ∧ (∀ j, (j < 1 ∨ j = 41 ∨ 42 ≤ j) → preS w t (A (0 + 13 + t) 7) 120 j = w 120 j) := by
    unfold preS
    by_cases hz : A (0 + 13 + t) 7 = -4
    · rw [if_pos hz]
      exact ⟨A, h, hA, rfl, rfl, fun _ _ _ => rfl, hz, fun _ _ _ => rfl, fun _ _ => rfl⟩
    · rw [if_neg hz, e0]
      have ho := h.off hA ht (c := A (0 + 13 + t) 7) (s := A (0 + 13 + t) 0) (by omega) rfl rfl
      refine ⟨upd2 A (0 + 13 + t) 7 (-4), by rw [upd2_row]; exact ho.1, ho.2, u_ne (by omega), u_ne (by omega), fun r j k => u_ne (by omega), upd2_same _ _ _ _, fun a j k => u_ne (by omega), fun j k => u_ne (by omega)⟩
  obtain ⟨B, b1, b2, b3, b4, b5, b6, b7, b8⟩ := s1
  generalize hp : preS w t (A (0 + 13 + t) 7) = p at *
  have ep0 : p 120 (42 + 7 * t + 0) = A (0 + 13 + t) 0 := (b8 _ (by omega)).trans e0
  -- what c wears off
  have d := b1.dof b2 (c := c) (s := A (0 + 13 + t) 0) (by rw [b3]; exact hc) (by omega)
  obtain ⟨d1, d2, d3⟩ := d
  have o45 : ∀ x j, (j = 4 ∨ j = 5) → offF B 0 x 0 j = B 0 j := fun x j hj => offF_45 hj
  have hk : ∀ x y j, ¬ j = 7 → offF B 0 x (0 + 13 + y) j = A (0 + 13 + y) j := fun x y j hj => by
    rw [fit_off hj]
    exact b5 _ _ (by omega)
  have hcc : ∀ x j, offF B 0 x (0 + 5 + c) j = A (0 + 5 + c) j := fun x j => by
    rw [offF_ne (by omega)]
    exact b5 _ _ (by omega)
  have hft : fitV (offF B 0 (wornI B 0 c (A (0 + 13 + t) 0))) 0 c t sl = fitV A 0 c t sl := fitV_of (hcc _ 0) (fun j _ j2 => hk _ t j (by omega))
  have h7 : offF B 0 (wornI B 0 c (A (0 + 13 + t) 0)) (0 + 13 + t) 7 = -4 := by
    unfold offF
    split
    · by_cases e : t = wornI B 0 c (A (0 + 13 + t) 0)
      · rw [← e, upd2_same]
      · rw [u_ne (by omega)]; exact b6
    · exact b6
  obtain ⟨P, hP⟩ : ∃ P, P = upd2 p 120 (1 + 5 * c + 3 + A (0 + 13 + t) 0) (-4) := ⟨_, rfl⟩
  have m1 : MR (offF B 0 (wornI B 0 c (A (0 + 13 + t) 0))) (P 120) := by
    rw [hP, upd2_row]
    exact d1
  have al : P 119 2 = sl := by rw [hP, u_ne (by omega), b7 _ _ (by omega)]; exact hal
  have hno : ∀ x, 0 ≤ x → x < offF B 0 (wornI B 0 c (A (0 + 13 + t) 0)) 0 5 → ¬ x = t → offF B 0 (wornI B 0 c (A (0 + 13 + t) 0)) (0 + 13 + x) 0 = A (0 + 13 + t) 0 → ¬ offF B 0 (wornI B 0 c (A (0 + 13 + t) 0)) (0 + 13 + x) 7 = c := fun x x1 x2 _ x4 x5 => worn_neg d2.2.1.1 d3 x x1 x2 ⟨x4, x5⟩
  have q := m1.pts (t := t) (c := c) (s := A (0 + 13 + t) 0) al d2 (by rw [o45 _ _ (Or.inr rfl), b4]; exact ht) (by rw [o45 _ _ (Or.inl rfl), b3]; exact hc) h7 (hk _ t 0 (by omega)) (by rw [hft]; exact hf) hno
  have hW2 := d2.put (c := c) (t := t) (sl := sl) (by rw [o45 _ _ (Or.inl rfl), b3]; exact hc) (by rw [o45 _ _ (Or.inr rfl), b4]; exact ht) (by rw [hft]; exact hf) (by rw [hk _ t 0 (by omega)]; exact hno)
  have hover := putS_over (x := -4) ep0 hP ht.1 (by omega) (by omega)
  rw [hcc] at q hW2
  -- the same village
  have hxx : wornI B 0 c (A (0 + 13 + t) 0) = if wornI A 0 c (A (0 + 13 + t) 0) = t then -4 else wornI A 0 c (A (0 + 13 + t) 0) := by
    by_cases hz : wornI A 0 c (A (0 + 13 + t) 0) = -4
    · rw [if_neg (by omega), hz]
      refine worn_no (by rw [b4]; exact hA2.1) (fun x x1 x2 z => ?_)
      rw [b4] at x2
      by_cases e : x = t
      · rw [e, b6] at z; omega
      · rw [b5 _ _ (by omega), b5 _ _ (by omega)] at z
        exact worn_neg hA2.1 hz x x1 x2 z
    · obtain ⟨y1, y2, y3, y4⟩ := wornI_rng hA2.1 hz
      by_cases e : wornI A 0 c (A (0 + 13 + t) 0) = t
      · rw [if_pos e]
        refine worn_no (by rw [b4]; exact hA2.1) (fun x x1 x2 z => ?_)
        rw [b4] at x2
        by_cases e2 : x = t
        · rw [e2, b6] at z; omega
        · rw [b5 _ _ (by omega), b5 _ _ (by omega)] at z
          rw [e] at y3 y4
          exact e2 (hA.2.2.2.2 x t x1 x2 ht.1 ht.2 (by omega) (by rw [z.2, y4]) z.1)
      · rw [if_neg e]
        exact worn_at b2 ⟨y1, by rw [b4]; exact y2⟩ (by rw [b5 _ _ (by omega)]; exact y4) (by omega) (by rw [b5 _ _ (by omega)]; exact y3)
  have hsm : Sm (wearF A 0 c t sl) 0 (putF (offF B 0 (wornI B 0 c (A (0 + 13 + t) 0))) (0 + 13 + t) c (A (0 + 5 + c) 0) sl) 0 := by
    unfold wearF
    have g5 : putF (offF B 0 (wornI B 0 c (A (0 + 13 + t) 0))) (0 + 13 + t) c (A (0 + 5 + c) 0) sl 0 5 = A 0 5 := by rw [putF_ne (by omega), o45 _ _ (Or.inr rfl), b4]
    have g4 : putF (offF B 0 (wornI B 0 c (A (0 + 13 + t) 0))) (0 + 13 + t) c (A (0 + 5 + c) 0) sl 0 4 = A 0 4 := by rw [putF_ne (by omega), o45 _ _ (Or.inl rfl), b3]
    refine ⟨by rw [g4, putF_ne (by omega), offF_45 (Or.inl rfl)], by rw [g5, putF_ne (by omega), offF_45 (Or.inr rfl)], fun d k a b e f => ?_, fun x k a b e f => ?_⟩
    · rw [g4] at b
      rw [putF_ne (by omega), putF_ne (by omega), offF_ne (by omega), offF_ne (by omega), b5 _ _ (by omega)]
    · rw [g5] at b
      by_cases hx : x = t
      · rw [hx]
        have hz : ∀ j, ¬ j = 7 → offF A 0 (wornI A 0 c (A (0 + 13 + t) 0)) (0 + 13 + t) j = offF B 0 (wornI B 0 c (A (0 + 13 + t) 0)) (0 + 13 + t) j := fun j hj => by rw [fit_off hj, hk _ t j hj]
        rw [putF_at, putF_at, hz 1 (by omega), hz 2 (by omega), hz 3 (by omega), hz 4 (by omega), hz 5 (by omega), hz 6 (by omega)]
        by_cases k7 : k = 7
        · rw [if_pos k7, if_pos k7]
        · rw [if_neg k7, if_neg k7, hz k k7]
      · rw [putF_ne (by omega), putF_ne (by omega)]
        by_cases k7 : k = 7
        · rw [k7]
          unfold offF
          rw [hxx, b4]
          by_cases e1 : wornI A 0 c (A (0 + 13 + t) 0) = t
          · rw [if_pos e1, e1, if_pos ht, if_neg (by omega), u_ne (by omega), b5 _ _ (by omega)]
          · rw [if_neg e1]
            by_cases e2 : 0 ≤ wornI A 0 c (A (0 + 13 + t) 0) ∧ wornI A 0 c (A (0 + 13 + t) 0) < A 0 5
            · rw [if_pos e2, if_pos e2]
              by_cases e3 : x = wornI A 0 c (A (0 + 13 + t) 0)
              · rw [← e3, upd2_same, upd2_same]
              · rw [u_ne (by omega), u_ne (by omega), b5 _ _ (by omega)]
            · rw [if_neg e2, if_neg e2, b5 _ _ (by omega)]
        · rw [fit_off k7, hk _ x k k7]
  refine ⟨?_, hsm.wfv hW2, fun a j ha => ?_, fun j hj => ?_⟩
  · rw [← hover]
    exact q.1.sm hsm (by rw [putF_ne (by omega), o45 _ _ (Or.inr rfl), b4]; exact hA2.1)
  · have := q.2.1 a j ha
    unfold putS
    split
    · rw [u_ne (by omega), u_ne (by omega), u_ne (by omega)]; exact b7 a j ha
    · rw [u_ne (by omega)]; exact b7 a j ha
  · rw [← hover, q.2.2 j hj, hP, u_ne (by omega)]
    exact b8 j (by omega)
