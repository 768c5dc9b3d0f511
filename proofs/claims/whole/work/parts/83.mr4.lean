-- the Model's row: lasts, one thing more, swaps
theorem MR.str {A : VT} {st st2 : Int → Int} {s l : Int} (h : MR A st) (hA : WFV A 0) (h1 : ∀ t, 0 ≤ t → t < A 0 5 → st2 (42 + 7 * t + 3) = strF A 0 s l (A 0 5) (0 + 13 + t) 3) (h2 : ∀ j, 0 ≤ j → j < 112 → (∀ t, 0 ≤ t → t < A 0 5 → ¬ j = 42 + 7 * t + 3) → st2 j = st j) : MR (strF A 0 s l (A 0 5)) st2 := by
  have hb1 := hA.1
  have hb2 := hA.2.1
  have e4 : strF A 0 s l (A 0 5) 0 4 = A 0 4 := strF_out (by omega)
  have e5 : strF A 0 s l (A 0 5) 0 5 = A 0 5 := strF_out (by omega)
  refine ⟨?_, ?_, fun d r a b g e => ?_, fun y r a b g e => ?_, fun d r a b g e => ?_⟩
  · rw [e4, h2 _ (by omega) (by omega) (fun t a b => by omega)]; exact h.1
  · rw [e5, h2 _ (by omega) (by omega) (fun t a b => by omega)]; exact h.2.1
  · rw [e4] at b
    rw [strF_out (by omega), h2 _ (by omega) (by omega) (fun t a b => by omega)]
    exact h.2.2.1 d r a b g e
  · rw [e5] at b
    by_cases hr : r = 3
    · rw [hr]; exact h1 y a b
    · rw [strF_out (by omega), h2 _ (by omega) (by omega) (fun t a b => by omega)]
      exact h.2.2.2.1 y r a b g e
  · rw [e4] at b
    rw [h2 _ (by omega) (by omega) (fun t a b => by omega), worn_same (B := A) e5 hb2.1 (fun y a b => ⟨strF_out (by omega), strF_out (by omega)⟩)]
    exact h.2.2.2.2 d r a b g e
def SewQ (v : VT) (s z l n : Int) (w : VT) : Prop := (∀ a j, ¬ a = 120 → w a j = v a j) ∧ w 120 41 = n + 1 ∧ (w 120 (42 + 7 * n + 0) = s ∧ w 120 (42 + 7 * n + 1) = 0 ∧ w 120 (42 + 7 * n + 2) = z ∧ w 120 (42 + 7 * n + 3) = l ∧ w 120 (42 + 7 * n + 4) = 0 ∧ w 120 (42 + 7 * n + 5) = 0 ∧ w 120 (42 + 7 * n + 6) = -4) ∧ (∀ c, 0 ≤ c → c < 8 → w 120 (119 + 10 * c + n) = 0) ∧
  (∀ j, ¬ j = 41 → (j < 42 + 7 * n ∨ 49 + 7 * n ≤ j) → (∀ c, 0 ≤ c → c < 8 → ¬ j = 119 + 10 * c + n) → w 120 j = v 120 j)
theorem MR.sew {A v w : VT} {s z l : Int} (h : MR A (v 120)) (hA : WFV A 0) (h10 : A 0 5 < 10) (hs : s = 0 ∨ s = 1) (hz : 1 ≤ z ∧ z ≤ 40) (hl : 1 ≤ l ∧ l ≤ 9) (hq : SewQ v s z l (A 0 5) w) : MR (sewV A 0 s z l) (w 120) ∧ WFV (sewV A 0 s z l) 0 := by
  have hb1 := hA.1
  have hb2 := hA.2.1
  have hW := hA.sew h10 hs hz hl
  obtain ⟨q1, q2, q3, q4, q5⟩ := hq
  have e4 : sewV A 0 s z l 0 4 = A 0 4 := sewV_o (by omega) (by omega)
  have ht := fun j h => sewV_t (v := A) (o := 0) (s := s) (z := z) (l := l) (j := j) hb2.1 h
  refine ⟨⟨?_, ?_, fun d r a b g e => ?_, fun y r a b g e => ?_, fun d r a b g e => ?_⟩, hW⟩
  · rw [e4, q5 _ (by omega) (by omega) (fun c a b => by omega)]; exact h.1
  · rw [sewV_5]; exact q2
  · rw [e4] at b
    rw [sewV_o (by omega) (by omega), q5 _ (by omega) (by omega) (fun c a b => by omega)]
    exact h.2.2.1 d r a b g e
  · rw [sewV_5] at b
    by_cases hy : y = A 0 5
    · rw [hy, ht r ⟨g, by omega⟩]
      rcases (show r = 0 ∨ r = 1 ∨ r = 2 ∨ r = 3 ∨ r = 4 ∨ r = 5 ∨ r = 6 by omega) with rfl | rfl | rfl | rfl | rfl | rfl | rfl
      · exact q3.1
      · exact q3.2.1
      · exact q3.2.2.1
      · exact q3.2.2.2.1
      · exact q3.2.2.2.2.1
      · exact q3.2.2.2.2.2.1
      · exact q3.2.2.2.2.2.2
    · rw [sewV_o (by omega) (by omega), q5 _ (by omega) (by omega) (fun c a b => by omega)]
      exact h.2.2.2.1 y r a (by omega) g e
  · rw [e4] at b
    rw [q5 _ (by omega) (by omega) (fun c a b => by omega), h.2.2.2.2 d r a b g e]
    have h7 : sewV A 0 s z l (0 + 13 + A 0 5) 7 = -4 := (ht 7 (by omega)).trans rfl
    by_cases hy : wornI A 0 d r = -4
    · rw [hy]
      refine (worn_no (by rw [sewV_5]; omega) (fun x x1 x2 k => ?_)).symm
      rw [sewV_5] at x2
      by_cases hx : x = A 0 5
      · rw [hx, h7] at k; omega
      · rw [sewV_o (by omega) (by omega), sewV_o (by omega) (by omega)] at k
        exact worn_neg hb2.1 hy x x1 (by omega) k
    · obtain ⟨y1, y2, y3, y4⟩ := wornI_rng hb2.1 hy
      exact (worn_at hW ⟨y1, by rw [sewV_5]; omega⟩ (by rw [sewV_o (by omega) (by omega)]; exact y4) (by omega) (by rw [sewV_o (by omega) (by omega)]; exact y3)).symm
theorem MR.swp {B : VT} {st : Int → Int} {s a b x y : Int} (h : MR B st) (hW : WFV B 0) (ha : 0 ≤ a ∧ a < b ∧ b < B 0 4) (hx : 0 ≤ x ∧ x < B 0 5) (hy : 0 ≤ y ∧ y < B 0 5) (hxy : ¬ x = y) (h7x : B (0 + 13 + x) 7 = a) (h7y : B (0 + 13 + y) 7 = b) (h0x : B (0 + 13 + x) 0 = s) (h0y : B (0 + 13 + y) 0 = s) :
    MR (upd2 (upd2 B (0 + 13 + x) 7 b) (0 + 13 + y) 7 a) (fun j => if j = 1 + 5 * b + 3 + s then x else if j = 1 + 5 * a + 3 + s then y else st j) := by
  have hb1 := hW.1
  have hb2 := hW.2.1
  have hs : 0 ≤ s ∧ s < 2 := by
    have := (hW.2.2.2.1 x hx.1 hx.2).1
    omega
  have hW2 := hW.swp ha hx hy hxy h7x h7y (by omega)
  have e4 : upd2 (upd2 B (0 + 13 + x) 7 b) (0 + 13 + y) 7 a 0 4 = B 0 4 := by rw [u_ne (by omega), u_ne (by omega)]
  have e5 : upd2 (upd2 B (0 + 13 + x) 7 b) (0 + 13 + y) 7 a 0 5 = B 0 5 := by rw [u_ne (by omega), u_ne (by omega)]
  have ek : ∀ t k, ¬ k = 7 → upd2 (upd2 B (0 + 13 + x) 7 b) (0 + 13 + y) 7 a (0 + 13 + t) k = B (0 + 13 + t) k := fun t k hk => by rw [u_ne (by omega), u_ne (by omega)]
  have ex : upd2 (upd2 B (0 + 13 + x) 7 b) (0 + 13 + y) 7 a (0 + 13 + x) 7 = b := by rw [u_ne (by omega), upd2_same]
  have ey : upd2 (upd2 B (0 + 13 + x) 7 b) (0 + 13 + y) 7 a (0 + 13 + y) 7 = a := upd2_same _ _ _ _
  have eo : ∀ t, ¬ t = x → ¬ t = y → upd2 (upd2 B (0 + 13 + x) 7 b) (0 + 13 + y) 7 a (0 + 13 + t) 7 = B (0 + 13 + t) 7 := fun t h1 h2 => by rw [u_ne (by omega), u_ne (by omega)]
  refine ⟨?_, ?_, fun d r c1 c2 g e => ?_, fun t r c1 c2 g e => ?_, fun d r c1 c2 g e => ?_⟩
  · rw [e4]; exact (if_neg (by omega)).trans ((if_neg (by omega)).trans h.1)
  · rw [e5]; exact (if_neg (by omega)).trans ((if_neg (by omega)).trans h.2.1)
  · rw [e4] at c2
    rw [u_ne (by omega), u_ne (by omega)]
    exact (if_neg (by omega)).trans ((if_neg (by omega)).trans (h.2.2.1 d r c1 c2 g e))
  · rw [e5] at c2
    rw [ek t r (by omega)]
    exact (if_neg (by omega)).trans ((if_neg (by omega)).trans (h.2.2.2.1 t r c1 c2 g e))
  · rw [e4] at c2
    show (if 1 + 5 * d + 3 + r = 1 + 5 * b + 3 + s then x else if 1 + 5 * d + 3 + r = 1 + 5 * a + 3 + s then y else st (1 + 5 * d + 3 + r)) = _
    by_cases k1 : d = b ∧ r = s
    · rw [if_pos (by omega)]
      exact (worn_at hW2 ⟨hx.1, by rw [e5]; exact hx.2⟩ (by rw [ex]; exact k1.1.symm) (by omega) (by rw [ek x 0 (by omega), h0x]; exact k1.2.symm)).symm
    · rw [if_neg (by omega)]
      by_cases k2 : d = a ∧ r = s
      · rw [if_pos (by omega)]
        exact (worn_at hW2 ⟨hy.1, by rw [e5]; exact hy.2⟩ (by rw [ey]; exact k2.1.symm) (by omega) (by rw [ek y 0 (by omega), h0y]; exact k2.2.symm)).symm
      · rw [if_neg (by omega), h.2.2.2.2 d r c1 c2 g e]
        by_cases hz : wornI B 0 d r = -4
        · rw [hz]
          refine (worn_no (by rw [e5]; exact hb2.1) (fun t t1 t2 k => ?_)).symm
          rw [e5] at t2
          rw [ek t 0 (by omega)] at k
          by_cases q1 : t = x
          · rw [q1, ex, h0x] at k; omega
          · by_cases q2 : t = y
            · rw [q2, ey, h0y] at k; omega
            · rw [eo t q1 q2] at k
              exact worn_neg hb2.1 hz t t1 t2 k
        · obtain ⟨y1, y2, y3, y4⟩ := wornI_rng hb2.1 hz
          have n1 : ¬ wornI B 0 d r = x := fun q => k2 ⟨by rw [← y4, q, h7x], by rw [← y3, q, h0x]⟩
          have n2 : ¬ wornI B 0 d r = y := fun q => k1 ⟨by rw [← y4, q, h7y], by rw [← y3, q, h0y]⟩
          exact (worn_at hW2 ⟨y1, by rw [e5]; exact y2⟩ (by rw [eo _ n1 n2]; exact y4) (by omega) (by rw [ek _ 0 (by omega)]; exact y3)).symm
theorem CutQ.re {f : Int → Int} {sz b0 t th0 z0 n th zz : Int} (ht : 0 ≤ t) (h : CutQ f sz b0 t (-4) (-4) 0 n th zz) : (zz = -4 ∧ CutQ f sz b0 t th0 z0 0 n th0 z0) ∨ (0 < zz ∧ th = t ∧ CutQ f sz b0 t th0 z0 0 n th zz) := by
  rcases h with ⟨x, a1, a2, a3, a4, a5, a6, a7, a8⟩ | ⟨a1, a2, a3, a4⟩
  · exact Or.inr ⟨by omega, a7, Or.inl ⟨x, a1, a2, a3, a4, a5, a6, a7, a8⟩⟩
  · exact Or.inl ⟨a4, Or.inr ⟨a1, a2, rfl, rfl⟩⟩
theorem CutQ.zz {f : Int → Int} {sz b0 t n th zz : Int} (ht : 0 ≤ t) (h : CutQ f sz b0 t (-4) (-4) 0 n th zz) : (th = -4 ↔ zz = -4) ∧ (zz = -4 ∨ (0 < zz ∧ zz < sz)) := by
  rcases h with ⟨x, a1, a2, a3, a4, a5, a6, a7, a8⟩ | ⟨a1, a2, a3, a4⟩
  · omega
  · omega
theorem strF_at {A : VT} {s l t : Int} (h0 : 0 ≤ t) (ht : t < A 0 5) : strF A 0 s l (A 0 5) (0 + 13 + t) 3 = if A (0 + 13 + t) 0 = s ∧ A (0 + 13 + t) 3 < l then l else A (0 + 13 + t) 3 := by
  unfold strF lasV
  by_cases h1 : A (0 + 13 + t) 0 = s
  · rw [if_pos ⟨by omega, by omega, rfl, h1⟩]
    by_cases h2 : A (0 + 13 + t) 3 < l
    · rw [if_pos h2, if_pos ⟨h1, h2⟩]
    · rw [if_neg h2, if_neg (fun z => h2 z.2)]
  · rw [if_neg (fun z => h1 z.2.2.2), if_neg (fun z => h1 z.1)]
theorem E.ldc_w {X : XT} {G : GT} {own : String} {cc : ByteArray} {cells slots n pc : Nat} {v : VT} {L : List (Option AV)} {S : List AV} {x : Int} (C : Cx X G own cc) {index : Nat} {a : Int32} (hc : Cond.constant own index a ∈ lw_good) (hx : a.toInt = x) (hd : decode cc pc = .ok (.ldc_w index, 3)) (k : E X G cells slots n v (pc + 3) L (vi x :: S)) : E X G cells slots n v pc L S := by
  intro h1 h2 h3 H locs ls hw hS hl
  subst hx
  have k := k h1 h2 (okc (toInt_in a) h3) H locs ls hw hS hl
  simp only [List.map_cons, conc, Int32.ofInt_toInt] at k
  exact lv_ldcw C.1 C.2.1 C.2.2.2.1 (C.2.2.2.2.1 _ hc) hd k
