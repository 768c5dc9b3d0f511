-- the Model's dressing, winters, springs: states on the way
theorem drs_facts {v : VT} {o s sl c : Int} {g : Int → Int} (hw : WFV v o) (hm : Mtc (v o 4) (mayA v o s sl) g) (hc : 0 ≤ c ∧ c < v o 4) (hz : ¬ g c = -4) {u : VT} (hu : u = drsN (undF v o s (v o 5)) o sl g c.toNat) :
    WFV u o ∧ u o 4 = v o 4 ∧ u o 5 = v o 5 ∧ 0 ≤ g c ∧ g c < v o 5 ∧ u (o + 13 + g c) 7 = -4 ∧ u (o + 13 + g c) 0 = s ∧ ¬ fitV u o c (g c) sl = 0 ∧ (∀ x, 0 ≤ x → x < v o 5 → ¬ x = g c → u (o + 13 + x) 0 = s → ¬ u (o + 13 + x) 7 = c) := by
  have ih := drs_inv hw hm c.toNat (by omega)
  rw [← hu] at ih
  obtain ⟨i1, i2, i3, i4, i5⟩ := ih
  have ec : (c.toNat : Int) = c := Int.toNat_of_nonneg hc.1
  rw [ec] at i3 i4
  have h8 := hw.1
  obtain ⟨m1, m2, m3, m4, m5, m6⟩ := (hm.1 c hc.1 hc.2).resolve_left hz
  have hin : ∀ d, 0 ≤ d → d < v o 4 → ¬ d = c → ¬ g d = g c := fun d a b e f => e (hm.2 d c a b m1 m2 (by omega) f)
  have u5 : u o 5 = v o 5 := i2 o 5 (by omega)
  have u4 : u o 4 = v o 4 := i2 o 4 (by omega)
  have uc : u (o + 5 + c) 0 = v (o + 5 + c) 0 := i2 _ _ (by omega)
  have hfit : fitV u o c (g c) sl = fitV v o c (g c) sl := fitV_of uc (fun j a b => (i3 _ j m3 m4 (fun d a b => hin d a (by omega) (by omega))).trans (und_ne7 (by omega)))
  refine ⟨i1, u4, u5, m3, m4, ?_, (i5 _ m3 m4).trans m5, by rw [hfit]; exact m6, fun x a b d e f => ?_⟩
  · rw [i3 _ 7 m3 m4 (fun d a b => hin d a (by omega) (by omega)), und_7 ⟨m3, m4⟩, if_pos m5]
  · rw [i5 x a b] at e
    by_cases hx : ∃ d, 0 ≤ d ∧ d < c ∧ g d = x
    · obtain ⟨d2, c1, c2, c3⟩ := hx
      have := i4 d2 c1 c2 (by omega)
      rw [c3, f] at this
      omega
    · have := i3 x 7 a b (fun d2 c1 c2 c3 => hx ⟨d2, c1, c2, c3⟩)
      rw [f, und_7 ⟨a, b⟩, if_pos e] at this
      omega
def dn (A : VT) (c s a : Int) : Prop := A a 7 < c ∨ (A a 7 = c ∧ A a 0 < s)
/-- each thing as it was or as it comes to be -/
theorem WFV.mix {A B u : VT} {o : Int} (hA : WFV A o) (hB : WFV B o) (h4 : u o 4 = A o 4) (h4b : B o 4 = A o 4) (h5 : u o 5 = A o 5) (h5b : B o 5 = A o 5) (hc : ∀ c, 0 ≤ c → c < A o 4 → (∀ k, 0 ≤ k → k < 3 → u (o + 5 + c) k = A (o + 5 + c) k) ∨ (∀ k, 0 ≤ k → k < 3 → u (o + 5 + c) k = B (o + 5 + c) k))
    (ht : ∀ t, 0 ≤ t → t < A o 5 → (∀ k, u (o + 13 + t) k = A (o + 13 + t) k) ∨ (∀ k, u (o + 13 + t) k = B (o + 13 + t) k)) (hw : ∀ t, 0 ≤ t → t < A o 5 → B (o + 13 + t) 0 = A (o + 13 + t) 0 ∧ (B (o + 13 + t) 7 = -4 ∨ B (o + 13 + t) 7 = A (o + 13 + t) 7)) : WFV u o := by
  have key : ∀ t, 0 ≤ t → t < A o 5 → u (o + 13 + t) 0 = A (o + 13 + t) 0 ∧ (u (o + 13 + t) 7 = -4 ∨ u (o + 13 + t) 7 = A (o + 13 + t) 7) := fun t a b => by
    rcases ht t a b with k | k
    · exact ⟨k 0, Or.inr (k 7)⟩
    · rw [k 0, k 7]; exact hw t a b
  refine ⟨by rw [h4]; exact hA.1, by rw [h5]; exact hA.2.1, fun c a b => ?_, fun t a b => ?_, fun t x a b d e f g k => ?_⟩
  · rw [h4] at b
    unfold chOK
    rcases hc c a b with k | k
    · have := hA.2.2.1 c a b
      unfold chOK at this
      rw [k 0 (by omega) (by omega), k 1 (by omega) (by omega), k 2 (by omega) (by omega)]
      exact this
    · have := hB.2.2.1 c a (by rw [h4b]; exact b)
      unfold chOK at this
      rw [k 0 (by omega) (by omega), k 1 (by omega) (by omega), k 2 (by omega) (by omega)]
      exact this
  · rw [h5] at b
    rw [h4]
    unfold tgOK
    rcases ht t a b with k | k
    · have := hA.2.2.2.1 t a b
      unfold tgOK at this
      simp only [k]
      exact this
    · have := hB.2.2.2.1 t a (by rw [h5b]; exact b)
      rw [h4b] at this
      unfold tgOK at this
      simp only [k]
      exact this
  · rw [h5] at b e
    have k1 := key t a b
    have k2 := key x d e
    exact hA.2.2.2.2 t x a b d e (by omega) (by omega) (by omega)
noncomputable def winM (A : VT) (c s : Int) : VT := fun a j => @ite Int (dn A c s a) (Classical.propDecidable _) (winF A 0 (A 0 5) a j) (A a j)
theorem winM_y {A : VT} {c s a j : Int} (h : dn A c s a) : winM A c s a j = winF A 0 (A 0 5) a j := by unfold winM; exact @if_pos _ (Classical.propDecidable _) h _ _ _
theorem winM_n {A : VT} {c s a j : Int} (h : ¬ dn A c s a) : winM A c s a j = A a j := by unfold winM; exact @if_neg _ (Classical.propDecidable _) h _ _ _
theorem winM_out {A : VT} {c s a j : Int} (h : a < 0 + 13 ∨ 0 + 13 + A 0 5 ≤ a) : winM A c s a j = A a j := by
  by_cases hd : dn A c s a
  · rw [winM_y hd, winF_out h]
  · exact winM_n hd
theorem win_un {A : VT} {t j : Int} (h : A (0 + 13 + t) 7 = -4) : winF A 0 (A 0 5) (0 + 13 + t) j = A (0 + 13 + t) j := by
  unfold winF
  rw [if_neg (by omega)]
theorem win_o {A : VT} {t j : Int} (ht : 0 ≤ t ∧ t < A 0 5) (h4 : ¬ j = 4) (h7 : ¬ j = 7) : winF A 0 (A 0 5) (0 + 13 + t) j = A (0 + 13 + t) j := by
  rw [winF_in ht]
  by_cases hz : A (0 + 13 + t) 7 = -4
  · rw [if_neg (fun z => z hz)]
  · rw [if_pos hz, if_neg h4, if_neg (fun z => h7 z.1)]
theorem win_7 {A : VT} {t : Int} (ht : 0 ≤ t ∧ t < A 0 5) : winF A 0 (A 0 5) (0 + 13 + t) 7 = -4 ∨ winF A 0 (A 0 5) (0 + 13 + t) 7 = A (0 + 13 + t) 7 := by
  rw [winF_in ht]
  (repeat' split) <;> first | (left; rfl) | (right; rfl) | (exfalso; omega)
theorem winM_wf {A : VT} {c s : Int} (hA : WFV A 0) : WFV (winM A c s) 0 := by
  have h1 := hA.1
  have h2 := hA.2.1
  refine hA.mix hA.win (winM_out (by omega)) (winF_out (by omega)) (winM_out (by omega)) (winF_out (by omega)) (fun d a b => Or.inl (fun k _ _ => winM_out (by omega))) (fun t a b => ?_) (fun t a b => ⟨win_o ⟨a, b⟩ (by omega) (by omega), win_7 ⟨a, b⟩⟩)
  by_cases hd : dn A c s (0 + 13 + t)
  · exact Or.inr (fun k => winM_y hd)
  · exact Or.inl (fun k => winM_n hd)
theorem winM_0 {A : VT} (hA : WFV A 0) : winM A 0 0 = A := by
  funext a j
  by_cases ha : a < 0 + 13 ∨ 0 + 13 + A 0 5 ≤ a
  · exact winM_out ha
  · by_cases hd : dn A 0 0 a
    · rw [winM_y hd]
      obtain ⟨t, rfl⟩ : ∃ t, a = 0 + 13 + t := ⟨a - 13, by omega⟩
      have := (hA.2.2.2.1 t (by omega) (by omega)).2.2.2.2.2.2.2.2.1
      have h00 := (hA.2.2.2.1 t (by omega) (by omega)).1
      unfold dn at hd
      refine win_un ?_
      omega
    · exact winM_n hd
theorem dn_2 {A : VT} {c a : Int} (h : A a 0 = 0 ∨ A a 0 = 1) : dn A c 2 a ↔ dn A (c + 1) 0 a := by
  unfold dn
  omega
theorem winM_2 {A : VT} {c : Int} (hA : WFV A 0) : winM A c 2 = winM A (c + 1) 0 := by
  funext a j
  by_cases ha : a < 0 + 13 ∨ 0 + 13 + A 0 5 ≤ a
  · rw [winM_out ha, winM_out ha]
  · obtain ⟨t, rfl⟩ : ∃ t, a = 0 + 13 + t := ⟨a - 13, by omega⟩
    have e := dn_2 (A := A) (c := c) (hA.2.2.2.1 t (by omega) (by omega)).1
    by_cases hd : dn A c 2 (0 + 13 + t)
    · rw [winM_y hd, winM_y (e.mp hd)]
    · rw [winM_n hd, winM_n (fun z => hd (e.mpr z))]
theorem winM_end {A : VT} (hA : WFV A 0) : winM A (A 0 4) 0 = winF A 0 (A 0 5) := by
  funext a j
  by_cases ha : a < 0 + 13 ∨ 0 + 13 + A 0 5 ≤ a
  · rw [winM_out ha, winF_out ha]
  · obtain ⟨t, rfl⟩ : ∃ t, a = 0 + 13 + t := ⟨a - 13, by omega⟩
    have := (hA.2.2.2.1 t (by omega) (by omega)).2.2.2.2.2.2.2.2.1
    have h1 := hA.1
    refine winM_y ?_
    unfold dn
    omega
/-- how many wore out so far -/
noncomputable def wmB (A : VT) (c s : Int) : Int → Bool := fun y => winP A 0 y && @decide (dn A c s (0 + 13 + y)) (Classical.propDecidable _)
theorem wmB_t {A : VT} {c s y : Int} : wmB A c s y = true ↔ (¬ A (0 + 13 + y) 7 = -4 ∧ outI (A (0 + 13 + y) 1) (A (0 + 13 + y) 3) (A (0 + 13 + y) 4 + 1) = 1) ∧ dn A c s (0 + 13 + y) := by
  unfold wmB winP
  rw [Bool.and_eq_true_iff, Bool.and_eq_true_iff, @decide_eq_true_iff _ (Classical.propDecidable _), decide_eq_true_iff, decide_eq_true_iff]
theorem beq_of {a b : Bool} (h : a = true ↔ b = true) : a = b := Bool.eq_iff_iff.mpr h
theorem wm_cnt {A : VT} {c s t : Int} (hA : WFV A 0) (ht : 0 ≤ t ∧ t < A 0 5) (h7 : A (0 + 13 + t) 7 = c) (h0 : A (0 + 13 + t) 0 = s) (hc : 0 ≤ c) : cntN (wmB A c (s + 1)) (A 0 5).toNat = cntN (wmB A c s) (A 0 5).toNat + (if outI (A (0 + 13 + t) 1) (A (0 + 13 + t) 3) (A (0 + 13 + t) 4 + 1) = 1 then 1 else 0) := by
  have ho : ∀ y, 0 ≤ y → y < A 0 5 → ¬ y = t → wmB A c s y = wmB A c (s + 1) y := fun y a b hy => beq_of (by
    rw [wmB_t, wmB_t]
    unfold dn
    have : ¬ (A (0 + 13 + y) 7 = c ∧ A (0 + 13 + y) 0 = s) := fun z => hy (hA.2.2.2.2 y t a b ht.1 ht.2 (by omega) (by omega) (by omega))
    omega)
  by_cases h : outI (A (0 + 13 + t) 1) (A (0 + 13 + t) 3) (A (0 + 13 + t) 4 + 1) = 1
  · rw [if_pos h]
    refine cnt_one _ (x := t) ⟨ht.1, by omega⟩ ?_ ?_ (fun y a b hy => ho y a (by omega) hy)
    · apply Bool.eq_false_iff.mpr
      intro z
      have := (wmB_t.mp z).2
      unfold dn at this
      omega
    · exact wmB_t.mpr ⟨⟨by omega, h⟩, by unfold dn; omega⟩
  · rw [if_neg h]
    have : cntN (wmB A c (s + 1)) (A 0 5).toNat = cntN (wmB A c s) (A 0 5).toNat := cnt_congr _ (fun y a b => by
      by_cases hy : y = t
      · apply beq_of
        rw [wmB_t, wmB_t, hy]
        constructor
        · intro z; exact absurd z.1.2 h
        · intro z; exact absurd z.1.2 h
      · exact (ho y a (by omega) hy).symm)
    omega
theorem wm_same {A : VT} {c s : Int} (hn : ∀ t, 0 ≤ t → t < A 0 5 → ¬ (A (0 + 13 + t) 0 = s ∧ A (0 + 13 + t) 7 = c)) : cntN (wmB A c (s + 1)) (A 0 5).toNat = cntN (wmB A c s) (A 0 5).toNat ∧ winM A c (s + 1) = winM A c s := by
  have hd : ∀ t, 0 ≤ t → t < A 0 5 → (dn A c (s + 1) (0 + 13 + t) ↔ dn A c s (0 + 13 + t)) := fun t a b => by
    have := hn t a b
    unfold dn
    omega
  refine ⟨cnt_congr _ (fun y a b => beq_of (by rw [wmB_t, wmB_t, hd y a (by omega)])), ?_⟩
  funext a j
  by_cases ha : a < 0 + 13 ∨ 0 + 13 + A 0 5 ≤ a
  · rw [winM_out ha, winM_out ha]
  · obtain ⟨t, rfl⟩ : ∃ t, a = 0 + 13 + t := ⟨a - 13, by omega⟩
    have e := hd t (by omega) (by omega)
    by_cases hz : dn A c s (0 + 13 + t)
    · rw [winM_y hz, winM_y (e.mpr hz)]
    · rw [winM_n hz, winM_n (fun z => hz (e.mp z))]
theorem wm_2 {A : VT} {c : Int} (hA : WFV A 0) : cntN (wmB A c 2) (A 0 5).toNat = cntN (wmB A (c + 1) 0) (A 0 5).toNat :=
  cnt_congr _ (fun y a b => beq_of (by rw [wmB_t, wmB_t, dn_2 (hA.2.2.2.1 y a (by omega)).1]))
theorem wm_0 {A : VT} (hA : WFV A 0) : cntN (wmB A 0 0) (A 0 5).toNat = 0 :=
  cnt_none _ (fun y a b => by
    apply Bool.eq_false_iff.mpr
    intro z
    have k := wmB_t.mp z
    have := (hA.2.2.2.1 y a (by omega)).2.2.2.2.2.2.2.2.1
    have k2 := k.2
    have h00 := (hA.2.2.2.1 y a (by omega)).1
    unfold dn at k2
    have k1 := k.1.1
    omega)
theorem wm_end {A : VT} (hA : WFV A 0) : cntN (wmB A (A 0 4) 0) (A 0 5).toNat = cntN (winP A 0) (A 0 5).toNat :=
  cnt_congr _ (fun y a b => by
    unfold wmB
    have := (hA.2.2.2.1 y a (by omega)).2.2.2.2.2.2.2.2.1
    have h1 := hA.1
    rw [@decide_eq_true _ (Classical.propDecidable _) (show dn A (A 0 4) 0 (0 + 13 + y) by unfold dn; omega)]
    simp)
/-- the thing that c wears in s is as it was, so far -/
theorem winM_t {A : VT} {c s t : Int} (hc : 0 ≤ c) (ht : 0 ≤ t ∧ t < A 0 5) (h7 : winM A c s (0 + 13 + t) 7 = c) (h0 : winM A c s (0 + 13 + t) 0 = s) : (∀ j, winM A c s (0 + 13 + t) j = A (0 + 13 + t) j) ∧ A (0 + 13 + t) 7 = c ∧ A (0 + 13 + t) 0 = s := by
  have e0 : A (0 + 13 + t) 0 = s := by
    by_cases hd : dn A c s (0 + 13 + t)
    · rw [winM_y hd, win_o ht (by omega) (by omega)] at h0; exact h0
    · rw [winM_n hd] at h0; exact h0
  have e7 : A (0 + 13 + t) 7 = c := by
    by_cases hd : dn A c s (0 + 13 + t)
    · rw [winM_y hd] at h7
      have := win_7 ht
      omega
    · rw [winM_n hd] at h7; exact h7
  refine ⟨fun j => winM_n (fun z => ?_), e7, e0⟩
  unfold dn at z
  omega
theorem winM_none {A : VT} {c s : Int} (hA : WFV A 0) (hc : 0 ≤ c) (h : wornI (winM A c s) 0 c s = -4) : ∀ t, 0 ≤ t → t < A 0 5 → ¬ (A (0 + 13 + t) 0 = s ∧ A (0 + 13 + t) 7 = c) := by
  intro t a b z
  have h5 : winM A c s 0 5 = A 0 5 := winM_out (by omega)
  have hd : ¬ dn A c s (0 + 13 + t) := by unfold dn; omega
  have := worn_neg (by rw [h5]; exact hA.2.1.1) h t a (by rw [h5]; exact b)
  rw [winM_n hd, winM_n hd] at this
  exact this z
theorem win_sm {A : VT} {c s t : Int} (hA : WFV A 0) (hc : 0 ≤ c) (ht : 0 ≤ t ∧ t < A 0 5) (h7 : A (0 + 13 + t) 7 = c) (h0 : A (0 + 13 + t) 0 = s) :
    (outI (A (0 + 13 + t) 1) (A (0 + 13 + t) 3) (A (0 + 13 + t) 4 + 1) = 1 → Sm (winM A c (s + 1)) 0 (upd2 (upd2 (winM A c s) (0 + 13 + t) 7 (-4)) (0 + 13 + t) 4 (A (0 + 13 + t) 4 + 1)) 0) ∧
    (¬ outI (A (0 + 13 + t) 1) (A (0 + 13 + t) 3) (A (0 + 13 + t) 4 + 1) = 1 → Sm (winM A c (s + 1)) 0 (upd2 (winM A c s) (0 + 13 + t) 4 (A (0 + 13 + t) 4 + 1)) 0) := by
  have h1 := hA.1
  have h2 := hA.2.1
  have hd : ∀ x, 0 ≤ x → x < A 0 5 → ¬ x = t → (dn A c (s + 1) (0 + 13 + x) ↔ dn A c s (0 + 13 + x)) := fun x a b hx => by
    have : ¬ (A (0 + 13 + x) 7 = c ∧ A (0 + 13 + x) 0 = s) := fun z => hx (hA.2.2.2.2 x t a b ht.1 ht.2 (by omega) (by omega) (by omega))
    unfold dn
    omega
  have hx : ∀ x j, 0 ≤ x → x < A 0 5 → ¬ x = t → winM A c (s + 1) (0 + 13 + x) j = winM A c s (0 + 13 + x) j := fun x j a b k => by
    by_cases hz : dn A c s (0 + 13 + x)
    · rw [winM_y hz, winM_y ((hd x a b k).mpr hz)]
    · rw [winM_n hz, winM_n (fun z => hz ((hd x a b k).mp z))]
  have hy : dn A c (s + 1) (0 + 13 + t) := by unfold dn; omega
  have hn : ¬ dn A c s (0 + 13 + t) := by unfold dn; omega
  constructor
  · intro ho
    have q5 : upd2 (upd2 (winM A c s) (0 + 13 + t) 7 (-4)) (0 + 13 + t) 4 (A (0 + 13 + t) 4 + 1) 0 5 = A 0 5 := by rw [u_ne (by omega), u_ne (by omega), winM_out (by omega)]
    refine ⟨by rw [u_ne (by omega), u_ne (by omega), winM_out (by omega), winM_out (by omega)], by rw [q5, winM_out (by omega)], fun d k a b e f => ?_, fun x k a b e f => ?_⟩
    · rw [u_ne (by omega), u_ne (by omega), winM_out (by omega)] at b
      rw [u_ne (by omega), u_ne (by omega), winM_out (by omega), winM_out (by omega)]
    · rw [q5] at b
      by_cases hk : x = t
      · rw [hk, winM_y hy, winF_in ht, if_pos (by omega)]
        by_cases k4 : k = 4
        · rw [if_pos k4, k4, upd2_same]
        · rw [if_neg k4, u_ne (Or.inr k4)]
          by_cases k7 : k = 7
          · rw [if_pos ⟨k7, ho⟩, k7, upd2_same]
          · rw [if_neg (fun z => k7 z.1), u_ne (Or.inr k7), winM_n hn]
      · rw [u_ne (by omega), u_ne (by omega)]
        exact hx x k a b hk
  · intro ho
    have q5 : upd2 (winM A c s) (0 + 13 + t) 4 (A (0 + 13 + t) 4 + 1) 0 5 = A 0 5 := by rw [u_ne (by omega), winM_out (by omega)]
    refine ⟨by rw [u_ne (by omega), winM_out (by omega), winM_out (by omega)], by rw [q5, winM_out (by omega)], fun d k a b e f => ?_, fun x k a b e f => ?_⟩
    · rw [u_ne (by omega), winM_out (by omega)] at b
      rw [u_ne (by omega), winM_out (by omega), winM_out (by omega)]
    · rw [q5] at b
      by_cases hk : x = t
      · rw [hk, winM_y hy, winF_in ht, if_pos (by omega)]
        by_cases k4 : k = 4
        · rw [if_pos k4, k4, upd2_same]
        · rw [if_neg k4, u_ne (Or.inr k4), if_neg (fun z => ho z.2), winM_n hn]
      · rw [u_ne (by omega)]
        exact hx x k a b hk
theorem row_swap {f : Int → Int} {a b x y : Int} (h : ¬ a = b) : (fun j => if j = a then x else if j = b then y else f j) = (fun j => if j = b then y else if j = a then x else f j) := by
  funext j
  by_cases h1 : j = a
  · rw [if_pos h1, if_neg (by omega), if_pos h1]
  · rw [if_neg h1]
    by_cases h2 : j = b
    · rw [if_pos h2, if_pos h2]
    · rw [if_neg h2, if_neg h2, if_neg h1]
