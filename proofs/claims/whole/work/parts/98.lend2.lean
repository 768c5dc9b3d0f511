-- lending: between the two warmings
theorem bt_lef {B : VT} {p s sl t : Int} (hb : 0 ≤ B p 5 ∧ B p 5 ≤ 10) (ht : 0 ≤ t ∧ t < 32) : bt (orN (lefB B p s sl 0) (B p 5).toNat) t = true ↔ t < B p 5 ∧ lefB B p s sl 0 t = true := by
  rw [bt_orN ⟨hb.1, by omega⟩ ht, Bool.and_eq_true, decide_eq_true_eq]
theorem lend_mid {v w50 w86 w90 w122 : VT} {o q s sl : Int} (hA : WFV v 4) (hB : WFV v o) (ho : isV o)
    (hf : ∀ a j, (a < 54 ∨ 59 < a) → w50 a j = v a j) (hbq : BegQ w50 4 s sl w86)
    (h90 : (∀ a j, (¬ a = 54 ∨ ¬ j = 7) → (a < 56 ∨ 59 < a) → w90 a j = w86 a j) ∧ Con (w90 56) (w90 57) (w86 54 5) (w86 54 6) ∧ MaxM (w86 54 5) (mayT (w86 55) (w86 54 6)) (w90 54 7) (w90 56) ∧ ∀ x, w86 54 6 ≤ x → w90 57 x = w86 57 x)
    (h122 : (∀ a j, (¬ a = 54 ∨ ¬ j = 6) → ¬ a = 55 → w122 a j = w90 a j) ∧ w122 54 6 = 10 + w90 o 5 ∧ ∀ d, 0 ≤ d → d < w90 54 5 → LentM (w90 55 d) (lenP w90 4 o q sl d) (w90 o 5) (w122 55 d))
    (hq : q = orN (lefB v o s sl 0) (v o 5).toNat) :
    w122 54 5 = v 4 4 ∧ w122 54 6 = 10 + v o 5 ∧ Con (w122 56) (w122 57) (v 4 4) (10 + v o 5) ∧ Leg (w122 56) (w122 55) (v 4 4) ∧ w122 54 7 = wrmN (v 4 4) 0 (w122 56) ∧
    (∀ c, 0 ≤ c → c < v 4 4 → ∀ x, 10 + v o 5 ≤ x → x < 32 → bt (w122 55 c) x = false) ∧
    (∀ c, 0 ≤ c → c < v 4 4 → ∀ t, mayT (w122 55) (10 + v o 5) c t ↔ mayL v 4 v o s sl c t) ∧ w90 54 7 = warmV v 4 s sl := by
  have hov := ho
  unfold isV at hov
  have hA1 := hA.1
  have hA2 := hA.2.1
  have hB2 := hB.2.1
  have s4 : Sm w50 4 v 4 := sm_of (fun a j g1 g2 => hf a j (by omega)) hA1.2 hA2.2
  have n4 := s4.1
  have n5 := s4.2.1
  obtain ⟨b5, b6, b7, b8, b9, b10, b11, b12, b13, b14⟩ := hbq
  rw [n4] at b5 b7 b8 b9 b10 b11 b13
  rw [n5] at b6 b7 b10 b11
  obtain ⟨f90, c90, m90, o90⟩ := h90
  rw [b5, b6] at c90 m90
  rw [b6] at o90
  obtain ⟨f122, e6, lm⟩ := h122
  have g90 : ∀ a j, (a < 54 ∨ 59 < a) → w90 a j = v a j := fun a j g => by rw [f90 a j (by omega) (by omega), b14 a j (by omega), hf a j g]
  have e55 : w90 55 = w86 55 := funext (fun j => f90 _ _ (Or.inl (by decide)) (by decide))
  have e5 : w90 54 5 = v 4 4 := (f90 _ _ (Or.inr (by decide)) (by decide)).trans b5
  have eo : w90 o 5 = v o 5 := g90 _ _ (by omega)
  rw [eo] at e6 lm
  rw [e5] at lm
  have e56 : w122 56 = w90 56 := funext (fun j => f122 _ _ (Or.inl (by decide)) (by decide))
  have e57 : w122 57 = w90 57 := funext (fun j => f122 _ _ (Or.inl (by decide)) (by decide))
  have e7 : w122 54 7 = w90 54 7 := f122 _ _ (Or.inr (by decide)) (by decide)
  rw [e56, e57, e7]
  have hB3 : ∀ c, 0 ≤ c → c < v 4 4 → ∀ x, bt (w86 55 c) x = true → 0 ≤ x → x < 32 → x < v 4 5 := fun c c1 c2 x hx x1 x2 => by
    by_cases z : x < v 4 5
    · exact z
    · rw [b10 c c1 c2 x (by omega) x2] at hx
      exact absurd hx (by decide)
  have em : ∀ c, 0 ≤ c → c < v 4 4 → ∀ x, 0 ≤ x → x < 32 → (bt (w122 55 c) x = true ↔ (x < v 4 5 ∧ bt (w86 55 c) x = true) ∨ (10 ≤ x ∧ x - 10 < v o 5 ∧ lefB v o s sl 0 (x - 10) = true ∧ ¬ fitB v o (x - 10) c (v (4 + 5 + c) 0) sl = 0)) := fun c c1 c2 x x1 x2 => by
    rw [lm c c1 c2 x x1 x2, e55]
    unfold lenP
    constructor
    · rintro (z | ⟨z1, z2, z3, z4⟩)
      · exact Or.inl ⟨hB3 c c1 c2 x z x1 x2, z⟩
      · rw [hq] at z3
        have z5 := (bt_lef hB2 ⟨by omega, by omega⟩).mp z3
        have ef : fitB w90 o (x - 10) c (w90 (4 + 5 + c) 0) sl = fitB v o (x - 10) c (v (4 + 5 + c) 0) sl := by
          unfold fitB
          rw [g90 _ _ (by omega), g90 _ _ (by omega), g90 _ _ (by omega), g90 _ _ (by omega), g90 _ _ (by omega), g90 _ _ (by omega), g90 _ _ (by omega)]
        rw [ef] at z4
        exact Or.inr ⟨z1, z2, z5.2, z4⟩
    · rintro (z | ⟨z1, z2, z3, z4⟩)
      · exact Or.inl z.2
      · have ef : fitB w90 o (x - 10) c (w90 (4 + 5 + c) 0) sl = fitB v o (x - 10) c (v (4 + 5 + c) 0) sl := by
          unfold fitB
          rw [g90 _ _ (by omega), g90 _ _ (by omega), g90 _ _ (by omega), g90 _ _ (by omega), g90 _ _ (by omega), g90 _ _ (by omega), g90 _ _ (by omega)]
        rw [← ef] at z4
        exact Or.inr ⟨z1, z2, by rw [hq]; exact (bt_lef hB2 ⟨by omega, by omega⟩).mpr ⟨z2, z3⟩, z4⟩
  refine ⟨(f122 _ _ (Or.inr (by decide)) (by decide)).trans e5, e6, ⟨fun c c1 c2 => ?_, fun x x1 x2 => ?_⟩, fun c c1 c2 hg => ?_, m90.2.1.symm, fun c c1 c2 x x1 x2 => ?_, fun c c1 c2 t => ?_, ?_⟩
  · rcases c90.1 c c1 c2 with z | z
    · exact Or.inl z
    · exact Or.inr ⟨z.1, by omega, z.2.2⟩
  · by_cases z : x < v 4 5
    · exact c90.2 x x1 z
    · exact Or.inl ((o90 x (by omega)).trans (b12 x x1 (by omega)))
  · have z := (m90.1.1 c c1 c2).resolve_left hg
    exact (em c c1 c2 _ z.1 (by have := z.2.1; omega)).mpr (Or.inl ⟨z.2.1, z.2.2⟩)
  · refine Bool.eq_false_iff.mpr (fun z => ?_)
    rcases (em c c1 c2 x (by omega) x2).mp z with z | z <;> omega
  · have b := b11 c c1 c2 t
    rw [s4.may] at b
    unfold mayL
    rw [← b]
    constructor
    · rintro ⟨z1, z2, z3⟩
      rcases (em c c1 c2 t z1 (by omega)).mp z3 with z | z
      · exact Or.inl ⟨z1, z.1, z.2⟩
      · exact Or.inr ⟨c1, c2, z⟩
    · rintro (⟨z1, z2, z3⟩ | ⟨-, -, z⟩)
      · exact ⟨z1, by omega, (em c c1 c2 t z1 (by omega)).mpr (Or.inl ⟨z2, z3⟩)⟩
      · exact ⟨by omega, by omega, (em c c1 c2 t (by omega) (by omega)).mpr (Or.inr z)⟩
  · refine warm_max hA1.1 (max_may (fun c c1 c2 t => ?_) m90)
    have b := b11 c c1 c2 t
    rw [s4.may] at b
    exact b
theorem LentM.no0 {m0 m t : Int} {P : Int → Prop} (h : LentM m0 P t m) (ht : 0 ≤ t ∧ t < 10) (hn : ¬ P t) : LentM m0 P (t + 1) (jor m (jshl 0 (10 + t))) := fun x h1 h2 => by
  rw [jshl_0 ⟨by omega, by omega⟩, bt_or, bt_0, Bool.or_false]
  exact h.no hn x h1 h2
theorem lend_mdl {A B w49 y : VT} {s sl q : Int} (hA : WFV A 0) (hB : WFV B 0)
    (h1 : ∀ c, 0 ≤ c → c < A 0 4 → ∀ t, mayT (w49 124) 20 c t ↔ mayA A 0 s sl c t)
    (h2 : ∀ c, 0 ≤ c → c < A 0 4 → ∀ x, 10 ≤ x → x < 32 → bt (w49 124 c) x = false)
    (hl : ∀ d, 0 ≤ d → d < A 0 4 → LentM (w49 124 d) (fun t => bt q t = true ∧ ¬ fitB B 0 t d (A (0 + 5 + d) 0) sl = 0) 10 (y 124 d))
    (hq : q = orN (lefB B 0 s sl 0) (B 0 5).toNat) :
    ∀ c, 0 ≤ c → c < A 0 4 → ∀ t, mayT (y 124) 20 c t ↔ mayL A 0 B 0 s sl c t := fun c c1 c2 t => by
  have hB2 := hB.2.1
  unfold mayL
  rw [← h1 c c1 c2 t]
  constructor
  · rintro ⟨z1, z2, z3⟩
    rcases (hl c c1 c2 t z1 (by omega)).mp z3 with z | ⟨y1, y2, y3, y4⟩
    · exact Or.inl ⟨z1, z2, z⟩
    · rw [hq] at y3
      have y5 := (bt_lef hB2 ⟨by omega, by omega⟩).mp y3
      exact Or.inr ⟨c1, c2, y1, y5.1, y5.2, y4⟩
  · rintro (⟨z1, z2, z3⟩ | ⟨-, -, y1, y2, y3, y4⟩)
    · exact ⟨z1, z2, (hl c c1 c2 t z1 (by omega)).mpr (Or.inl z3)⟩
    · exact ⟨by omega, by omega, (hl c c1 c2 t (by omega) (by omega)).mpr (Or.inr ⟨y1, by omega, by rw [hq]; exact (bt_lef hB2 ⟨by omega, by omega⟩).mpr ⟨y2, y3⟩, y4⟩)⟩
