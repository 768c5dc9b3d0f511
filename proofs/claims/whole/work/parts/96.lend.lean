-- lending
def fitB (B : VT) (p t c bd sl : Int) : Int := fitI (B (p + 13 + t) 1) (B (p + 13 + t) 2) (B (p + 13 + t) 3) (B (p + 13 + t) 4) (B (p + 13 + t) 5) (B (p + 13 + t) 6) c bd sl
def mayL (A : VT) (o : Int) (B : VT) (p s sl : Int) : Int → Int → Prop := fun c x => mayA A o s sl c x ∨ (0 ≤ c ∧ c < A o 4 ∧ 10 ≤ x ∧ x - 10 < B p 5 ∧ lefB B p s sl 0 (x - 10) = true ∧ ¬ fitB B p (x - 10) c (A (o + 5 + c) 0) sl = 0)
def LenQ (A : VT) (o : Int) (B : VT) (p s sl W : Int) : Prop := ∃ g, MaxM (A o 4) (mayL A o B p s sl) W g
theorem len_one {A B : VT} {o p s sl W W2 : Int} (h : LenQ A o B p s sl W) (h2 : LenQ A o B p s sl W2) : W = W2 := by
  obtain ⟨g, h⟩ := h
  obtain ⟨g2, h2⟩ := h2
  exact max_one h h2
theorem Sm.fib {v u : VT} {o p t c bd sl : Int} (h : Sm v o u p) (ht : 0 ≤ t ∧ t < u p 5) : fitB v o t c bd sl = fitB u p t c bd sl := by
  have k := fun k (z : 0 ≤ k) (z2 : k < 8) => h.2.2.2 t k ht.1 ht.2 z z2
  unfold fitB
  rw [k 1 (by omega) (by omega), k 2 (by omega) (by omega), k 3 (by omega) (by omega), k 4 (by omega) (by omega), k 5 (by omega) (by omega), k 6 (by omega) (by omega)]
theorem Sm.mal {v u x y : VT} {o p a b s sl : Int} (h : Sm v o u p) (h2 : Sm x a y b) : mayL v o x a s sl = mayL u p y b s sl := by
  funext c z
  unfold mayL
  rw [h.may, h.1, h2.2.1]
  apply propext
  constructor
  · rintro (z1 | ⟨z1, z2, z3, z4, z5, z6⟩)
    · exact Or.inl z1
    · rw [h2.lef ⟨by omega, z4⟩] at z5
      rw [h2.fib ⟨by omega, z4⟩, h.2.2.1 c 0 z1 z2 (by omega) (by omega)] at z6
      exact Or.inr ⟨z1, z2, z3, z4, z5, z6⟩
  · rintro (z1 | ⟨z1, z2, z3, z4, z5, z6⟩)
    · exact Or.inl z1
    · rw [← h2.lef ⟨by omega, z4⟩] at z5
      rw [← h2.fib ⟨by omega, z4⟩, ← h.2.2.1 c 0 z1 z2 (by omega) (by omega)] at z6
      exact Or.inr ⟨z1, z2, z3, z4, z5, z6⟩
theorem Sm.len {v u x y : VT} {o p a b s sl W : Int} (h : Sm v o u p) (h2 : Sm x a y b) : LenQ v o x a s sl W ↔ LenQ u p y b s sl W := by
  unfold LenQ
  rw [h.mal h2, h.1]
def LentM (m0 : Int) (P : Int → Prop) (t m : Int) : Prop := ∀ x, 0 ≤ x → x < 32 → (bt m x = true ↔ bt m0 x = true ∨ (10 ≤ x ∧ x - 10 < t ∧ P (x - 10)))
theorem LentM.zero {m : Int} {P : Int → Prop} : LentM m P 0 m := fun x _ _ => ⟨Or.inl, fun z => z.resolve_right (fun q => by omega)⟩
theorem LentM.no {m0 m t : Int} {P : Int → Prop} (h : LentM m0 P t m) (hn : ¬ P t) : LentM m0 P (t + 1) m := fun x h1 h2 => by
  rw [h x h1 h2]
  constructor
  · rintro (z | z)
    · exact Or.inl z
    · exact Or.inr ⟨z.1, by omega, z.2.2⟩
  · rintro (z | ⟨z1, z2, z3⟩)
    · exact Or.inl z
    · by_cases e : x - 10 = t
      · rw [e] at z3
        exact absurd z3 hn
      · exact Or.inr ⟨z1, by omega, z3⟩
theorem LentM.yes {m0 m t : Int} {P : Int → Prop} (h : LentM m0 P t m) (ht : 0 ≤ t ∧ t < 10) (hp : P t) : LentM m0 P (t + 1) (jor m (jshl 1 (10 + t))) := fun x h1 h2 => by
  rw [bt_or, Bool.or_eq_true, h x h1 h2, bt_shl ⟨by omega, by omega⟩ ⟨h1, h2⟩, decide_eq_true_eq]
  constructor
  · rintro ((z | z) | z)
    · exact Or.inl z
    · exact Or.inr ⟨z.1, by omega, z.2.2⟩
    · exact Or.inr ⟨by omega, by omega, by rw [show x - 10 = t by omega]; exact hp⟩
  · rintro (z | ⟨z1, z2, z3⟩)
    · exact Or.inl (Or.inl z)
    · by_cases e : x - 10 = t
      · exact Or.inr (by omega)
      · exact Or.inl (Or.inr ⟨z1, by omega, z3⟩)
def lenP (v : VT) (o p q sl c : Int) : Int → Prop := fun t => bt q t = true ∧ ¬ fitB v p t c (v (o + 5 + c) 0) sl = 0
