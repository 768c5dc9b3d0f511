-- odds: villages grown by a mask, the count, the halving
def pwI : Nat → Int
  | 0 => 1
  | n + 1 => 2 * pwI n
theorem pw_pos : ∀ n : Nat, 1 ≤ pwI n
  | 0 => by unfold pwI; omega
  | n + 1 => by have := pw_pos n; rw [pwI]; omega
theorem pw_8 {n : Int} (h : 0 ≤ n ∧ n ≤ 8) : jshl 1 n = pwI n.toNat ∧ jlshl 1 n = pwI n.toNat ∧ 1 ≤ pwI n.toNat ∧ pwI n.toNat ≤ 256 := by
  rcases (by omega : n = 0 ∨ n = 1 ∨ n = 2 ∨ n = 3 ∨ n = 4 ∨ n = 5 ∨ n = 6 ∨ n = 7 ∨ n = 8) with e | e | e | e | e | e | e | e | e <;> (subst e; exact ⟨by decide +kernel, by decide +kernel, by decide +kernel, by decide +kernel⟩)
def redN : Nat → Int → Int × Int
  | 0, g => (g, 1)
  | n + 1, g => if g % 2 = 0 then redN n (g / 2) else (g, pwI (n + 1))
theorem red_0 : ∀ n : Nat, redN n 0 = (0, 1)
  | 0 => rfl
  | n + 1 => by rw [redN, if_pos (by omega)]; exact red_0 n
theorem red_odd {g : Int} (h : ¬ g % 2 = 0) : ∀ n : Nat, redN n g = (g, pwI n)
  | 0 => rfl
  | n + 1 => by rw [redN, if_neg h]
theorem red_bd : ∀ (n : Nat) (g : Int), 0 ≤ g → g ≤ pwI n → 0 ≤ (redN n g).1 ∧ (redN n g).1 ≤ pwI n ∧ 1 ≤ (redN n g).2 ∧ (redN n g).2 ≤ pwI n
  | 0, g, h1, h2 => ⟨h1, h2, by show (1 : Int) ≤ 1; omega, by show (1 : Int) ≤ 1; omega⟩
  | n + 1, g, h1, h2 => by
    have hp := pw_pos n
    rw [redN]
    split
    · rw [pwI] at h2 ⊢
      have := red_bd n (g / 2) (by omega) (by omega)
      omega
    · exact ⟨h1, h2, by rw [pwI]; show 1 ≤ 2 * pwI n; omega, by show pwI (n+1) ≤ _; omega⟩
theorem gef_1 {A : VT} {o x n d : Int} (hd : 0 ≤ d ∧ d < n) : geF A o x n (o + 5 + d) 0 = geV A x (o + 5 + d) d := by
  unfold geF
  rw [if_pos ⟨by omega, by omega, rfl⟩, show o + 5 + d - o - 5 = d by omega]
theorem WFV.gef {v : VT} {o q : Int} (hw : WFV v o) : WFV (geF v o q (v o 4)) o := by
  obtain ⟨w1, w2, w3, w4, w5⟩ := hw
  have e4 : geF v o q (v o 4) o 4 = v o 4 := geF_out (by omega)
  have e5 : geF v o q (v o 4) o 5 = v o 5 := geF_out (by omega)
  have et : ∀ t j, 0 ≤ t → geF v o q (v o 4) (o + 13 + t) j = v (o + 13 + t) j := fun t j h => geF_out (by omega)
  refine ⟨by rw [e4]; exact w1, by rw [e5]; exact w2, fun d a b => ?_, fun x a b => ?_, fun x y a b d e f g k => ?_⟩
  · rw [e4] at b
    have := w3 d a b
    unfold chOK at *
    rw [gef_1 ⟨a, b⟩, geF_out (by omega), geF_out (by omega)]
    obtain ⟨c1, c2, c3, c4, c5, c6⟩ := this
    refine ⟨?_, ?_, c3, c4, c5, c6⟩ <;> unfold geV growI <;> (repeat' split) <;> omega
  · rw [e5] at b
    have := w4 x a b
    unfold tgOK at *
    rw [e4]
    simp only [et x _ a]
    exact this
  · rw [e5] at b e
    rw [et x _ a] at f g k
    rw [et y _ d] at g k
    exact w5 x y a b d e f g k
theorem Sm.gef {v u : VT} {o p q : Int} (h : Sm v o u p) (h8 : u p 4 ≤ 8) : Sm (geF v o q (v o 4)) o (geF u p q (u p 4)) p := by
  have e4 : geF u p q (u p 4) p 4 = u p 4 := geF_out (by omega)
  have e5 : geF u p q (u p 4) p 5 = u p 5 := geF_out (by omega)
  have e := h.1
  refine ⟨by rw [e4, geF_out (by omega)]; exact h.1, by rw [e5, geF_out (by omega)]; exact h.2.1, fun d k a1 a2 a3 a4 => ?_, fun x k a1 a2 a3 a4 => ?_⟩
  · rw [e4] at a2
    have q := fun k (z : 0 ≤ k) (z2 : k < 3) => h.2.2.1 d k a1 a2 z z2
    by_cases hk : k = 0
    · rw [hk, gef_1 ⟨a1, a2⟩, gef_1 ⟨a1, by omega⟩]
      unfold geV
      rw [q 0 (by omega) (by omega), q 1 (by omega) (by omega), q 2 (by omega) (by omega)]
    · rw [geF_out (by omega), geF_out (by omega)]
      exact q k a3 a4
  · rw [e5] at a2
    rw [geF_out (by omega), geF_out (by omega)]
    exact h.2.2.2 x k a1 a2 a3 a4
theorem MR.gef {A : VT} {st st2 : Int → Int} {x : Int} (h : MR A st) (hA : WFV A 0) (h1 : ∀ d, 0 ≤ d → d < A 0 4 → st2 (1 + 5 * d) = geV A x (5 + d) d) (h2 : ∀ j, 0 ≤ j → j < 112 → (∀ d, 0 ≤ d → d < A 0 4 → ¬ j = 1 + 5 * d) → st2 j = st j) : MR (geF A 0 x (A 0 4)) st2 := by
  have e4 : geF A 0 x (A 0 4) 0 4 = A 0 4 := geF_out (by omega)
  have e5 : geF A 0 x (A 0 4) 0 5 = A 0 5 := geF_out (by omega)
  have et : ∀ t j, 0 ≤ t → geF A 0 x (A 0 4) (0 + 13 + t) j = A (0 + 13 + t) j := fun t j h => geF_out (by have := hA.1; omega)
  have hc := hA.1
  have hb := hA.2.1
  refine ⟨by rw [e4, h2 0 (by omega) (by omega) (fun d _ _ => by omega)]; exact h.1, by rw [e5, h2 41 (by omega) (by omega) (fun d _ _ => by omega)]; exact h.2.1, fun c k a1 a2 a3 a4 => ?_, fun t k a1 a2 a3 a4 => ?_, fun c s a1 a2 a3 a4 => ?_⟩
  · rw [e4] at a2
    by_cases hk : k = 0
    · rw [hk, gef_1 ⟨a1, a2⟩, Int.add_zero, Int.zero_add]
      exact h1 c a1 a2
    · rw [geF_out (by omega), h2 _ (by omega) (by omega) (fun d _ _ => by omega)]
      exact h.2.2.1 c k a1 a2 a3 a4
  · rw [e5] at a2
    rw [et t k a1, h2 _ (by omega) (by omega) (fun d _ _ => by omega)]
    exact h.2.2.2.1 t k a1 a2 a3 a4
  · rw [e4] at a2
    rw [h2 _ (by omega) (by omega) (fun d _ _ => by omega), h.2.2.2.2 c s a1 a2 a3 a4]
    exact (worn_same e5 (by omega) (fun t b1 b2 => ⟨et t 0 b1, et t 7 b1⟩)).symm
noncomputable def oddI (A : VT) (o s sl x : Int) : Int := if warmV (geF A o x (A o 4)) o s sl = A o 4 then 1 else 0
noncomputable def oddN (A : VT) (o s sl : Int) : Nat → Int
  | 0 => 0
  | n + 1 => oddN A o s sl n + oddI A o s sl n
theorem odd_bd {A : VT} {o s sl : Int} : ∀ n : Nat, 0 ≤ oddN A o s sl n ∧ oddN A o s sl n ≤ n
  | 0 => by unfold oddN; omega
  | n + 1 => by
    have := odd_bd (A := A) (o := o) (s := s) (sl := sl) n
    unfold oddN oddI
    split <;> omega
theorem odd_step {A : VT} {o s sl x : Int} (h : 0 ≤ x) : oddN A o s sl (x + 1).toNat = oddN A o s sl x.toNat + oddI A o s sl x := by
  rw [show (x + 1).toNat = x.toNat + 1 by omega, oddN, show ((x.toNat : Nat) : Int) = x by omega]
theorem Sm.odi {v u : VT} {o p s sl x : Int} (h : Sm v o u p) (h8 : u p 4 ≤ 8) : oddI v o s sl x = oddI u p s sl x := by
  unfold oddI
  rw [(h.gef h8).warm, h.1]
theorem Sm.odd {v u : VT} {o p s sl : Int} (h : Sm v o u p) (h8 : u p 4 ≤ 8) : ∀ n : Nat, oddN v o s sl n = oddN u p s sl n
  | 0 => rfl
  | n + 1 => by rw [oddN, oddN, h.odd h8 n, h.odi h8]
/-- the answer -/
noncomputable def oddA (A : VT) (o s sl what : Int) : Int := if what = 0 then (redN (A o 4).toNat (oddN A o s sl (pwI (A o 4).toNat).toNat)).1 else (redN (A o 4).toNat (oddN A o s sl (pwI (A o 4).toNat).toNat)).2
theorem Sm.oda {v u : VT} {o p s sl what : Int} (h : Sm v o u p) (h8 : u p 4 ≤ 8) : oddA v o s sl what = oddA u p s sl what := by
  unfold oddA
  rw [h.1, h.odd h8]
theorem warm_max {v : VT} {o s sl W : Int} {g : Int → Int} (h : 0 ≤ v o 4) (hm : MaxM (v o 4) (mayA v o s sl) W g) : W = warmV v o s sl := max_one hm (deal_ex h).1
theorem red_step {m : Nat} {g : Int} (h : 1 < pwI m) (hg : g % 2 = 0) : pwI m / 2 = pwI (m - 1) ∧ redN m g = redN (m - 1) (g / 2) := by
  cases m with
  | zero => exfalso; unfold pwI at h; omega
  | succ n => exact ⟨by show pwI (n + 1) / 2 = pwI n; rw [pwI]; omega, by rw [redN, if_pos hg]; rfl⟩
theorem red_end {m : Nat} {g : Int} (h : pwI m ≤ 1 ∨ ¬ g % 2 = 0) : redN m g = (g, pwI m) := by
  rcases h with h | h
  · cases m with
    | zero => rfl
    | succ n => exfalso; have := pw_pos n; rw [pwI] at h; omega
  · exact red_odd h m
theorem pw_even {m : Nat} (h : 1 < pwI m) : pwI m % 2 = 0 := by
  cases m with
  | zero => exfalso; unfold pwI at h; omega
  | succ n => rw [pwI]; omega
theorem red_md {m : Nat} {g : Int} (h : g = 0 ∨ ¬ g % 2 = 0 ∨ ¬ pwI m % 2 = 0) : redN m g = (g, if g = 0 then 1 else pwI m) := by
  by_cases hg : g = 0
  · rw [if_pos hg, hg, red_0]
  · rw [if_neg hg]
    rcases h with h | h | h
    · exact absurd h hg
    · exact red_odd h m
    · refine red_end (Or.inl ?_)
      by_cases hp : 1 < pwI m
      · exact absurd (pw_even hp) h
      · omega
theorem E.veqL {X : XT} {G : GT} {cells slots n pc : Nat} {v : VT} {L : List (Option AV)} {S : List AV} {x x' : Int} (e : x = x') (k : E X G cells slots n v pc L (vl x' :: S)) : E X G cells slots n v pc L (vl x :: S) := by
  rw [e]
  exact k
