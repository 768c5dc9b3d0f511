-- rows of marks
def popI (x : Int) : Int := sumN (fun c => if bt x c then 1 else 0) 8
def bcI (x : Int) : Int :=
  let a := w32 (x - jand (jushr x 1) 1431655765)
  let b := w32 (jand a 858993459 + jand (jushr a 2) 858993459)
  let c := jand (w32 (b + jushr b 4)) 252645135
  let d := w32 (c + jushr c 8)
  let e := w32 (d + jushr d 16)
  jand e 63
theorem bc_fin : ∀ i : Fin 256, bcI (i.val : Int) = popI (i.val : Int) ∧ 0 ≤ popI (i.val : Int) ∧ popI (i.val : Int) ≤ 8 := by decide +kernel
theorem bc_pop {x : Int} (h : 0 ≤ x ∧ x < 256) : bcI x = popI x ∧ 0 ≤ popI x ∧ popI x ≤ 8 := by
  have := bc_fin ⟨x.toNat, by omega⟩
  rw [show (((⟨x.toNat, by omega⟩ : Fin 256).val : Nat) : Int) = x from by show ((x.toNat : Nat) : Int) = x; omega] at this
  exact this
theorem add_fin : ∀ u : Fin 256, ∀ c : Fin 8, bt (u.val : Int) (c.val : Int) = false → popI (jor (u.val : Int) (jshl 1 (c.val : Int))) = popI (u.val : Int) + 1 ∧ (u.val : Int) < jor (u.val : Int) (jshl 1 (c.val : Int)) := by decide +kernel
theorem up_fin : ∀ n : Fin 9, ∀ u : Fin 256, ∀ c : Fin 8, (u.val : Int) < pwI n.val → c.val < n.val → 0 ≤ jor (u.val : Int) (jshl 1 (c.val : Int)) ∧ jor (u.val : Int) (jshl 1 (c.val : Int)) < pwI n.val := by decide +kernel
theorem pop_add {u c : Int} (h : 0 ≤ u ∧ u < 256) (hc : 0 ≤ c ∧ c < 8) (hb : bt u c = false) : popI (jor u (jshl 1 c)) = popI u + 1 ∧ u < jor u (jshl 1 c) := by
  have := add_fin ⟨u.toNat, by omega⟩ ⟨c.toNat, by omega⟩
  have e1 : (((⟨u.toNat, by omega⟩ : Fin 256).val : Nat) : Int) = u := by show ((u.toNat : Nat) : Int) = u; omega
  have e2 : (((⟨c.toNat, by omega⟩ : Fin 8).val : Nat) : Int) = c := by show ((c.toNat : Nat) : Int) = c; omega
  rw [e1, e2] at this
  exact this hb
theorem or_up {n u c : Int} (hn : 0 ≤ n ∧ n ≤ 8) (h : 0 ≤ u ∧ u < pwI n.toNat) (hc : 0 ≤ c ∧ c < n) : 0 ≤ jor u (jshl 1 c) ∧ jor u (jshl 1 c) < pwI n.toNat := by
  have h8 := pw_8 hn
  have := up_fin ⟨n.toNat, by omega⟩ ⟨u.toNat, by omega⟩ ⟨c.toNat, by omega⟩
  have e1 : (((⟨u.toNat, by omega⟩ : Fin 256).val : Nat) : Int) = u := by show ((u.toNat : Nat) : Int) = u; omega
  have e2 : (((⟨c.toNat, by omega⟩ : Fin 8).val : Nat) : Int) = c := by show ((c.toNat : Nat) : Int) = c; omega
  rw [e1, e2] at this
  exact this h.2 (by show c.toNat < n.toNat; omega)
theorem and_shl {x c : Int} (hc : 0 ≤ c ∧ c < 32) : ¬ jand x (jshl 1 c) = 0 ↔ bt x c = true := by
  constructor
  · intro h
    by_cases hb : bt x c = true
    · exact hb
    · exfalso
      refine h (bt_ext (jand_in _ _) (by unfold in32; omega) (fun t h1 h2 => ?_))
      rw [bt_and, bt_shl hc ⟨h1, h2⟩, bt_0]
      by_cases e : c = t
      · rw [← e, Bool.eq_false_iff.mpr hb, Bool.false_and]
      · rw [decide_eq_false e, Bool.and_false]
  · intro h e
    have := bt_and x (jshl 1 c) c
    rw [e, bt_0, h, bt_shl hc hc, decide_eq_true rfl] at this
    exact absurd this (by decide)
def okR (f : Int → Int → Bool) (k c u : Int) : Bool := f k c && !(bt u c)
theorem okR_iff {f : Int → Int → Bool} {k c u : Int} : okR f k c u = true ↔ f k c = true ∧ bt u c = false := by
  unfold okR
  rw [Bool.and_eq_true, Bool.not_eq_true']
/-- how many rows of m marks more, k behind, u used -/
def cntR (f : Int → Int → Bool) (nC : Nat) : Nat → Int → Int → Int
  | 0, _, _ => 1
  | m + 1, k, u => sumN (fun c => if okR f k c u then cntR f nC m (k + 1) (jor u (jshl 1 c)) else 0) nC
theorem sumR_bd {p : Int → Int} {b : Int} : ∀ n : Nat, (∀ y : Int, 0 ≤ y → y < n → 0 ≤ p y ∧ p y ≤ b) → 0 ≤ sumN p n ∧ sumN p n ≤ n * b
  | 0, _ => by unfold sumN; omega
  | n + 1, h => by
    have h1 := sumR_bd (p := p) (b := b) n (fun y a c => h y a (by omega))
    have h2 := h (n : Int) (by omega) (by omega)
    rw [sumN, show (((n + 1 : Nat) : Int)) * b = n * b + b by rw [Int.natCast_add, Int.add_mul]; omega]
    omega
def p8 : Nat → Int
  | 0 => 1
  | m + 1 => 8 * p8 m
theorem p8_pos : ∀ m : Nat, 1 ≤ p8 m
  | 0 => by unfold p8; omega
  | m + 1 => by have := p8_pos m; rw [p8]; omega
theorem cntR_bd {f : Int → Int → Bool} {nC : Nat} (h8 : nC ≤ 8) : ∀ (m : Nat) (k u : Int), 0 ≤ cntR f nC m k u ∧ cntR f nC m k u ≤ p8 m
  | 0, k, u => by unfold cntR p8; omega
  | m + 1, k, u => by
    have hp := p8_pos m
    rw [cntR, p8]
    have := sumR_bd (p := fun c => if okR f k c u then cntR f nC m (k + 1) (jor u (jshl 1 c)) else 0) (b := p8 m) nC (fun y _ _ => by
      have := cntR_bd (f := f) h8 m (k + 1) (jor u (jshl 1 y))
      split <;> omega)
    have h2 : (nC : Int) * p8 m ≤ 8 * p8 m := Int.mul_le_mul_of_nonneg_right (by omega) (by omega)
    omega
theorem p8_6 {m : Nat} (h : m ≤ 6) : p8 m ≤ 262144 := by
  rcases (by omega : m = 0 ∨ m = 1 ∨ m = 2 ∨ m = 3 ∨ m = 4 ∨ m = 5 ∨ m = 6) with e | e | e | e | e | e | e <;> (subst e; decide +kernel)
/-- how many rows go on from u -/
def endR (f : Int → Int → Bool) (nC : Nat) (K u : Int) : Int := if popI u ≤ K then cntR f nC (K - popI u).toNat (popI u) u else 0
theorem end_bd {f : Int → Int → Bool} {nC : Nat} {K u : Int} (h8 : nC ≤ 8) (hK : K ≤ 6) (hu : 0 ≤ popI u) : 0 ≤ endR f nC K u ∧ endR f nC K u ≤ 262144 := by
  unfold endR
  split
  · have := cntR_bd (f := f) h8 (K - popI u).toNat (popI u) u
    have := p8_6 (m := (K - popI u).toNat) (by omega)
    omega
  · omega
theorem end_eq {f : Int → Int → Bool} {K u n : Int} (hn : 0 ≤ n ∧ n ≤ 8) (hu : 0 ≤ u ∧ u < 256) (hK : popI u < K) : endR f n.toNat K u = sumN (fun c => if okR f (popI u) c u then endR f n.toNat K (jor u (jshl 1 c)) else 0) n.toNat := by
  unfold endR
  rw [if_pos (by omega), show (K - popI u).toNat = (K - popI u - 1).toNat + 1 by omega, cntR]
  refine sum_same _ (fun c h1 h2 => ?_)
  show (if _ then _ else _) = (if _ then _ else _)
  by_cases ho : okR f (popI u) c u = true
  · rw [if_pos ho, if_pos ho]
    have := pop_add hu ⟨h1, by omega⟩ (okR_iff.mp ho).2
    rw [this.1, if_pos (by omega), show K - popI u - 1 = K - (popI u + 1) by omega]
  · rw [if_neg ho, if_neg ho]
theorem sum_step {p : Int → Int} {t : Int} (h : 0 ≤ t) : sumN p (t + 1).toNat = sumN p t.toNat + p t := by
  rw [show (t + 1).toNat = t.toNat + 1 by omega, sumN, Int.toNat_of_nonneg h]
/-- whom a mark fits -/
def mkB (A : VT) (o : Int) (mk : Int → Int) (sl k : Int) : Int → Bool := fun c => decide ((if 40 < A (o + 5 + c) 0 + k * A (o + 5 + c) 1 then 40 else A (o + 5 + c) 0 + k * A (o + 5 + c) 1) ≤ mk k ∧ mk k ≤ (if 40 < A (o + 5 + c) 0 + k * A (o + 5 + c) 1 then 40 else A (o + 5 + c) 0 + k * A (o + 5 + c) 1) + sl)
theorem mkB_eq {A B : VT} {mk mk2 : Int → Int} {o p sl k c : Int} (h0 : A (o + 5 + c) 0 = B (p + 5 + c) 0) (h1 : A (o + 5 + c) 1 = B (p + 5 + c) 1) (hm : mk k = mk2 k) : mkB A o mk sl k c = mkB B p mk2 sl k c := by
  unfold mkB
  rw [h0, h1, hm]
theorem mk_bt {A : VT} {mk : Int → Int} {o sl k c n : Int} (hn : 0 ≤ n ∧ n ≤ 8) (hc : 0 ≤ c ∧ c < n) : bt (orN (mkB A o mk sl k) n.toNat) c = mkB A o mk sl k c := by
  rw [bt_orN ⟨hn.1, by omega⟩ ⟨hc.1, by omega⟩, decide_eq_true hc.2, Bool.true_and]
def TraceQ (v : VT) (sl : Int) (w : VT) : Prop := (∀ a j, (¬ a = 60 ∨ (¬ j = 3 ∧ ¬ j = 4)) → ¬ a = 61 → ¬ a = 62 → w a j = v a j) ∧ w 60 3 = v 4 4 ∧ w 60 4 = v 4 6 ∧ (∀ k c, 0 ≤ k → k < v 4 6 → 0 ≤ c → c < v 4 4 → bt (w 61 k) c = mkB v 4 (v 8) sl k c) ∧ ∀ i, 0 ≤ i → i < pwI (v 4 4).toNat → w 62 i = endR (mkB v 4 (v 8) sl) (v 4 4).toNat (v 4 6) i
