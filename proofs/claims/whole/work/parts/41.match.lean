-- matchings: counting, a certificate that no more are warm, the deal and its being the only one
theorem cnt_congr {p q : Int → Bool} : ∀ m : Nat, (∀ y : Int, 0 ≤ y → y < m → p y = q y) → cntN p m = cntN q m
  | 0, _ => rfl
  | m + 1, h => by
    rw [cntN, cntN, cnt_congr m (fun y h1 h2 => h y h1 (by omega)), h (m : Int) (by omega) (by omega)]
theorem cnt_rem {B : Int → Bool} {x : Int} : ∀ m : Nat, 0 ≤ x → x < m → B x = true → cntN B m = cntN (fun y => B y && decide (¬ y = x)) m + 1
  | 0, h1, h2, _ => by omega
  | m + 1, h1, h2, h3 => by
    rw [cntN, cntN]
    by_cases hx : x = (m : Int)
    · have e := cnt_congr (p := B) (q := fun y => B y && decide (¬ y = x)) m (fun y g1 g2 => by
        have : ¬ y = x := by omega
        simp [this])
      rw [← e]
      rw [← hx, h3]
      simp
    · rw [cnt_rem m h1 (by omega) h3]
      have : ¬ (m : Int) = x := fun q => hx q.symm
      simp only [this, not_false_eq_true, decide_true, Bool.and_true]
      omega
theorem inj_cnt {A : Int → Bool} {φ : Int → Int} {m : Nat} : ∀ (n : Nat) (B : Int → Bool), (∀ c : Int, 0 ≤ c → c < n → A c = true → 0 ≤ φ c ∧ φ c < m ∧ B (φ c) = true) → (∀ c d : Int, 0 ≤ c → c < n → 0 ≤ d → d < n → A c = true → A d = true → φ c = φ d → c = d) → cntN A n ≤ cntN B m
  | 0, B, _, _ => (cnt_bd B m).1
  | n + 1, B, h1, h2 => by
    rw [cntN]
    by_cases ha : A (n : Int) = true
    · rw [if_pos ha]
      obtain ⟨k1, k2, k3⟩ := h1 (n : Int) (by omega) (by omega) ha
      rw [cnt_rem m k1 k2 k3]
      have ih := inj_cnt (A := A) (φ := φ) (m := m) n (fun y => B y && decide (¬ y = φ (n : Int))) (fun c g1 g2 g3 => by
        obtain ⟨q1, q2, q3⟩ := h1 c g1 (by omega) g3
        refine ⟨q1, q2, ?_⟩
        have hne : ¬ φ c = φ (n : Int) := fun e => by
          have := h2 c (n : Int) g1 (by omega) (by omega) (by omega) g3 ha e
          omega
        simp [q3, hne]) (fun c d g1 g2 g3 g4 => h2 c d g1 (by omega) g3 (by omega))
      omega
    · rw [if_neg ha]
      have ih := inj_cnt (A := A) (φ := φ) (m := m) n B (fun c g1 g2 g3 => h1 c g1 (by omega) g3) (fun c d g1 g2 g3 g4 => h2 c d g1 (by omega) g3 (by omega))
      omega
/-- a matching: things for children, unlike ones, that may be -/
def Mtc (nC : Int) (may : Int → Int → Prop) (g : Int → Int) : Prop :=
  (∀ c, 0 ≤ c → c < nC → g c = -4 ∨ may c (g c)) ∧ (∀ c d, 0 ≤ c → c < nC → 0 ≤ d → d < nC → ¬ g c = -4 → g c = g d → c = d)
def wrmB (c0 : Int) (g : Int → Int) : Int → Bool := fun c => decide (c0 ≤ c ∧ ¬ g c = -4)
/-- how many are warm, from child c0 on -/
def wrmN (nC c0 : Int) (g : Int → Int) : Int := cntN (wrmB c0 g) nC.toNat
theorem cert_max {nC c0 : Int} {may : Int → Int → Prop} {Z : Int → Prop} {g ow : Int → Int} {R : Int → Bool} (h0 : 0 ≤ c0)
    (hR0 : ∀ c, c0 ≤ c → c < nC → g c = -4 → R c = true) (hRin : ∀ c, R c = true → c0 ≤ c ∧ c < nC)
    (hcl : ∀ c t, R c = true → may c t → ¬ Z t → R (ow t) = true ∧ g (ow t) = t) {g' : Int → Int}
    (hm : ∀ c, c0 ≤ c → c < nC → ¬ g' c = -4 → may c (g' c) ∧ ¬ Z (g' c)) (hinj : ∀ c d, c0 ≤ c → c < nC → c0 ≤ d → d < nC → ¬ g' c = -4 → g' c = g' d → c = d) :
    wrmN nC c0 g' ≤ wrmN nC c0 g := by
  unfold wrmN
  refine inj_cnt (φ := fun c => if R c = true then ow (g' c) else c) nC.toNat (wrmB c0 g) ?_ ?_
  · intro c k1 k2 k3
    have k4 := of_decide_eq_true k3
    by_cases hr : R c = true
    · obtain ⟨m1, m2⟩ := hm c k4.1 (by omega) k4.2
      obtain ⟨q1, q2⟩ := hcl c _ hr m1 m2
      have q3 := hRin _ q1
      simp only [hr, if_true]
      refine ⟨by omega, by omega, decide_eq_true ⟨q3.1, ?_⟩⟩
      rw [q2]
      exact k4.2
    · simp only [hr, if_false]
      refine ⟨k1, k2, decide_eq_true ⟨k4.1, fun e => hr (hR0 c k4.1 (by omega) e)⟩⟩
  · intro c d k1 k2 k3 k4 k5 k6 k7
    have a1 := of_decide_eq_true k5
    have a2 := of_decide_eq_true k6
    by_cases hr : R c = true
    · obtain ⟨m1, m2⟩ := hm c a1.1 (by omega) a1.2
      obtain ⟨q1, q2⟩ := hcl c _ hr m1 m2
      by_cases hd : R d = true
      · obtain ⟨m3, m4⟩ := hm d a2.1 (by omega) a2.2
        obtain ⟨q3, q4⟩ := hcl d _ hd m3 m4
        simp only [hr, hd, if_true] at k7
        rw [k7] at q2
        exact hinj c d a1.1 (by omega) a2.1 (by omega) a1.2 (q2.symm.trans q4)
      · simp only [hr, hd, if_true, if_false] at k7
        rw [k7] at q1
        exact absurd q1 hd
    · by_cases hd : R d = true
      · obtain ⟨m3, m4⟩ := hm d a2.1 (by omega) a2.2
        obtain ⟨q3, q4⟩ := hcl d _ hd m3 m4
        simp only [hr, hd, if_true, if_false] at k7
        rw [← k7] at q3
        exact absurd q3 hr
      · simp only [hr, hd, if_false] at k7
        exact k7
def lexle (x y : Int) : Prop := y = -4 ∨ (¬ x = -4 ∧ x ≤ y)
/-- the deal: as many as can be are warm, and of several the first, child by child, least thing first, nothing last -/
def LexTo (nC : Int) (may : Int → Int → Prop) (W : Int) (g : Int → Int) (k : Int) : Prop :=
  ∀ c, 0 ≤ c → c < k → ∀ g', Mtc nC may g' → wrmN nC 0 g' = W → (∀ i, 0 ≤ i → i < c → g' i = g i) → lexle (g c) (g' c)
def MaxM (nC : Int) (may : Int → Int → Prop) (W : Int) (g : Int → Int) : Prop :=
  Mtc nC may g ∧ wrmN nC 0 g = W ∧ ∀ g', Mtc nC may g' → wrmN nC 0 g' ≤ W
def IsDeal (nC : Int) (may : Int → Int → Prop) (W : Int) (g : Int → Int) : Prop := MaxM nC may W g ∧ LexTo nC may W g nC
theorem deal_one {nC : Int} {may : Int → Int → Prop} {W W2 : Int} {g g2 : Int → Int} (h : IsDeal nC may W g) (h2 : IsDeal nC may W2 g2) : W = W2 ∧ ∀ c, 0 ≤ c → c < nC → g c = g2 c := by
  have e : W = W2 := by
    have a1 := h.1.2.2 g2 h2.1.1
    have a2 := h2.1.2.2 g h.1.1
    rw [h2.1.2.1] at a1
    rw [h.1.2.1] at a2
    omega
  subst e
  refine ⟨rfl, ?_⟩
  have key : ∀ k : Nat, ∀ c, 0 ≤ c → c < nC → c.toNat = k → g c = g2 c := by
    intro k
    induction k using Nat.strongRecOn with
    | ind k ih =>
      intro c h0 h1 hk
      have pre : ∀ i, 0 ≤ i → i < c → g i = g2 i := fun i q1 q2 => ih i.toNat (by omega) i q1 (by omega) rfl
      have l1 := h.2 c h0 h1 g2 h2.1.1 h2.1.2.1 (fun i q1 q2 => (pre i q1 q2).symm)
      have l2 := h2.2 c h0 h1 g h.1.1 h.1.2.1 pre
      unfold lexle at l1 l2
      omega
  exact fun c h0 h1 => key c.toNat c h0 h1 rfl
theorem cnt_one {p q : Int → Bool} {x : Int} (m : Nat) (hx : 0 ≤ x ∧ x < m) (hp : p x = false) (hq : q x = true) (h : ∀ y : Int, 0 ≤ y → y < m → ¬ y = x → p y = q y) : cntN q m = cntN p m + 1 := by
  rw [cnt_rem (B := q) (x := x) m hx.1 hx.2 hq]
  congr 1
  refine cnt_congr m (fun y h1 h2 => ?_)
  by_cases hy : y = x
  · subst hy
    simp [hp]
  · simp [hy, h y h1 h2 hy]
theorem cnt_all {p : Int → Bool} : ∀ m : Nat, cntN p m = m → ∀ y : Int, 0 ≤ y → y < m → p y = true
  | 0, _, y, h1, h2 => by omega
  | m + 1, h, y, h1, h2 => by
    rw [cntN] at h
    have hb := (cnt_bd p m).2
    by_cases hp : p (m : Int) = true
    · rw [if_pos hp] at h
      by_cases hy : y = (m : Int)
      · rw [hy]; exact hp
      · exact cnt_all m (by omega) y h1 (by omega)
    · rw [if_neg hp] at h
      omega
/-- unlike numbers of 0 .. n-1: no more than n -/
theorem php {q : Int → Int} {w n : Int} (hw : 0 ≤ w) (hn : 0 ≤ n) (h1 : ∀ i, 0 ≤ i → i < w → 0 ≤ q i ∧ q i < n) (h2 : ∀ i j, 0 ≤ i → i < w → 0 ≤ j → j < w → q i = q j → i = j) : w ≤ n := by
  have hall : ∀ k : Nat, cntN (fun _ => true) k = k := by
    intro k
    induction k with
    | zero => rfl
    | succ k ih =>
      rw [cntN, ih]
      simp
  have h := inj_cnt (A := fun _ => true) (φ := q) (m := n.toNat) w.toNat (fun _ => true) (fun c k1 k2 _ => ⟨(h1 c k1 (by omega)).1, by have := (h1 c k1 (by omega)).2; omega, rfl⟩) (fun c d k1 k2 k3 k4 _ _ e => h2 c d k1 (by omega) k3 (by omega) e)
  rw [hall, hall] at h
  omega
