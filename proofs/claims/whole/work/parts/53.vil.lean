-- villages whose numbers are as told; the deal by number
def chOK (v : VT) (r : Int) : Prop := 1 ≤ v r 0 ∧ v r 0 ≤ 40 ∧ 0 ≤ v r 1 ∧ v r 1 ≤ 4 ∧ 0 ≤ v r 2 ∧ v r 2 ≤ 4
def tgOK (v : VT) (r nC : Int) : Prop := (v r 0 = 0 ∨ v r 0 = 1) ∧ (0 ≤ v r 1 ∧ v r 1 ≤ 4) ∧ (1 ≤ v r 2 ∧ v r 2 ≤ 42) ∧ (1 ≤ v r 3 ∧ v r 3 ≤ 9) ∧ (0 ≤ v r 4 ∧ v r 4 ≤ 18) ∧ (v r 5 = 0 ∨ v r 5 = 1) ∧ (v r 5 = 0 → v r 2 ≤ 40) ∧ (v r 6 = -4 ∨ (0 ≤ v r 6 ∧ v r 6 ≤ 7)) ∧ (v r 7 = -4 ∨ (0 ≤ v r 7 ∧ v r 7 < nC)) ∧ (¬ v r 7 = -4 → outI (v r 1) (v r 3) (v r 4) = 0)
def WFV (v : VT) (o : Int) : Prop := (0 ≤ v o 4 ∧ v o 4 ≤ 8) ∧ (0 ≤ v o 5 ∧ v o 5 ≤ 10) ∧ (∀ c, 0 ≤ c → c < v o 4 → chOK v (o + 5 + c)) ∧ (∀ t, 0 ≤ t → t < v o 5 → tgOK v (o + 13 + t) (v o 4)) ∧
  (∀ t u, 0 ≤ t → t < v o 5 → 0 ≤ u → u < v o 5 → ¬ v (o + 13 + t) 7 = -4 → v (o + 13 + t) 7 = v (o + 13 + u) 7 → v (o + 13 + t) 0 = v (o + 13 + u) 0 → t = u)
theorem WFV.th {v : VT} {o : Int} (h : WFV v o) : ∀ t, 0 ≤ t → t < v o 5 → thOK v (o + 13 + t) := fun t h1 h2 => by
  obtain ⟨-, -, a3, a4, -⟩ := h.2.2.2.1 t h1 h2
  exact ⟨by omega, by omega, by omega, by omega⟩
theorem WFV.fz {v : VT} {o : Int} (h : WFV v o) : ∀ c, 0 ≤ c → c < v o 4 → -1000 ≤ v (o + 5 + c) 0 ∧ v (o + 5 + c) 0 ≤ 1000 := fun c h1 h2 => by
  obtain ⟨a1, a2, -⟩ := h.2.2.1 c h1 h2
  exact ⟨by omega, by omega⟩
theorem WFV.ch {v : VT} {o : Int} (h : WFV v o) : ∀ c, 0 ≤ c → c < v o 4 → 0 ≤ v (o + 5 + c) 0 ∧ v (o + 5 + c) 0 ≤ 900 ∧ 0 ≤ v (o + 5 + c) 1 ∧ v (o + 5 + c) 1 ≤ 100 ∧ 0 ≤ v (o + 5 + c) 2 ∧ v (o + 5 + c) 2 ≤ 100 := fun c h1 h2 => by
  obtain ⟨a1, a2, a3, a4, a5, a6⟩ := h.2.2.1 c h1 h2
  omega
theorem WFV.lz {v : VT} {o : Int} (h : WFV v o) : ∀ t, 0 ≤ t → t < v o 5 → v (o + 13 + t) 5 = 0 ∨ v (o + 13 + t) 5 = 1 := fun t h1 h2 => (h.2.2.2.1 t h1 h2).2.2.2.2.2.1
theorem WFV.wi {v : VT} {o : Int} (h : WFV v o) : ∀ t, 0 ≤ t → t < v o 5 → thOK v (o + 13 + t) ∧ -1000 ≤ v (o + 13 + t) 4 ∧ v (o + 13 + t) 4 ≤ 1000 := fun t h1 h2 => by
  obtain ⟨-, -, a3, a4, a5, -⟩ := h.2.2.2.1 t h1 h2
  exact ⟨h.th t h1 h2, by omega, by omega⟩
/-- who may have what -/
def mayA (v : VT) (o s sl : Int) : Int → Int → Prop := fun c t => 0 ≤ c ∧ c < v o 4 ∧ 0 ≤ t ∧ t < v o 5 ∧ v (o + 13 + t) 0 = s ∧ ¬ fitV v o c t sl = 0
noncomputable def dealG (nC : Int) (may : Int → Int → Prop) : Int → Int := Classical.epsilon (fun g => ∃ W, IsDeal nC may W g)
noncomputable def dealV (v : VT) (o s sl : Int) : Int → Int := dealG (v o 4) (mayA v o s sl)
noncomputable def warmV (v : VT) (o s sl : Int) : Int := wrmN (v o 4) 0 (dealV v o s sl)
theorem mtc_may {nC : Int} {may may2 : Int → Int → Prop} (h : ∀ c, 0 ≤ c → c < nC → ∀ t, may c t ↔ may2 c t) {g : Int → Int} (hm : Mtc nC may g) : Mtc nC may2 g := by
  refine ⟨fun c h1 h2 => ?_, hm.2⟩
  rcases hm.1 c h1 h2 with a | a
  · exact Or.inl a
  · exact Or.inr ((h c h1 h2 _).mp a)
theorem max_may {nC W : Int} {may may2 : Int → Int → Prop} {g : Int → Int} (h : ∀ c, 0 ≤ c → c < nC → ∀ t, may c t ↔ may2 c t) (hd : MaxM nC may W g) : MaxM nC may2 W g :=
  ⟨mtc_may h hd.1, hd.2.1, fun g' hg => hd.2.2 g' (mtc_may (fun c a b t => (h c a b t).symm) hg)⟩
theorem deal_may {nC W : Int} {may may2 : Int → Int → Prop} {g : Int → Int} (h : ∀ c, 0 ≤ c → c < nC → ∀ t, may c t ↔ may2 c t) (hd : IsDeal nC may W g) : IsDeal nC may2 W g :=
  ⟨max_may h hd.1, fun c h1 h2 g' hg => hd.2 c h1 h2 g' (mtc_may (fun c a b t => (h c a b t).symm) hg)⟩
theorem deal_is {nC W : Int} {may : Int → Int → Prop} {g : Int → Int} (h : IsDeal nC may W g) : W = wrmN nC 0 (dealG nC may) ∧ (∀ c, 0 ≤ c → c < nC → g c = dealG nC may c) ∧ IsDeal nC may W (dealG nC may) := by
  have h2 : ∃ W, IsDeal nC may W (dealG nC may) := Classical.epsilon_spec (p := fun g => ∃ W, IsDeal nC may W g) ⟨g, W, h⟩
  obtain ⟨W2, h2⟩ := h2
  have h3 := deal_one h h2
  refine ⟨by rw [h3.1]; exact h2.1.2.1.symm, h3.2, by rw [h3.1]; exact h2⟩
theorem max_one {nC W W2 : Int} {may : Int → Int → Prop} {g g2 : Int → Int} (h : MaxM nC may W g) (h2 : MaxM nC may W2 g2) : W = W2 := by
  have a1 := h.2.2 g2 h2.1
  have a2 := h2.2.2 g h.1
  rw [h2.2.1] at a1
  rw [h.2.1] at a2
  omega
/-- behind begin -/
def BegQ (v : VT) (o s sl : Int) (B : VT) : Prop :=
  B 54 5 = v o 4 ∧ B 54 6 = v o 5 ∧ Con (B 56) (B 57) (v o 4) (v o 5) ∧ Leg (B 56) (B 55) (v o 4) ∧ B 54 7 = wrmN (v o 4) 0 (B 56) ∧ (∀ c, 0 ≤ c → c < v o 4 → ∀ x, v o 5 ≤ x → x < 32 → bt (B 55 c) x = false) ∧
  (∀ c, 0 ≤ c → c < v o 4 → ∀ t, mayT (B 55) (v o 5) c t ↔ mayA v o s sl c t) ∧ (∀ x, 0 ≤ x → x < 20 → B 57 x = -4) ∧ (∀ c, 0 ≤ c → c < v o 4 → B 56 c = -4) ∧ ∀ a j, (a < 54 ∨ 57 < a) → B a j = v a j
theorem cnt_none {p : Int → Bool} : ∀ m : Nat, (∀ y : Int, 0 ≤ y → y < m → p y = false) → cntN p m = 0
  | 0, _ => rfl
  | m + 1, h => by
    rw [cntN, h (m : Int) (by omega) (by omega), cnt_none m (fun y h1 h2 => h y h1 (by omega))]
    rfl
theorem beg_all {v : VT} {o s sl : Int} (hc : 0 ≤ v o 4 ∧ v o 4 ≤ 8) (hb : 0 ≤ v o 5 ∧ v o 5 ≤ 10) : BegQ v o s sl (begF v o s sl (v o 4) (v o 4) 0) := by
  have h56 : ∀ c, 0 ≤ c → c < v o 4 → begF v o s sl (v o 4) (v o 4) 0 56 c = -4 := fun c h1 h2 => by
    unfold begF
    rw [if_neg (by omega), if_neg (by omega), if_neg (by omega), if_neg (by omega), if_pos ⟨rfl, h1, h2⟩]
  have h57 : ∀ x, 0 ≤ x → x < 20 → begF v o s sl (v o 4) (v o 4) 0 57 x = -4 := fun x h1 h2 => by
    unfold begF
    rw [if_neg (by omega), if_neg (by omega), if_neg (by omega), if_pos ⟨rfl, h1, h2⟩]
  have h55 : ∀ c, 0 ≤ c → c < v o 4 → begF v o s sl (v o 4) (v o 4) 0 55 c = orN (mayP v o s sl c) (v o 5).toNat := fun c h1 h2 => by
    unfold begF
    rw [if_neg (by omega), if_neg (by omega), if_neg (by omega), if_neg (by omega), if_neg (by omega), if_pos ⟨rfl, h1, h2⟩]
    unfold mayV
    rw [if_pos h2]
  refine ⟨begF_5, begF_6, ⟨fun c h1 h2 => Or.inl (h56 c h1 h2), fun x h1 h2 => Or.inl (h57 x h1 (by omega))⟩, fun c h1 h2 h3 => absurd (h56 c h1 h2) h3, ?_, fun c h1 h2 x h3 h4 => ?_, fun c h1 h2 t => ?_, h57, h56, fun a j h => begF_out h⟩
  · unfold wrmN
    rw [cnt_none]
    · unfold begF
      rw [if_neg (by omega), if_neg (by omega), if_pos ⟨rfl, rfl⟩]
    · intro y h1 h2
      unfold wrmB
      rw [h56 y h1 (by omega)]
      simp
  · rw [h55 c h1 h2, bt_orN (by omega) ⟨by omega, h4⟩]
    have : decide (x < v o 5) = false := by simp; omega
    rw [this]
    rfl
  · unfold mayT mayA
    rw [h55 c h1 h2]
    constructor
    · rintro ⟨k1, k2, k3⟩
      rw [bt_orN (by omega) ⟨k1, by omega⟩] at k3
      have k4 := (Bool.and_eq_true_iff.mp k3).2
      unfold mayP at k4
      have k5 := Bool.and_eq_true_iff.mp k4
      exact ⟨h1, h2, k1, k2, of_decide_eq_true k5.1, of_decide_eq_true k5.2⟩
    · rintro ⟨-, -, k1, k2, k3, k4⟩
      refine ⟨k1, k2, ?_⟩
      rw [bt_orN (by omega) ⟨k1, by omega⟩]
      unfold mayP
      simp [k2, k3, k4]
/-- behind make -/
def MakeQ (v : VT) (o s sl : Int) (w : VT) : Prop :=
  (∀ a j, (a < 54 ∨ 59 < a) → w a j = v a j) ∧ w 54 5 = v o 4 ∧ w 54 6 = v o 5 ∧ w 54 7 = warmV v o s sl ∧ Con (w 56) (w 57) (v o 4) (v o 5) ∧ (∀ c, 0 ≤ c → c < v o 4 → w 56 c = dealV v o s sl c) ∧ IsDeal (v o 4) (mayA v o s sl) (warmV v o s sl) (dealV v o s sl)
theorem make_all {v B w8 w11 : VT} {o s sl : Int} (hb : BegQ v o s sl B)
    (h8 : (∀ a j, (¬ a = 54 ∨ ¬ j = 7) → (a < 56 ∨ 59 < a) → w8 a j = B a j)) (h11 : (∀ a j, (a < 56 ∨ 59 < a) → w11 a j = w8 a j) ∧ Con (w11 56) (w11 57) (w8 54 5) (w8 54 6) ∧ IsDeal (w8 54 5) (mayT (w8 55) (w8 54 6)) (w8 54 7) (w11 56)) : MakeQ v o s sl w11 := by
  obtain ⟨b5, b6, -, -, -, -, b7, -, -, b8⟩ := hb
  have e5 : w8 54 5 = v o 4 := (h8 _ _ (Or.inr (by decide)) (by decide)).trans b5
  have e6 : w8 54 6 = v o 5 := (h8 _ _ (Or.inr (by decide)) (by decide)).trans b6
  have e55 : w8 55 = B 55 := funext (fun j => h8 _ _ (Or.inl (by decide)) (by decide))
  obtain ⟨f1, f2, f3⟩ := h11
  rw [e5, e6] at f2 f3
  rw [e55] at f3
  have f4 := deal_is (deal_may b7 f3)
  refine ⟨fun a j h => ?_, (f1 _ _ (by decide)).trans e5, (f1 _ _ (by decide)).trans e6, (f1 _ _ (by decide)).trans f4.1, f2, f4.2.1, ?_⟩
  · rw [f1 a j (by omega), h8 a j (by omega) (by omega), b8 a j (by omega)]
  · unfold warmV
    have := f4.2.2
    rw [f4.1] at this
    exact this
