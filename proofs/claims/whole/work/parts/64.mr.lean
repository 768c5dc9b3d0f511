-- the Model's row of numbers tells a village
def MR (A : VT) (st : Int → Int) : Prop := st 0 = A 0 4 ∧ st 41 = A 0 5 ∧ (∀ c k, 0 ≤ c → c < A 0 4 → 0 ≤ k → k < 3 → st (1 + 5 * c + k) = A (0 + 5 + c) k) ∧ (∀ t k, 0 ≤ t → t < A 0 5 → 0 ≤ k → k < 7 → st (42 + 7 * t + k) = A (0 + 13 + t) k) ∧ (∀ c s, 0 ≤ c → c < A 0 4 → 0 ≤ s → s < 2 → st (1 + 5 * c + 3 + s) = wornI A 0 c s)
theorem MR.c0 {A : VT} {st : Int → Int} (h : MR A st) {c : Int} (hc : 0 ≤ c ∧ c < A 0 4) : st (1 + 5 * c) = A (0 + 5 + c) 0 := by
  have := h.2.2.1 c 0 hc.1 hc.2 (by omega) (by omega)
  rw [← this]
  congr 1
  omega
theorem MR.th {A v : VT} (h : MR A (v 120)) (hA : WFV A 0) : ∀ t, 0 ≤ t → t < v 120 41 → -1000 ≤ v 120 (42 + 7 * t + 2) ∧ v 120 (42 + 7 * t + 2) ≤ 1000 ∧ -1000 ≤ v 120 (42 + 7 * t + 3) ∧ v 120 (42 + 7 * t + 3) ≤ 1000 := fun t h1 h2 => by
  rw [h.2.1] at h2
  obtain ⟨-, -, a3, a4, -⟩ := hA.2.2.2.1 t h1 h2
  rw [h.2.2.2.1 t 2 h1 h2 (by omega) (by omega), h.2.2.2.1 t 3 h1 h2 (by omega) (by omega)]
  omega
theorem MR.fz {A v : VT} (h : MR A (v 120)) (hA : WFV A 0) : ∀ c, 0 ≤ c → c < v 120 0 → -1000 ≤ v 120 (1 + 5 * c) ∧ v 120 (1 + 5 * c) ≤ 1000 := fun c h1 h2 => by
  rw [h.1] at h2
  have := hA.fz c h1 h2
  rw [h.c0 ⟨h1, h2⟩]
  exact this
theorem MR.fit {A v : VT} {c t sl : Int} (h : MR A (v 120)) (hs : v 119 2 = sl) (hc : 0 ≤ c ∧ c < A 0 4) (ht : 0 ≤ t ∧ t < A 0 5) : fitS v c t = fitV A 0 c t sl := by
  have q := fun k (z : 0 ≤ k) (z2 : k < 7) => h.2.2.2.1 t k ht.1 ht.2 z z2
  unfold fitS fitV
  rw [q 1 (by omega) (by omega), q 2 (by omega) (by omega), q 3 (by omega) (by omega), q 4 (by omega) (by omega), q 5 (by omega) (by omega), q 6 (by omega) (by omega), h.c0 hc, hs]
theorem fit_012 (k z l w lt h c b sl : Int) : fitI k z l w lt h c b sl = 0 ∨ fitI k z l w lt h c b sl = 1 ∨ fitI k z l w lt h c b sl = 2 := by
  unfold fitI
  (repeat' split) <;> omega
def CanQ (A v : VT) (s sl : Int) (w : VT) : Prop := w 119 16 = A 0 4 ∧ (∀ a j, (¬ a = 119 ∨ ¬ j = 16) → ¬ a = 124 → w a j = v a j) ∧ (∀ c, 0 ≤ c → c < A 0 4 → ∀ t, mayT (w 124) 20 c t ↔ mayA A 0 s sl c t) ∧ (∀ c, 0 ≤ c → c < A 0 4 → ∀ x, 10 ≤ x → x < 32 → bt (w 124 c) x = false) ∧ (∀ c, 0 ≤ c → c < A 0 4 → w 124 c = orN (mayS v s c) (v 120 41).toNat)
theorem can_all {A v : VT} {s sl : Int} (hA : WFV A 0) (hM : MR A (v 120)) (hs : v 119 2 = sl) : CanQ A v s sl (canF v s (v 120 0) (v 120 0) 0) := by
  have h124 : ∀ c, 0 ≤ c → c < A 0 4 → canF v s (v 120 0) (v 120 0) 0 124 c = orN (mayS v s c) (v 120 41).toNat := fun c h1 h2 => by
    unfold canF canV
    rw [if_neg (by omega), if_pos ⟨rfl, h1, by rw [hM.1]; exact h2⟩, if_pos (by rw [hM.1]; exact h2)]
  have h41 := hM.2.1
  have h10 := hA.2.1
  refine ⟨canF_16.trans hM.1, fun a j h1 h2 => canF_out ⟨by omega, h2⟩, fun c h1 h2 t => ?_, fun c h1 h2 x h3 h4 => ?_, h124⟩
  · unfold mayT mayA
    rw [h124 c h1 h2]
    constructor
    · rintro ⟨k1, k2, k3⟩
      rw [bt_orN (by omega) ⟨k1, by omega⟩] at k3
      obtain ⟨k4, k5⟩ := Bool.and_eq_true_iff.mp k3
      have k4 := of_decide_eq_true k4
      unfold mayS at k5
      have k6 := Bool.and_eq_true_iff.mp k5
      have k7 := of_decide_eq_true k6.1
      have k8 := of_decide_eq_true k6.2
      rw [hM.fit hs ⟨h1, h2⟩ ⟨k1, by omega⟩] at k8
      rw [hM.2.2.2.1 t 0 k1 (by omega) (by omega) (by omega)] at k7
      exact ⟨h1, h2, k1, by omega, k7, by omega⟩
    · rintro ⟨-, -, k1, k2, k3, k4⟩
      refine ⟨k1, by omega, ?_⟩
      rw [bt_orN (by omega) ⟨k1, by omega⟩]
      unfold mayS
      rw [hM.fit hs ⟨h1, h2⟩ ⟨k1, k2⟩, hM.2.2.2.1 t 0 k1 k2 (by omega) (by omega)]
      have k5 : 0 < fitV A 0 c t sl := by
        have := fit_012 (A (0 + 13 + t) 1) (A (0 + 13 + t) 2) (A (0 + 13 + t) 3) (A (0 + 13 + t) 4) (A (0 + 13 + t) 5) (A (0 + 13 + t) 6) c (A (0 + 5 + c) 0) sl
        unfold fitV at *
        omega
      have k6 : t < v 120 41 := by omega
      simp only [decide_eq_true k6, decide_eq_true k3, decide_eq_true k5, Bool.and_self]
  · rw [h124 c h1 h2, bt_orN (by omega) ⟨by omega, h4⟩]
    have : decide (x < v 120 41) = false := by simp; omega
    rw [this]
    rfl
theorem rej_all {nC nT W c sd k : Int} {m g ow : Int → Int} (ho : OrdI nC nT W m g ow sd c) (hc : 0 ≤ c ∧ c < nC) (hT : nT ≤ 20) (hk : Rej nC nT W m g c k) (hb : ∀ t, k ≤ t → 0 ≤ t → t < nT → ¬ (bt (m c) t = true ∧ bt sd t = false)) : Rej nC nT W m g c nT := by
  intro x h1 h2
  by_cases hx : x < k
  · exact hk x h1 hx
  · exact rej_shut ho hc ⟨h1, h2⟩ hT (hb x (by omega) h1 h2)
theorem rej_0 {nC nT W c : Int} {m g : Int → Int} : Rej nC nT W m g c 0 := fun x h1 h2 => by omega
