-- things to be sewn, read from a sheet
def sewsN (v : VT) (o : Int) (cf : Int → Int) (f0 : Int) : Nat → VT
  | 0 => v
  | k + 1 => sewV (sewsN v o cf f0 k) o (cf (f0 + 2 * (k : Int))) (cf (f0 + 2 * (k : Int) + 1)) 3
theorem sews_step {v : VT} {o f0 k : Int} {cf : Int → Int} (h : 0 ≤ k) : sewsN v o cf f0 (k + 1).toNat = sewV (sewsN v o cf f0 k.toNat) o (cf (f0 + 2 * k)) (cf (f0 + 2 * k + 1)) 3 := by
  have e : (k + 1).toNat = k.toNat + 1 := by omega
  rw [e, sewsN, Int.toNat_of_nonneg h]
theorem sews_5 {v : VT} {o f0 : Int} {cf : Int → Int} : ∀ k : Nat, sewsN v o cf f0 k o 5 = v o 5 + k
  | 0 => by simp [sewsN]
  | k + 1 => by
    rw [sewsN, sewV_5, sews_5 k]
    omega
theorem sews_o {v : VT} {o f0 a j : Int} {cf : Int → Int} (hb : 0 ≤ v o 5) (h : a < o + 13 + v o 5) (h2 : ¬ a = o ∨ ¬ j = 5) : ∀ k : Nat, sewsN v o cf f0 k a j = v a j
  | 0 => rfl
  | k + 1 => by
    rw [sewsN, sewV_o (by rw [sews_5]; omega) h2]
    exact sews_o hb h h2 k
theorem sews_hi {v : VT} {o f0 a j : Int} {cf : Int → Int} (h : o + 23 ≤ a) (hb : 0 ≤ v o 5) : ∀ k : Nat, v o 5 + k ≤ 10 → sewsN v o cf f0 k a j = v a j
  | 0, _ => rfl
  | k + 1, hk => by
    rw [sewsN, sewV_o (by rw [sews_5]; omega) (by omega)]
    exact sews_hi h hb k (by omega)
def RdOk (f0 sz i : Int) : Prop := 0 ≤ f0 + 2 * i ∧ f0 + 2 * i + 1 < sz
def RdRef (cf : Int → Int) (f0 nT i : Int) : Prop := ¬ ((0 ≤ cf (f0 + 2 * i) ∧ cf (f0 + 2 * i) ≤ 1) ∧ (1 ≤ cf (f0 + 2 * i + 1) ∧ cf (f0 + 2 * i + 1) ≤ 40)) ∨ 10 ≤ nT + i
def RdI (cf : Int → Int) (f0 sz nT p : Int) : Prop := ∀ i, 0 ≤ i → i < p → RdOk f0 sz i ∧ ¬ RdRef cf f0 nT i
def ReadQ (cf : Int → Int) (f0 sz nT lf n x m tn : Int) : Prop :=
  (¬ lf = 0 ∧ 0 < n ∧ x = 0 ∧ m = 0 ∧ tn = lf) ∨
  ((lf = 0 ∨ n = 0) ∧ ∃ p, 0 ≤ p ∧ p ≤ n ∧ RdI cf f0 sz nT p ∧ ((p = n ∧ x = n ∧ m = n ∧ tn = 0) ∨ (p < n ∧ ¬ RdOk f0 sz p ∧ x = p ∧ m = p ∧ tn = 2) ∨ (p < n ∧ RdOk f0 sz p ∧ RdRef cf f0 nT p ∧ x = -20 - p ∧ m = -1 ∧ tn = -1)))
theorem RdRef.congr {cf cf2 : Int → Int} {f0 sz nT i : Int} (hc : ∀ j, 0 ≤ j → j < sz → cf j = cf2 j) (h : RdOk f0 sz i) : RdRef cf f0 nT i ↔ RdRef cf2 f0 nT i := by
  unfold RdOk at h
  unfold RdRef
  rw [hc _ (by omega) (by omega), hc _ (by omega) (by omega)]
theorem ReadQ.congr {cf cf2 : Int → Int} {f0 sz nT lf n x m tn : Int} (hc : ∀ j, 0 ≤ j → j < sz → cf j = cf2 j) (h : ReadQ cf f0 sz nT lf n x m tn) : ReadQ cf2 f0 sz nT lf n x m tn := by
  rcases h with h | ⟨h1, p, h2, h3, h4, h5⟩
  · exact Or.inl h
  · refine Or.inr ⟨h1, p, h2, h3, fun i a b => ⟨(h4 i a b).1, fun z => (h4 i a b).2 ((RdRef.congr hc (h4 i a b).1).mpr z)⟩, ?_⟩
    rcases h5 with h5 | h5 | ⟨k1, k2, k3, k4⟩
    · exact Or.inl h5
    · exact Or.inr (Or.inl h5)
    · exact Or.inr (Or.inr ⟨k1, k2, (RdRef.congr hc k2).mp k3, k4⟩)
theorem ReadQ.uniq {cf : Int → Int} {f0 sz nT lf n x m tn x2 m2 tn2 : Int} (h : ReadQ cf f0 sz nT lf n x m tn) (h2 : ReadQ cf f0 sz nT lf n x2 m2 tn2) : x = x2 ∧ m = m2 ∧ tn = tn2 := by
  rcases h with ⟨a1, a2, a3, a4, a5⟩ | ⟨a1, p, a2, a3, a4, a5⟩ <;> rcases h2 with ⟨b1, b2, b3, b4, b5⟩ | ⟨b1, r, b2, b3, b4, b5⟩
  · omega
  · omega
  · omega
  · have e : p = r := by
      by_cases k1 : p < r
      · have := b4 p a2 k1
        rcases a5 with q | q | q
        · omega
        · exact absurd this.1 q.2.1
        · exact absurd q.2.2.1 this.2
      · by_cases k2 : r < p
        · have := a4 r b2 k2
          rcases b5 with q | q | q
          · omega
          · exact absurd this.1 q.2.1
          · exact absurd q.2.2.1 this.2
        · omega
    subst e
    rcases a5 with q | q | q <;> rcases b5 with s | s | s
    · omega
    · omega
    · omega
    · omega
    · omega
    · exact absurd s.2.1 q.2.1
    · omega
    · exact absurd q.2.1 s.2.1
    · omega
theorem RdI.next {cf : Int → Int} {f0 sz nT p : Int} (h : RdI cf f0 sz nT p) (h1 : RdOk f0 sz p) (h2 : ¬ RdRef cf f0 nT p) : RdI cf f0 sz nT (p + 1) := fun i a b => by
  by_cases e : i = p
  · rw [e]; exact ⟨h1, h2⟩
  · exact h i a (by omega)
theorem RdI.wf {v : VT} {o f0 sz p : Int} {cf : Int → Int} (hW : WFV v o) (h : RdI cf f0 sz (v o 5) p) : ∀ k : Nat, (k : Int) ≤ p → WFV (sewsN v o cf f0 k) o
  | 0, _ => hW
  | k + 1, hk => by
    have ih := RdI.wf hW h k (by omega)
    have hr := (h (k : Int) (by omega) (by omega)).2
    unfold RdRef at hr
    rw [sewsN]
    exact ih.sew (by rw [sews_5]; omega) (by omega) (by omega) (by omega)
theorem Sm.sews {v u : VT} {o p f0 : Int} {cf cf2 : Int → Int} {sz nT q : Int} (h : Sm v o u p) (h8 : u p 4 ≤ 8) (h5 : 0 ≤ u p 5) (hc : ∀ j, 0 ≤ j → j < sz → cf j = cf2 j) (hI : RdI cf f0 sz nT q) : ∀ k : Nat, (k : Int) ≤ q → Sm (sewsN v o cf f0 k) o (sewsN u p cf2 f0 k) p ∧ sewsN u p cf2 f0 k p 4 = u p 4
  | 0, _ => ⟨h, rfl⟩
  | k + 1, hk => by
    obtain ⟨i1, i2⟩ := h.sews h8 h5 hc hI k (by omega)
    have ho := (hI (k : Int) (by omega) (by omega)).1
    unfold RdOk at ho
    rw [sewsN, sewsN, hc _ ho.1 (by omega), hc (f0 + 2 * (k : Int) + 1) (by omega) ho.2]
    refine ⟨i1.sew (by rw [i2]; exact h8) (by rw [sews_5]; omega), ?_⟩
    rw [sewV_o (by rw [sews_5]; omega) (by omega)]
    exact i2
theorem mr_back {A : VT} {st st2 : Int → Int} (h : MR A st) (hA : WFV A 0) (he : ∀ j, 0 ≤ j → j < 42 + 7 * A 0 5 → st2 j = st j) : MR A st2 := by
  have h1 := hA.1
  have h2 := hA.2.1
  exact ⟨(he _ (by omega) (by omega)).trans h.1, (he _ (by omega) (by omega)).trans h.2.1, fun c k a b d e => (he _ (by omega) (by omega)).trans (h.2.2.1 c k a b d e), fun t k a b d e => (he _ (by omega) (by omega)).trans (h.2.2.2.1 t k a b d e), fun c s a b d e => (he _ (by omega) (by omega)).trans (h.2.2.2.2 c s a b d e)⟩
theorem mr_sew {B w w2 : VT} {n s z x y : Int} (h : MR B (w 120)) (hW : WFV B 0) (h5 : B 0 5 = n) (h10 : n < 10) (hsz : (s = 0 ∨ s = 1) ∧ 1 ≤ z ∧ z ≤ 40) (hq : SewQ w s z 3 n w2) (hx : x = s) (hy : y = z) : MR (sewV B 0 x y 3) (w2 120) := by
  subst hx
  subst hy
  exact (h.sew hW (by omega) hsz.1 hsz.2 (by omega) (by rw [h5]; exact hq)).1
