-- the Model's swaps: what they have to do with a village's
def LkS (A : VT) (st : Int → Int) : Prop := ∀ i, 0 ≤ i → i < 80 → st (119 + i) = A (0 + 3) i
theorem lk_at {A : VT} {st : Int → Int} {c t : Int} (h : LkS A st) (hc : 0 ≤ c ∧ c < 8) (ht : 0 ≤ t ∧ t < 10) : st (119 + 10 * c + t) = A (0 + 3) (c * 10 + t) := by
  rw [← h (c * 10 + t) (by omega) (by omega)]
  congr 1
  omega
theorem stl_all {v : VT} {o sl : Int} (hw : WFV v o) (hl : LikOK v o) : ∀ k : Nat, (∀ i : Nat, i < k → ¬ fstS (stlN v o sl i) o sl = -4) → (∀ i : Nat, i ≤ k → ∃ x, swapQ (swp (stlN v o sl i) o sl) (stlN v o sl i o 4) x) → WFV (stlN v o sl k) o ∧ LikOK (stlN v o sl k) o ∧ sumN (potF v o) (v o 5).toNat + 2 * k ≤ sumN (potF (stlN v o sl k) o) (stlN v o sl k o 5).toNat ∧ (∀ r j, (r < o + 13 ∨ o + 13 + v o 5 ≤ r ∨ ¬ j = 7) → stlN v o sl k r j = v r j)
  | 0, _, _ => ⟨hw, hl, by simp [stlN], fun _ _ _ => rfl⟩
  | k + 1, h, hx => by
    obtain ⟨i1, i2, i3, i4⟩ := stl_all hw hl k (fun i a => h i (by omega)) (fun i a => hx i (by omega))
    obtain ⟨x, hq⟩ := hx k (by omega)
    have hf := fst_is (by have := i1.1; omega) hq
    have hn := swp_next (sl := sl) i1 i2 hf.2 (h k (by omega))
    have e5 : stlN v o sl k o 5 = v o 5 := i4 _ _ (by omega)
    refine ⟨hn.1, hn.2.1, ?_, fun r j g => ?_⟩
    · have := hn.2.2.1
      rw [stlN]
      omega
    · rw [stlN, hn.2.2.2.1 r j (by omega)]
      exact i4 r j g
/-- there is always a first swap, or none -/
theorem ex_swapQ {P : Int → Int → Int → Prop} {nC : Int} (hn : nC ≤ 10) : ∃ x, swapQ P nC x := by
  by_cases h : ∃ n : Nat, ∃ s a b, (n : Int) = 100 * s + 10 * a + b ∧ 0 ≤ s ∧ s < 2 ∧ 0 ≤ a ∧ a < b ∧ b < nC ∧ P s a b
  · obtain ⟨n, hn2⟩ := h
    obtain ⟨m, ⟨s, a, b, q1, q2, q3, q4, q5, q6, q7⟩, hmin⟩ := least_nat (P := fun n : Nat => ∃ s a b, (n : Int) = 100 * s + 10 * a + b ∧ 0 ≤ s ∧ s < 2 ∧ 0 ≤ a ∧ a < b ∧ b < nC ∧ P s a b) n hn2
    refine ⟨(m : Int), Or.inr ⟨s, a, b, q1, q2, q3, q4, q5, q6, q7, fun s' a' b' k1 k2 k3 k4 k5 k6 => ?_⟩⟩
    have k7 : s' < 2 := by omega
    exact hmin (100 * s' + 10 * a' + b').toNat (by omega) ⟨s', a', b', by omega, k1, k7, k2, k3, k4, k6⟩
  · refine ⟨-4, Or.inl ⟨rfl, fun s a b k1 k2 k3 k4 k5 k6 => h ⟨(100 * s + 10 * a + b).toNat, s, a, b, by omega, k1, k2, k3, k4, k5, k6⟩⟩⟩
theorem Sm.want {v u : VT} {o p a x b y sl : Int} (h : Sm v o u p) (hl : ∀ i, 0 ≤ i → i < 80 → v (o + 3) i = u (p + 3) i) (h8 : u p 4 ≤ 8) (h10 : u p 5 ≤ 10) (ha : 0 ≤ a ∧ a < u p 4) (hb : 0 ≤ b ∧ b < u p 4) (hx : 0 ≤ x ∧ x < u p 5) (hy : 0 ≤ y ∧ y < u p 5) : wantI v o a x b y sl = wantI u p a x b y sl := by
  unfold wantI
  rw [h.fit ha hy, h.fit hb hx, hl _ (by omega) (by omega), hl _ (by omega) (by omega), hl _ (by omega) (by omega), hl _ (by omega) (by omega)]
theorem Sm.swq {v u : VT} {o p s a b sl : Int} (h : Sm v o u p) (hl : ∀ i, 0 ≤ i → i < 80 → v (o + 3) i = u (p + 3) i) (hW : WFV u p) (ha : 0 ≤ a ∧ a < u p 4) (hb : 0 ≤ b ∧ b < u p 4) : swp v o sl s a b ↔ swp u p sl s a b := by
  have h1 := hW.1
  have h2 := hW.2.1
  unfold swp
  rw [h.wo h2.1, h.wo h2.1]
  constructor
  · rintro ⟨k1, k2, k3⟩
    obtain ⟨x1, x2, -⟩ := wornI_rng h2.1 k1
    obtain ⟨y1, y2, -⟩ := wornI_rng h2.1 k2
    rw [h.want hl h1.2 h2.2 ha hb ⟨x1, x2⟩ ⟨y1, y2⟩] at k3
    exact ⟨k1, k2, k3⟩
  · rintro ⟨k1, k2, k3⟩
    obtain ⟨x1, x2, -⟩ := wornI_rng h2.1 k1
    obtain ⟨y1, y2, -⟩ := wornI_rng h2.1 k2
    rw [← h.want hl h1.2 h2.2 ha hb ⟨x1, x2⟩ ⟨y1, y2⟩] at k3
    exact ⟨k1, k2, k3⟩
theorem swapQ_congr {P Q : Int → Int → Int → Prop} {nC x : Int} (h : ∀ s a b, 0 ≤ a → a < nC → 0 ≤ b → b < nC → (P s a b ↔ Q s a b)) (hq : swapQ P nC x) : swapQ Q nC x := by
  rcases hq with ⟨a1, a2⟩ | ⟨s, a, b, a1, a2, a3, a4, a5, a6, a7, a8⟩
  · exact Or.inl ⟨a1, fun s a b k1 k2 k3 k4 k5 k6 => a2 s a b k1 k2 k3 k4 k5 ((h s a b k3 (by omega) (by omega) k5).mpr k6)⟩
  · exact Or.inr ⟨s, a, b, a1, a2, a3, a4, a5, a6, (h s a b a4 (by omega) (by omega) a6).mp a7, fun s' a' b' k1 k2 k3 k4 k5 k6 => a8 s' a' b' k1 k2 k3 k4 k5 ((h s' a' b' k2 (by omega) (by omega) k4).mpr k6)⟩
theorem Sm.fst {v u : VT} {o p sl : Int} (h : Sm v o u p) (hl : ∀ i, 0 ≤ i → i < 80 → v (o + 3) i = u (p + 3) i) (hW : WFV u p) : fstS v o sl = fstS u p sl := by
  have h1 := hW.1
  obtain ⟨x, hx⟩ := ex_swapQ (P := swp v o sl) (nC := v o 4) (by rw [h.1]; omega)
  have f1 := fst_is (by rw [h.1]; omega) hx
  have hx2 : swapQ (swp u p sl) (u p 4) x := by
    rw [← h.1]
    exact swapQ_congr (fun s a b k1 k2 k3 k4 => h.swq hl hW ⟨k1, by rw [← h.1]; exact k2⟩ ⟨k3, by rw [← h.1]; exact k4⟩) hx
  have f2 := fst_is (by omega) hx2
  rw [← f1.1, ← f2.1]
theorem Sm.u7 {v u : VT} {o p t x : Int} (h : Sm v o u p) (ht : 0 ≤ t ∧ t < u p 5) (h8 : u p 4 ≤ 8) : Sm (upd2 v (o + 13 + t) 7 x) o (upd2 u (p + 13 + t) 7 x) p := by
  refine ⟨by rw [u_ne (by omega), u_ne (by omega)]; exact h.1, by rw [u_ne (by omega), u_ne (by omega)]; exact h.2.1, fun c k a b d e => ?_, fun y k a b d e => ?_⟩
  · rw [u_ne (by omega)] at b
    rw [u_ne (by omega), u_ne (by omega)]
    exact h.2.2.1 c k a b d e
  · rw [u_ne (by omega)] at b
    by_cases hz : y = t ∧ k = 7
    · rw [hz.1, hz.2, upd2_same, upd2_same]
    · rw [u_ne (by omega), u_ne (by omega)]
      exact h.2.2.2 y k a b d e
theorem Sm.swf {v u : VT} {o p s a b : Int} (h : Sm v o u p) (hW : WFV u p) : Sm (swF v o s a b) o (swF u p s a b) p := by
  have h1 := hW.1
  have h2 := hW.2.1
  unfold swF
  rw [h.wo h2.1, h.wo h2.1, h.2.1]
  split
  · rename_i hz
    exact (h.u7 hz.1 h1.2).u7 (by rw [u_ne (by omega)]; exact hz.2) (by rw [u_ne (by omega)]; exact h1.2)
  · exact h
theorem Sm.stl {v u : VT} {o p sl : Int} (h : Sm v o u p) (hl : ∀ i, 0 ≤ i → i < 80 → v (o + 3) i = u (p + 3) i) (hW : WFV u p) (hL : LikOK u p) (h5 : 0 ≤ p) : ∀ k : Nat, (∀ i : Nat, i < k → ¬ fstS (stlN u p sl i) p sl = -4) → Sm (stlN v o sl k) o (stlN u p sl k) p ∧ (∀ i, 0 ≤ i → i < 80 → stlN v o sl k (o + 3) i = stlN u p sl k (p + 3) i)
  | 0, _ => ⟨h, hl⟩
  | k + 1, hk => by
    obtain ⟨i1, i2⟩ := h.stl hl hW hL h5 (sl := sl) k (fun i a => hk i (by omega))
    have hex : ∀ i : Nat, i ≤ k → ∃ x, swapQ (swp (stlN u p sl i) p sl) (stlN u p sl i p 4) x := fun i hi => by
      have := (stl_all (sl := sl) hW hL 0 (fun i a => by omega) (fun i a => ex_swapQ (by rw [show i = 0 by omega]; have := hW.1; show u p 4 ≤ 10; omega))).1
      refine ex_swapQ ?_
      have e4 : ∀ j : Nat, stlN u p sl j p 4 = u p 4 := fun j => by
        induction j with
        | zero => rfl
        | succ j ih =>
          rw [stlN]
          unfold swpV
          unfold swF
          split
          · rw [u_ne (by omega), u_ne (by omega)]; exact ih
          · exact ih
      rw [e4]
      have := hW.1
      omega
    have hs := stl_all (sl := sl) hW hL k (fun i a => hk i (by omega)) hex
    refine ⟨?_, fun i k1 k2 => ?_⟩
    · rw [stlN, stlN]
      unfold swpV
      rw [i1.fst i2 hs.1]
      exact i1.swf hs.1
    · rw [stlN, stlN]
      have g : ∀ (w : VT) (q s a b : Int), 0 ≤ w q 5 → swF w q s a b (q + 3) i = w (q + 3) i := fun w q s a b hz => by
        unfold swF
        split
        · rw [u_ne (by omega), u_ne (by omega)]
        · rfl
      unfold swpV
      rw [g _ _ _ _ _ (by rw [i1.2.1]; exact hs.1.2.1.1), g _ _ _ _ _ hs.1.2.1.1]
      exact i2 i k1 k2
theorem dec100 {n : Int} {k : Nat} (h : n ≤ 45) (hk : (100 - n).toNat = k) : (100 - (n + 1)).toNat < k := by omega
