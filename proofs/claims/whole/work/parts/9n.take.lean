-- the Model's rows, taken
theorem pre_len {r : Int → Int} : ∀ k : Nat, (preR r k).length = k
  | 0 => rfl
  | k + 1 => by rw [preR, List.length_append, pre_len k]; rfl
theorem pre_at {r : Int → Int} : ∀ (k i : Nat), i < k → (preR r k)[i]? = some (r i)
  | 0, i, h => by omega
  | k + 1, i, h => by
    rw [preR]
    by_cases e : i < k
    · rw [List.getElem?_append_left (by rw [pre_len]; exact e)]
      exact pre_at k i e
    · rw [List.getElem?_append_right (by rw [pre_len]; omega), pre_len, show i - k = 0 by omega, show i = k by omega]
      rfl
theorem pre_get {r : Int → Int} (k i : Nat) (h : i < k) : (preR r k).getD i (-4) = r i := by
  rw [List.getD_eq_getElem?_getD, pre_at k i h]
  rfl
def TakeQ (K : Int) (done : List (List Int)) (w : VT) : Prop := w 119 30 = (done.length : Int) ∧
  (∀ t, done.head? = some t → ∀ i, 0 ≤ i → i < K → w 134 i = t.getD i.toNat (-4)) ∧
  (∀ d, 0 ≤ d → d < 32 → (bt (w 119 31) d = true ↔ ∃ t, t ∈ done ∧ t.getD 0 (-4) = d)) ∧
  (∀ d, 0 ≤ d → d < 32 → (bt (w 119 32) d = true ↔ ∃ t, t ∈ done ∧ t.getD (K - 1).toNat (-4) = d))
theorem TakeQ.nil {K : Int} {w : VT} (h0 : w 119 30 = 0) (h1 : w 119 31 = 0) (h2 : w 119 32 = 0) : TakeQ K [] w := by
  refine ⟨h0, fun t h => absurd h (by simp), fun d _ _ => ?_, fun d _ _ => ?_⟩
  · rw [h1, bt_0]
    exact ⟨fun q => absurd q (by decide), fun ⟨t, q, _⟩ => absurd q List.not_mem_nil⟩
  · rw [h2, bt_0]
    exact ⟨fun q => absurd q (by decide), fun ⟨t, q, _⟩ => absurd q List.not_mem_nil⟩
theorem TakeQ.off {K : Int} {done : List (List Int)} {v w : VT} (h : TakeQ K done v) (h1 : ∀ j, w 119 j = v 119 j) (h2 : ∀ i, w 134 i = v 134 i) : TakeQ K done w := by
  unfold TakeQ
  rw [h1, h1, h1]
  exact ⟨h.1, fun t ht i a b => by rw [h2]; exact h.2.1 t ht i a b, h.2.2⟩
theorem TakeQ.next {K : Int} {done : List (List Int)} {y w : VT} (h : TakeQ K done y) (hK : 0 < K) (h0 : 0 ≤ y 133 0 ∧ y 133 0 < 32) (hz : 0 ≤ y 133 (K - 1) ∧ y 133 (K - 1) < 32)
    (a1 : w 119 30 = y 119 30 + 1) (a2 : w 119 31 = jor (y 119 31) (if K = 0 then 0 else jshl 1 (y 133 0))) (a3 : w 119 32 = jor (y 119 32) (if K = 0 then 0 else jshl 1 (y 133 (K - 1))))
    (a4 : ∀ i, 0 ≤ i → i < K → w 134 i = if y 119 30 = 0 then y 133 i else y 134 i) : TakeQ K (done ++ [preR (y 133) K.toNat]) w := by
  obtain ⟨b1, b2, b3, b4⟩ := h
  rw [if_neg (by omega)] at a2 a3
  have g : ∀ i : Int, 0 ≤ i → i < K → (preR (y 133) K.toNat).getD i.toNat (-4) = y 133 i := fun i c d => by
    rw [pre_get _ _ (by omega), Int.toNat_of_nonneg c]
  refine ⟨by rw [a1, b1, List.length_append]; show _ = ((done.length + 1 : Nat) : Int); omega, fun t ht i c d => ?_, fun d c1 c2 => ?_, fun d c1 c2 => ?_⟩
  · rw [a4 i c d]
    cases done with
    | nil =>
      rw [if_pos (show y 119 30 = 0 from b1)]
      have : preR (y 133) K.toNat = t := Option.some.inj ht
      rw [← this]
      exact (g i c d).symm
    | cons s l =>
      rw [if_neg (by rw [b1]; show ¬ ((l.length + 1 : Nat) : Int) = 0; omega)]
      exact b2 t ht i c d
  · rw [a2, bt_or, bt_shl h0 ⟨c1, c2⟩, Bool.or_eq_true, b3 d c1 c2, decide_eq_true_eq]
    have g0 := g 0 (by omega) hK
    constructor
    · rintro (⟨t, q1, q2⟩ | q)
      · exact ⟨t, List.mem_append_left _ q1, q2⟩
      · exact ⟨_, List.mem_append_right _ (List.mem_singleton.mpr rfl), by rw [← q]; exact g0⟩
    · rintro ⟨t, q1, q2⟩
      rcases List.mem_append.mp q1 with q | q
      · exact Or.inl ⟨t, q, q2⟩
      · rw [List.mem_singleton.mp q] at q2
        exact Or.inr (g0.symm.trans q2)
  · rw [a3, bt_or, bt_shl hz ⟨c1, c2⟩, Bool.or_eq_true, b4 d c1 c2, decide_eq_true_eq]
    have g0 := g (K - 1) (by omega) (by omega)
    constructor
    · rintro (⟨t, q1, q2⟩ | q)
      · exact ⟨t, List.mem_append_left _ q1, q2⟩
      · exact ⟨_, List.mem_append_right _ (List.mem_singleton.mpr rfl), by rw [← q]; exact g0⟩
    · rintro ⟨t, q1, q2⟩
      rcases List.mem_append.mp q1 with q | q
      · exact Or.inl ⟨t, q, q2⟩
      · rw [List.mem_singleton.mp q] at q2
        exact Or.inr (g0.symm.trans q2)
