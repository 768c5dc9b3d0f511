-- how many rows there are
theorem sum_head {q : Int → Int} : ∀ m : Nat, sumN q (m + 1) = q 0 + sumN (fun i => q (i + 1)) m
  | 0 => by
    rw [sumN, sumN, sumN]
    exact Int.add_comm _ _
  | m + 1 => by
    rw [sumN, sum_head m, sumN]
    show _ + q ((m + 1 : Nat) : Int) = _ + (_ + q ((m : Int) + 1))
    rw [show ((m + 1 : Nat) : Int) = (m : Int) + 1 by omega]
    omega
theorem catF_len {α : Type} {p : Int → List α} : ∀ (m : Nat) (c : Int), ((catF p m c).length : Int) = sumN (fun i => ((p (c + i)).length : Int)) m
  | 0, _ => rfl
  | m + 1, c => by
    rw [catF, List.length_append, sum_head, Int.natCast_add, catF_len m (c + 1)]
    show _ = ((p (c + 0)).length : Int) + _
    rw [Int.add_zero]
    congr 1
    refine sum_same _ (fun y _ _ => ?_)
    show ((p (c + 1 + y)).length : Int) = ((p (c + (y + 1))).length : Int)
    rw [show c + 1 + y = c + (y + 1) by omega]
theorem enu_len {f : Int → Int → Bool} {n : Int} : ∀ (m : Nat) (k u : Int), ((enuM f n m k u).length : Int) = cntR f n.toNat m k u
  | 0, _, _ => rfl
  | m + 1, k, u => by
    rw [enuM, cntR, catF_len, show (n - 0).toNat = n.toNat by omega]
    refine sum_same _ (fun y _ _ => ?_)
    show (((if okR f k (0 + y) u then _ else _ : List (List Int)).length : Nat) : Int) = if okR f k y u then cntR f n.toNat m (k + 1) (jor u (jshl 1 y)) else 0
    rw [Int.zero_add]
    by_cases ho : okR f k y u = true
    · rw [if_pos ho, if_pos ho, List.length_map, enu_len m (k + 1) (jor u (jshl 1 y))]
    · rw [if_neg ho, if_neg ho]
      rfl
theorem mem_catF {α : Type} {p : Int → List α} {x : α} : ∀ (m : Nat) (c : Int), x ∈ catF p m c ↔ ∃ d, c ≤ d ∧ d < c + m ∧ x ∈ p d
  | 0, c => by
    rw [catF]
    exact ⟨fun h => absurd h List.not_mem_nil, fun ⟨d, h1, h2, _⟩ => by omega⟩
  | m + 1, c => by
    rw [catF, List.mem_append, mem_catF m (c + 1)]
    constructor
    · rintro (h | ⟨d, h1, h2, h3⟩)
      · exact ⟨c, by omega, by omega, h⟩
      · exact ⟨d, by omega, by omega, h3⟩
    · rintro ⟨d, h1, h2, h3⟩
      by_cases e : d = c
      · rw [e] at h3
        exact Or.inl h3
      · exact Or.inr ⟨d, by omega, by omega, h3⟩
theorem mem_enu {f : Int → Int → Bool} {n k u : Int} {m : Nat} {t : List Int} : t ∈ enuM f n (m + 1) k u ↔ ∃ c s, (0 ≤ c ∧ c < n) ∧ okR f k c u = true ∧ s ∈ enuM f n m (k + 1) (jor u (jshl 1 c)) ∧ t = c :: s := by
  rw [enuM, mem_catF]
  constructor
  · rintro ⟨d, h1, h2, h3⟩
    by_cases ho : okR f k d u = true
    · rw [if_pos ho] at h3
      obtain ⟨s, s1, s2⟩ := List.mem_map.mp h3
      exact ⟨d, s, ⟨h1, by omega⟩, ho, s1, s2.symm⟩
    · rw [if_neg ho] at h3
      exact absurd h3 List.not_mem_nil
  · rintro ⟨c, s, h1, h2, h3, h4⟩
    exact ⟨c, h1.1, by omega, by rw [if_pos h2]; exact List.mem_map.mpr ⟨s, h3, h4.symm⟩⟩
