-- rows of marks: the first
def goB (f : Int → Int → Bool) (n K k u : Int) : Int → Bool := fun c => okR f k c u && decide (0 < endR f n.toNat K (jor u (jshl 1 c)))
theorem goB_iff {f : Int → Int → Bool} {n K k u c : Int} : goB f n K k u c = true ↔ (f k c = true ∧ bt u c = false) ∧ 0 < endR f n.toNat K (jor u (jshl 1 c)) := by
  unfold goB
  rw [Bool.and_eq_true, okR_iff, decide_eq_true_iff]
def fstB (f : Int → Int → Bool) (n K k u : Int) : Int := firstT (goB f n K k u) n.toNat 0
theorem fst_at {p : Int → Bool} {n c : Int} (hc : 0 ≤ c ∧ c < n) (hp : p c = true) (hb : ∀ i, 0 ≤ i → i < c → p i = false) : firstT p n.toNat 0 = c := by
  rcases firstT_spec p n.toNat 0 with ⟨-, z⟩ | ⟨z1, z2, z3, z4⟩
  · rw [z c hc.1 (by omega)] at hp
    exact absurd hp (by decide)
  · by_cases e : firstT p n.toNat 0 < c
    · rw [hb _ z1 e] at z3
      exact absurd z3 (by decide)
    · by_cases e2 : c < firstT p n.toNat 0
      · rw [z4 c hc.1 e2] at hp
        exact absurd hp (by decide)
      · omega
theorem fst_no {p : Int → Bool} {n : Int} (hn : 0 ≤ n) (hb : ∀ i, 0 ≤ i → i < n → p i = false) : firstT p n.toNat 0 = -4 := by
  rcases firstT_spec p n.toNat 0 with ⟨z, -⟩ | ⟨z1, z2, z3, -⟩
  · exact z
  · rw [hb _ z1 (by omega)] at z3
    exact absurd z3 (by decide)
theorem sum_pos {p : Int → Int} : ∀ n : Nat, (∀ y : Int, 0 ≤ y → y < n → 0 ≤ p y) → 0 ≤ sumN p n ∧ (0 < sumN p n ↔ ∃ y : Int, 0 ≤ y ∧ y < n ∧ 0 < p y)
  | 0, _ => ⟨by unfold sumN; omega, by unfold sumN; exact ⟨fun h => by omega, fun ⟨y, h1, h2, _⟩ => by omega⟩⟩
  | n + 1, h => by
    have h1 := sum_pos (p := p) n (fun y a b => h y a (by omega))
    have h2 := h (n : Int) (by omega) (by omega)
    rw [sumN]
    refine ⟨by omega, fun hp => ?_, fun ⟨y, a, b, c⟩ => ?_⟩
    · by_cases e : 0 < p (n : Int)
      · exact ⟨n, by omega, by omega, e⟩
      · obtain ⟨y, a, b, c⟩ := h1.2.mp (by omega)
        exact ⟨y, a, by omega, c⟩
    · by_cases e : y = n
      · rw [e] at c
        omega
      · have := h1.2.mpr ⟨y, a, by omega, c⟩
        omega
theorem pop_0 : popI 0 = 0 := by decide +kernel
theorem end_pos {f : Int → Int → Bool} {n K u : Int} (hn : 0 ≤ n ∧ n ≤ 8) (hK : K ≤ 6) (hu : 0 ≤ u ∧ u < pwI n.toNat) (hk : popI u < K) : 0 < endR f n.toNat K u ↔ ∃ c, 0 ≤ c ∧ c < n ∧ goB f n K (popI u) u c = true := by
  have h8 := pw_8 hn
  rw [end_eq hn ⟨hu.1, by omega⟩ hk, (sum_pos _ (fun c h1 h2 => ?_)).2]
  · constructor
    · rintro ⟨c, h1, h2, h3⟩
      split at h3
      · next q => exact ⟨c, h1, by omega, goB_iff.mpr ⟨okR_iff.mp q, h3⟩⟩
      · omega
    · rintro ⟨c, h1, h2, h3⟩
      have q := goB_iff.mp h3
      exact ⟨c, h1, by omega, by rw [if_pos (okR_iff.mpr q.1)]; exact q.2⟩
  · skip
    split
    · have hup := or_up hn hu ⟨h1, by omega⟩
      exact (end_bd (by omega) hK (bc_pop ⟨hup.1, by omega⟩).2.1).1
    · omega
def useN (f : Int → Int → Bool) (n K : Int) : Nat → Int
  | 0 => 0
  | m + 1 => jor (useN f n K m) (jshl 1 (fstB f n K m (useN f n K m)))
theorem use_step {f : Int → Int → Bool} {n K k : Int} (h : 0 ≤ k) : useN f n K (k + 1).toNat = jor (useN f n K k.toNat) (jshl 1 (fstB f n K k (useN f n K k.toNat))) := by
  rw [show (k + 1).toNat = k.toNat + 1 by omega, useN, Int.toNat_of_nonneg h]
theorem fst_go {f : Int → Int → Bool} {n K k u : Int} (hn : 0 ≤ n) : (fstB f n K k u = -4 ∧ ∀ c, 0 ≤ c → c < n → goB f n K k u c = false) ∨ (0 ≤ fstB f n K k u ∧ fstB f n K k u < n ∧ goB f n K k u (fstB f n K k u) = true) := by
  rcases firstT_spec (goB f n K k u) n.toNat 0 with ⟨z, z2⟩ | ⟨z1, z2, z3, -⟩
  · exact Or.inl ⟨z, fun c h1 h2 => z2 c h1 (by omega)⟩
  · exact Or.inr ⟨z1, by show firstT _ _ _ < n; omega, z3⟩
/-- the greedy way, so far -/
def GreI (f : Int → Int → Bool) (n K k u : Int) : Prop := u = useN f n K k.toNat ∧ popI u = k ∧ 0 ≤ u ∧ u < pwI n.toNat ∧ (k = 0 ∨ 0 < endR f n.toNat K 0) ∧ (0 < endR f n.toNat K 0 → 0 < endR f n.toNat K u)
theorem GreI.zero {f : Int → Int → Bool} {n K : Int} : GreI f n K 0 0 := ⟨rfl, pop_0, by omega, by have := pw_pos n.toNat; omega, Or.inl rfl, id⟩
theorem GreI.pos {f : Int → Int → Bool} {n K k u c : Int} (hn : 0 ≤ n ∧ n ≤ 8) (hK : K ≤ 6) (h : GreI f n K k u) (hk : k < K) (hc : 0 ≤ c ∧ c < n) (hg : goB f n K k u c = true) : 0 < endR f n.toNat K 0 := by
  obtain ⟨h1, h2, h3, h4, h5, h6⟩ := h
  rcases h5 with h5 | h5
  · have e := (end_pos (f := f) hn hK ⟨h3, h4⟩ (by omega)).mpr ⟨c, hc.1, hc.2, by rw [h2]; exact hg⟩
    rw [h5] at h1
    rw [show u = 0 from h1] at e
    exact e
  · exact h5
theorem GreI.next {f : Int → Int → Bool} {n K k u : Int} (hn : 0 ≤ n ∧ n ≤ 8) (hK : K ≤ 6) (h : GreI f n K k u) (hk : 0 ≤ k ∧ k < K) (hf : ¬ fstB f n K k u = -4) : GreI f n K (k + 1) (jor u (jshl 1 (fstB f n K k u))) := by
  have h8 := pw_8 hn
  have hg := (fst_go (f := f) (K := K) (k := k) (u := u) hn.1).resolve_left (fun z => hf z.1)
  have hp := h.pos hn hK hk.2 ⟨hg.1, hg.2.1⟩ hg.2.2
  obtain ⟨h1, h2, h3, h4, h5, h6⟩ := h
  have q := goB_iff.mp hg.2.2
  have hup := or_up hn ⟨h3, h4⟩ ⟨hg.1, hg.2.1⟩
  refine ⟨by rw [use_step hk.1, ← h1], by rw [(pop_add ⟨h3, by omega⟩ ⟨hg.1, by omega⟩ q.1.2).1, h2], hup.1, hup.2, Or.inr hp, fun _ => q.2⟩
theorem GreI.none {f : Int → Int → Bool} {n K k u : Int} (hn : 0 ≤ n ∧ n ≤ 8) (hK : K ≤ 6) (h : GreI f n K k u) (hk : k < K) (hf : fstB f n K k u = -4) : endR f n.toNat K 0 = 0 := by
  have h8 := pw_8 hn
  obtain ⟨h1, h2, h3, h4, h5, h6⟩ := h
  have hb := end_bd (f := f) (nC := n.toNat) (K := K) (u := 0) (by omega) hK (by rw [pop_0]; omega)
  by_cases e : 0 < endR f n.toNat K 0
  · exfalso
    obtain ⟨c, c1, c2, c3⟩ := (end_pos (f := f) hn hK ⟨h3, h4⟩ (by omega)).mp (h6 e)
    rcases fst_go (f := f) (K := K) (k := k) (u := u) hn.1 with z | z
    · rw [h2, z.2 c c1 c2] at c3
      exact absurd c3 (by decide)
    · omega
  · omega
theorem jor_0l {x : Int} (hx : in32 x) : jor 0 x = x := bt_ext (jor_in _ _) hx (fun t h1 h2 => by rw [bt_or, bt_0, Bool.false_or])
def TrQ (f : Int → Int → Bool) (n K : Int) (v : VT) : Prop := (0 ≤ n ∧ n ≤ 8) ∧ (0 ≤ K ∧ K ≤ 6) ∧ v 60 3 = n ∧ v 60 4 = K ∧ (∀ k c, 0 ≤ k → k < K → 0 ≤ c → c < n → bt (v 61 k) c = f k c) ∧ ∀ i, 0 ≤ i → i < pwI n.toNat → v 62 i = endR f n.toNat K i
