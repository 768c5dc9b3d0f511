-- what a deal leaves
def LefP (A : VT) (o s sl q t : Int) : Prop := A (o + 13 + t) 0 = s ∧ (∀ c, 0 ≤ c → c < A o 4 → ¬ dealV A o s sl c = t) ∧ ¬ outI (A (o + 13 + t) 1) (A (o + 13 + t) 3) (A (o + 13 + t) 4) = 1 ∧ (¬ q = 0 ∨ ¬ A (o + 13 + t) 1 = 4)
noncomputable def lefB (A : VT) (o s sl q : Int) : Int → Bool := fun t => @decide (LefP A o s sl q t) (Classical.propDecidable _)
theorem lefB_iff {A : VT} {o s sl q t : Int} {ow : Int → Int} (h : ow t = -4 ↔ ∀ c, 0 ≤ c → c < A o 4 → ¬ dealV A o s sl c = t) : lefB A o s sl q t = true ↔ (A (o + 13 + t) 0 = s ∧ ow t = -4 ∧ ¬ outI (A (o + 13 + t) 1) (A (o + 13 + t) 3) (A (o + 13 + t) 4) = 1 ∧ (¬ q = 0 ∨ ¬ A (o + 13 + t) 1 = 4)) := by
  unfold lefB LefP
  rw [@decide_eq_true_iff _ (Classical.propDecidable _), h]
theorem fr_iff {A : VT} {o s sl nT t : Int} {g ow : Int → Int} (hA : WFV A o) (hC : Con g ow (A o 4) nT) (hg : ∀ c, 0 ≤ c → c < A o 4 → g c = dealV A o s sl c) (ht : 0 ≤ t ∧ t < nT) : ow t = -4 ↔ ∀ c, 0 ≤ c → c < A o 4 → ¬ dealV A o s sl c = t := by
  constructor
  · intro h c c1 c2 e
    rw [← hg c c1 c2] at e
    have := (hC.1 c c1 c2).resolve_left (by omega)
    rw [e, h] at this
    omega
  · intro h
    rcases hC.2 t ht.1 ht.2 with z | z
    · exact z
    · exact absurd ((hg _ z.1 z.2.1).symm.trans z.2.2) (h _ z.1 z.2.1)
theorem Sm.lef {v u : VT} {o p s sl q t : Int} (h : Sm v o u p) (ht : 0 ≤ t ∧ t < u p 5) : lefB v o s sl q t = lefB u p s sl q t := by
  have k := fun k (z : 0 ≤ k) (z2 : k < 8) => h.2.2.2 t k ht.1 ht.2 z z2
  apply beq_of
  unfold lefB LefP
  rw [@decide_eq_true_iff _ (Classical.propDecidable _), @decide_eq_true_iff _ (Classical.propDecidable _), h.deal, h.1, k 0 (by omega) (by omega), k 1 (by omega) (by omega), k 3 (by omega) (by omega), k 4 (by omega) (by omega)]
theorem or_congr {p q : Int → Bool} : ∀ n : Nat, (∀ y : Int, 0 ≤ y → y < n → p y = q y) → orN p n = orN q n
  | 0, _ => rfl
  | n + 1, h => by
    rw [orN, orN, h (n : Int) (by omega) (by omega), or_congr n (fun y a b => h y a (by omega))]
/-- what the class tells of it -/
theorem left_lef {v w : VT} {o s sl q : Int} (hW : WFV v o) (ho : isV o) (h : MakeQ v o s sl w) : orN (leftB w o s q) (v o 5).toNat = orN (lefB v o s sl q) (v o 5).toNat := by
  have h1 := hW.1
  have h2 := hW.2.1
  have sm := make_sm ho h1.2 h2.2 h
  refine or_congr _ (fun t a b => beq_of ?_)
  have b2 : t < v o 5 := by omega
  have k := fun k (z : 0 ≤ k) (z2 : k < 8) => sm.2.2.2 t k a b2 z z2
  rw [lefB_iff (ow := w 57) (fr_iff hW h.2.2.2.2.1 h.2.2.2.2.2.1 ⟨a, b2⟩), leftB_iff, k 0 (by omega) (by omega), k 1 (by omega) (by omega), k 3 (by omega) (by omega), k 4 (by omega) (by omega)]
