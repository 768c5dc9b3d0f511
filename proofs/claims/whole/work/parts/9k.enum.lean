-- the Model's way through the rows
def catF {α : Type} (p : Int → List α) : Nat → Int → List α
  | 0, _ => []
  | m + 1, c => p c ++ catF p m (c + 1)
theorem catF_step {α : Type} {p : Int → List α} {n c : Int} (h : c < n) : catF p (n - c).toNat c = p c ++ catF p (n - (c + 1)).toNat (c + 1) := by
  rw [show (n - c).toNat = (n - (c + 1)).toNat + 1 by omega, catF]
theorem catF_end {α : Type} {p : Int → List α} {n c : Int} (h : n ≤ c) : catF p (n - c).toNat c = [] := by
  rw [show (n - c).toNat = 0 by omega, catF]
theorem catF_map {α β : Type} {p : Int → List α} {g : α → β} : ∀ (m : Nat) (c : Int), (catF p m c).map g = catF (fun d => (p d).map g) m c
  | 0, _ => rfl
  | m + 1, c => by rw [catF, catF, List.map_append, catF_map m (c + 1)]
theorem catF_congr {α : Type} {p q : Int → List α} : ∀ (m : Nat) (c : Int), (∀ d, c ≤ d → d < c + m → p d = q d) → catF p m c = catF q m c
  | 0, _, _ => rfl
  | m + 1, c, h => by rw [catF, catF, h c (by omega) (by omega), catF_congr m (c + 1) (fun d a b => h d (by omega) (by omega))]
def enuM (f : Int → Int → Bool) (n : Int) : Nat → Int → Int → List (List Int)
  | 0, _, _ => [[]]
  | m + 1, k, u => catF (fun c => if okR f k c u then (enuM f n m (k + 1) (jor u (jshl 1 c))).map (fun t => c :: t) else []) (n - 0).toNat 0
def useR (r : Int → Int) : Nat → Int
  | 0 => 0
  | k + 1 => jor (useR r k) (jshl 1 (r k))
def preR (r : Int → Int) : Nat → List Int
  | 0 => []
  | k + 1 => preR r k ++ [r k]
theorem useR_congr {r s : Int → Int} : ∀ k : Nat, (∀ i : Int, 0 ≤ i → i < k → r i = s i) → useR r k = useR s k ∧ preR r k = preR s k
  | 0, _ => ⟨rfl, rfl⟩
  | k + 1, h => by
    have := useR_congr (r := r) (s := s) k (fun i a b => h i a (by omega))
    rw [useR, useR, preR, preR, this.1, this.2, h (k : Int) (by omega) (by omega)]
    exact ⟨rfl, rfl⟩
/-- at depth k, the rows from child c on -/
def levR (f : Int → Int → Bool) (n : Int) (K : Nat) (r : Int → Int) (k : Nat) (c : Int) : List (List Int) :=
  catF (fun d => if okR f k d (useR r k) then (enuM f n (K - k - 1) (k + 1) (jor (useR r k) (jshl 1 d))).map (fun t => preR r k ++ d :: t) else []) (n - c).toNat c
def rstR (f : Int → Int → Bool) (n : Int) (K : Nat) (r : Int → Int) : Nat → Int → List (List Int)
  | 0, c => levR f n K r 0 c
  | k + 1, c => levR f n K r (k + 1) c ++ rstR f n K r k (r k + 1)
theorem levR_congr {f : Int → Int → Bool} {n : Int} {K k : Nat} {r s : Int → Int} {c : Int} (h : ∀ i : Int, 0 ≤ i → i < k → r i = s i) : levR f n K r k c = levR f n K s k c := by
  have := useR_congr k h
  unfold levR
  rw [this.1, this.2]
theorem rstR_congr {f : Int → Int → Bool} {n : Int} {K : Nat} {r s : Int → Int} : ∀ (k : Nat) (c : Int), (∀ i : Int, 0 ≤ i → i < k → r i = s i) → rstR f n K r k c = rstR f n K s k c
  | 0, c, h => levR_congr h
  | k + 1, c, h => by
    rw [rstR, rstR, levR_congr h, h (k : Int) (by omega) (by omega), rstR_congr k _ (fun i a b => h i a (by omega))]
theorem rstR_all {f : Int → Int → Bool} {n : Int} {K : Nat} {r : Int → Int} (hK : 0 < K) : rstR f n K r 0 0 = enuM f n K 0 0 := by
  obtain ⟨m, rfl⟩ : ∃ m, K = m + 1 := ⟨K - 1, by omega⟩
  rw [rstR, levR, enuM]
  refine catF_congr _ _ (fun d _ _ => ?_)
  show (if okR f 0 d 0 then _ else _) = _
  rw [show m + 1 - 0 - 1 = m by omega]
  rfl
theorem rstR_pop {f : Int → Int → Bool} {n : Int} {K k : Nat} {r : Int → Int} {c : Int} (hc : n ≤ c) : rstR f n K r (k + 1) c = rstR f n K r k (r k + 1) := by
  rw [rstR, levR, catF_end hc, List.nil_append]
theorem rstR_end {f : Int → Int → Bool} {n : Int} {K : Nat} {r : Int → Int} {c : Int} (hc : n ≤ c) : rstR f n K r 0 c = [] := by
  rw [rstR, levR, catF_end hc]
theorem rstR_lev {f : Int → Int → Bool} {n : Int} {K k : Nat} {r : Int → Int} {c : Int} (hc : c < n) : rstR f n K r k c = (if okR f k c (useR r k) then (enuM f n (K - k - 1) (k + 1) (jor (useR r k) (jshl 1 c))).map (fun t => preR r k ++ c :: t) else []) ++ rstR f n K r k (c + 1) := by
  cases k with
  | zero => rw [rstR, rstR, levR, catF_step hc]; rfl
  | succ k => rw [rstR, rstR, levR, catF_step hc, List.append_assoc]; rfl
theorem rstR_no {f : Int → Int → Bool} {n : Int} {K k : Nat} {r : Int → Int} {c : Int} (hc : c < n) (ho : ¬ okR f k c (useR r k) = true) : rstR f n K r k c = rstR f n K r k (c + 1) := by
  rw [rstR_lev hc, if_neg ho, List.nil_append]
theorem rstR_take {f : Int → Int → Bool} {n : Int} {K k : Nat} {r : Int → Int} {c : Int} (hc : c < n) (ho : okR f k c (useR r k) = true) (hk : K = k + 1) : rstR f n K r k c = [preR r k ++ [c]] ++ rstR f n K r k (c + 1) := by
  rw [rstR_lev hc, if_pos ho, show K - k - 1 = 0 by omega]
  rfl
theorem rstR_deep {f : Int → Int → Bool} {n : Int} {K k : Nat} {r : Int → Int} (hc : r k < n) (ho : okR f k (r k) (useR r k) = true) (hk : k + 1 < K) : rstR f n K r k (r k) = rstR f n K r (k + 1) 0 := by
  rw [rstR_lev hc, if_pos ho, rstR, levR, show K - k - 1 = (K - (k + 1) - 1) + 1 by omega, enuM, catF_map]
  congr 1
  refine catF_congr _ _ (fun d _ _ => ?_)
  show _ = if okR f ((k + 1 : Nat) : Int) d (jor (useR r k) (jshl 1 (r k))) then _ else _
  rw [show ((k + 1 : Nat) : Int) = (k : Int) + 1 by omega]
  split
  · rw [List.map_map]
    congr 1
    funext t
    show preR r k ++ (r k :: d :: t) = (preR r k ++ [r k]) ++ d :: t
    rw [List.append_assoc]
    rfl
  · rfl
