-- the Model's way through the rows ends
def wgtR (n : Int) : Nat → Int
  | 0 => 1
  | m + 1 => n * wgtR n m + 2
theorem wgt_pos {n : Int} (hn : 0 ≤ n) : ∀ m : Nat, 1 ≤ wgtR n m
  | 0 => by unfold wgtR; omega
  | m + 1 => by
    have := Int.mul_nonneg hn (show 0 ≤ wgtR n m by have := wgt_pos hn m; omega)
    rw [wgtR]
    omega
def mesR (n : Int) (K : Nat) (r : Int → Int) : Nat → Int → Int
  | 0, c => (n - c) * wgtR n (K - 0) + 1
  | k + 1, c => (n - c) * wgtR n (K - (k + 1)) + 1 + mesR n K r k (r k + 1)
theorem mes_congr {n : Int} {K : Nat} {r s : Int → Int} : ∀ (k : Nat) (c : Int), (∀ i : Int, 0 ≤ i → i < k → r i = s i) → mesR n K r k c = mesR n K s k c
  | 0, _, _ => rfl
  | k + 1, c, h => by
    rw [mesR, mesR, h (k : Int) (by omega) (by omega), mes_congr k _ (fun i a b => h i a (by omega))]
theorem mes_pos {n : Int} {K : Nat} {r : Int → Int} (hn : 0 ≤ n) : ∀ (k : Nat) (c : Int), c ≤ n → (∀ i : Int, 0 ≤ i → i < k → r i < n) → 1 ≤ mesR n K r k c
  | 0, c, hc, _ => by
    have := Int.mul_nonneg (show 0 ≤ n - c by omega) (show 0 ≤ wgtR n (K - 0) by have := wgt_pos hn (K - 0); omega)
    rw [mesR]
    omega
  | k + 1, c, hc, h => by
    have := Int.mul_nonneg (show 0 ≤ n - c by omega) (show 0 ≤ wgtR n (K - (k + 1)) by have := wgt_pos hn (K - (k + 1)); omega)
    have := mes_pos (K := K) (r := r) hn k (r k + 1) (by have := h (k : Int) (by omega) (by omega); omega) (fun i a b => h i a (by omega))
    rw [mesR]
    omega
theorem mes_lev {n : Int} {K k : Nat} {r : Int → Int} {c : Int} : mesR n K r k c = mesR n K r k (c + 1) + wgtR n (K - k) := by
  have e : (n - c) * wgtR n (K - k) = (n - (c + 1)) * wgtR n (K - k) + wgtR n (K - k) := by
    rw [show n - c = (n - (c + 1)) + 1 by omega, Int.add_mul, Int.one_mul]
  cases k with
  | zero => rw [mesR, mesR, e]; omega
  | succ k => rw [mesR, mesR, e]; omega
theorem mes_next {n : Int} {K k : Nat} {r : Int → Int} {c : Int} (hn : 0 ≤ n) : mesR n K r k (c + 1) < mesR n K r k c := by
  have := wgt_pos hn (K - k)
  rw [mes_lev (c := c)]
  omega
theorem mes_pop {n : Int} {K k : Nat} {r : Int → Int} : mesR n K r k (r k + 1) < mesR n K r (k + 1) n := by
  rw [mesR, show n - n = 0 by omega, Int.zero_mul]
  omega
theorem mes_deep {n : Int} {K k : Nat} {r : Int → Int} (hk : k + 1 < K) : mesR n K r (k + 1) 0 < mesR n K r k (r k) := by
  rw [mes_lev (c := r k), mesR, show K - k = (K - (k + 1)) + 1 by omega, wgtR, show n - 0 = n by omega]
  omega
