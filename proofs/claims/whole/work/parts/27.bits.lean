-- bits
def bt (x t : Int) : Bool := (Int32.ofInt x).toBitVec.getLsbD t.toNat
theorem nat32 {P : Nat → Prop} (h : ∀ k : Fin 32, P k.val) {t : Int} (ht : 0 ≤ t ∧ t < 32) : P t.toNat := h ⟨t.toNat, by omega⟩
theorem and1 (y : Int32) : (y &&& 1).toInt = if y.toBitVec.getLsbD 0 then 1 else 0 := by
  have h : (y &&& 1).toBitVec = if y.toBitVec.getLsbD 0 then 1#32 else 0#32 := by
    rw [Int32.toBitVec_and]
    apply BitVec.eq_of_getLsbD_eq
    intro i hi
    rw [BitVec.getLsbD_and, show (1 : Int32).toBitVec = 1#32 from rfl, BitVec.getLsbD_one]
    by_cases h0 : i = 0
    · subst h0
      cases y.toBitVec.getLsbD 0 <;> simp
    · cases y.toBitVec.getLsbD 0 <;> simp [h0]
  show (y &&& 1).toBitVec.toInt = _
  rw [h]
  split <;> decide
theorem shamt {t : Int} (ht : 0 ≤ t ∧ t < 32) : ((Int32.ofInt t &&& 31).toBitVec.smod (32 : BitVec 32)).toNat = t.toNat := by
  have key : ∀ k : Fin 32, ((Int32.ofInt (k.val : Int) &&& 31).toBitVec.smod (32 : BitVec 32)).toNat = k.val := by decide +kernel
  have h1 := key ⟨t.toNat, by omega⟩
  simp only at h1
  rw [Int.toNat_of_nonneg ht.1] at h1
  exact h1
theorem bitI_bt {x t : Int} (ht : 0 ≤ t ∧ t < 32) : bitI x t = if bt x t then 1 else 0 := by
  unfold bitI jand jshr
  rw [Int32.ofInt_toInt, show Int32.ofInt 1 = 1 from rfl, and1]
  have e : (Int32.ofInt x >>> (Int32.ofInt t &&& 31)).toBitVec.getLsbD 0 = bt x t := by
    rw [Int32.toBitVec_shiftRight, BitVec.sshiftRight_eq', shamt ht, BitVec.getLsbD_sshiftRight]
    unfold bt
    simp
    omega
  rw [e]
theorem bitI_1 {x t : Int} (ht : 0 ≤ t ∧ t < 32) : bitI x t = 1 ↔ bt x t = true := by
  rw [bitI_bt ht]
  cases bt x t <;> simp
theorem bt_or (x y t : Int) : bt (jor x y) t = (bt x t || bt y t) := by
  unfold bt jor
  rw [Int32.ofInt_toInt, Int32.toBitVec_or, BitVec.getLsbD_or]
theorem bt_and (x y t : Int) : bt (jand x y) t = (bt x t && bt y t) := by
  unfold bt jand
  rw [Int32.ofInt_toInt, Int32.toBitVec_and, BitVec.getLsbD_and]
theorem bt_not {x t : Int} (ht : 0 ≤ t ∧ t < 32) : bt (jxor x (-1)) t = !(bt x t) := by
  unfold bt jxor
  rw [Int32.ofInt_toInt, Int32.toBitVec_xor, BitVec.getLsbD_xor, show (Int32.ofInt (-1)).toBitVec = BitVec.allOnes 32 from by decide, BitVec.getLsbD_allOnes]
  have : t.toNat < 32 := by omega
  simp [this]
theorem bt_shl {s t : Int} (hs : 0 ≤ s ∧ s < 32) (ht : 0 ≤ t ∧ t < 32) : bt (jshl 1 s) t = decide (s = t) := by
  have key : ∀ a b : Fin 32, bt (jshl 1 (a.val : Int)) (b.val : Int) = decide ((a.val : Int) = (b.val : Int)) := by decide +kernel
  have h1 := key ⟨s.toNat, by omega⟩ ⟨t.toNat, by omega⟩
  simp only at h1
  rw [Int.toNat_of_nonneg hs.1, Int.toNat_of_nonneg ht.1] at h1
  exact h1
theorem bt_0 (t : Int) : bt 0 t = false := by
  unfold bt
  rw [show (Int32.ofInt 0).toBitVec = 0#32 from by decide]
  simp
theorem bt_ext {x y : Int} (hx : in32 x) (hy : in32 y) (h : ∀ t, 0 ≤ t → t < 32 → bt x t = bt y t) : x = y := by
  apply (eq32 hx hy).mp
  apply Int32.toBitVec_inj.mp
  apply BitVec.eq_of_getLsbD_eq
  intro i hi
  have := h (i : Int) (by omega) (by omega)
  unfold bt at this
  rwa [Int.toNat_natCast] at this
theorem jor_in (x y : Int) : in32 (jor x y) := toInt_in _
theorem jand_in (x y : Int) : in32 (jand x y) := toInt_in _
theorem jshl_in (x y : Int) : in32 (jshl x y) := toInt_in _
theorem jxor_in (x y : Int) : in32 (jxor x y) := toInt_in _
theorem bt_orN {p : Int → Bool} {n t : Int} (hn : 0 ≤ n ∧ n < 32) (ht : 0 ≤ t ∧ t < 32) : bt (orN p n.toNat) t = (decide (t < n) && p t) := by
  have key : ∀ k : Nat, k < 32 → bt (orN p k) t = (decide (t < (k : Int)) && p t) := by
    intro k
    induction k with
    | zero =>
      intro _
      rw [orN, bt_0]
      simp
      omega
    | succ k ih =>
      intro hk
      rw [orN]
      have h0 := ih (by omega)
      by_cases hp : p (k : Int) = true
      · rw [if_pos hp, bt_or, h0, bt_shl ⟨by omega, by omega⟩ ht]
        by_cases h1 : t = (k : Int)
        · subst h1
          simp [hp]
          omega
        · have e1 : decide ((k : Int) = t) = false := by simp; omega
          have e2 : decide (t < ((k + 1 : Nat) : Int)) = decide (t < (k : Int)) := by
            apply Bool.eq_iff_iff.mpr
            simp
            omega
          rw [e1, e2]
          simp
      · rw [if_neg hp, h0]
        by_cases h1 : t = (k : Int)
        · subst h1
          have : p (k : Int) = false := by simpa using hp
          simp [this]
        · have e2 : decide (t < ((k + 1 : Nat) : Int)) = decide (t < (k : Int)) := by
            apply Bool.eq_iff_iff.mpr
            simp
            omega
          rw [e2]
  have h1 := key n.toNat (by omega)
  rwa [Int.toNat_of_nonneg hn.1] at h1
theorem orN_in (p : Int → Bool) : ∀ k, in32 (orN p k)
  | 0 => by unfold orN; omega
  | k + 1 => by
    unfold orN
    split
    · exact jor_in _ _
    · exact orN_in p k
