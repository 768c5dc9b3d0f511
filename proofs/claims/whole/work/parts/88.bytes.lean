-- bytes and cells
theorem ji2b_in (x : Int) : -128 ≤ ji2b x ∧ ji2b x ≤ 127 := by
  unfold ji2b
  rw [Int8.toInt_toInt32]
  have h1 := (Int32.ofInt x).toInt8.le_toInt
  have h2 := (Int32.ofInt x).toInt8.toInt_lt
  omega
theorem ji2b_256 {x : Int} (h : 0 ≤ x ∧ x ≤ 255) : ji2b x = if x ≤ 127 then x else x - 256 := by
  have key : ∀ k : Fin 256, ji2b (k.val : Int) = if (k.val : Int) ≤ 127 then (k.val : Int) else (k.val : Int) - 256 := by decide +kernel
  have h1 := key ⟨x.toNat, by omega⟩
  simp only at h1
  rw [Int.toNat_of_nonneg h.1] at h1
  exact h1
theorem ji2b_bits {x y : Int} (h : ∀ i : Nat, i < 8 → (Int32.ofInt x).toBitVec.getLsbD i = (Int32.ofInt y).toBitVec.getLsbD i) : ji2b x = ji2b y := by
  have e : (Int32.ofInt x).toInt8 = (Int32.ofInt y).toInt8 := by
    apply Int8.toBitVec_inj.mp
    rw [Int32.toBitVec_toInt8, Int32.toBitVec_toInt8]
    apply BitVec.eq_of_getLsbD_eq
    intro i hi
    rw [BitVec.getLsbD_signExtend, BitVec.getLsbD_signExtend]
    have h32 : i < 32 := by omega
    simp only [hi, h32, decide_true, Bool.true_and, if_true]
    exact h i hi
  unfold ji2b
  rw [e]
/-- a byte of eight, as the Model keeps it -/
def byM (x s : Int) : Int := w32 (jland (jlshr x s) 255)
theorem w32_bits (z : Int) (i : Nat) (hi : i < 32) : (Int32.ofInt (w32 z)).toBitVec.getLsbD i = (Int64.ofInt z).toBitVec.getLsbD i := by
  rw [of_w32]
  show (BitVec.ofInt 32 z).getLsbD i = (BitVec.ofInt 64 z).getLsbD i
  have e : (BitVec.ofInt 64 z).setWidth 32 = BitVec.ofInt 32 z := by
    apply BitVec.eq_of_toNat_eq
    rw [BitVec.toNat_setWidth, BitVec.toNat_ofInt, BitVec.toNat_ofInt]
    omega
  rw [← e, BitVec.getLsbD_setWidth]
  simp [hi]
theorem byM_rel (x s : Int) : ji2b (byM x s) = ji2b (w32 (jlshr x s)) := by
  refine ji2b_bits (fun i hi => ?_)
  unfold byM
  rw [w32_bits _ i (by omega), w32_bits _ i (by omega)]
  unfold jland
  rw [Int64.ofInt_toInt, Int64.toBitVec_and, BitVec.getLsbD_and]
  have h255 : ∀ k : Fin 8, (Int64.ofInt 255).toBitVec.getLsbD k.val = true := by decide +kernel
  have := h255 ⟨i, hi⟩
  simp only at this
  rw [this, Bool.and_true]
theorem byM_in (x s : Int) : 0 ≤ byM x s ∧ byM x s ≤ 255 := by
  have hz : 0 ≤ jland (jlshr x s) 255 ∧ jland (jlshr x s) 255 ≤ 255 := by
    unfold jland
    rw [show Int64.ofInt 255 = (255 : Int64) from rfl]
    generalize Int64.ofInt (jlshr x s) = y
    have e : (y &&& 255).toBitVec = BitVec.setWidth 64 (BitVec.setWidth 8 y.toBitVec) := by
      rw [Int64.toBitVec_and]
      apply BitVec.eq_of_getLsbD_eq
      intro i hi
      rw [BitVec.getLsbD_and, BitVec.getLsbD_setWidth, BitVec.getLsbD_setWidth]
      have h255 : ∀ k : Fin 64, (255 : Int64).toBitVec.getLsbD k.val = decide (k.val < 8) := by decide +kernel
      have := h255 ⟨i, hi⟩
      simp only at this
      rw [this]
      simp only [hi, decide_true, Bool.true_and]
      by_cases h8 : i < 8
      · simp [h8]
      · simp [h8]
    show 0 ≤ (y &&& 255).toBitVec.toInt ∧ (y &&& 255).toBitVec.toInt ≤ 255
    rw [e, BitVec.toInt_eq_toNat_of_lt (by
      have := (BitVec.setWidth 8 y.toBitVec).isLt
      rw [BitVec.toNat_setWidth]
      have h2 : (BitVec.setWidth 8 y.toBitVec).toNat % 2 ^ 64 ≤ (BitVec.setWidth 8 y.toBitVec).toNat := Nat.mod_le _ _
      omega), BitVec.toNat_setWidth]
    have h1 := (BitVec.setWidth 8 y.toBitVec).isLt
    have h2 : (BitVec.setWidth 8 y.toBitVec).toNat % 2 ^ 64 ≤ (BitVec.setWidth 8 y.toBitVec).toNat := Nat.mod_le _ _
    omega
  unfold byM
  rw [w32_id (by unfold in32; omega)]
  exact hz
theorem w32_up {x : Int} (h : -2147483648 ≤ x) (h2 : x ≤ 2147483747) : (x ≤ 2147483647 → w32 x = x) ∧ (2147483647 < x → w32 x = x - 4294967296) := by
  refine ⟨fun h1 => w32_id (by unfold in32; omega), fun h1 => ?_⟩
  have e : w32 x = w32 (x - 4294967296) := by
    unfold w32
    congr 1
    apply Int32.toBitVec_inj.mp
    show BitVec.ofInt 32 x = BitVec.ofInt 32 (x - 4294967296)
    apply BitVec.eq_of_toInt_eq
    rw [BitVec.toInt_ofInt, BitVec.toInt_ofInt]
    have h3 : (x - 4294967296 + ((2 ^ 32 : Nat) : Int)).bmod (2 ^ 32) = (x - 4294967296).bmod (2 ^ 32) := Int.add_bmod_right _ _
    rw [← h3]
    congr 1
    omega
  rw [e]
  exact w32_id (by unfold in32; omega)
/-- a cell's value by its lane -/
def laneV (l x : Int) : Int := if l = 0 then ji2b x else if l = 1 then ji2s x else x
