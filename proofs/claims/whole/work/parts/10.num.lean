-- numbers: the machine's ints as whole numbers
abbrev in32 (x : Int) : Prop := -2147483648 ≤ x ∧ x ≤ 2147483647
abbrev in64 (x : Int) : Prop := -9223372036854775808 ≤ x ∧ x ≤ 9223372036854775807
def w32 (x : Int) : Int := (Int32.ofInt x).toInt
def w64 (x : Int) : Int := (Int64.ofInt x).toInt
theorem toInt_in (a : Int32) : in32 a.toInt := by
  have h1 := a.le_toInt
  have h2 := a.toInt_lt
  unfold in32
  omega
theorem toInt_in64 (a : Int64) : in64 a.toInt := by
  have h1 := a.le_toInt
  have h2 := a.toInt_lt
  unfold in64
  omega
theorem w32_in (x : Int) : in32 (w32 x) := toInt_in _
theorem w64_in (x : Int) : in64 (w64 x) := toInt_in64 _
theorem o32 {x : Int} (h : in32 x) : (Int32.ofInt x).toInt = x := by
  unfold in32 at h
  exact Int32.toInt_ofInt_of_le (by omega) (by omega)
theorem o64 {x : Int} (h : in64 x) : (Int64.ofInt x).toInt = x := by
  unfold in64 at h
  exact Int64.toInt_ofInt_of_le (by omega) (by omega)
theorem w32_id {x : Int} (h : in32 x) : w32 x = x := o32 h
theorem w64_id {x : Int} (h : in64 x) : w64 x = x := o64 h
theorem of_w32 (x : Int) : Int32.ofInt (w32 x) = Int32.ofInt x := Int32.ofInt_toInt _
theorem of_w64 (x : Int) : Int64.ofInt (w64 x) = Int64.ofInt x := Int64.ofInt_toInt _
theorem lt32 {x y : Int} (hx : in32 x) (hy : in32 y) : Int32.ofInt x < Int32.ofInt y ↔ x < y := by
  rw [Int32.lt_iff_toInt_lt, o32 hx, o32 hy]
theorem le32 {x y : Int} (hx : in32 x) (hy : in32 y) : Int32.ofInt x ≤ Int32.ofInt y ↔ x ≤ y := by
  rw [Int32.le_iff_toInt_le, o32 hx, o32 hy]
theorem eq32 {x y : Int} (hx : in32 x) (hy : in32 y) : Int32.ofInt x = Int32.ofInt y ↔ x = y := by
  rw [← Int32.toInt_inj, o32 hx, o32 hy]
theorem lt64 {x y : Int} (hx : in64 x) (hy : in64 y) : Int64.ofInt x < Int64.ofInt y ↔ x < y := by
  rw [Int64.lt_iff_toInt_lt, o64 hx, o64 hy]
theorem eq64 {x y : Int} (hx : in64 x) (hy : in64 y) : Int64.ofInt x = Int64.ofInt y ↔ x = y := by
  rw [← Int64.toInt_inj, o64 hx, o64 hy]
-- operations
def jand (x y : Int) : Int := (Int32.ofInt x &&& Int32.ofInt y).toInt
def jor (x y : Int) : Int := (Int32.ofInt x ||| Int32.ofInt y).toInt
def jxor (x y : Int) : Int := (Int32.ofInt x ^^^ Int32.ofInt y).toInt
def jshl (x y : Int) : Int := (Int32.ofInt x <<< (Int32.ofInt y &&& 31)).toInt
def jshr (x y : Int) : Int := (Int32.ofInt x >>> (Int32.ofInt y &&& 31)).toInt
def jushr (x y : Int) : Int := (((Int32.ofInt x).toUInt32 >>> ((Int32.ofInt y).toUInt32 &&& Int32.toUInt32 31)).toInt32).toInt
def ji2b (x : Int) : Int := ((Int32.ofInt x).toInt8.toInt32).toInt
def ji2s (x : Int) : Int := ((Int32.ofInt x).toInt16.toInt32).toInt
def jland (x y : Int) : Int := (Int64.ofInt x &&& Int64.ofInt y).toInt
def jlor (x y : Int) : Int := (Int64.ofInt x ||| Int64.ofInt y).toInt
def jlshl (x y : Int) : Int := (Int64.ofInt x <<< ((Int32.ofInt y).toInt64 &&& 63)).toInt
def jlshr (x y : Int) : Int := (Int64.ofInt x >>> ((Int32.ofInt y).toInt64 &&& 63)).toInt
def lcmpv (x y : Int) : Int := if x > y then 1 else if x = y then 0 else -1
theorem div32 {x y : Int} (hx : 0 ≤ x) (hy : 0 < y) (ix : in32 x) (iy : in32 y) : Int32.ofInt x / Int32.ofInt y = Int32.ofInt (x / y) := by
  have h : (Int32.ofInt y) ≠ -1 := by
    intro h
    have h2 := congrArg Int32.toInt h
    rw [o32 iy] at h2
    have h3 : (-1 : Int32).toInt = -1 := by decide
    omega
  apply Int32.toInt_inj.mp
  have hd : in32 (x / y) := by
    have h1 := Int.ediv_nonneg hx (Int.le_of_lt hy)
    have h2 := Int.ediv_le_self y hx
    unfold in32 at *
    omega
  rw [Int32.toInt_div_of_ne_right _ _ h, o32 ix, o32 iy, o32 hd, Int.tdiv_eq_ediv_of_nonneg hx]
theorem div64 {x y : Int} (hx : 0 ≤ x) (hy : 0 < y) (ix : in64 x) (iy : in64 y) : Int64.ofInt x / Int64.ofInt y = Int64.ofInt (x / y) := by
  have h : (Int64.ofInt y) ≠ -1 := by
    intro h
    have h2 := congrArg Int64.toInt h
    rw [o64 iy] at h2
    have h3 : (-1 : Int64).toInt = -1 := by decide
    omega
  apply Int64.toInt_inj.mp
  have hd : in64 (x / y) := by
    have h1 := Int.ediv_nonneg hx (Int.le_of_lt hy)
    have h2 := Int.ediv_le_self y hx
    unfold in64 at *
    omega
  rw [Int64.toInt_div_of_ne_right _ _ h, o64 ix, o64 iy, o64 hd, Int.tdiv_eq_ediv_of_nonneg hx]
theorem rem32 {x y : Int} (hx : 0 ≤ x) (hy : 0 < y) (ix : in32 x) (iy : in32 y) : Int32.ofInt x - Int32.ofInt x / Int32.ofInt y * Int32.ofInt y = Int32.ofInt (x % y) := by
  rw [div32 hx hy ix iy, ← Int32.ofInt_mul, ← Int32.ofInt_sub, Int.emod_def, Int.mul_comm]
theorem rem64 {x y : Int} (hx : 0 ≤ x) (hy : 0 < y) (ix : in64 x) (iy : in64 y) : Int64.ofInt x - Int64.ofInt x / Int64.ofInt y * Int64.ofInt y = Int64.ofInt (x % y) := by
  rw [div64 hx hy ix iy, ← Int64.ofInt_mul, ← Int64.ofInt_sub, Int.emod_def, Int.mul_comm]
theorem cl32 {x : Int} (h : in32 x) : (Int32.ofInt x).toNatClampNeg = x.toNat := by
  unfold in32 at h
  exact Int32.toNatClampNeg_ofInt_of_le (by omega) (by omega)
theorem in32_0 : in32 0 := by unfold in32; omega
theorem in32_of {x : Int} (h1 : -2147483648 ≤ x) (h2 : x ≤ 2147483647) : in32 x := ⟨h1, h2⟩
theorem lcmpv_lt {x y : Int} : lcmpv x y < 0 ↔ x < y := by unfold lcmpv; split <;> (try split) <;> omega
theorem lcmpv_gt {x y : Int} : 0 < lcmpv x y ↔ y < x := by unfold lcmpv; split <;> (try split) <;> omega
theorem lcmpv_eq {x y : Int} : lcmpv x y = 0 ↔ x = y := by unfold lcmpv; split <;> (try split) <;> omega
theorem lcmpv_in (x y : Int) : in32 (lcmpv x y) := by unfold lcmpv in32; split <;> (try split) <;> omega
theorem lgcmp {x y : Int} (hx : in64 x) (hy : in64 y) : lg_cmp (Int64.ofInt x) (Int64.ofInt y) = Int32.ofInt (lcmpv x y) := by
  unfold lg_cmp lcmpv
  by_cases h : x > y
  · rw [if_pos h, if_pos ((lt64 hy hx).mpr h)]; rfl
  · rw [if_neg h, if_neg (fun q => h ((lt64 hy hx).mp q))]
    by_cases h2 : x = y
    · rw [if_pos h2, if_pos ((eq64 hx hy).mpr h2)]; rfl
    · rw [if_neg h2, if_neg (fun q => h2 ((eq64 hx hy).mp q))]; rfl
