-- the world: cells by number, what each holds as whole numbers
abbrev AV : Type := Int ⊕ (Int ⊕ Int)
abbrev vi (x : Int) : AV := .inl x
abbrev vl (x : Int) : AV := .inr (.inl x)
abbrev vr (x : Int) : AV := .inr (.inr x)
/-- base, addresses of what is not ours, class numbers and slots, array classes, the heap at the law's start -/
abbrev GT : Type := Nat × (Int → Nat) × va_G × (Nat → ClassId) × Heap
abbrev VT : Type := Int → Int → Int
def shp : List (Nat × Nat) := [(99, 0), (8, 16), (5, 2), (10, 400), (7, 7), (13, 8), (15, 10), (11, 80), (11, 6), (0, 3), (0, 3), (0, 3), (0, 3), (0, 3), (0, 3), (0, 3), (0, 3), (6, 8), (6, 8), (6, 8), (6, 8), (6, 8), (6, 8), (6, 8), (6, 8), (6, 8), (6, 8), (7, 7), (13, 8), (15, 10), (11, 80), (11, 6), (0, 3), (0, 3), (0, 3), (0, 3), (0, 3), (0, 3), (0, 3), (0, 3), (6, 8), (6, 8), (6, 8), (6, 8), (6, 8), (6, 8), (6, 8), (6, 8), (6, 8), (6, 8), (3, 12), (16, 2), (12, 2), (14, 4), (1, 8), (11, 8), (11, 8), (11, 20), (11, 20), (11, 8), (2, 5), (11, 6), (11, 256), (11, 256), (11, 4), (7, 7), (13, 8), (15, 10), (11, 80), (11, 6), (0, 3), (0, 3), (0, 3), (0, 3), (0, 3), (0, 3), (0, 3), (0, 3), (6, 8), (6, 8), (6, 8), (6, 8), (6, 8), (6, 8), (6, 8), (6, 8), (6, 8), (6, 8), (7, 7), (13, 8), (15, 10), (11, 80), (11, 6), (0, 3), (0, 3), (0, 3), (0, 3), (0, 3), (0, 3), (0, 3), (0, 3), (6, 8), (6, 8), (6, 8), (6, 8), (6, 8), (6, 8), (6, 8), (6, 8), (6, 8), (6, 8), (4, 3), (11, 40), (4, 3), (11, 40), (4, 3), (11, 40), (4, 3), (11, 40), (9, 38), (11, 796), (12, 2), (11, 199), (11, 400), (11, 8), (11, 8), (11, 20), (11, 20), (11, 8), (11, 8), (11, 20), (11, 4), (11, 10), (11, 7), (11, 6), (11, 4), (11, 4), (11, 160)]
def fldR : List (List Bool) := [[false, false, false], [true, true, true, true, true, false, false, false], [true, true, true, false, false], [true, true, false, false, false, false, false, false, false, false, false, false], [true, false, false], [true, false], [false, false, false, false, false, false, false, false], [true, true, true, true, false, false, false], [true, true, true, true, true, true, true, true, true, true, false, false, false, false, false, false], [true, true, false, true, false, false, false, false, true, false, false, false, false, false, false, false, false, true, true, true, true, true, true, true, true, true, false, false, true, true, false, false, false, false, true, true, true, false]]
def refT : List (List Int) := [[], [2, 4, 27, 50, 51, 52, 53, 54, 60, 64], [3], [], [5, 6, 7, 8], [9, 10, 11, 12, 13, 14, 15, 16], [17, 18, 19, 20, 21, 22, 23, 24, 25, 26], [], [], [], [], [], [], [], [], [], [], [], [], [], [], [], [], [], [], [], [], [28, 29, 30, 31], [32, 33, 34, 35, 36, 37, 38, 39], [40, 41, 42, 43, 44, 45, 46, 47, 48, 49], [], [], [], [], [], [], [], [], [], [], [], [], [], [], [], [], [], [], [], [], [2, 27], [65, 88], [], [111, 113, 115, 117], [55, 56, 57, 58, 59], [], [], [], [], [], [61, 62, 63], [], [], [], [], [66, 67, 68, 69], [70, 71, 72, 73, 74, 75, 76, 77], [78, 79, 80, 81, 82, 83, 84, 85, 86, 87], [], [], [], [], [], [], [], [], [], [], [], [], [], [], [], [], [], [], [], [], [89, 90, 91, 92], [93, 94, 95, 96, 97, 98, 99, 100], [101, 102, 103, 104, 105, 106, 107, 108, 109, 110], [], [], [], [], [], [], [], [], [], [], [], [], [], [], [], [], [], [], [], [], [112], [], [114], [], [116], [], [118], [], [120, 121, 0, 122, 0, 0, 0, 0, 123, 0, 0, 0, 0, 0, 0, 0, 0, 124, 125, 126, 127, 128, 129, 130, 131, 132, 0, 0, 133, 134, 0, 0, 0, 0, 135, 136, 137], [], [], [], [], [], [], [], [], [], [], [], [], [], [], [], [], [], []]
def kd (r : Int) : Nat := (shp.getD r.toNat (99, 0)).1
def ln (r : Int) : Nat := (shp.getD r.toNat (99, 0)).2
def nfl (ci : Nat) : Nat := (fldR.getD ci []).length
def isR (ci k : Nat) : Bool := (fldR.getD ci []).getD k false
def adr (G : GT) (r : Int) : Nat := if 0 < r then G.1 + r.toNat else G.2.1 r
def conc (G : GT) : AV → Value
  | .inl x => .int (Int32.ofInt x)
  | .inr (.inl x) => .long (Int64.ofInt x)
  | .inr (.inr r) => .ref (adr G r)
def okv : AV → Prop
  | .inl x => in32 x
  | .inr (.inl x) => in64 x
  | .inr (.inr _) => True
def fldv (G : GT) (b : Bool) (x : Int) : Value := if b then (if x = 0 then .null else .ref (adr G x)) else .int (Int32.ofInt x)
def ofields (G : GT) (ci : Nat) (f : Int → Int) : List Value := (List.range (nfl ci)).map (fun k => fldv G (isR ci k) (f (k : Int)))
def rfo (G : GT) (x : Int) : Option Nat := if x = 0 then none else some (adr G x)
def acont (G : GT) (t : Nat) (f : Int → Int) : (Nat → Int32) ⊕ (Nat → Int64) ⊕ (Nat → UInt32) ⊕ (Nat → UInt64) ⊕ (Nat → Option Nat) :=
  if t < 3 then .inl (fun j => Int32.ofInt (f (j : Int))) else .inr (.inr (.inr (.inr (fun j => rfo G (f (j : Int))))))
def cellE (G : GT) (v : VT) (r : Int) : va_E :=
  if kd r < 10 then .inr (kd r, ofields G (kd r) (v r)) else .inl (G.2.2.2.1 (kd r - 10), ln r, acont G (kd r - 10) (v r))
def wl (G : GT) (n : Nat) (v : VT) : va_W := (List.range n).map (fun i => (G.1 + (i + 1), cellE G v ((i + 1 : Nat) : Int)))
/-- how many cells there are: 1000 says that all are there, and that what refers does so as it stays -/
def nc (n : Nat) : Nat := if n = 1000 then 137 else n
def wld (G : GT) (n : Nat) (v : VT) (H : Heap) : Prop :=
  H.size = G.1 + nc n + 1 ∧ va_P G.2.2.1 vwCl (wl G (nc n) v) H ∧ ∀ q : Nat, q ≤ G.1 → H[q]? = G.2.2.2.2[q]?
def Afr (G : GT) : Nat → Prop := fun q => G.1 < q
def tysG (G : GT) : List (ClassId × FieldType) := [(G.2.2.2.1 0, .byte), (G.2.2.2.1 1, .int), (G.2.2.2.1 2, .boolean), (G.2.2.2.1 3, .object RX0), (G.2.2.2.1 4, .object RX4), (G.2.2.2.1 5, .object RX6), (G.2.2.2.1 6, .object RX7)]
def upd2 (v : VT) (r i x : Int) : VT := fun a j => if a = r ∧ j = i then x else v a j
def rng (v : VT) : Prop := ∀ r i, in32 (v r i)
def isref (r i : Int) : Bool := if kd r < 10 then decide (0 ≤ i) && isR (kd r) i.toNat else decide (13 ≤ kd r) && decide (kd r ≤ 16) && decide (0 ≤ i) && decide (i < (ln r : Int))
def refval (r i : Int) : Int := (refT.getD r.toNat []).getD i.toNat 0
def lay (v : VT) : Prop := ∀ r i, isref r i = true → v r i = refval r i
def inv (n : Nat) (v : VT) : Prop := rng v ∧ (n = 1000 → lay v)
theorem rng_upd {v : VT} {r i x : Int} (h : rng v) (hx : in32 x) : rng (upd2 v r i x) := by
  intro a j
  unfold upd2
  split
  · exact hx
  · exact h a j
theorem upd2_same (v : VT) (r i x : Int) : upd2 v r i x r i = x := by simp [upd2]
theorem upd2_ne (v : VT) (r i x a j : Int) (h : a ≠ r ∨ j ≠ i) : upd2 v r i x a j = v a j := by
  unfold upd2
  rw [if_neg]
  rintro ⟨h1, h2⟩
  rcases h with h | h
  · exact h h1
  · exact h h2
theorem wl_length (G : GT) (n : Nat) (v : VT) : (wl G n v).length = n := by simp [wl]
theorem wl_at {G : GT} {n : Nat} {v : VT} {r : Int} (h1 : 0 < r) (h2 : r ≤ n) : (wl G n v)[r.toNat - 1]? = some (adr G r, cellE G v r) := by
  obtain ⟨k, rfl⟩ : ∃ k : Nat, r = ((k + 1 : Nat) : Int) := ⟨r.toNat - 1, by omega⟩
  have hk : k < n := by omega
  simp only [wl, List.getElem?_map, Int.toNat_natCast, Nat.add_sub_cancel]
  rw [List.getElem?_range hk]
  simp only [Option.map_some, adr]
  rw [if_pos h1, Int.toNat_natCast]
theorem wl_D {G : GT} {n : Nat} {v : VT} : va_D (Afr G) (wl G n v) := by
  have key : ∀ (k : Nat) (q : Nat × va_E), (wl G n v)[k]? = some q → q.1 = G.1 + (k + 1) := by
    intro k q h
    have hk : k < n := by
      have := (List.getElem?_eq_some_iff.mp h).1
      rwa [wl_length] at this
    simp only [wl, List.getElem?_map] at h
    rw [List.getElem?_range hk] at h
    cases h
    rfl
  refine ⟨fun i j p q hi hj hpq => ?_, fun k q hk => ?_⟩
  · have e1 := key i p hi
    have e2 := key j q hj
    omega
  · have e1 := key k q hk
    show G.1 < q.1
    omega
theorem wl_set {G : GT} {n : Nat} {v : VT} {r i x : Int} (h1 : 0 < r) (h2 : r ≤ n) : (wl G n v).set (r.toNat - 1) (adr G r, cellE G (upd2 v r i x) r) = wl G n (upd2 v r i x) := by
  obtain ⟨k, rfl⟩ : ∃ k : Nat, r = ((k + 1 : Nat) : Int) := ⟨r.toNat - 1, by omega⟩
  have hk : k < n := by omega
  apply List.ext_getElem?
  intro j
  have e0 : ((k + 1 : Nat) : Int).toNat - 1 = k := by omega
  rw [e0]
  by_cases hj : j = k
  · subst hj
    rw [List.getElem?_set_self (by rw [wl_length]; exact hk)]
    have := wl_at (G := G) (v := upd2 v ((j + 1 : Nat) : Int) i x) h1 h2
    rw [e0] at this
    exact this.symm
  · rw [List.getElem?_set_ne (Ne.symm hj)]
    simp only [wl, List.getElem?_map]
    by_cases hn : j < n
    · rw [List.getElem?_range hn]
      simp only [Option.map_some]
      have hne : ((j + 1 : Nat) : Int) ≠ ((k + 1 : Nat) : Int) := by omega
      have hf : upd2 v ((k + 1 : Nat) : Int) i x ((j + 1 : Nat) : Int) = v ((j + 1 : Nat) : Int) := by
        funext b
        exact upd2_ne _ _ _ _ _ _ (Or.inl hne)
      unfold cellE
      rw [hf]
    · rw [List.getElem?_eq_none (by simpa using hn)]
      rfl
theorem ofields_length (G : GT) (ci : Nat) (f : Int → Int) : (ofields G ci f).length = nfl ci := by simp [ofields]
theorem ofields_at (G : GT) (ci : Nat) (f : Int → Int) {k : Nat} (h : k < nfl ci) : (ofields G ci f)[k]? = some (fldv G (isR ci k) (f (k : Int))) := by
  simp only [ofields, List.getElem?_map]
  rw [List.getElem?_range h]
  rfl
theorem ofields_set {G : GT} {ci : Nat} {v : VT} {r x : Int} {k : Nat} (h : k < nfl ci) : (ofields G ci (v r)).set k (fldv G (isR ci k) x) = ofields G ci (upd2 v r (k : Int) x r) := by
  apply List.ext_getElem?
  intro j
  by_cases hj : j = k
  · subst hj
    rw [List.getElem?_set_self (by rw [ofields_length]; exact h), ofields_at _ _ _ h, upd2_same]
  · rw [List.getElem?_set_ne (Ne.symm hj)]
    by_cases hn : j < nfl ci
    · rw [ofields_at _ _ _ hn, ofields_at _ _ _ hn, upd2_ne _ _ _ _ _ _ (Or.inr (by omega))]
    · rw [List.getElem?_eq_none (by rw [ofields_length]; omega), List.getElem?_eq_none (by rw [ofields_length]; omega)]
theorem kd_bound {r : Int} (h : kd r < 99) : 0 < r ∧ r ≤ 137 := by
  unfold kd at h
  have h1 : r.toNat < shp.length := by
    apply Nat.lt_of_not_le
    intro h2
    rw [List.getD_eq_getElem?_getD, List.getElem?_eq_none h2] at h
    simp at h
  have h2 : shp.length = 138 := by decide +kernel
  have h3 : r.toNat ≠ 0 := by
    intro h3
    rw [h3] at h
    revert h
    decide +kernel
  omega
theorem lay_upd {v : VT} {r i x : Int} (h : lay v) (hi : isref r i = false) : lay (upd2 v r i x) := by
  intro a j ha
  unfold upd2
  rw [if_neg]
  · exact h a j ha
  · rintro ⟨rfl, rfl⟩
    rw [hi] at ha
    cases ha
theorem inv_upd {n : Nat} {v : VT} {r i x : Int} (h : inv n v) (hx : in32 x) (hi : n = 1000 → isref r i = false) : inv n (upd2 v r i x) := ⟨rng_upd h.1 hx, fun q => lay_upd (h.2 q) (hi q)⟩
theorem isref_fld {r : Int} {ci k : Nat} (hs : kd r = ci) (hci : ci < 10) (h : isR ci k = false) : isref r (k : Int) = false := by
  unfold isref
  rw [hs, if_pos hci, Int.toNat_natCast, h]
  simp
theorem isref_arr {r i : Int} {t : Nat} (hs : kd r = t) (h1 : 10 ≤ t) (h2 : t < 13) : isref r i = false := by
  unfold isref
  rw [hs, if_neg (by omega)]
  simp only [Bool.and_eq_false_iff, decide_eq_false_iff_not]
  omega
