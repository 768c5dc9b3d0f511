-- dressing by the machine: what a deal's cells have to do with it
theorem make_sm {v w : VT} {o s sl : Int} (ho : isV o) (hc : v o 4 ≤ 8) (hb : v o 5 ≤ 10) (h : MakeQ v o s sl w) : Sm w o v o := by
  unfold isV at ho
  have f := h.1
  exact ⟨f _ _ (by omega), f _ _ (by omega), fun c k a b d e => f _ _ (by omega), fun t k a b d e => f _ _ (by omega)⟩
theorem make_mtc {v w : VT} {o s sl : Int} (hs : Sm w o v o) (h : MakeQ v o s sl w) : Mtc (w o 4) (mayA w o s sl) (w 56) := by
  rw [hs.may, hs.1]
  exact mtc_congr h.2.2.2.2.2.2.1.1 h.2.2.2.2.2.1
theorem drs_agree {x y : VT} {o sl : Int} {g h : Int → Int} (ho : isV o) (hA : ∀ a j, (a < 54 ∨ 59 < a) → x a j = y a j) (hb : y o 5 ≤ 10) (hc : y o 4 ≤ 8) : ∀ k : Nat, (k : Int) ≤ y o 4 → (∀ c, 0 ≤ c → c < (k : Int) → g c = h c) → ∀ a j, (a < 54 ∨ 59 < a) → drsN x o sl g k a j = drsN y o sl h k a j
  | 0, _, _, a, j, ha => hA a j ha
  | k + 1, hk, hg, a, j, ha => by
    unfold isV at ho
    have ih := drs_agree (sl := sl) (g := g) (h := h) ho hA hb hc k (by omega) (fun c a b => hg c a (by omega))
    rw [drsN, drsN, hg (k : Int) (by omega) (by omega), hA o 5 (by omega), hA (o + 5 + (k : Int)) 0 (by omega)]
    by_cases hz : 0 ≤ h (k : Int) ∧ h (k : Int) < y o 5
    · rw [if_pos hz, if_pos hz]
      by_cases hr : a = o + 13 + h (k : Int)
      · rw [hr, putF_at, putF_at]
        simp only [ih (o + 13 + h (k : Int)) _ (by omega)]
      · rw [putF_ne hr, putF_ne hr]
        exact ih a j ha
    · rw [if_neg hz, if_neg hz]
      exact ih a j ha
theorem und_agree {x y : VT} {o s : Int} (ho : isV o) (hb : y o 5 ≤ 10) (hA : ∀ a j, (a < 54 ∨ 59 < a) → x a j = y a j) : ∀ a j, (a < 54 ∨ 59 < a) → undF x o s (x o 5) a j = undF y o s (y o 5) a j := by
  intro a j ha
  unfold isV at ho
  unfold undF
  rw [hA o 5 (by omega), hA a 0 ha, hA a j ha]
theorem dress_end {v w : VT} {o s sl : Int} (ho : isV o) (hw : WFV v o) (h : MakeQ v o s sl w) : ∀ a j, (a < 54 ∨ 59 < a) → drsN (undF w o s (w o 5)) o sl (w 56) (v o 4).toNat a j = drsV v o s sl a j := by
  have e4 : undF v o s (v o 5) o 4 = v o 4 := undF_out (by omega)
  have e5 : undF v o s (v o 5) o 5 = v o 5 := undF_out (by omega)
  have h0 := hw.1
  have h1 := hw.2.1
  exact drs_agree ho (und_agree ho h1.2 h.1) (by rw [e5]; exact h1.2) (by rw [e4]; exact h0.2) _ (by rw [e4]; omega) (fun c a b => h.2.2.2.2.2.1 c a (by omega))
/-- a year of the village at o, when its things have been dealt -/
theorem yr_step {w A x : VT} {o s q sl : Int} (hs : Sm w o A o) (h8 : 0 ≤ A o 4 ∧ A o 4 ≤ 8) (hd : Sm x o (drsV w o s sl) o) (hw : WFV (drsV w o s sl) o) : Sm (sprV (winF x o (x o 5)) o q sl) o (yrV A o s q sl) o ∧ WFV x o ∧ WFV (winF x o (x o 5)) o ∧ WFV (sprV (winF x o (x o 5)) o q sl) o := by
  have h1 := hd.tr (hs.drv (s := s) (sl := sl) h8)
  have h2 := h1.win (by rw [drsV_45]; exact h8.2)
  rw [drsV_45] at h2
  have hx := hd.wfv hw
  refine ⟨h2.spr (by rw [winF_out (by omega), drsV_45]; exact h8.2), hx, hx.win, hx.win.sprv⟩
theorem sm_of {x y : VT} {o : Int} (h : ∀ a j, o ≤ a → a < o + 23 → x a j = y a j) (hc : y o 4 ≤ 8) (hb : y o 5 ≤ 10) : Sm x o y o :=
  ⟨h _ _ (by omega) (by omega), h _ _ (by omega) (by omega), fun c k a b d e => h _ _ (by omega) (by omega), fun t k a b d e => h _ _ (by omega) (by omega)⟩
theorem ahs_step {v : VT} {o s q sl k : Int} (h : 0 ≤ k) : ahdS v o s q sl (k + 1).toNat = ahdS v o s q sl k.toNat + ahdN v o s q sl k.toNat := by
  have e : (k + 1).toNat = k.toNat + 1 := by omega
  rw [e, ahdS]
theorem yrs_step {v : VT} {o s q sl k : Int} (h : 0 ≤ k) : yrsN v o s q sl (k + 1).toNat = yrV (yrsN v o s q sl k.toNat) o s q sl := by
  have e : (k + 1).toNat = k.toNat + 1 := by omega
  rw [e, yrsN]
theorem warm_bd {v : VT} {o s sl : Int} (h : 0 ≤ v o 4) : 0 ≤ warmV v o s sl ∧ warmV v o s sl ≤ v o 4 := wrm_le _ _ _ h
theorem new_bd {v : VT} {o s sl : Int} (h : 0 ≤ v o 4) : 0 ≤ newV v o s sl ∧ newV v o s sl ≤ v o 4 := by
  have := warm_bd (s := s) (sl := sl) h
  unfold newV
  omega
theorem yrs_4 {v : VT} {o s q sl : Int} : ∀ k : Nat, yrsN v o s q sl k o 4 = v o 4
  | 0 => rfl
  | k + 1 => by
    rw [yrsN]
    unfold yrV
    unfold sprV
    rw [sprF_out (by omega), grwF_out (by omega), winF_out (by omega), drsV_45]
    exact yrs_4 k
theorem ahn_bd {v : VT} {o s q sl : Int} (h : 0 ≤ v o 4 ∧ v o 4 ≤ 8) (k : Nat) : 0 ≤ ahdN v o s q sl k ∧ ahdN v o s q sl k ≤ 8 := by
  unfold ahdN
  have e := yrs_4 (v := v) (o := o) (s := s) (q := q) (sl := sl) k
  have := new_bd (v := yrsN v o s q sl k) (o := o) (s := s) (sl := sl) (by rw [e]; exact h.1)
  omega
theorem ahs_bd {v : VT} {o s q sl : Int} (h : 0 ≤ v o 4 ∧ v o 4 ≤ 8) : ∀ k : Nat, 0 ≤ ahdS v o s q sl k ∧ ahdS v o s q sl k ≤ 8 * k
  | 0 => by simp [ahdS]
  | k + 1 => by
    rw [ahdS]
    have h1 := ahs_bd (s := s) (q := q) (sl := sl) h k
    have h2 := ahn_bd (s := s) (q := q) (sl := sl) h k
    omega
