-- a row copied onto another of its length; a row's length
theorem wl_setG {G : GT} {n : Nat} {v v' : VT} {r : Int} (h1 : 0 < r) (h2 : r ≤ n) (hv : ∀ a, a ≠ r → v' a = v a) : (wl G n v).set (r.toNat - 1) (adr G r, cellE G v' r) = wl G n v' := by
  obtain ⟨k, rfl⟩ : ∃ k : Nat, r = ((k + 1 : Nat) : Int) := ⟨r.toNat - 1, by omega⟩
  have hk : k < n := by omega
  apply List.ext_getElem?
  intro j
  have e0 : ((k + 1 : Nat) : Int).toNat - 1 = k := by omega
  rw [e0]
  by_cases hj : j = k
  · subst hj
    rw [List.getElem?_set_self (by rw [wl_length]; exact hk)]
    have := wl_at (G := G) (v := v') h1 h2
    rw [e0] at this
    exact this.symm
  · rw [List.getElem?_set_ne (Ne.symm hj)]
    simp only [wl, List.getElem?_map]
    by_cases hn : j < n
    · rw [List.getElem?_range hn]
      simp only [Option.map_some]
      unfold cellE
      rw [hv ((j + 1 : Nat) : Int) (by omega)]
    · rw [List.getElem?_eq_none (by simpa using hn)]
      rfl
theorem wld_setG {G : GT} {n : Nat} {v v' : VT} {H H1 : Heap} {H0 : Heap} {locs locs1 : List Loc} {r : Int} (h1 : 0 < r) (hr : r ≤ (nc n : Int)) (hv : ∀ a, a ≠ r → v' a = v a) (hw : wld G n v H) (hg : G.1 < H0.size) (hS : va_S (Afr G) H0 H locs) (hS1 : va_S (Afr G) H0 H1 locs1)
    (z : H1.size = H.size) (hat : va_at G.2.2.1 vwCl (adr G r, cellE G v' r) H1) (oq : ∀ q : Nat, q ≠ adr G r → H1[q]? = H[q]?) : wld G n v' H1 := by
  refine ⟨z.trans hw.1, ?_, fun q hq => (wld_old hg hS hS1 q hq).trans (hw.2.2 q hq)⟩
  have hP := hw.2.1.set wl_D (wl_at (G := G) (n := nc n) (v := v) h1 hr) hat oq
  rwa [wl_setG h1 hr hv] at hP
theorem cpyF_row {v : VT} {r r2 n a : Int} (h : a ≠ r) : cpyF v r r2 n a = v a := by
  funext j
  unfold cpyF
  rw [if_neg (fun q => h q.1)]
theorem inv_cpy {v : VT} {r r2 n : Int} (h : inv 1000 v) (hs : kd r = 11) : inv 1000 (cpyF v r r2 n) := by
  refine ⟨fun a j => ?_, fun q a j ha => ?_⟩
  · unfold cpyF
    split
    · exact h.1 _ _
    · exact h.1 _ _
  · unfold cpyF
    rw [if_neg]
    · exact h.2 q a j ha
    · rintro ⟨rfl, -⟩
      rw [isref_arr hs (by decide) (by decide)] at ha
      cases ha
section CPY
variable {X : XT} {G : GT} {own : String} {cc : ByteArray} {v : VT} {pc : Nat} {L : List (Option AV)} {S : List AV} {x r0 r1 : Int} {index fr0 lo0 m : Nat}
theorem N.alen (C : Cx X G own cc) (hd : decode cc pc = .ok (.arraylength, 1)) (hs : kd r0 = 11) (hm : ln r0 = m) (hm2 : m ≤ 1000) (k : E X G 0 0 1000 v (pc + 1) L (vi (m : Int) :: S)) : E X G 0 0 1000 v pc L (vr r0 :: S) := by
  intro q1 q2 q3 H locs ls hw hS hl
  have hat := wl_at (G := G) (n := nc 1000) (v := v) (kd_pos hs (by omega)).1 (nle hs (by decide))
  rw [cellE_arr (t := 1) hs (by decide)] at hat
  refine va_alen C.1 C.2.1 C.2.2.2.2.2.1 hw.2.1 _ 1 hat rfl (v := Int32.ofInt (m : Int)) (by show Int32.ofNat (ln r0) = _; rw [hm, Int32.ofInt_eq_ofNat]) hd ?_
  exact k q1 q2 (okc (by show in32 (m : Int); omega) (ok_t q3)) H locs ls hw hS hl
def cpyR : Prop := Cond.native arraycopyName ∈ lw_good ∧ Cond.static arraycopyName ∈ lw_good ∧ Cond.initialized "java/lang/System" ∈ lw_good
theorem N.acopy (C : Cx X G own cc) (hX : xR X = R0 fr0 lo0) (hlk : Cond.methodLink own index arraycopyName ∈ lw_good) (hns : cpyR) (hs0 : kd r0 = 11) (hs1 : kd r1 = 11) (hm0 : ln r0 = m) (hm1 : ln r1 = m) (hm2 : m ≤ 1000) (hx : x = (m : Int)) (hR : 1 ≤ fr0 ∧ 26 ≤ lo0) (hcat : (S.map catA).sum ≤ 8) (hd : decode cc pc = .ok (.invokestatic index, 3))
    (k : E X G 0 0 1000 (cpyF v r1 r0 x) (pc + 3) L S) : E X G 0 0 1000 v pc L (vi x :: vi 0 :: vr r1 :: vi 0 :: vr r0 :: S) := by
  intro q1 q2 q3 H locs ls hw hS hl T hT XX
  subst hx
  have hin : in32 (m : Int) := by omega
  have hp0 := kd_pos hs0 (by omega)
  have hp1 := kd_pos hs1 (by omega)
  have ha0 := wl_at (G := G) (n := nc 1000) (v := v) hp0.1 (nle hs0 (by decide))
  rw [cellE_arr (t := 1) hs0 (by decide), hm0] at ha0
  have ha1 := wl_at (G := G) (n := nc 1000) (v := v) hp1.1 (nle hs1 (by decide))
  rw [cellE_arr (t := 1) hs1 (by decide), hm1] at ha1
  have hc0 := hw.2.1 _ _ ha0
  have hc1 := hw.2.1 _ _ ha1
  have hcl : (Int32.ofInt (m : Int)).toNatClampNeg = m := by rw [cl32 hin]; omega
  have hcl0 : (Int32.ofInt 0).toNatClampNeg = 0 := by rw [cl32 (by omega)]; rfl
  have hnn : ¬ Int32.ofInt (m : Int) < 0 := fun h => by have := (zlt hin).mp h; omega
  have hn0 : ¬ Int32.ofInt 0 < 0 := fun h => by have := (zlt (x := 0) (by omega)).mp h; omega
  obtain ⟨-, k0, hk0, cm0, hkk0⟩ := (C.2.2.2.2.2.1.2 1 _ rfl).1 m (fun j => .int (Int32.ofInt (v r0 (j : Int))))
  obtain ⟨vm', X', step⟩ := XX.arraycopy (hexec := C.1) (own := own) (index := index) C.2.2.2.1 (C.2.2.2.2.1 _ hlk) (C.2.2.2.2.1 _ hns.1) (C.2.2.2.2.1 _ hns.2.1) (C.2.2.2.2.1 _ hns.2.2) (src := adr G r0) (dst := adr G r1) (cs := vp_cell (G.2.2.2.1 1) (m, .inl (fun j => Int32.ofInt (v r0 (j : Int))))) (cd := vp_cell (G.2.2.2.1 1) (m, .inl (fun j => Int32.ofInt (v r1 (j : Int))))) (srcPos := Int32.ofInt 0) (destPos := Int32.ofInt 0) (n := Int32.ofInt (m : Int)) (by rw [hT]; exact hc0) (by rw [hT]; exact hc1)
    (fun _ h => by cases h) (fun _ h => by cases h) (fun h => by cases h) (fun h => by cases h) hk0 hk0 hkk0 hkk0 (by simp [refKind]) hn0 hn0 hnn
    (by rw [o32 hin, o32 (x := 0) (by omega)]; show ¬ _ > ((arrV (G.2.2.2.1 1) m (fun j => .int (Int32.ofInt (v r0 (j : Int))))).slots.size : Int); rw [arrV_size]; omega)
    (by rw [o32 hin, o32 (x := 0) (by omega)]; show ¬ _ > ((arrV (G.2.2.2.1 1) m (fun j => .int (Int32.ofInt (v r1 (j : Int))))).slots.size : Int); rw [arrV_size]; omega)
    (fun vm₁ _ i hi => by
      rw [hcl] at hi
      have e : (vp_cell (G.2.2.2.1 1) (m, .inl (fun j => Int32.ofInt (v r0 (j : Int))))).slots.getD ((Int32.ofInt 0).toNatClampNeg + i) .null = .int (Int32.ofInt (v r0 (((Int32.ofInt 0).toNatClampNeg + i : Nat) : Int))) := by
        show (arrV (G.2.2.2.1 1) m (fun j => .int (Int32.ofInt (v r0 (j : Int))))).slots.getD _ _ = _
        rw [Array.getD_eq_getD_getElem?, arrV_read _ _ (by rw [hcl0]; omega)]
        rfl
      refine ⟨?_, ?_⟩
      · rw [e]
        rfl
      · rw [e]
        exact trivial)
    (g := F0 (xm X) pc ls ((vi (m : Int) :: vi 0 :: vr r1 :: vi 0 :: vr r0 :: S).map (conc G))) rfl (by show ls.size = _; rw [C.2.2.1]; exact hl.1) (rest := S.map (conc G)) rfl (by rw [C.2.1]; exact hd) (by rw [hX]; exact hR.1) (by
      rw [hX, catA_map]
      have h1 := hR.2
      have h2 : nativeFrameWords "java/lang/System" "arraycopy" 5 = 7 := by decide
      show 2 * 0 + _ + _ ≤ lo0
      rw [h2]
      omega)
  have e1 : copied (vp_cell (G.2.2.2.1 1) (m, .inl (fun j => Int32.ofInt (v r0 (j : Int))))) (vp_cell (G.2.2.2.1 1) (m, .inl (fun j => Int32.ofInt (v r1 (j : Int))))) (Int32.ofInt 0) (Int32.ofInt 0) (Int32.ofInt (m : Int)) = vp_cell (G.2.2.2.1 1) (m, .inl (va_cpy (fun j => Int32.ofInt (v r0 (j : Int))) (fun j => Int32.ofInt (v r1 (j : Int))) (Int32.ofInt 0).toNatClampNeg (Int32.ofInt 0).toNatClampNeg (Int32.ofInt (m : Int)).toNatClampNeg)) :=
    va_copied (fun z : Int32 => Value.int z) (G.2.2.2.1 1) (G.2.2.2.1 1) (n0 := m) (n1 := m) (sp := (Int32.ofInt 0).toNatClampNeg) (dp := (Int32.ofInt 0).toNatClampNeg) (n := (Int32.ofInt (m : Int)).toNatClampNeg) (fun j => Int32.ofInt (v r0 (j : Int))) (fun j => Int32.ofInt (v r1 (j : Int))) (by rw [hcl, hcl0]; omega)
  rw [hcl, hcl0] at e1
  rw [e1] at X' step
  have hl1 : adr G r1 < H.size := (Array.getElem?_eq_some_iff.mp hc1).1
  obtain ⟨cell, hcell⟩ : ∃ cell, cell = vp_cell (G.2.2.2.1 1) (m, .inl (va_cpy (fun j => Int32.ofInt (v r0 (j : Int))) (fun j => Int32.ofInt (v r1 (j : Int))) 0 0 m)) := ⟨_, rfl⟩
  rw [← hcell] at X' step
  have hheap : ((T.setVm vm').setCell (adr G r1) cell).heap = H.setIfInBounds (adr G r1) cell := by rw [← hT]; rfl
  have oq : ∀ q : Nat, q ≠ adr G r1 → (H.setIfInBounds (adr G r1) cell)[q]? = H[q]? := fun q hq => by simp [Array.getElem?_setIfInBounds, Ne.symm hq]
  have hS1 : ∀ LL : List Loc, (∀ q ∈ LL, q.base = adr G r1) → va_S (Afr G) (xs X).heap (H.setIfInBounds (adr G r1) cell) (locs ++ LL) := fun LL hLL => ⟨by simp; exact hS.1, fun q g1 g2 => by
      rw [oq q (fun e => g2 (by rw [e]; exact adr_Afr hp1.1))]
      exact hS.2.1 q g1 g2, fun q hq => by
      rcases List.mem_append.mp hq with h | h
      · exact hS.2.2 q h
      · rw [hLL q h]
        exact adr_Afr hp1.1⟩
  have hat : va_at G.2.2.1 vwCl (adr G r1, cellE G (cpyF v r1 r0 (m : Int)) r1) (H.setIfInBounds (adr G r1) cell) := by
    rw [cellE_arr (t := 1) hs1 (by decide), hm1]
    show (H.setIfInBounds (adr G r1) cell)[adr G r1]? = some (vp_cell _ _)
    rw [show (H.setIfInBounds (adr G r1) cell)[adr G r1]? = some cell by simp [Array.getElem?_setIfInBounds, hl1], hcell, vp_cell_i, vp_cell_i]
    congr 1
    unfold arrV
    congr 2
    funext j
    have hj := j.isLt
    show Value.int (va_cpy _ _ 0 0 m j.val) = Value.int _
    unfold va_cpy
    rw [if_pos ⟨Nat.zero_le _, by omega⟩]
    congr 2
    unfold cpyF
    rw [if_pos ⟨rfl, by omega, by omega⟩]
    congr 1
    omega
  obtain ⟨t, a1, b1⟩ := k (inv_cpy q1 hs1) q2 (ok_t (ok_t (ok_t (ok_t (ok_t q3))))) (H.setIfInBounds (adr G r1) cell) _ ls (wld_setG hp1.1 (nle hs1 (by decide)) (fun a ha => cpyF_row ha) hw C.2.2.2.2.2.2.1 hS (hS1 [] (fun q h => by cases h)) (by simp) hat oq) (hS1 _ (fun q h => by
      obtain ⟨z, -, hz⟩ := List.mem_map.mp h
      rw [← hz])) hl _ hheap X'
  exact ⟨t, step t a1, b1⟩
end CPY
theorem cpyRR : cpyR := ⟨in_good (List.mem_of_getElem? (i := 600) (by decide +kernel)) rfl, in_good (List.mem_of_getElem? (i := 599) (by decide +kernel)) rfl, in_good (List.mem_of_getElem? (i := 90) (by decide +kernel)) rfl⟩
theorem mc_X7_52 : Cond.methodLink RX7 52 arraycopyName ∈ lw_good := in_good (List.mem_of_getElem? (i := 598) (by decide +kernel)) rfl
def fillF (v : VT) (r x n : Int) : VT := fun a j => if a = r ∧ 0 ≤ j ∧ j < n then x else v a j
theorem fillF_row {v : VT} {r x n a : Int} (h : a ≠ r) : fillF v r x n a = v a := by
  funext j
  unfold fillF
  rw [if_neg (fun q => h q.1)]
theorem fillF_0 {v : VT} {r x : Int} : v = fillF v r x 0 := by
  funext a j
  unfold fillF
  rw [if_neg (by omega)]
theorem fillF_s {v : VT} {r x t : Int} (ht : 0 ≤ t) : upd2 (fillF v r x t) r t x = fillF v r x (t + 1) := by
  funext a j
  unfold upd2 fillF
  by_cases h : a = r ∧ j = t
  · rw [if_pos h, if_pos (by omega)]
  · rw [if_neg h]
    by_cases h2 : a = r ∧ 0 ≤ j ∧ j < t
    · rw [if_pos h2, if_pos (by omega)]
    · rw [if_neg h2, if_neg (by omega)]
/-- a thing put on -/
def putF (v : VT) (r c bd sl : Int) : VT := if fitI (v r 1) (v r 2) (v r 3) (v r 4) (v r 5) (v r 6) c bd sl = 2 then upd2 (upd2 (upd2 v r 5 1) r 2 (v r 2 + 2)) r 7 c else upd2 v r 7 c
theorem putF_ne {v : VT} {r c bd sl a j : Int} (h : a ≠ r) : putF v r c bd sl a j = v a j := by
  unfold putF
  split <;> simp [upd2, h]
def minN (v : VT) (o : Int) : Nat → Int
  | 0 => 40
  | k + 1 => if v (o + 5 + (k : Int)) 0 < minN v o k then v (o + 5 + (k : Int)) 0 else minN v o k
theorem minN_step {v : VT} {o t : Int} (h : 0 ≤ t) : minN v o (t + 1).toNat = if v (o + 5 + t) 0 < minN v o t.toNat then v (o + 5 + t) 0 else minN v o t.toNat := by
  have e : (t + 1).toNat = t.toNat + 1 := by omega
  rw [e, minN, Int.toNat_of_nonneg h]
/-- the bodies of village o2 at o: the counts, c children, t things -/
def bodF (v : VT) (o o2 c t : Int) : VT := fun a j => if a = o ∧ j = 4 then v o2 4 else if a = o ∧ j = 5 then v o2 5 else if (o + 5 ≤ a ∧ a < o + 5 + c ∧ 0 ≤ j ∧ j < 3) ∨ (o + 13 ≤ a ∧ a < o + 13 + t ∧ 0 ≤ j ∧ j < 8) then v (o2 + (a - o)) j else v a j
theorem bodF_4 {v : VT} {o o2 c t : Int} : bodF v o o2 c t o 4 = v o2 4 := by
  unfold bodF
  rw [if_pos ⟨rfl, rfl⟩]
theorem bodF_5 {v : VT} {o o2 c t : Int} : bodF v o o2 c t o 5 = v o2 5 := by
  unfold bodF
  rw [if_neg (by omega), if_pos ⟨rfl, rfl⟩]
theorem bodF_out {v : VT} {o o2 c t a j : Int} (hc : c ≤ 8) (ht : t ≤ 10) (h : a < o ∨ o + 23 ≤ a ∨ (a = o ∧ ¬ j = 4 ∧ ¬ j = 5) ∨ (o < a ∧ a < o + 5)) : bodF v o o2 c t a j = v a j := by
  unfold bodF
  rw [if_neg (by omega), if_neg (by omega), if_neg (by omega)]
theorem bodF_0 {v : VT} {o o2 : Int} (h : o ≠ o2) : upd2 (upd2 v o 4 (v o2 4)) o 5 (v o2 5) = bodF v o o2 0 0 := by
  funext a j
  unfold bodF upd2
  by_cases h4 : a = o ∧ j = 4
  · rw [if_neg (by omega), if_pos h4, if_pos h4]
  · by_cases h5 : a = o ∧ j = 5
    · rw [if_pos h5, if_neg h4, if_pos h5]
    · rw [if_neg h5, if_neg h4, if_neg h4, if_neg h5, if_neg (by omega)]
theorem bodF_c {v : VT} {o o2 c : Int} (hc : 0 ≤ c ∧ c < 8) (hs : o + 23 ≤ o2 ∨ o2 + 23 ≤ o) : cpyF (bodF v o o2 c 0) (o + 5 + c) (o2 + 5 + c) 3 = bodF v o o2 (c + 1) 0 := by
  funext a j
  unfold cpyF
  by_cases ha : a = o + 5 + c ∧ 0 ≤ j ∧ j < 3
  · rw [if_pos ha, bodF_out (by omega) (by omega) (by omega)]
    unfold bodF
    rw [if_neg (by omega), if_neg (by omega), if_pos (by omega)]
    congr 1
    omega
  · rw [if_neg ha]
    unfold bodF
    by_cases h4 : a = o ∧ j = 4
    · rw [if_pos h4, if_pos h4]
    · by_cases h5 : a = o ∧ j = 5
      · rw [if_neg h4, if_pos h5, if_neg h4, if_pos h5]
      · rw [if_neg h4, if_neg h5, if_neg h4, if_neg h5]
        by_cases h6 : (o + 5 ≤ a ∧ a < o + 5 + c ∧ 0 ≤ j ∧ j < 3) ∨ (o + 13 ≤ a ∧ a < o + 13 + 0 ∧ 0 ≤ j ∧ j < 8)
        · rw [if_pos h6, if_pos (by omega)]
        · rw [if_neg h6, if_neg (by omega)]
theorem bodF_t {v : VT} {o o2 c t : Int} (hc : 0 ≤ c ∧ c ≤ 8) (ht : 0 ≤ t ∧ t < 10) (hs : o + 23 ≤ o2 ∨ o2 + 23 ≤ o) : cpyF (bodF v o o2 c t) (o + 13 + t) (o2 + 13 + t) 8 = bodF v o o2 c (t + 1) := by
  funext a j
  unfold cpyF
  by_cases ha : a = o + 13 + t ∧ 0 ≤ j ∧ j < 8
  · rw [if_pos ha, bodF_out (by omega) (by omega) (by omega)]
    unfold bodF
    rw [if_neg (by omega), if_neg (by omega), if_pos (by omega)]
    congr 1
    omega
  · rw [if_neg ha]
    unfold bodF
    by_cases h4 : a = o ∧ j = 4
    · rw [if_pos h4, if_pos h4]
    · by_cases h5 : a = o ∧ j = 5
      · rw [if_neg h4, if_pos h5, if_neg h4, if_pos h5]
      · rw [if_neg h4, if_neg h5, if_neg h4, if_neg h5]
        by_cases h6 : (o + 5 ≤ a ∧ a < o + 5 + c ∧ 0 ≤ j ∧ j < 3) ∨ (o + 13 ≤ a ∧ a < o + 13 + t ∧ 0 ≤ j ∧ j < 8)
        · rw [if_pos h6, if_pos (by omega)]
        · rw [if_neg h6, if_neg (by omega)]
