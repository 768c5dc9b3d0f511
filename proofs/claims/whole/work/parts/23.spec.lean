-- what is asked, as functions of numbers
theorem b0 {P : Prop} [Decidable P] : ((if P then (1 : Int) else 0) = 0) ↔ ¬ P := by by_cases h : P <;> simp [h]
theorem b0n {P : Prop} [Decidable P] : (¬ (if P then (1 : Int) else 0) = 0) ↔ P := by by_cases h : P <;> simp [h]
theorem bdec {P : Prop} [Decidable P] : ((if P then (1 : Int) else 0) = 0) ∨ ((if P then (1 : Int) else 0) = 1) := by by_cases h : P <;> simp [h]
/-- an answer that keeps what is said of it; nothing changed -/
def MI (G : GT) (y : MethodName) (cc : ByteArray) (maxL : Nat) (ret : Option FieldType) (fr lo : Nat) (As : List AV) (v : VT) (post : Int → Prop) : Prop :=
  MNi G y cc maxL ret fr lo As v (fun x v' => post x ∧ v' = v)
section MIS
variable {X : XT} {G : GT} {own : String} {cc bytes : ByteArray} {v : VT} {pc maxL np : Nat} {L : List (Option AV)} {S S0 : List AV} {b : Int} {index ci : Nat} {y : MethodName} {ret : Option FieldType} {As : List AV} {fr lo fr0 lo0 : Nat} {post : Int → Prop}
theorem N.callVq (C : Cx X G own cc) (hX : xR X = R0 fr0 lo0) (hM : MI G y bytes maxL ret fr lo (vr b :: As) v post) (hy : YF y bytes maxL ret np) (hV : Cond.instanceMethod y ∈ lw_good ∧ Cond.selects y.cls y y ∈ lw_good) (hl : ML own index y)
    (hnp : As.length = np) {q : vw_C} (hc : vwCl[ci]? = some q) (hq : q.1 = y.cls) (hs : kd b = ci) (hci : ci < 10) (hR : fr + 1 ≤ fr0 ∧ 8 + (maxL + 11) + lo ≤ lo0)
    (hcat : (S.map catA).sum ≤ 8) (hd : decode cc pc = .ok (.invokevirtual index, 3)) (hst : S0 = As.reverse ++ vr b :: S)
    (kk : ∀ (x : Int), in32 x → post x → E X G 0 0 1000 v (pc + 3) L (vi x :: S)) : E X G 0 0 1000 v pc L S0 :=
  N.callVi C hX hM hy hV hl hnp hc hq hs hci hR hcat hd hst (fun x v' hx h => by
    obtain ⟨h, rfl⟩ := h
    exact kk x hx h)
theorem N.callSq (C : Cx X G own cc) (hX : xR X = R0 fr0 lo0) (hM : MI G y bytes maxL ret fr lo As v post) (hy : YF y bytes maxL ret np) (hV : Cond.static y ∈ lw_good) (hl : ML own index y)
    (hnp : As.length = np) (hR : fr + 1 ≤ fr0 ∧ 8 + (maxL + 11) + lo ≤ lo0)
    (hcat : (S.map catA).sum ≤ 8) (hd : decode cc pc = .ok (.invokestatic index, 3)) (hst : S0 = As.reverse ++ S)
    (kk : ∀ (x : Int), in32 x → post x → E X G 0 0 1000 v (pc + 3) L (vi x :: S)) : E X G 0 0 1000 v pc L S0 :=
  N.callSi C hX hM hy hV hl hnp hR hcat hd hst (fun x v' hx h => by
    obtain ⟨h, rfl⟩ := h
    exact kk x hx h)
end MIS
def outP (kind lasts worn : Int) : Prop := (if kind = 1 ∨ kind = 3 then 2 * lasts else lasts) ≤ worn
def outI (kind lasts worn : Int) : Int := if (if kind = 1 ∨ kind = 3 then 2 * lasts else lasts) ≤ worn then 1 else 0
def fitI (kind size lasts worn lt heir c body slack : Int) : Int :=
  if outI kind lasts worn = 1 ∨ (kind = 4 ∧ ¬ heir = c) then 0
  else if body ≤ size ∧ size ≤ body + slack then 1
  else if (kind = 2 ∨ kind = 3) ∧ lt = 0 ∧ body ≤ size + 2 ∧ size + 2 ≤ body + slack then 2 else 0
theorem outI_01 (a b c : Int) : outI a b c = 0 ∨ outI a b c = 1 := bdec
/-- how the thing at r fits child c -/
def fitT (v : VT) (r c body slack : Int) : Int := fitI (v r 1) (v r 2) (v r 3) (v r 4) (v r 5) (v r 6) c body slack
/-- a thing's numbers are small -/
def thOK (v : VT) (r : Int) : Prop := -1000 ≤ v r 2 ∧ v r 2 ≤ 1000 ∧ -1000 ≤ v r 3 ∧ v r 3 ≤ 1000
theorem kd_ne {a b : Int} {x y : Nat} (h1 : kd a = x) (h2 : kd b = y) (h : x ≠ y) : a ≠ b := by
  rintro rfl
  exact h (h1.symm.trans h2)
/-- the heap becomes w; and with an answer -/
def MVe (G : GT) (y : MethodName) (cc : ByteArray) (maxL : Nat) (ret : Option FieldType) (fr lo : Nat) (As : List AV) (v w : VT) : Prop :=
  MNv G y cc maxL ret fr lo As v (fun v' => v' = w)
def MIe (G : GT) (y : MethodName) (cc : ByteArray) (maxL : Nat) (ret : Option FieldType) (fr lo : Nat) (As : List AV) (v : VT) (t : Int) (w : VT) : Prop :=
  MNi G y cc maxL ret fr lo As v (fun x v' => x = t ∧ v' = w)
section MES
variable {X : XT} {G : GT} {own : String} {cc bytes : ByteArray} {v w : VT} {pc maxL np : Nat} {L : List (Option AV)} {S S0 : List AV} {b t : Int} {index ci : Nat} {y : MethodName} {ret : Option FieldType} {As : List AV} {fr lo fr0 lo0 : Nat}
theorem N.callVe (C : Cx X G own cc) (hX : xR X = R0 fr0 lo0) (hM : MVe G y bytes maxL ret fr lo (vr b :: As) v w) (hy : YF y bytes maxL ret np) (hV : Cond.instanceMethod y ∈ lw_good ∧ Cond.selects y.cls y y ∈ lw_good) (hl : ML own index y)
    (hnp : As.length = np) {q : vw_C} (hc : vwCl[ci]? = some q) (hq : q.1 = y.cls) (hs : kd b = ci) (hci : ci < 10) (hR : fr + 1 ≤ fr0 ∧ 8 + (maxL + 11) + lo ≤ lo0)
    (hcat : (S.map catA).sum ≤ 8) (hd : decode cc pc = .ok (.invokevirtual index, 3)) (hst : S0 = As.reverse ++ vr b :: S)
    (kk : E X G 0 0 1000 w (pc + 3) L S) : E X G 0 0 1000 v pc L S0 :=
  N.callVv C hX hM hy hV hl hnp hc hq hs hci hR hcat hd hst (fun v' h => by
    subst h
    exact kk)
theorem N.callVd (C : Cx X G own cc) (hX : xR X = R0 fr0 lo0) (hM : MIe G y bytes maxL ret fr lo (vr b :: As) v t w) (hy : YF y bytes maxL ret np) (hV : Cond.instanceMethod y ∈ lw_good ∧ Cond.selects y.cls y y ∈ lw_good) (hl : ML own index y)
    (hnp : As.length = np) {q : vw_C} (hc : vwCl[ci]? = some q) (hq : q.1 = y.cls) (hs : kd b = ci) (hci : ci < 10) (hR : fr + 1 ≤ fr0 ∧ 8 + (maxL + 11) + lo ≤ lo0)
    (hcat : (S.map catA).sum ≤ 8) (hd : decode cc pc = .ok (.invokevirtual index, 3)) (hst : S0 = As.reverse ++ vr b :: S)
    (kk : E X G 0 0 1000 w (pc + 3) L (vi t :: S)) : E X G 0 0 1000 v pc L S0 :=
  N.callVi C hX hM hy hV hl hnp hc hq hs hci hR hcat hd hst (fun x v' hx h => by
    obtain ⟨rfl, rfl⟩ := h
    exact kk)
theorem N.callSe (C : Cx X G own cc) (hX : xR X = R0 fr0 lo0) (hM : MVe G y bytes maxL ret fr lo As v w) (hy : YF y bytes maxL ret np) (hV : Cond.static y ∈ lw_good) (hl : ML own index y)
    (hnp : As.length = np) (hR : fr + 1 ≤ fr0 ∧ 8 + (maxL + 11) + lo ≤ lo0)
    (hcat : (S.map catA).sum ≤ 8) (hd : decode cc pc = .ok (.invokestatic index, 3)) (hst : S0 = As.reverse ++ S)
    (kk : E X G 0 0 1000 w (pc + 3) L S) : E X G 0 0 1000 v pc L S0 :=
  N.callSv C hX hM hy hV hl hnp hR hcat hd hst (fun v' h => by
    subst h
    exact kk)
theorem N.callSd (C : Cx X G own cc) (hX : xR X = R0 fr0 lo0) (hM : MIe G y bytes maxL ret fr lo As v t w) (hy : YF y bytes maxL ret np) (hV : Cond.static y ∈ lw_good) (hl : ML own index y)
    (hnp : As.length = np) (hR : fr + 1 ≤ fr0 ∧ 8 + (maxL + 11) + lo ≤ lo0)
    (hcat : (S.map catA).sum ≤ 8) (hd : decode cc pc = .ok (.invokestatic index, 3)) (hst : S0 = As.reverse ++ S)
    (kk : E X G 0 0 1000 w (pc + 3) L (vi t :: S)) : E X G 0 0 1000 v pc L S0 :=
  N.callSi C hX hM hy hV hl hnp hR hcat hd hst (fun x v' hx h => by
    obtain ⟨rfl, rfl⟩ := h
    exact kk)
end MES
theorem mmaxR : mth Lib.Math.max.name Lib.Math.max.code := ⟨in_good (List.mem_of_getElem? (i := 549) (by decide +kernel)) rfl, in_good (List.mem_of_getElem? (i := 89) (by decide +kernel)) rfl, in_good (List.mem_of_getElem? (i := 550) (by decide +kernel)) rfl⟩
theorem mminR : mth Lib.Math.min.name Lib.Math.min.code := ⟨in_good (List.mem_of_getElem? (i := 767) (by decide +kernel)) rfl, in_good (List.mem_of_getElem? (i := 89) (by decide +kernel)) rfl, in_good (List.mem_of_getElem? (i := 768) (by decide +kernel)) rfl⟩
theorem mm_X0_21 : Cond.methodLink RX0 21 Lib.Math.min.name ∈ lw_good := in_good (List.mem_of_getElem? (i := 766) (by decide +kernel)) rfl
theorem mm_X2_52 : Cond.methodLink RX2 52 Lib.Math.min.name ∈ lw_good := in_good (List.mem_of_getElem? (i := 883) (by decide +kernel)) rfl
theorem mm_X3_119 : Cond.methodLink RX3 119 Lib.Math.max.name ∈ lw_good := in_good (List.mem_of_getElem? (i := 548) (by decide +kernel)) rfl
theorem mm_X7_78 : Cond.methodLink RX7 78 Lib.Math.min.name ∈ lw_good := in_good (List.mem_of_getElem? (i := 812) (by decide +kernel)) rfl
theorem mm_X7_123 : Cond.methodLink RX7 123 Lib.Math.max.name ∈ lw_good := in_good (List.mem_of_getElem? (i := 791) (by decide +kernel)) rfl
def growI (s d : Int) : Int := if s + d < 40 then s + d else 40
def cpyF (v : VT) (r r2 n : Int) : VT := fun a j => if a = r ∧ 0 ≤ j ∧ j < n then v r2 j else v a j
def plainF (v : VT) (r s z l : Int) : VT := upd2 (upd2 (upd2 (upd2 (upd2 (upd2 (upd2 (upd2 v r 0 s) r 1 0) r 2 z) r 3 l) r 4 0) r 5 0) r 6 (-4)) r 7 (-4)
/-- the thing of slot s that c wears: the first such -/
def wornQ (v : VT) (o c s x : Int) : Prop := (x = -4 ∧ ∀ j, 0 ≤ j → j < v o 5 → ¬ (v (o + 13 + j) 0 = s ∧ v (o + 13 + j) 7 = c)) ∨ (0 ≤ x ∧ x < v o 5 ∧ v (o + 13 + x) 0 = s ∧ v (o + 13 + x) 7 = c ∧ ∀ j, 0 ≤ j → j < x → ¬ (v (o + 13 + j) 0 = s ∧ v (o + 13 + j) 7 = c))
theorem become8 (v : VT) (r r2 : Int) : upd2 (upd2 (upd2 (upd2 (upd2 (upd2 (upd2 (upd2 v r 0 (v r2 0)) r 1 (v r2 1)) r 2 (v r2 2)) r 3 (v r2 3)) r 4 (v r2 4)) r 5 (v r2 5)) r 6 (v r2 6)) r 7 (v r2 7) = cpyF v r r2 8 := by
  funext a j
  by_cases ha : a = r
  · subst ha
    by_cases hj : 0 ≤ j ∧ j < 8
    · rcases (show j = 0 ∨ j = 1 ∨ j = 2 ∨ j = 3 ∨ j = 4 ∨ j = 5 ∨ j = 6 ∨ j = 7 by omega) with rfl | rfl | rfl | rfl | rfl | rfl | rfl | rfl <;> simp [cpyF, upd2]
    · have h0 : j ≠ 0 := by omega
      have h1 : j ≠ 1 := by omega
      have h2 : j ≠ 2 := by omega
      have h3 : j ≠ 3 := by omega
      have h4 : j ≠ 4 := by omega
      have h5 : j ≠ 5 := by omega
      have h6 : j ≠ 6 := by omega
      have h7 : j ≠ 7 := by omega
      simp only [upd2, h0, h1, h2, h3, h4, h5, h6, h7, and_false, if_false, cpyF]
      rw [if_neg (fun q => hj q.2)]
  · simp [cpyF, upd2, ha]
theorem become3 (v : VT) (r r2 : Int) : upd2 (upd2 (upd2 v r 0 (v r2 0)) r 1 (v r2 1)) r 2 (v r2 2) = cpyF v r r2 3 := by
  funext a j
  by_cases ha : a = r
  · subst ha
    by_cases hj : 0 ≤ j ∧ j < 3
    · rcases (show j = 0 ∨ j = 1 ∨ j = 2 by omega) with rfl | rfl | rfl <;> simp [cpyF, upd2]
    · have h0 : j ≠ 0 := by omega
      have h1 : j ≠ 1 := by omega
      have h2 : j ≠ 2 := by omega
      simp only [upd2, h0, h1, h2, and_false, if_false, cpyF]
      rw [if_neg (fun q => hj q.2)]
  · simp [cpyF, upd2, ha]
theorem E.heq {X : XT} {G : GT} {cells slots n pc : Nat} {h h' : VT} {L : List (Option AV)} {S : List AV} (e : h = h') (k : E X G cells slots n h' pc L S) : E X G cells slots n h pc L S := by
  rw [e]
  exact k
theorem E.veq {X : XT} {G : GT} {cells slots n pc : Nat} {v : VT} {L : List (Option AV)} {S : List AV} {x x' : Int} (e : x = x') (k : E X G cells slots n v pc L (vi x' :: S)) : E X G cells slots n v pc L (vi x :: S) := by
  rw [e]
  exact k
theorem plainF_ne {v : VT} {r s z l a j : Int} (h : a ≠ r) : plainF v r s z l a j = v a j := by
  unfold plainF
  simp [upd2, h]
/-- how many of 0 .. k-1 are so -/
def cntN (p : Int → Bool) : Nat → Int
  | 0 => 0
  | k + 1 => cntN p k + (if p (k : Int) then 1 else 0)
theorem cnt_step {p : Int → Bool} {t : Int} (h : 0 ≤ t) : cntN p (t + 1).toNat = cntN p t.toNat + (if p t then 1 else 0) := by
  have e : (t + 1).toNat = t.toNat + 1 := by omega
  rw [e, cntN, Int.toNat_of_nonneg h]
theorem cnt_bd (p : Int → Bool) : ∀ k : Nat, 0 ≤ cntN p k ∧ cntN p k ≤ k
  | 0 => by simp [cntN]
  | k + 1 => by
    have := cnt_bd p k
    rw [cntN]
    split <;> omega
/-- undressed in slot s: the first t things -/
def undF (v : VT) (o s t : Int) : VT := fun a j => if o + 13 ≤ a ∧ a < o + 13 + t ∧ j = 7 ∧ v a 0 = s then -4 else v a j
theorem undF_out {v : VT} {o s t a j : Int} (h : a < o + 13 ∨ o + 13 + t ≤ a ∨ j ≠ 7) : undF v o s t a j = v a j := by
  unfold undF
  rw [if_neg (by omega)]
theorem undF_0 {v : VT} {o s : Int} : v = undF v o s 0 := by
  funext a j
  rw [undF_out (by omega)]
theorem undF_s {v : VT} {o s t : Int} (h : v (o + 13 + t) 0 = s) (ht : 0 ≤ t) : upd2 (undF v o s t) (o + 13 + t) 7 (-4) = undF v o s (t + 1) := by
  funext a j
  unfold upd2 undF
  by_cases ha : a = o + 13 + t
  · subst ha
    by_cases hj : j = 7
    · rw [if_pos ⟨rfl, hj⟩, if_pos ⟨by omega, by omega, hj, h⟩]
    · rw [if_neg (by omega), if_neg (by omega), if_neg (by omega)]
  · by_cases hb : o + 13 ≤ a ∧ a < o + 13 + t ∧ j = 7 ∧ v a 0 = s
    · rw [if_neg (by omega), if_pos hb, if_pos ⟨by omega, by omega, hb.2.2.1, hb.2.2.2⟩]
    · rw [if_neg (by omega), if_neg hb, if_neg (by omega)]
theorem undF_n {v : VT} {o s t : Int} (h : ¬ v (o + 13 + t) 0 = s) (ht : 0 ≤ t) : undF v o s t = undF v o s (t + 1) := by
  funext a j
  unfold undF
  by_cases ha : a = o + 13 + t
  · subst ha
    rw [if_neg (by omega), if_neg (by omega)]
  · by_cases hb : o + 13 ≤ a ∧ a < o + 13 + t ∧ j = 7 ∧ v a 0 = s
    · rw [if_pos hb, if_pos ⟨by omega, by omega, hb.2.2.1, hb.2.2.2⟩]
    · rw [if_neg hb, if_neg (by omega)]
/-- a winter for the first t things -/
def winF (v : VT) (o t : Int) : VT := fun a j => if o + 13 ≤ a ∧ a < o + 13 + t ∧ ¬ v a 7 = -4 then (if j = 4 then v a 4 + 1 else if j = 7 ∧ outI (v a 1) (v a 3) (v a 4 + 1) = 1 then -4 else v a j) else v a j
def winP (v : VT) (o : Int) (t : Int) : Bool := decide (¬ v (o + 13 + t) 7 = -4) && decide (outI (v (o + 13 + t) 1) (v (o + 13 + t) 3) (v (o + 13 + t) 4 + 1) = 1)
theorem winF_out {v : VT} {o t a j : Int} (h : a < o + 13 ∨ o + 13 + t ≤ a) : winF v o t a j = v a j := by
  unfold winF
  rw [if_neg (by omega)]
theorem winF_0 {v : VT} {o : Int} : v = winF v o 0 := by
  funext a j
  rw [winF_out (by omega)]
theorem winF_ne {v : VT} {o t a j : Int} (ha : a ≠ o + 13 + t) : winF v o (t + 1) a j = winF v o t a j := by
  unfold winF
  by_cases hb : o + 13 ≤ a ∧ a < o + 13 + t ∧ ¬ v a 7 = -4
  · rw [if_pos hb, if_pos ⟨by omega, by omega, hb.2.2⟩]
  · rw [if_neg hb, if_neg (by omega)]
theorem winF_at {v : VT} {o t j : Int} (ht : 0 ≤ t) : winF v o (t + 1) (o + 13 + t) j = if ¬ v (o + 13 + t) 7 = -4 then (if j = 4 then v (o + 13 + t) 4 + 1 else if j = 7 ∧ outI (v (o + 13 + t) 1) (v (o + 13 + t) 3) (v (o + 13 + t) 4 + 1) = 1 then -4 else v (o + 13 + t) j) else v (o + 13 + t) j := by
  unfold winF
  by_cases h : v (o + 13 + t) 7 = -4
  · rw [if_neg (by omega), if_neg (by omega)]
  · rw [if_pos ⟨by omega, by omega, h⟩, if_pos h]
theorem winF_n {v : VT} {o t : Int} (h : v (o + 13 + t) 7 = -4) (ht : 0 ≤ t) : winF v o t = winF v o (t + 1) := by
  funext a j
  by_cases ha : a = o + 13 + t
  · subst ha
    rw [winF_at ht, if_neg (by omega), winF_out (by omega)]
  · rw [winF_ne ha]
theorem winF_w {v : VT} {o t : Int} (h : ¬ v (o + 13 + t) 7 = -4) (ho : outI (v (o + 13 + t) 1) (v (o + 13 + t) 3) (v (o + 13 + t) 4 + 1) = 0) (ht : 0 ≤ t) : upd2 (winF v o t) (o + 13 + t) 4 (v (o + 13 + t) 4 + 1) = winF v o (t + 1) := by
  funext a j
  by_cases ha : a = o + 13 + t
  · subst ha
    rw [winF_at ht, if_pos h]
    by_cases hj : j = 4
    · rw [if_pos hj, hj, upd2_same]
    · rw [if_neg hj, if_neg (by omega), upd2_ne _ _ _ _ _ _ (Or.inr hj), winF_out (by omega)]
  · rw [winF_ne ha, upd2_ne _ _ _ _ _ _ (Or.inl ha)]
theorem winF_o {v : VT} {o t : Int} (h : ¬ v (o + 13 + t) 7 = -4) (ho : outI (v (o + 13 + t) 1) (v (o + 13 + t) 3) (v (o + 13 + t) 4 + 1) = 1) (ht : 0 ≤ t) : upd2 (upd2 (winF v o t) (o + 13 + t) 4 (v (o + 13 + t) 4 + 1)) (o + 13 + t) 7 (-4) = winF v o (t + 1) := by
  funext a j
  by_cases ha : a = o + 13 + t
  · subst ha
    rw [winF_at ht, if_pos h]
    by_cases hj : j = 4
    · rw [if_pos hj, hj, upd2_ne _ _ _ _ _ _ (Or.inr (by decide)), upd2_same]
    · rw [if_neg hj]
      by_cases hj7 : j = 7
      · rw [if_pos ⟨hj7, ho⟩, hj7, upd2_same]
      · rw [if_neg (by omega), upd2_ne _ _ _ _ _ _ (Or.inr hj7), upd2_ne _ _ _ _ _ _ (Or.inr hj), winF_out (by omega)]
  · rw [winF_ne ha, upd2_ne _ _ _ _ _ _ (Or.inl ha), upd2_ne _ _ _ _ _ _ (Or.inl ha)]
theorem thOK_of {v w : VT} {r : Int} (h2 : w r 2 = v r 2) (h3 : w r 3 = v r 3) (h : thOK v r) : thOK w r := by
  unfold thOK at *
  rw [h2, h3]
  exact h
