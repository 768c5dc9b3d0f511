-- what is asked, as functions of numbers
theorem b0 {P : Prop} [Decidable P] : ((if P then (1 : Int) else 0) = 0) ↔ ¬ P := by by_cases h : P <;> simp [h]
theorem b0n {P : Prop} [Decidable P] : (¬ (if P then (1 : Int) else 0) = 0) ↔ P := by by_cases h : P <;> simp [h]
theorem bdec {P : Prop} [Decidable P] : ((if P then (1 : Int) else 0) = 0) ∨ ((if P then (1 : Int) else 0) = 1) := by by_cases h : P <;> simp [h]
/-- an answer that keeps what is said of it; nothing changed -/
def MI (G : GT) (y : MethodName) (cc : ByteArray) (maxL : Nat) (ret : Option FieldType) (fr lo : Nat) (As : List AV) (v : VT) (post : Int → Prop) : Prop :=
  MNi G y cc maxL ret fr lo As v (fun x v' => post x ∧ v' = v)
section MIS
variable {X : XT} {G : GT} {own : String} {cc bytes : ByteArray} {v : VT} {pc maxL np : Nat} {L : List (Option AV)} {S S0 : List AV} {b : Int} {index ci : Nat} {y : MethodName} {ret : Option FieldType} {As : List AV} {fr lo fr0 lo0 : Nat} {post : Int → Prop}
theorem N.callVq (C : Cx X G own cc) (hX : xR X = R0 fr0 lo0) (hM : MI G y bytes maxL ret fr lo (vr b :: As) v post) (hy : YF y bytes maxL ret np) (hV : Cond.instanceMethod y ∈ lw_good ∧ Cond.selects y.cls y y ∈ lw_good) (hl : ML own index y)
    (hnp : As.length = np) {q : vw_C} (hc : vwCl[ci]? = some q) (hq : q.1 = y.cls) (hs : kd b = ci) (hci : ci < 10) (hR : fr + 1 ≤ fr0 ∧ 8 + (maxL + 11) + lo ≤ lo0)
    (hcat : (S.map catA).sum ≤ 8) (hd : decode cc pc = .ok (.invokevirtual index, 3)) (hst : S0 = As.reverse ++ vr b :: S)
    (kk : ∀ (x : Int), in32 x → post x → E X G 0 0 1000 v (pc + 3) L (vi x :: S)) : E X G 0 0 1000 v pc L S0 :=
  N.callVi C hX hM hy hV hl hnp hc hq hs hci hR hcat hd hst (fun x v' hx h => by
    obtain ⟨h, rfl⟩ := h
    exact kk x hx h)
theorem N.callSq (C : Cx X G own cc) (hX : xR X = R0 fr0 lo0) (hM : MI G y bytes maxL ret fr lo As v post) (hy : YF y bytes maxL ret np) (hV : Cond.static y ∈ lw_good) (hl : ML own index y)
    (hnp : As.length = np) (hR : fr + 1 ≤ fr0 ∧ 8 + (maxL + 11) + lo ≤ lo0)
    (hcat : (S.map catA).sum ≤ 8) (hd : decode cc pc = .ok (.invokestatic index, 3)) (hst : S0 = As.reverse ++ S)
    (kk : ∀ (x : Int), in32 x → post x → E X G 0 0 1000 v (pc + 3) L (vi x :: S)) : E X G 0 0 1000 v pc L S0 :=
  N.callSi C hX hM hy hV hl hnp hR hcat hd hst (fun x v' hx h => by
    obtain ⟨h, rfl⟩ := h
    exact kk x hx h)
end MIS
def outP (kind lasts worn : Int) : Prop := (if kind = 1 ∨ kind = 3 then 2 * lasts else lasts) ≤ worn
def outI (kind lasts worn : Int) : Int := if (if kind = 1 ∨ kind = 3 then 2 * lasts else lasts) ≤ worn then 1 else 0
def fitI (kind size lasts worn lt heir c body slack : Int) : Int :=
  if outI kind lasts worn = 1 ∨ (kind = 4 ∧ ¬ heir = c) then 0
  else if body ≤ size ∧ size ≤ body + slack then 1
  else if (kind = 2 ∨ kind = 3) ∧ lt = 0 ∧ body ≤ size + 2 ∧ size + 2 ≤ body + slack then 2 else 0
theorem outI_01 (a b c : Int) : outI a b c = 0 ∨ outI a b c = 1 := bdec
/-- how the thing at r fits child c -/
def fitT (v : VT) (r c body slack : Int) : Int := fitI (v r 1) (v r 2) (v r 3) (v r 4) (v r 5) (v r 6) c body slack
/-- a thing's numbers are small -/
def thOK (v : VT) (r : Int) : Prop := -1000 ≤ v r 2 ∧ v r 2 ≤ 1000 ∧ -1000 ≤ v r 3 ∧ v r 3 ≤ 1000
theorem kd_ne {a b : Int} {x y : Nat} (h1 : kd a = x) (h2 : kd b = y) (h : x ≠ y) : a ≠ b := by
  rintro rfl
  exact h (h1.symm.trans h2)
/-- the heap becomes w; and with an answer -/
def MVe (G : GT) (y : MethodName) (cc : ByteArray) (maxL : Nat) (ret : Option FieldType) (fr lo : Nat) (As : List AV) (v w : VT) : Prop :=
  MNv G y cc maxL ret fr lo As v (fun v' => v' = w)
def MIe (G : GT) (y : MethodName) (cc : ByteArray) (maxL : Nat) (ret : Option FieldType) (fr lo : Nat) (As : List AV) (v : VT) (t : Int) (w : VT) : Prop :=
  MNi G y cc maxL ret fr lo As v (fun x v' => x = t ∧ v' = w)
section MES
variable {X : XT} {G : GT} {own : String} {cc bytes : ByteArray} {v w : VT} {pc maxL np : Nat} {L : List (Option AV)} {S S0 : List AV} {b t : Int} {index ci : Nat} {y : MethodName} {ret : Option FieldType} {As : List AV} {fr lo fr0 lo0 : Nat}
theorem N.callVe (C : Cx X G own cc) (hX : xR X = R0 fr0 lo0) (hM : MVe G y bytes maxL ret fr lo (vr b :: As) v w) (hy : YF y bytes maxL ret np) (hV : Cond.instanceMethod y ∈ lw_good ∧ Cond.selects y.cls y y ∈ lw_good) (hl : ML own index y)
    (hnp : As.length = np) {q : vw_C} (hc : vwCl[ci]? = some q) (hq : q.1 = y.cls) (hs : kd b = ci) (hci : ci < 10) (hR : fr + 1 ≤ fr0 ∧ 8 + (maxL + 11) + lo ≤ lo0)
    (hcat : (S.map catA).sum ≤ 8) (hd : decode cc pc = .ok (.invokevirtual index, 3)) (hst : S0 = As.reverse ++ vr b :: S)
    (kk : E X G 0 0 1000 w (pc + 3) L S) : E X G 0 0 1000 v pc L S0 :=
  N.callVv C hX hM hy hV hl hnp hc hq hs hci hR hcat hd hst (fun v' h => by
    subst h
    exact kk)
theorem N.callVd (C : Cx X G own cc) (hX : xR X = R0 fr0 lo0) (hM : MIe G y bytes maxL ret fr lo (vr b :: As) v t w) (hy : YF y bytes maxL ret np) (hV : Cond.instanceMethod y ∈ lw_good ∧ Cond.selects y.cls y y ∈ lw_good) (hl : ML own index y)
    (hnp : As.length = np) {q : vw_C} (hc : vwCl[ci]? = some q) (hq : q.1 = y.cls) (hs : kd b = ci) (hci : ci < 10) (hR : fr + 1 ≤ fr0 ∧ 8 + (maxL + 11) + lo ≤ lo0)
    (hcat : (S.map catA).sum ≤ 8) (hd : decode cc pc = .ok (.invokevirtual index, 3)) (hst : S0 = As.reverse ++ vr b :: S)
    (kk : E X G 0 0 1000 w (pc + 3) L (vi t :: S)) : E X G 0 0 1000 v pc L S0 :=
  N.callVi C hX hM hy hV hl hnp hc hq hs hci hR hcat hd hst (fun x v' hx h => by
    obtain ⟨rfl, rfl⟩ := h
    exact kk)
theorem N.callSe (C : Cx X G own cc) (hX : xR X = R0 fr0 lo0) (hM : MVe G y bytes maxL ret fr lo As v w) (hy : YF y bytes maxL ret np) (hV : Cond.static y ∈ lw_good) (hl : ML own index y)
    (hnp : As.length = np) (hR : fr + 1 ≤ fr0 ∧ 8 + (maxL + 11) + lo ≤ lo0)
    (hcat : (S.map catA).sum ≤ 8) (hd : decode cc pc = .ok (.invokestatic index, 3)) (hst : S0 = As.reverse ++ S)
    (kk : E X G 0 0 1000 w (pc + 3) L S) : E X G 0 0 1000 v pc L S0 :=
  N.callSv C hX hM hy hV hl hnp hR hcat hd hst (fun v' h => by
    subst h
    exact kk)
theorem N.callSd (C : Cx X G own cc) (hX : xR X = R0 fr0 lo0) (hM : MIe G y bytes maxL ret fr lo As v t w) (hy : YF y bytes maxL ret np) (hV : Cond.static y ∈ lw_good) (hl : ML own index y)
    (hnp : As.length = np) (hR : fr + 1 ≤ fr0 ∧ 8 + (maxL + 11) + lo ≤ lo0)
    (hcat : (S.map catA).sum ≤ 8) (hd : decode cc pc = .ok (.invokestatic index, 3)) (hst : S0 = As.reverse ++ S)
    (kk : E X G 0 0 1000 w (pc + 3) L (vi t :: S)) : E X G 0 0 1000 v pc L S0 :=
  N.callSi C hX hM hy hV hl hnp hR hcat hd hst (fun x v' hx h => by
    obtain ⟨rfl, rfl⟩ := h
    exact kk)
end MES
theorem mmaxR : mth Lib.Math.max.name Lib.Math.max.code := ⟨in_good (List.mem_of_getElem? (i := 549) (by decide +kernel)) rfl, in_good (List.mem_of_getElem? (i := 89) (by decide +kernel)) rfl, in_good (List.mem_of_getElem? (i := 550) (by decide +kernel)) rfl⟩
theorem mminR : mth Lib.Math.min.name Lib.Math.min.code := ⟨in_good (List.mem_of_getElem? (i := 767) (by decide +kernel)) rfl, in_good (List.mem_of_getElem? (i := 89) (by decide +kernel)) rfl, in_good (List.mem_of_getElem? (i := 768) (by decide +kernel)) rfl⟩
theorem mm_X0_21 : Cond.methodLink RX0 21 Lib.Math.min.name ∈ lw_good := in_good (List.mem_of_getElem? (i := 766) (by decide +kernel)) rfl
theorem mm_X2_52 : Cond.methodLink RX2 52 Lib.Math.min.name ∈ lw_good := in_good (List.mem_of_getElem? (i := 883) (by decide +kernel)) rfl
theorem mm_X3_119 : Cond.methodLink RX3 119 Lib.Math.max.name ∈ lw_good := in_good (List.mem_of_getElem? (i := 548) (by decide +kernel)) rfl
theorem mm_X7_78 : Cond.methodLink RX7 78 Lib.Math.min.name ∈ lw_good := in_good (List.mem_of_getElem? (i := 812) (by decide +kernel)) rfl
theorem mm_X7_123 : Cond.methodLink RX7 123 Lib.Math.max.name ∈ lw_good := in_good (List.mem_of_getElem? (i := 791) (by decide +kernel)) rfl
def growI (s d : Int) : Int := if s + d < 40 then s + d else 40
def cpyF (v : VT) (r r2 n : Int) : VT := fun a j => if a = r ∧ 0 ≤ j ∧ j < n then v r2 j else v a j
def plainF (v : VT) (r s z l : Int) : VT := upd2 (upd2 (upd2 (upd2 (upd2 (upd2 (upd2 (upd2 v r 0 s) r 1 0) r 2 z) r 3 l) r 4 0) r 5 0) r 6 (-4)) r 7 (-4)
/-- the thing of slot s that c wears: the first such -/
def wornQ (v : VT) (o c s x : Int) : Prop := (x = -4 ∧ ∀ j, 0 ≤ j → j < v o 5 → ¬ (v (o + 13 + j) 0 = s ∧ v (o + 13 + j) 7 = c)) ∨ (0 ≤ x ∧ x < v o 5 ∧ v (o + 13 + x) 0 = s ∧ v (o + 13 + x) 7 = c ∧ ∀ j, 0 ≤ j → j < x → ¬ (v (o + 13 + j) 0 = s ∧ v (o + 13 + j) 7 = c))
theorem become8 (v : VT) (r r2 : Int) : upd2 (upd2 (upd2 (upd2 (upd2 (upd2 (upd2 (upd2 v r 0 (v r2 0)) r 1 (v r2 1)) r 2 (v r2 2)) r 3 (v r2 3)) r 4 (v r2 4)) r 5 (v r2 5)) r 6 (v r2 6)) r 7 (v r2 7) = cpyF v r r2 8 := by
  funext a j
  by_cases ha : a = r
  · subst ha
    by_cases hj : 0 ≤ j ∧ j < 8
    · rcases (show j = 0 ∨ j = 1 ∨ j = 2 ∨ j = 3 ∨ j = 4 ∨ j = 5 ∨ j = 6 ∨ j = 7 by omega) with rfl | rfl | rfl | rfl | rfl | rfl | rfl | rfl <;> simp [cpyF, upd2]
    · have h0 : j ≠ 0 := by omega
      have h1 : j ≠ 1 := by omega
      have h2 : j ≠ 2 := by omega
      have h3 : j ≠ 3 := by omega
      have h4 : j ≠ 4 := by omega
      have h5 : j ≠ 5 := by omega
      have h6 : j ≠ 6 := by omega
      have h7 : j ≠ 7 := by omega
      simp only [upd2, h0, h1, h2, h3, h4, h5, h6, h7, and_false, if_false, cpyF]
      rw [if_neg (fun q => hj q.2)]
  · simp [cpyF, upd2, ha]
theorem become3 (v : VT) (r r2 : Int) : upd2 (upd2 (upd2 v r 0 (v r2 0)) r 1 (v r2 1)) r 2 (v r2 2) = cpyF v r r2 3 := by
  funext a j
  by_cases ha : a = r
  · subst ha
    by_cases hj : 0 ≤ j ∧ j < 3
    · rcases (show j = 0 ∨ j = 1 ∨ j = 2 by omega) with rfl | rfl | rfl <;> simp [cpyF, upd2]
    · have h0 : j ≠ 0 := by omega
      have h1 : j ≠ 1 := by omega
      have h2 : j ≠ 2 := by omega
      simp only [upd2, h0, h1, h2, and_false, if_false, cpyF]
      rw [if_neg (fun q => hj q.2)]
  · simp [cpyF, upd2, ha]
