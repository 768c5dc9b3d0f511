-- what is asked, as functions of numbers
theorem b0 {P : Prop} [Decidable P] : ((if P then (1 : Int) else 0) = 0) ↔ ¬ P := by by_cases h : P <;> simp [h]
theorem b0n {P : Prop} [Decidable P] : (¬ (if P then (1 : Int) else 0) = 0) ↔ P := by by_cases h : P <;> simp [h]
theorem bdec {P : Prop} [Decidable P] : ((if P then (1 : Int) else 0) = 0) ∨ ((if P then (1 : Int) else 0) = 1) := by by_cases h : P <;> simp [h]
/-- an answer that keeps what is said of it; nothing changed -/
def MI (G : GT) (y : MethodName) (cc : ByteArray) (maxL : Nat) (ret : Option FieldType) (fr lo : Nat) (As : List AV) (v : VT) (post : Int → Prop) : Prop :=
  MNi G y cc maxL ret fr lo As v (fun x v' => post x ∧ v' = v)
section MIS
variable {X : XT} {G : GT} {own : String} {cc bytes : ByteArray} {v : VT} {pc maxL np : Nat} {L : List (Option AV)} {S S0 : List AV} {b : Int} {index ci : Nat} {y : MethodName} {ret : Option FieldType} {As : List AV} {fr lo fr0 lo0 : Nat} {post : Int → Prop}
theorem N.callVq (C : Cx X G own cc) (hX : xR X = R0 fr0 lo0) (hM : MI G y bytes maxL ret fr lo (vr b :: As) v post) (hy : YF y bytes maxL ret np) (hV : Cond.instanceMethod y ∈ lw_good ∧ Cond.selects y.cls y y ∈ lw_good) (hl : ML own index y)
    (hnp : As.length = np) {q : vw_C} (hc : vwCl[ci]? = some q) (hq : q.1 = y.cls) (hs : kd b = ci) (hci : ci < 10) (hR : fr + 1 ≤ fr0 ∧ 8 + (maxL + 11) + lo ≤ lo0)
    (hcat : (S.map catA).sum ≤ 8) (hd : decode cc pc = .ok (.invokevirtual index, 3)) (hst : S0 = As.reverse ++ vr b :: S)
    (kk : ∀ (x : Int), in32 x → post x → E X G 0 0 1000 v (pc + 3) L (vi x :: S)) : E X G 0 0 1000 v pc L S0 :=
  N.callVi C hX hM hy hV hl hnp hc hq hs hci hR hcat hd hst (fun x v' hx h => by
    obtain ⟨h, rfl⟩ := h
    exact kk x hx h)
theorem N.callSq (C : Cx X G own cc) (hX : xR X = R0 fr0 lo0) (hM : MI G y bytes maxL ret fr lo As v post) (hy : YF y bytes maxL ret np) (hV : Cond.static y ∈ lw_good) (hl : ML own index y)
    (hnp : As.length = np) (hR : fr + 1 ≤ fr0 ∧ 8 + (maxL + 11) + lo ≤ lo0)
    (hcat : (S.map catA).sum ≤ 8) (hd : decode cc pc = .ok (.invokestatic index, 3)) (hst : S0 = As.reverse ++ S)
    (kk : ∀ (x : Int), in32 x → post x → E X G 0 0 1000 v (pc + 3) L (vi x :: S)) : E X G 0 0 1000 v pc L S0 :=
  N.callSi C hX hM hy hV hl hnp hR hcat hd hst (fun x v' hx h => by
    obtain ⟨h, rfl⟩ := h
    exact kk x hx h)
end MIS
def outP (kind lasts worn : Int) : Prop := (if kind = 1 ∨ kind = 3 then 2 * lasts else lasts) ≤ worn
def outI (kind lasts worn : Int) : Int := if (if kind = 1 ∨ kind = 3 then 2 * lasts else lasts) ≤ worn then 1 else 0
def fitI (kind size lasts worn lt heir c body slack : Int) : Int :=
  if outI kind lasts worn = 1 ∨ (kind = 4 ∧ ¬ heir = c) then 0
  else if body ≤ size ∧ size ≤ body + slack then 1
  else if (kind = 2 ∨ kind = 3) ∧ lt = 0 ∧ body ≤ size + 2 ∧ size + 2 ≤ body + slack then 2 else 0
theorem outI_01 (a b c : Int) : outI a b c = 0 ∨ outI a b c = 1 := bdec
/-- how the thing at r fits child c -/
def fitT (v : VT) (r c body slack : Int) : Int := fitI (v r 1) (v r 2) (v r 3) (v r 4) (v r 5) (v r 6) c body slack
/-- a thing's numbers are small -/
def thOK (v : VT) (r : Int) : Prop := -1000 ≤ v r 2 ∧ v r 2 ≤ 1000 ∧ -1000 ≤ v r 3 ∧ v r 3 ≤ 1000
