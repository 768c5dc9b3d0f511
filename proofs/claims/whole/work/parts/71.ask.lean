-- what the calls of the class answer, by numbers
theorem E.pceq {X : XT} {G : GT} {cells slots n pc pc' : Nat} {v : VT} {L : List (Option AV)} {S : List AV} (e : pc = pc') (k : E X G cells slots n v pc' L S) : E X G cells slots n v pc L S := by
  rw [e]
  exact k
theorem hv4 : isV 4 := Or.inl rfl
theorem hv27 : isV 27 := Or.inr (Or.inl rfl)
def childI (v : VT) (o c k : Int) : Int := if 0 ≤ c ∧ c < v o 4 then (if 0 ≤ k ∧ k ≤ 2 then v (o + 5 + c) k else if k = 10 then wornI v o c 0 else if k = 11 then wornI v o c 1 else -1) else -1
def thingI (v : VT) (o t k : Int) : Int := if 0 ≤ t ∧ t < v o 5 then (if 0 ≤ k ∧ k ≤ 7 then v (o + 13 + t) k else -1) else -1
def offF (v : VT) (o x : Int) : VT := if 0 ≤ x ∧ x < v o 5 then upd2 v (o + 13 + x) 7 (-4) else v
theorem offF_ne {v : VT} {o x a j : Int} (h : a < o + 13 ∨ o + 13 + v o 5 ≤ a ∨ ¬ j = 7) : offF v o x a j = v a j := by
  unfold offF
  split
  · exact u_ne (by omega)
  · rfl
def wearF (v : VT) (o c t sl : Int) : VT := putF (offF v o (wornI v o c (v (o + 13 + t) 0))) (o + 13 + t) c (v (o + 5 + c) 0) sl
theorem fit_off {v : VT} {o x t j : Int} (h : ¬ j = 7) : offF v o x (o + 13 + t) j = v (o + 13 + t) j := offF_ne (Or.inr (Or.inr h))
