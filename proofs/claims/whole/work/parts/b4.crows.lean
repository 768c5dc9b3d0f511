-- the constructors: rows; lists of what is written
theorem ob_im : Cond.instanceMethod objectInit ∈ lw_good := in_good (List.mem_of_getElem? (i := 98) (by decide +kernel)) rfl
theorem ob_cd : Cond.code objectInit ⟨#[0xb1]⟩ 1 none ∈ lw_good := in_good (List.mem_of_getElem? (i := 99) (by decide +kernel)) rfl
theorem ob_X8_1 : Cond.methodLink RX8 1 objectInit ∈ lw_good := in_good (List.mem_of_getElem? (i := 97) (by decide +kernel)) rfl
theorem ob_X0_3 : Cond.methodLink RX0 3 objectInit ∈ lw_good := in_good (List.mem_of_getElem? (i := 130) (by decide +kernel)) rfl
theorem ob_X1_3 : Cond.methodLink RX1 3 objectInit ∈ lw_good := in_good (List.mem_of_getElem? (i := 292) (by decide +kernel)) rfl
theorem ob_X2_3 : Cond.methodLink RX2 3 objectInit ∈ lw_good := in_good (List.mem_of_getElem? (i := 325) (by decide +kernel)) rfl
theorem ob_X3_3 : Cond.methodLink RX3 3 objectInit ∈ lw_good := in_good (List.mem_of_getElem? (i := 243) (by decide +kernel)) rfl
theorem ob_X4_3 : Cond.methodLink RX4 3 objectInit ∈ lw_good := in_good (List.mem_of_getElem? (i := 346) (by decide +kernel)) rfl
theorem ob_X5_3 : Cond.methodLink RX5 3 objectInit ∈ lw_good := in_good (List.mem_of_getElem? (i := 105) (by decide +kernel)) rfl
theorem ob_X6_3 : Cond.methodLink RX6 3 objectInit ∈ lw_good := in_good (List.mem_of_getElem? (i := 155) (by decide +kernel)) rfl
theorem ob_X7_3 : Cond.methodLink RX7 3 objectInit ∈ lw_good := in_good (List.mem_of_getElem? (i := 121) (by decide +kernel)) rfl
theorem ob_X9_1 : Cond.methodLink RX9 1 objectInit ∈ lw_good := in_good (List.mem_of_getElem? (i := 1005) (by decide +kernel)) rfl
theorem nw_X8_7 : NW RX8 7 5 2 := ⟨RX5, TX5, tyX5, in_good (List.mem_of_getElem? (i := 100) (by decide +kernel)) rfl, in_good (List.mem_of_getElem? (i := 101) (by decide +kernel)) rfl, in_good (List.mem_of_getElem? (i := 75) (by decide +kernel)) rfl, iX5, tyX5_ok, rfl, by decide, by decide +kernel, fun j hj => by rcases (show j = 0 ∨ j = 1 by omega) with rfl | rfl <;> rfl⟩
theorem cl_X8_7 : Cond.classLink RX8 7 RX5 ∈ lw_good := in_good (List.mem_of_getElem? (i := 100) (by decide +kernel)) rfl
theorem nw_X8_16 : NW RX8 16 7 7 := ⟨RX7, TX7, tyX7, in_good (List.mem_of_getElem? (i := 116) (by decide +kernel)) rfl, in_good (List.mem_of_getElem? (i := 117) (by decide +kernel)) rfl, in_good (List.mem_of_getElem? (i := 76) (by decide +kernel)) rfl, iX7, tyX7_ok, rfl, by decide, by decide +kernel, fun j hj => by rcases (show j = 0 ∨ j = 1 ∨ j = 2 ∨ j = 3 ∨ j = 4 ∨ j = 5 ∨ j = 6 by omega) with rfl | rfl | rfl | rfl | rfl | rfl | rfl <;> rfl⟩
theorem cl_X8_16 : Cond.classLink RX8 16 RX7 ∈ lw_good := in_good (List.mem_of_getElem? (i := 116) (by decide +kernel)) rfl
theorem nw_X8_26 : NW RX8 26 3 12 := ⟨RX3, TX3, tyX3, in_good (List.mem_of_getElem? (i := 238) (by decide +kernel)) rfl, in_good (List.mem_of_getElem? (i := 239) (by decide +kernel)) rfl, in_good (List.mem_of_getElem? (i := 79) (by decide +kernel)) rfl, iX3, tyX3_ok, rfl, by decide, by decide +kernel, fun j hj => by rcases (show j = 0 ∨ j = 1 ∨ j = 2 ∨ j = 3 ∨ j = 4 ∨ j = 5 ∨ j = 6 ∨ j = 7 ∨ j = 8 ∨ j = 9 ∨ j = 10 ∨ j = 11 by omega) with rfl | rfl | rfl | rfl | rfl | rfl | rfl | rfl | rfl | rfl | rfl | rfl <;> rfl⟩
theorem cl_X8_26 : Cond.classLink RX8 26 RX3 ∈ lw_good := in_good (List.mem_of_getElem? (i := 238) (by decide +kernel)) rfl
theorem nw_X8_43 : NW RX8 43 4 3 := ⟨RX4, TX4, tyX4, in_good (List.mem_of_getElem? (i := 285) (by decide +kernel)) rfl, in_good (List.mem_of_getElem? (i := 342) (by decide +kernel)) rfl, in_good (List.mem_of_getElem? (i := 82) (by decide +kernel)) rfl, iX4, tyX4_ok, rfl, by decide, by decide +kernel, fun j hj => by rcases (show j = 0 ∨ j = 1 ∨ j = 2 by omega) with rfl | rfl | rfl <;> rfl⟩
theorem cl_X8_43 : Cond.classLink RX8 43 RX4 ∈ lw_good := in_good (List.mem_of_getElem? (i := 285) (by decide +kernel)) rfl
theorem nw_X8_49 : NW RX8 49 1 8 := ⟨RX1, TX1, tyX1, in_good (List.mem_of_getElem? (i := 287) (by decide +kernel)) rfl, in_good (List.mem_of_getElem? (i := 288) (by decide +kernel)) rfl, in_good (List.mem_of_getElem? (i := 80) (by decide +kernel)) rfl, iX1, tyX1_ok, rfl, by decide, by decide +kernel, fun j hj => by rcases (show j = 0 ∨ j = 1 ∨ j = 2 ∨ j = 3 ∨ j = 4 ∨ j = 5 ∨ j = 6 ∨ j = 7 by omega) with rfl | rfl | rfl | rfl | rfl | rfl | rfl | rfl <;> rfl⟩
theorem cl_X8_49 : Cond.classLink RX8 49 RX1 ∈ lw_good := in_good (List.mem_of_getElem? (i := 287) (by decide +kernel)) rfl
theorem nw_X8_56 : NW RX8 56 2 5 := ⟨RX2, TX2, tyX2, in_good (List.mem_of_getElem? (i := 320) (by decide +kernel)) rfl, in_good (List.mem_of_getElem? (i := 321) (by decide +kernel)) rfl, in_good (List.mem_of_getElem? (i := 81) (by decide +kernel)) rfl, iX2, tyX2_ok, rfl, by decide, by decide +kernel, fun j hj => by rcases (show j = 0 ∨ j = 1 ∨ j = 2 ∨ j = 3 ∨ j = 4 by omega) with rfl | rfl | rfl | rfl | rfl <;> rfl⟩
theorem cl_X8_56 : Cond.classLink RX8 56 RX2 ∈ lw_good := in_good (List.mem_of_getElem? (i := 320) (by decide +kernel)) rfl
theorem nw_X7_9 : NW RX7 9 0 3 := ⟨RX0, TX0, tyX0, in_good (List.mem_of_getElem? (i := 122) (by decide +kernel)) rfl, in_good (List.mem_of_getElem? (i := 126) (by decide +kernel)) rfl, in_good (List.mem_of_getElem? (i := 77) (by decide +kernel)) rfl, iX0, tyX0_ok, rfl, by decide, by decide +kernel, fun j hj => by rcases (show j = 0 ∨ j = 1 ∨ j = 2 by omega) with rfl | rfl | rfl <;> rfl⟩
theorem cl_X7_9 : Cond.classLink RX7 9 RX0 ∈ lw_good := in_good (List.mem_of_getElem? (i := 122) (by decide +kernel)) rfl
theorem nw_X7_17 : NW RX7 17 6 8 := ⟨RX6, TX6, tyX6, in_good (List.mem_of_getElem? (i := 124) (by decide +kernel)) rfl, in_good (List.mem_of_getElem? (i := 151) (by decide +kernel)) rfl, in_good (List.mem_of_getElem? (i := 78) (by decide +kernel)) rfl, iX6, tyX6_ok, rfl, by decide, by decide +kernel, fun j hj => by rcases (show j = 0 ∨ j = 1 ∨ j = 2 ∨ j = 3 ∨ j = 4 ∨ j = 5 ∨ j = 6 ∨ j = 7 by omega) with rfl | rfl | rfl | rfl | rfl | rfl | rfl | rfl <;> rfl⟩
theorem cl_X7_17 : Cond.classLink RX7 17 RX6 ∈ lw_good := in_good (List.mem_of_getElem? (i := 124) (by decide +kernel)) rfl
theorem nw_L_7 : NW RL 7 8 16 := ⟨RX8, TX8, tyX8, in_good (List.mem_of_getElem? (i := 92) (by decide +kernel)) rfl, in_good (List.mem_of_getElem? (i := 93) (by decide +kernel)) rfl, in_good (List.mem_of_getElem? (i := 74) (by decide +kernel)) rfl, iX8, tyX8_ok, rfl, by decide, by decide +kernel, fun j hj => by rcases (show j = 0 ∨ j = 1 ∨ j = 2 ∨ j = 3 ∨ j = 4 ∨ j = 5 ∨ j = 6 ∨ j = 7 ∨ j = 8 ∨ j = 9 ∨ j = 10 ∨ j = 11 ∨ j = 12 ∨ j = 13 ∨ j = 14 ∨ j = 15 by omega) with rfl | rfl | rfl | rfl | rfl | rfl | rfl | rfl | rfl | rfl | rfl | rfl | rfl | rfl | rfl | rfl <;> rfl⟩
theorem cl_L_7 : Cond.classLink RL 7 RX8 ∈ lw_good := in_good (List.mem_of_getElem? (i := 92) (by decide +kernel)) rfl
theorem nw_L_10 : NW RL 10 9 38 := ⟨RX9, TX9, tyX9, in_good (List.mem_of_getElem? (i := 1000) (by decide +kernel)) rfl, in_good (List.mem_of_getElem? (i := 1001) (by decide +kernel)) rfl, in_good (List.mem_of_getElem? (i := 83) (by decide +kernel)) rfl, iX9, tyX9_ok, rfl, by decide, by decide +kernel, fun j hj => by rcases (show j = 0 ∨ j = 1 ∨ j = 2 ∨ j = 3 ∨ j = 4 ∨ j = 5 ∨ j = 6 ∨ j = 7 ∨ j = 8 ∨ j = 9 ∨ j = 10 ∨ j = 11 ∨ j = 12 ∨ j = 13 ∨ j = 14 ∨ j = 15 ∨ j = 16 ∨ j = 17 ∨ j = 18 ∨ j = 19 ∨ j = 20 ∨ j = 21 ∨ j = 22 ∨ j = 23 ∨ j = 24 ∨ j = 25 ∨ j = 26 ∨ j = 27 ∨ j = 28 ∨ j = 29 ∨ j = 30 ∨ j = 31 ∨ j = 32 ∨ j = 33 ∨ j = 34 ∨ j = 35 ∨ j = 36 ∨ j = 37 by omega) with rfl | rfl | rfl | rfl | rfl | rfl | rfl | rfl | rfl | rfl | rfl | rfl | rfl | rfl | rfl | rfl | rfl | rfl | rfl | rfl | rfl | rfl | rfl | rfl | rfl | rfl | rfl | rfl | rfl | rfl | rfl | rfl | rfl | rfl | rfl | rfl | rfl | rfl <;> rfl⟩
theorem cl_L_10 : Cond.classLink RL 10 RX9 ∈ lw_good := in_good (List.mem_of_getElem? (i := 1000) (by decide +kernel)) rfl
theorem ac_byte : Cond.arrayClass .byte ∈ lw_good := in_good (List.mem_of_getElem? (i := 115) (by decide +kernel)) rfl
theorem ac_int : Cond.arrayClass .int ∈ lw_good := in_good (List.mem_of_getElem? (i := 150) (by decide +kernel)) rfl
theorem ac_boolean : Cond.arrayClass .boolean ∈ lw_good := in_good (List.mem_of_getElem? (i := 319) (by decide +kernel)) rfl
theorem E.lset {X : XT} {G : GT} {cells slots n pc : Nat} {v : VT} {L L' : List (Option AV)} {S : List AV} (e : L = L') (k : E X G cells slots n v pc L' S) : E X G cells slots n v pc L S := by
  rw [e]
  exact k
theorem E.count {X : XT} {G : GT} {c c' s s' n pc : Nat} {v : VT} {L : List (Option AV)} {S S' : List AV} (e1 : c = c') (e2 : s = s') (e3 : S = S') (k : E X G c' s' n v pc L S') : E X G c s n v pc L S := by
  rw [e1, e2, e3]
  exact k
/-- nothing stands behind n -/
def Zb (n : Int) (v : VT) : Prop := ∀ r j, n < r → v r j = 0
def updL (v : VT) (l : List (Int × Int × Int)) : VT := l.foldl (fun v q => upd2 v q.1 q.2.1 q.2.2) v
theorem updL_app (v : VT) (a b : List (Int × Int × Int)) : updL v (a ++ b) = updL (updL v a) b := List.foldl_append
theorem updL_one (v : VT) (r i x : Int) : upd2 v r i x = updL v [(r, i, x)] := rfl
theorem updL_ne {r j : Int} : ∀ {l : List (Int × Int × Int)} {v : VT}, (∀ q ∈ l, ¬ (r = q.1 ∧ j = q.2.1)) → updL v l r j = v r j
  | [], _, _ => rfl
  | q :: l, v, h => by
    show updL (upd2 v q.1 q.2.1 q.2.2) l r j = v r j
    have h0 := h q List.mem_cons_self
    rw [updL_ne (fun q hq => h q (List.mem_cons_of_mem _ hq)), upd2_ne _ _ _ _ _ _ (by omega)]
theorem Zb.up {n r i x : Int} {v : VT} (h : Zb n v) (hr : r ≤ n) : Zb n (upd2 v r i x) := fun a j g => by
  rw [upd2_ne _ _ _ _ _ _ (Or.inl (by omega))]
  exact h a j g
theorem Zb.le {n m : Int} {v : VT} (h : Zb n v) (hr : n ≤ m) : Zb m v := fun a j g => h a j (by omega)
theorem Zb.upL {n : Int} : ∀ {l : List (Int × Int × Int)} {v : VT}, Zb n v → (∀ q ∈ l, q.1 ≤ n) → Zb n (updL v l)
  | [], _, h, _ => h
  | q :: l, v, h, hl => by
    show Zb n (updL (upd2 v q.1 q.2.1 q.2.2) l)
    exact Zb.upL (h.up (hl q List.mem_cons_self)) (fun q' hq => hl q' (List.mem_cons_of_mem _ hq))
