-- the law: its script, its calls
def scI (sc : Nat → Int32) (i : Int) : Int := (sc i.toNat).toInt
def LW (X : XT) (G : GT) (Ln : Nat) (sc : Nat → Int32) : Prop := va_X (adr G 0) Ln sc (xs X) (xs X).heap ∧ adr G 0 < (xs X).heap.size ∧ ¬ Afr G (adr G 0) ∧ Ln ≤ 2560 ∧ xR X = room_1 ∧ xn X = 4
section LAWR
variable {X : XT} {G : GT} {own : String} {cc bytes : ByteArray} {cells slots n maxL np fr lo : Nat} {v : VT} {pc : Nat} {L : List (Option AV)} {S S0 : List AV} {i b : Int} {index ci : Nat} {Ln : Nat} {sc : Nat → Int32} {As : List AV} {y : MethodName}
theorem E.sld (C : Cx X G own cc) (hw : LW X G Ln sc) (hd : decode cc pc = .ok (.iaload, 1)) (hi : 0 ≤ i ∧ i < (Ln : Int)) (kk : E X G cells slots n v (pc + 1) L (vi (scI sc i) :: S)) : E X G cells slots n v pc L (vi i :: vr 0 :: S) := by
  intro q1 q2 q3 H locs ls hw' hS hl2
  have ii : in32 i := ok_h q3
  refine va_sld C.1 C.2.1 hw.1 hw.2.1 hw.2.2.1 hS (jin_of hi.1 hi.2 ii) hd ?_
  rw [cl32 ii]
  have kk := kk q1 q2 (okc (show in32 (scI sc i) from toInt_in _) (ok_t (ok_t q3))) H locs ls hw' hS hl2
  rw [List.map_cons, show conc G (vi (scI sc i)) = .int (sc i.toNat) from congrArg Value.int (Int32.ofInt_toInt _)] at kk
  exact kk
theorem E.slen (C : Cx X G own cc) (hw : LW X G Ln sc) (hd : decode cc pc = .ok (.arraylength, 1)) (kk : E X G cells slots n v (pc + 1) L (vi (Ln : Int) :: S)) : E X G cells slots n v pc L (vr 0 :: S) := by
  intro q1 q2 q3 H locs ls hw' hS hl2
  refine va_slen C.1 C.2.1 hw.1 hw.2.1 hw.2.2.1 hS hd ?_
  have h25 := hw.2.2.2.1
  have kk := kk q1 q2 (okc (show in32 (Ln : Int) by omega) (ok_t q3)) H locs ls hw' hS hl2
  rw [List.map_cons, show conc G (vi (Ln : Int)) = .int (Int32.ofNat Ln) from congrArg Value.int (Int32.ofInt_eq_ofNat)] at kk
  exact kk
theorem E.callA (C : Cx X G own cc) (hw : LW X G Ln sc) {P : Int → VT → Prop} (hM : MNi G y bytes maxL (some .int) fr lo (vr b :: As) v P) (hy : YF y bytes maxL (some .int) np) (hV : Cond.instanceMethod y ∈ lw_good ∧ Cond.selects y.cls y y ∈ lw_good) (hl : ML own index y)
    (hnp : As.length = np) {q : vw_C} (hc : vwCl[ci]? = some q) (hq : q.1 = y.cls) (hs : kd b = ci) (hci : ci < 10) (hR : fr + 1 ≤ room_1.frames ∧ 8 + (maxL + 11) + lo ≤ room_1.locals) (hf : cells ≤ room_1.cells ∧ slots ≤ room_1.slots)
    (hcat : (S.map catA).sum ≤ 8) (hd : decode cc pc = .ok (.invokevirtual index, 3)) (hst : S0 = As.reverse ++ vr b :: S)
    (kk : ∀ x w, P x w → E X G cells slots 1000 w (pc + 3) L (vi x :: S)) : E X G cells slots 1000 v pc L S0 := by
  refine E.callV C hw.2.2.2.2.1 hM hy hV hl hnp hc hq hs hci (nle hs (by omega)) hR hf hcat hd hst (fun r n' w hq => ?_)
  obtain ⟨rfl, x, rfl, hp⟩ := hq
  exact kk x w hp
theorem E.callAl (C : Cx X G own cc) (hw : LW X G Ln sc) {P : Int → VT → Prop} (hM : MNl G y bytes maxL (some .long) fr lo (vr b :: As) v P) (hy : YF y bytes maxL (some .long) np) (hV : Cond.instanceMethod y ∈ lw_good ∧ Cond.selects y.cls y y ∈ lw_good) (hl : ML own index y)
    (hnp : As.length = np) {q : vw_C} (hc : vwCl[ci]? = some q) (hq : q.1 = y.cls) (hs : kd b = ci) (hci : ci < 10) (hR : fr + 1 ≤ room_1.frames ∧ 8 + (maxL + 11) + lo ≤ room_1.locals) (hf : cells ≤ room_1.cells ∧ slots ≤ room_1.slots)
    (hcat : (S.map catA).sum ≤ 8) (hd : decode cc pc = .ok (.invokevirtual index, 3)) (hst : S0 = As.reverse ++ vr b :: S)
    (kk : ∀ x w, P x w → E X G cells slots 1000 w (pc + 3) L (vl x :: S)) : E X G cells slots 1000 v pc L S0 := by
  refine E.callV C hw.2.2.2.2.1 hM hy hV hl hnp hc hq hs hci (nle hs (by omega)) hR hf hcat hd hst (fun r n' w hq => ?_)
  obtain ⟨rfl, x, rfl, hp⟩ := hq
  exact kk x w hp
end LAWR
