set_option maxHeartbeats 4000000 in
set_option maxRecDepth 20000 in
theorem ok_X1_make (G : GT) (o s sl : Int) (v : VT) (ho : isV o) (hW : WFV v o) (hsl : 0 ≤ sl ∧ sl ≤ 4) : MNv G yX1_make cX1_make 4 none 4 97 [vr 54, vr o, vi s, vi sl] v (fun w => MakeQ v o s sl w) := by
  refine MN.of pn_X1_make [some (vr 54), some (vr o), some (vi s), some (vi sl)] 0 rfl rfl (fun X C hX hn hR => ?_)
  have hN : ∀ i : Nat, i < 4 → i < xn X := fun i h => by rw [hn]; exact h
  refine E.rngk (fun hinv => ?_)
  refine E.loc (fun hloc => ?_)
  have hin_2 : in32 s := hloc _ (List.mem_of_getElem? (i := 2) rfl)
  have hin_3 : in32 sl := hloc _ (List.mem_of_getElem? (i := 3) rfl)
  have hW1 := hW.1
  have hW2 := hW.2.1
  have hbq := beg_all (s := s) (sl := sl) hW.1 hW.2.1
  obtain ⟨b5, b6, b7, b8, b9, b10, -, -, -, -⟩ := id hbq
  refine E.aload_n C dX1_make_0 rfl rfl ?_
  refine E.aload_n C dX1_make_1 rfl rfl ?_
  refine E.iload_n C dX1_make_2 rfl rfl ?_
  refine E.iload_n C dX1_make_3 rfl rfl ?_
  refine N.callVe (S := []) (As := [vr o, vi s, vi sl]) C hX (ok_X1_begin G o s sl v ho hW.1 hW.2.1 hW.th hW.fz ⟨by omega, by omega⟩) yf_X1_begin yv_X1_begin ml_X1_27 rfl rfl rfl kd_54 (by decide) (by decide) (Nat.le_of_ble_eq_true rfl) dX1_make_4 rfl ?_
  refine E.aload_n C dX1_make_7 rfl rfl ?_
  refine N.callVv (S := []) (As := []) C hX (ok_X1_warmAll G (begF v o s sl (v o 4) (v o 4) 0) (by rw [b5]; exact hW.1) (by rw [b6]; omega) (by rw [b5, b6]; exact b7) (by rw [b5]; exact b8) (by rw [b5]; exact b9) (by rw [b5, b6]; exact b10)) yf_X1_warmAll yv_X1_warmAll ml_X1_31 rfl rfl rfl kd_54 (by decide) (by decide) (Nat.le_of_ble_eq_true rfl) dX1_make_8 rfl (fun w8 hp8 => ?_)
  rw [b5, b6] at hp8
  have e5 : w8 54 5 = v o 4 := (hp8.1 _ _ (Or.inr (by decide)) (by decide)).trans b5
  have e6 : w8 54 6 = v o 5 := (hp8.1 _ _ (Or.inr (by decide)) (by decide)).trans b6
  have e55 : w8 55 = _ := funext (fun j => hp8.1 55 j (Or.inl (by decide)) (by decide))
  refine E.aload_n C dX1_make_11 rfl rfl ?_
  refine N.callVv (S := []) (As := []) C hX (ok_X1_putInOrder G (w8 54 7) w8 (by rw [e5]; exact hW.1) (by rw [e6]; omega) (by rw [e5, e6, e55]; exact b10) (by rw [e5, e6]; exact hp8.2.1) (by rw [e5, e6, e55]; exact hp8.2.2)) yf_X1_putInOrder yv_X1_putInOrder ml_X1_34 rfl rfl rfl kd_54 (by decide) (by decide) (Nat.le_of_ble_eq_true rfl) dX1_make_12 rfl (fun w12 hp12 => ?_)
  exact N.vret C hR dX1_make_15 (fun hi => by exact make_all hbq hp8.1 hp12)
