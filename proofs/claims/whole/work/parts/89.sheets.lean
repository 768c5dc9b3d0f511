set_option maxHeartbeats 4000000 in
set_option maxRecDepth 20000 in
theorem ok_X4_isNothing (G : GT) (r : Int) (v : VT) (hs : kd r = 4) : MP G yX4_isNothing cX4_isNothing 1 (some .boolean) 0 0 [vr r] v (if v r 1 = -4 then 1 else 0) := by
  refine MN.of pn_X4_isNothing [some (vr r)] 0 rfl rfl (fun X C hX hn hR => ?_)
  have hN : ∀ i : Nat, i < 1 → i < xn X := fun i h => by rw [hn]; exact h
  refine E.rngk (fun hinv => ?_)
  refine E.loc (fun hloc => ?_)
  refine E.aload_n C dX4_isNothing_0 rfl rfl ?_
  refine N.getI C fa_X4_15 rfl dX4_isNothing_1 hs (x := v r 1) rfl ?_
  refine E.bipush C dX4_isNothing_4 (by decide) ?_
  refine E.icmp_ne C dX4_isNothing_6 (tgt := 13) (by decide) (fun h6 => ?_) (fun h6 => ?_)
  · skip
    refine E.iconst C dX4_isNothing_13 (by decide) ?_
    exact N.zret C hR dX4_isNothing_14 (by omega) (fun hi => by refine ⟨?_, rfl⟩; split <;> omega)
  · skip
    refine E.iconst C dX4_isNothing_9 (by decide) ?_
    refine E.goto C dX4_isNothing_10 (tgt := 14) (by decide) ?_
    exact N.zret C hR dX4_isNothing_14 (by omega) (fun hi => by refine ⟨?_, rfl⟩; split <;> omega)

set_option maxHeartbeats 4000000 in
set_option maxRecDepth 20000 in
theorem ok_X4_hasCell (G : GT) (r i : Int) (v : VT) (hs : kd r = 4) : MP G yX4_hasCell cX4_hasCell 2 (some .boolean) 0 0 [vr r, vi i] v (if 0 ≤ i ∧ i < v r 2 then 1 else 0) := by
  refine MN.of pn_X4_hasCell [some (vr r), some (vi i)] 0 rfl rfl (fun X C hX hn hR => ?_)
  have hN : ∀ i : Nat, i < 2 → i < xn X := fun i h => by rw [hn]; exact h
  refine E.rngk (fun hinv => ?_)
  refine E.loc (fun hloc => ?_)
  have hin_1 : in32 i := hloc _ (List.mem_of_getElem? (i := 1) rfl)
  refine E.iload_n C dX4_hasCell_0 rfl rfl ?_
  refine E.if_lt C dX4_hasCell_1 (tgt := 16) (by decide) (fun h1 => ?_) (fun h1 => ?_)
  · skip
    refine E.iconst C dX4_hasCell_16 (by decide) ?_
    exact N.zret C hR dX4_hasCell_17 (by omega) (fun hi => by refine ⟨?_, rfl⟩; split <;> omega)
  · skip
    refine E.iload_n C dX4_hasCell_4 rfl rfl ?_
    refine E.aload_n C dX4_hasCell_5 rfl rfl ?_
    refine N.getI C fa_X4_19 rfl dX4_hasCell_6 hs (x := v r 2) rfl ?_
    refine E.icmp_ge C dX4_hasCell_9 (tgt := 16) (by decide) (fun h9 => ?_) (fun h9 => ?_)
    · skip
      refine E.iconst C dX4_hasCell_16 (by decide) ?_
      exact N.zret C hR dX4_hasCell_17 (by omega) (fun hi => by refine ⟨?_, rfl⟩; split <;> omega)
    · skip
      refine E.iconst C dX4_hasCell_12 (by decide) ?_
      refine E.goto C dX4_hasCell_13 (tgt := 17) (by decide) ?_
      exact N.zret C hR dX4_hasCell_17 (by omega) (fun hi => by refine ⟨?_, rfl⟩; split <;> omega)

set_option maxHeartbeats 4000000 in
set_option maxRecDepth 20000 in
theorem ok_X4_cellAt (G : GT) (r i : Int) (v : VT) (hs : kd r = 4) (hl : 0 ≤ v r 2 ∧ v r 2 ≤ 40) : MP G yX4_cellAt cX4_cellAt 2 (some .int) 1 21 [vr r, vi i] v (if 0 ≤ i ∧ i < v r 2 then v (r + 1) i else 0) := by
  refine MN.of pn_X4_cellAt [some (vr r), some (vi i)] 0 rfl rfl (fun X C hX hn hR => ?_)
  have hN : ∀ i : Nat, i < 2 → i < xn X := fun i h => by rw [hn]; exact h
  refine E.rngk (fun hinv => ?_)
  refine E.loc (fun hloc => ?_)
  have hin_1 : in32 i := hloc _ (List.mem_of_getElem? (i := 1) rfl)
  refine E.aload_n C dX4_cellAt_0 rfl rfl ?_
  refine E.iload_n C dX4_cellAt_1 rfl rfl ?_
  refine N.callVp (S := []) (As := [vi i]) C hX (ok_X4_hasCell G r i v hs) yf_X4_hasCell yv_X4_hasCell ml_X4_22 rfl rfl rfl hs (by decide) (by decide) (Nat.le_of_ble_eq_true rfl) dX4_cellAt_2 rfl ?_
  refine E.if_eq C dX4_cellAt_5 (tgt := 17) (by decide) (fun h5 => ?_) (fun h5 => ?_)
  · have h5 := b0.mp h5
    refine E.iconst C dX4_cellAt_17 (by decide) ?_
    exact N.iret C hR dX4_cellAt_18 (fun hi hx => by refine ⟨?_, rfl⟩; split <;> first | rfl | omega)
  · have h5 := b0n.mp h5
    refine E.aload_n C dX4_cellAt_8 rfl rfl ?_
    refine N.getR C fa_X4_9 rfl dX4_cellAt_9 hs (x := r + 1) (rvS hs) (posS hs) ?_
    refine E.iload_n C dX4_cellAt_12 rfl rfl ?_
    refine N.iald C dX4_cellAt_13 (kdSc hs) (lnSc hs) (by omega) (x := v (r + 1) i) rfl ?_
    refine E.goto C dX4_cellAt_14 (tgt := 18) (by decide) ?_
    exact N.iret C hR dX4_cellAt_18 (fun hi hx => by refine ⟨?_, rfl⟩; split <;> first | rfl | omega)

set_option maxHeartbeats 4000000 in
set_option maxRecDepth 20000 in
theorem ok_X4_renew (G : GT) (r a b : Int) (v : VT) (hs : kd r = 4) : MVe G yX4_renew cX4_renew 3 none 1 23 [vr r, vi a, vi b] v (fillF (upd2 (upd2 v r 1 a) r 2 b) (r + 1) 0 40) := by
  refine MN.of pn_X4_renew [some (vr r), some (vi a), some (vi b)] 0 rfl rfl (fun X C hX hn hR => ?_)
  have hN : ∀ i : Nat, i < 3 → i < xn X := fun i h => by rw [hn]; exact h
  refine E.rngk (fun hinv => ?_)
  refine E.loc (fun hloc => ?_)
  have hin_1 : in32 a := hloc _ (List.mem_of_getElem? (i := 1) rfl)
  have hin_2 : in32 b := hloc _ (List.mem_of_getElem? (i := 2) rfl)
  refine E.aload_n C dX4_renew_0 rfl rfl ?_
  refine E.iload_n C dX4_renew_1 rfl rfl ?_
  refine N.putI C fp_X4_15 rfl dX4_renew_2 hs ?_
  refine E.aload_n C dX4_renew_5 rfl rfl ?_
  refine E.iload_n C dX4_renew_6 rfl rfl ?_
  refine N.putI C fp_X4_19 rfl dX4_renew_7 hs ?_
  refine E.aload_n C dX4_renew_10 rfl rfl ?_
  refine N.getR C fa_X4_9 rfl dX4_renew_11 hs (x := r + 1) (rvS hs) (posS hs) ?_
  refine E.iconst C dX4_renew_14 (by decide) ?_
  refine N.callSe (S := []) (As := [vr (r + 1), vi 0]) C hX (ok_J7_fill_53178 G (r + 1) 0 40 (upd2 (upd2 v r 1 a) r 2 b) (kdSc hs) (lnSc hs) (by decide)) yf_J7_fill_53178 yv_J7_fill_53178 ml_X4_26 rfl (by decide) (Nat.le_of_ble_eq_true rfl) dX4_renew_15 rfl ?_
  exact N.vret C hR dX4_renew_18 (fun hi => by rfl)

set_option maxHeartbeats 4000000 in
set_option maxRecDepth 20000 in
theorem ok_X4_faultAs (G : GT) (r l : Int) (v : VT) (hs : kd r = 4) : MP G yX4_faultAs cX4_faultAs 2 (some .int) 1 20 [vr r, vi l] v (if v r 1 = -4 then 1 else if v r 1 = l then 0 else 3) := by
  refine MN.of pn_X4_faultAs [some (vr r), some (vi l)] 0 rfl rfl (fun X C hX hn hR => ?_)
  have hN : ∀ i : Nat, i < 2 → i < xn X := fun i h => by rw [hn]; exact h
  refine E.rngk (fun hinv => ?_)
  refine E.loc (fun hloc => ?_)
  have hin_1 : in32 l := hloc _ (List.mem_of_getElem? (i := 1) rfl)
  refine E.aload_n C dX4_faultAs_0 rfl rfl ?_
  refine N.callVp (S := []) (As := []) C hX (ok_X4_isNothing G r v hs) yf_X4_isNothing yv_X4_isNothing ml_X4_32 rfl rfl rfl hs (by decide) (by decide) (Nat.le_of_ble_eq_true rfl) dX4_faultAs_1 rfl ?_
  refine E.if_eq C dX4_faultAs_4 (tgt := 9) (by decide) (fun h4 => ?_) (fun h4 => ?_)
  · have h4 := b0.mp h4
    refine E.aload_n C dX4_faultAs_9 rfl rfl ?_
    refine N.getI C fa_X4_15 rfl dX4_faultAs_10 hs (x := v r 1) rfl ?_
    refine E.iload_n C dX4_faultAs_13 rfl rfl ?_
    refine E.icmp_ne C dX4_faultAs_14 (tgt := 21) (by decide) (fun h14 => ?_) (fun h14 => ?_)
    · skip
      refine E.iconst C dX4_faultAs_21 (by decide) ?_
      exact N.iret C hR dX4_faultAs_22 (fun hi hx => by refine ⟨?_, rfl⟩; (repeat' split) <;> omega)
    · skip
      refine E.iconst C dX4_faultAs_17 (by decide) ?_
      refine E.goto C dX4_faultAs_18 (tgt := 22) (by decide) ?_
      exact N.iret C hR dX4_faultAs_22 (fun hi hx => by refine ⟨?_, rfl⟩; (repeat' split) <;> omega)
  · have h4 := b0n.mp h4
    refine E.iconst C dX4_faultAs_7 (by decide) ?_
    exact N.iret C hR dX4_faultAs_8 (fun hi hx => by refine ⟨?_, rfl⟩; (repeat' split) <;> omega)

set_option maxHeartbeats 4000000 in
set_option maxRecDepth 20000 in
theorem ok_X4_setCell (G : GT) (r i x : Int) (v : VT) (hs : kd r = 4) (hi2 : 0 ≤ i ∧ i < 40) : MVe G yX4_setCell cX4_setCell 3 none 0 0 [vr r, vi i, vi x] v (upd2 v (r + 1) i (laneV (v r 1) x)) := by
  refine MN.of pn_X4_setCell [some (vr r), some (vi i), some (vi x)] 0 rfl rfl (fun X C hX hn hR => ?_)
  have hN : ∀ i : Nat, i < 3 → i < xn X := fun i h => by rw [hn]; exact h
  refine E.rngk (fun hinv => ?_)
  refine E.loc (fun hloc => ?_)
  have hin_1 : in32 i := hloc _ (List.mem_of_getElem? (i := 1) rfl)
  have hin_2 : in32 x := hloc _ (List.mem_of_getElem? (i := 2) rfl)
  refine E.aload_n C dX4_setCell_0 rfl rfl ?_
  refine N.getI C fa_X4_15 rfl dX4_setCell_1 hs (x := v r 1) rfl ?_
  by_cases hk4_0 : (v r 1) = 0
  · refine E.lookup C dX4_setCell_4 (off := 28) (tgt := 32) (by decide) (by rw [hk4_0]; decide) (by decide) ?_
    refine E.aload_n C dX4_setCell_32 rfl rfl ?_
    refine N.getR C fa_X4_9 rfl dX4_setCell_33 hs (x := r + 1) (rvS hs) (posS hs) ?_
    refine E.iload_n C dX4_setCell_36 rfl rfl ?_
    refine E.iload_n C dX4_setCell_37 rfl rfl ?_
    refine E.i2b C dX4_setCell_38 ?_
    refine N.iast C dX4_setCell_39 (kdSc hs) (lnSc hs) (by omega) ?_
    refine E.goto C dX4_setCell_40 (tgt := 61) (by decide) ?_
    exact N.vret C hR dX4_setCell_61 (fun hi => by unfold laneV; first | (rw [if_pos (by omega)]; done) | (rw [if_neg (by omega), if_pos (by omega)]; done) | (rw [if_neg (by omega), if_neg (by omega)]; done))
  · skip
    by_cases hk4_1 : (v r 1) = 1
    · refine E.lookup C dX4_setCell_4 (off := 39) (tgt := 43) (by decide) (by rw [hk4_1]; decide) (by decide) ?_
      refine E.aload_n C dX4_setCell_43 rfl rfl ?_
      refine N.getR C fa_X4_9 rfl dX4_setCell_44 hs (x := r + 1) (rvS hs) (posS hs) ?_
      refine E.iload_n C dX4_setCell_47 rfl rfl ?_
      refine E.iload_n C dX4_setCell_48 rfl rfl ?_
      refine E.i2s C dX4_setCell_49 ?_
      refine N.iast C dX4_setCell_50 (kdSc hs) (lnSc hs) (by omega) ?_
      refine E.goto C dX4_setCell_51 (tgt := 61) (by decide) ?_
      exact N.vret C hR dX4_setCell_61 (fun hi => by unfold laneV; first | (rw [if_pos (by omega)]; done) | (rw [if_neg (by omega), if_pos (by omega)]; done) | (rw [if_neg (by omega), if_neg (by omega)]; done))
    · skip
      refine E.lookup C dX4_setCell_4 (off := 50) (tgt := 54) (by decide) (by show (if (0 : Int) = v r 1 then (28 : Int) else if (1 : Int) = v r 1 then 39 else 50) = 50; rw [if_neg (by omega), if_neg (by omega)]) (by decide) ?_
      refine E.aload_n C dX4_setCell_54 rfl rfl ?_
      refine N.getR C fa_X4_9 rfl dX4_setCell_55 hs (x := r + 1) (rvS hs) (posS hs) ?_
      refine E.iload_n C dX4_setCell_58 rfl rfl ?_
      refine E.iload_n C dX4_setCell_59 rfl rfl ?_
      refine N.iast C dX4_setCell_60 (kdSc hs) (lnSc hs) (by omega) ?_
      exact N.vret C hR dX4_setCell_61 (fun hi => by unfold laneV; first | (rw [if_pos (by omega)]; done) | (rw [if_neg (by omega), if_pos (by omega)]; done) | (rw [if_neg (by omega), if_neg (by omega)]; done))

set_option maxHeartbeats 4000000 in
set_option maxRecDepth 20000 in
theorem ok_X8_sheet (G : GT) (k l n : Int) (v : VT) : MNi G yX8_sheet cX8_sheet 4 (some .int) 2 45 [vr 1, vi k, vi l, vi n] v (fun x w => (¬ ((0 ≤ k ∧ k ≤ 3) ∧ (0 ≤ l ∧ l ≤ 2) ∧ n ≤ 40) ∧ x = -1 ∧ w = v) ∨ (((0 ≤ k ∧ k ≤ 3) ∧ (0 ≤ l ∧ l ≤ 2) ∧ n ≤ 40) ∧ n < 0 ∧ x = -14 ∧ w = v) ∨ (((0 ≤ k ∧ k ≤ 3) ∧ (0 ≤ l ∧ l ≤ 2) ∧ n ≤ 40) ∧ 0 ≤ n ∧ x = 1 ∧ w = fillF (upd2 (upd2 v (111 + 2 * k) 1 l) (111 + 2 * k) 2 n) (111 + 2 * k + 1) 0 40)) := by
  refine MN.of pn_X8_sheet [some (vr 1), some (vi k), some (vi l), some (vi n)] 0 rfl rfl (fun X C hX hn hR => ?_)
  have hN : ∀ i : Nat, i < 4 → i < xn X := fun i h => by rw [hn]; exact h
  refine E.rngk (fun hinv => ?_)
  refine E.loc (fun hloc => ?_)
  have hin_1 : in32 k := hloc _ (List.mem_of_getElem? (i := 1) rfl)
  have hin_2 : in32 l := hloc _ (List.mem_of_getElem? (i := 2) rfl)
  have hin_3 : in32 n := hloc _ (List.mem_of_getElem? (i := 3) rfl)
  refine E.iload_n C dX8_sheet_0 rfl rfl ?_
  refine N.callSp (S := []) (As := [vi k]) C hX (ok_X8_isSheet G k v) yf_X8_isSheet yv_X8_isSheet ml_X8_302 rfl (by decide) (Nat.le_of_ble_eq_true rfl) dX8_sheet_1 rfl ?_
  refine E.if_eq C dX8_sheet_4 (tgt := 20) (by decide) (fun h4 => ?_) (fun h4 => ?_)
  · have h4 := b0.mp h4
    refine E.iconst C dX8_sheet_20 (by decide) ?_
    exact N.iret C hR dX8_sheet_21 (fun hi hx => by first | exact Or.inl ⟨by omega, rfl, rfl⟩ | exact Or.inr (Or.inl ⟨by omega, by omega, rfl, rfl⟩) | exact Or.inr (Or.inr ⟨by omega, by omega, rfl, rfl⟩))
  · have h4 := b0n.mp h4
    refine E.iload_n C dX8_sheet_7 rfl rfl ?_
    refine N.callSp (S := []) (As := [vi l]) C hX (ok_X8_isLane G l v) yf_X8_isLane yv_X8_isLane ml_X8_305 rfl (by decide) (Nat.le_of_ble_eq_true rfl) dX8_sheet_8 rfl ?_
    refine E.if_eq C dX8_sheet_11 (tgt := 20) (by decide) (fun h11 => ?_) (fun h11 => ?_)
    · have h11 := b0.mp h11
      refine E.iconst C dX8_sheet_20 (by decide) ?_
      exact N.iret C hR dX8_sheet_21 (fun hi hx => by first | exact Or.inl ⟨by omega, rfl, rfl⟩ | exact Or.inr (Or.inl ⟨by omega, by omega, rfl, rfl⟩) | exact Or.inr (Or.inr ⟨by omega, by omega, rfl, rfl⟩))
    · have h11 := b0n.mp h11
      refine E.iload_n C dX8_sheet_14 rfl rfl ?_
      refine E.bipush C dX8_sheet_15 (by decide) ?_
      refine E.icmp_le C dX8_sheet_17 (tgt := 22) (by decide) (fun h17 => ?_) (fun h17 => ?_)
      · skip
        refine E.iload_n C dX8_sheet_22 rfl rfl ?_
        refine E.if_ge C dX8_sheet_23 (tgt := 29) (by decide) (fun h23 => ?_) (fun h23 => ?_)
        · skip
          refine E.aload_n C dX8_sheet_29 rfl rfl ?_
          refine N.getR C fa_X8_45 rfl dX8_sheet_30 kd_1 (x := 53) (by decide +kernel) (by decide) ?_
          refine E.iload_n C dX8_sheet_33 rfl rfl ?_
          refine N.aald C (t := 4) (by decide) dX8_sheet_34 kd_53 ln_53 (by omega) (x := 111 + 2 * k) (rvSh (by omega)) (by omega) ?_
          refine E.iload_n C dX8_sheet_35 rfl rfl ?_
          refine E.iload_n C dX8_sheet_36 rfl rfl ?_
          refine N.callVe (S := []) (As := [vi l, vi n]) C hX (ok_X4_renew G (111 + 2 * k) l n v (kdSh (by omega))) yf_X4_renew yv_X4_renew ml_X8_308 rfl rfl rfl (kdSh (by omega)) (by decide) (by decide) (Nat.le_of_ble_eq_true rfl) dX8_sheet_37 rfl ?_
          refine E.iconst C dX8_sheet_40 (by decide) ?_
          exact N.iret C hR dX8_sheet_41 (fun hi hx => by first | exact Or.inl ⟨by omega, rfl, rfl⟩ | exact Or.inr (Or.inl ⟨by omega, by omega, rfl, rfl⟩) | exact Or.inr (Or.inr ⟨by omega, by omega, rfl, rfl⟩))
        · skip
          refine E.bipush C dX8_sheet_26 (by decide) ?_
          exact N.iret C hR dX8_sheet_28 (fun hi hx => by first | exact Or.inl ⟨by omega, rfl, rfl⟩ | exact Or.inr (Or.inl ⟨by omega, by omega, rfl, rfl⟩) | exact Or.inr (Or.inr ⟨by omega, by omega, rfl, rfl⟩))
      · skip
        refine E.iconst C dX8_sheet_20 (by decide) ?_
        exact N.iret C hR dX8_sheet_21 (fun hi hx => by first | exact Or.inl ⟨by omega, rfl, rfl⟩ | exact Or.inr (Or.inl ⟨by omega, by omega, rfl, rfl⟩) | exact Or.inr (Or.inr ⟨by omega, by omega, rfl, rfl⟩))

set_option maxHeartbeats 4000000 in
set_option maxRecDepth 20000 in
theorem ok_X8_lay (G : GT) (k i x0 : Int) (v : VT) (hlen : ∀ k, 0 ≤ k → k < 4 → 0 ≤ v (111 + 2 * k) 2 ∧ v (111 + 2 * k) 2 ≤ 40) : MNi G yX8_lay cX8_lay 4 (some .int) 2 42 [vr 1, vi k, vi i, vi x0] v (fun x w => (¬ (0 ≤ k ∧ k ≤ 3) ∧ x = -1 ∧ w = v) ∨ ((0 ≤ k ∧ k ≤ 3) ∧ v (111 + 2 * k) 1 = -4 ∧ x = -11 ∧ w = v) ∨ ((0 ≤ k ∧ k ≤ 3) ∧ ¬ v (111 + 2 * k) 1 = -4 ∧ ¬ (0 ≤ i ∧ i < v (111 + 2 * k) 2) ∧ x = -12 ∧ w = v) ∨ ((0 ≤ k ∧ k ≤ 3) ∧ ¬ v (111 + 2 * k) 1 = -4 ∧ (0 ≤ i ∧ i < v (111 + 2 * k) 2) ∧ x = 1 ∧ w = upd2 v (111 + 2 * k + 1) i (laneV (v (111 + 2 * k) 1) x0))) := by
  refine MN.of pn_X8_lay [some (vr 1), some (vi k), some (vi i), some (vi x0)] 0 rfl rfl (fun X C hX hn hR => ?_)
  have hN : ∀ i : Nat, i < 4 → i < xn X := fun i h => by rw [hn]; exact h
  refine E.rngk (fun hinv => ?_)
  refine E.loc (fun hloc => ?_)
  have hin_1 : in32 k := hloc _ (List.mem_of_getElem? (i := 1) rfl)
  have hin_2 : in32 i := hloc _ (List.mem_of_getElem? (i := 2) rfl)
  have hin_3 : in32 x0 := hloc _ (List.mem_of_getElem? (i := 3) rfl)
  refine E.iload_n C dX8_lay_0 rfl rfl ?_
  refine N.callSp (S := []) (As := [vi k]) C hX (ok_X8_isSheet G k v) yf_X8_isSheet yv_X8_isSheet ml_X8_302 rfl (by decide) (Nat.le_of_ble_eq_true rfl) dX8_lay_1 rfl ?_
  refine E.if_ne C dX8_lay_4 (tgt := 9) (by decide) (fun h4 => ?_) (fun h4 => ?_)
  · have h4 := b0n.mp h4
    have hlk := hlen k (by omega) (by omega)
    refine E.aload_n C dX8_lay_9 rfl rfl ?_
    refine N.getR C fa_X8_45 rfl dX8_lay_10 kd_1 (x := 53) (by decide +kernel) (by decide) ?_
    refine E.iload_n C dX8_lay_13 rfl rfl ?_
    refine N.aald C (t := 4) (by decide) dX8_lay_14 kd_53 ln_53 (by omega) (x := 111 + 2 * k) (rvSh (by omega)) (by omega) ?_
    refine N.callVp (S := []) (As := []) C hX (ok_X4_isNothing G (111 + 2 * k) v (kdSh (by omega))) yf_X4_isNothing yv_X4_isNothing ml_X8_311 rfl rfl rfl (kdSh (by omega)) (by decide) (by decide) (Nat.le_of_ble_eq_true rfl) dX8_lay_15 rfl ?_
    refine E.if_eq C dX8_lay_18 (tgt := 24) (by decide) (fun h18 => ?_) (fun h18 => ?_)
    · have h18 := b0.mp h18
      refine E.aload_n C dX8_lay_24 rfl rfl ?_
      refine N.getR C fa_X8_45 rfl dX8_lay_25 kd_1 (x := 53) (by decide +kernel) (by decide) ?_
      refine E.iload_n C dX8_lay_28 rfl rfl ?_
      refine N.aald C (t := 4) (by decide) dX8_lay_29 kd_53 ln_53 (by omega) (x := 111 + 2 * k) (rvSh (by omega)) (by omega) ?_
      refine E.iload_n C dX8_lay_30 rfl rfl ?_
      refine N.callVp (S := []) (As := [vi i]) C hX (ok_X4_hasCell G (111 + 2 * k) i v (kdSh (by omega))) yf_X4_hasCell yv_X4_hasCell ml_X8_315 rfl rfl rfl (kdSh (by omega)) (by decide) (by decide) (Nat.le_of_ble_eq_true rfl) dX8_lay_31 rfl ?_
      refine E.if_ne C dX8_lay_34 (tgt := 40) (by decide) (fun h34 => ?_) (fun h34 => ?_)
      · have h34 := b0n.mp h34
        refine E.aload_n C dX8_lay_40 rfl rfl ?_
        refine N.getR C fa_X8_45 rfl dX8_lay_41 kd_1 (x := 53) (by decide +kernel) (by decide) ?_
        refine E.iload_n C dX8_lay_44 rfl rfl ?_
        refine N.aald C (t := 4) (by decide) dX8_lay_45 kd_53 ln_53 (by omega) (x := 111 + 2 * k) (rvSh (by omega)) (by omega) ?_
        refine E.iload_n C dX8_lay_46 rfl rfl ?_
        refine E.iload_n C dX8_lay_47 rfl rfl ?_
        refine N.callVe (S := []) (As := [vi i, vi x0]) C hX (ok_X4_setCell G (111 + 2 * k) i x0 v (kdSh (by omega)) (by omega)) yf_X4_setCell yv_X4_setCell ml_X8_318 rfl rfl rfl (kdSh (by omega)) (by decide) (by decide) (Nat.le_of_ble_eq_true rfl) dX8_lay_48 rfl ?_
        refine E.iconst C dX8_lay_51 (by decide) ?_
        exact N.iret C hR dX8_lay_52 (fun hi hx => by first | exact Or.inl ⟨by omega, rfl, rfl⟩ | exact Or.inr (Or.inl ⟨by omega, by omega, rfl, rfl⟩) | exact Or.inr (Or.inr (Or.inl ⟨by omega, by omega, by omega, rfl, rfl⟩)) | exact Or.inr (Or.inr (Or.inr ⟨by omega, by omega, by omega, rfl, rfl⟩)))
      · have h34 := b0.mp h34
        refine E.bipush C dX8_lay_37 (by decide) ?_
        exact N.iret C hR dX8_lay_39 (fun hi hx => by first | exact Or.inl ⟨by omega, rfl, rfl⟩ | exact Or.inr (Or.inl ⟨by omega, by omega, rfl, rfl⟩) | exact Or.inr (Or.inr (Or.inl ⟨by omega, by omega, by omega, rfl, rfl⟩)) | exact Or.inr (Or.inr (Or.inr ⟨by omega, by omega, by omega, rfl, rfl⟩)))
    · have h18 := b0n.mp h18
      refine E.bipush C dX8_lay_21 (by decide) ?_
      exact N.iret C hR dX8_lay_23 (fun hi hx => by first | exact Or.inl ⟨by omega, rfl, rfl⟩ | exact Or.inr (Or.inl ⟨by omega, by omega, rfl, rfl⟩) | exact Or.inr (Or.inr (Or.inl ⟨by omega, by omega, by omega, rfl, rfl⟩)) | exact Or.inr (Or.inr (Or.inr ⟨by omega, by omega, by omega, rfl, rfl⟩)))
  · have h4 := b0.mp h4
    refine E.iconst C dX8_lay_7 (by decide) ?_
    exact N.iret C hR dX8_lay_8 (fun hi hx => by first | exact Or.inl ⟨by omega, rfl, rfl⟩ | exact Or.inr (Or.inl ⟨by omega, by omega, rfl, rfl⟩) | exact Or.inr (Or.inr (Or.inl ⟨by omega, by omega, by omega, rfl, rfl⟩)) | exact Or.inr (Or.inr (Or.inr ⟨by omega, by omega, by omega, rfl, rfl⟩)))

set_option maxHeartbeats 4000000 in
set_option maxRecDepth 20000 in
theorem ok_X8_torn (G : GT) (v : VT) : MP G yX8_torn cX8_torn 1 (some .int) 0 0 [vr 1] v (v 1 12) := by
  refine MN.of pn_X8_torn [some (vr 1)] 0 rfl rfl (fun X C hX hn hR => ?_)
  have hN : ∀ i : Nat, i < 1 → i < xn X := fun i h => by rw [hn]; exact h
  refine E.rngk (fun hinv => ?_)
  refine E.loc (fun hloc => ?_)
  refine E.aload_n C dX8_torn_0 rfl rfl ?_
  refine N.getI C fa_X8_74 rfl dX8_torn_1 kd_1 (x := v 1 12) rfl ?_
  exact N.iret C hR dX8_torn_4 (fun hi hx => by exact ⟨rfl, rfl⟩)

set_option maxHeartbeats 4000000 in
set_option maxRecDepth 20000 in
theorem ok_X8_fault (G : GT) (v : VT) : MP G yX8_fault cX8_fault 1 (some .int) 0 0 [vr 1] v (v 1 11) := by
  refine MN.of pn_X8_fault [some (vr 1)] 0 rfl rfl (fun X C hX hn hR => ?_)
  have hN : ∀ i : Nat, i < 1 → i < xn X := fun i h => by rw [hn]; exact h
  refine E.rngk (fun hinv => ?_)
  refine E.loc (fun hloc => ?_)
  refine E.aload_n C dX8_fault_0 rfl rfl ?_
  refine N.getI C fa_X8_71 rfl dX8_fault_1 kd_1 (x := v 1 11) rfl ?_
  exact N.iret C hR dX8_fault_4 (fun hi hx => by exact ⟨rfl, rfl⟩)

set_option maxHeartbeats 4000000 in
set_option maxRecDepth 20000 in
theorem ok_X8_count (G : GT) (k : Int) (v : VT) (hW : WFV v 4) (h01 : ∀ k, 0 ≤ k → k < 2 → v 52 k = 0 ∨ v 52 k = 1) : MNi G yX8_count cX8_count 2 (some .int) 2 43 [vr 1, vi k] v (fun x w => w = v ∧ x = (if k = 0 then v 4 4 else if k = 1 then v 4 5 else if k = 2 then v 4 6 else if k = 3 then cntN (fun t => decide (outI (v (4 + 13 + t) 1) (v (4 + 13 + t) 3) (v (4 + 13 + t) 4) = 1)) (v 4 5).toNat else if k = 4 then v 52 0 + v 52 1 else if k = 5 then v 2 1 else if k = 6 then (if v 111 1 = -4 then -4 else v 111 2) else if k = 7 then v 1 10 else -1)) := by
  refine MN.of pn_X8_count [some (vr 1), some (vi k)] 0 rfl rfl (fun X C hX hn hR => ?_)
  have hN : ∀ i : Nat, i < 2 → i < xn X := fun i h => by rw [hn]; exact h
  refine E.rngk (fun hinv => ?_)
  refine E.loc (fun hloc => ?_)
  have hin_1 : in32 k := hloc _ (List.mem_of_getElem? (i := 1) rfl)
  have hW1 := hW.1
  have hW2 := hW.2.1
  have z0 := h01 0 (by omega) (by omega)
  have z1 := h01 1 (by omega) (by omega)
  refine E.iload_n C dX8_count_0 rfl rfl ?_
  refine E.table C dX8_count_1 (tg := fun j => if j = 0 then 48 else if j = 1 then 56 else if j = 2 then 64 else if j = 3 then 72 else if j = 4 then 80 else if j = 5 then 110 else if j = 6 then 118 else if j = 7 then 145 else 0) (tgt := 150) (fun j h0 h1 => ?_) (by decide) (fun h0 h1 => ?_) (fun h1 => ?_)
  · rcases (show j = 0 ∨ j = 1 ∨ j = 2 ∨ j = 3 ∨ j = 4 ∨ j = 5 ∨ j = 6 ∨ j = 7 by omega) with rfl | rfl | rfl | rfl | rfl | rfl | rfl | rfl <;> exact ⟨_, rfl, by decide⟩
  · rcases (show k = 0 ∨ k = 1 ∨ k = 2 ∨ k = 3 ∨ k = 4 ∨ k = 5 ∨ k = 6 ∨ k = 7 by omega) with h1 | h1 | h1 | h1 | h1 | h1 | h1 | h1
    · refine E.pceq (pc' := 48) (by rw [h1]; decide) ?_
      refine E.aload_n C dX8_count_48 rfl rfl ?_
      refine N.getR C fa_X8_19 rfl dX8_count_49 kd_1 (x := 4) (by decide +kernel) (by decide) ?_
      refine N.getI C fa_X8_192 rfl dX8_count_52 (kdV hv4) (x := v 4 4) rfl ?_
      exact N.iret C hR dX8_count_55 (fun hi hx => by refine ⟨rfl, ?_⟩; (repeat' split) <;> first | rfl | omega | (simp_all; done))
    · refine E.pceq (pc' := 56) (by rw [h1]; decide) ?_
      refine E.aload_n C dX8_count_56 rfl rfl ?_
      refine N.getR C fa_X8_19 rfl dX8_count_57 kd_1 (x := 4) (by decide +kernel) (by decide) ?_
      refine N.getI C fa_X8_243 rfl dX8_count_60 (kdV hv4) (x := v 4 5) rfl ?_
      exact N.iret C hR dX8_count_63 (fun hi hx => by refine ⟨rfl, ?_⟩; (repeat' split) <;> first | rfl | omega | (simp_all; done))
    · refine E.pceq (pc' := 64) (by rw [h1]; decide) ?_
      refine E.aload_n C dX8_count_64 rfl rfl ?_
      refine N.getR C fa_X8_19 rfl dX8_count_65 kd_1 (x := 4) (by decide +kernel) (by decide) ?_
      refine N.getI C fa_X8_273 rfl dX8_count_68 (kdV hv4) (x := v 4 6) rfl ?_
      exact N.iret C hR dX8_count_71 (fun hi hx => by refine ⟨rfl, ?_⟩; (repeat' split) <;> first | rfl | omega | (simp_all; done))
    · refine E.pceq (pc' := 72) (by rw [h1]; decide) ?_
      refine E.aload_n C dX8_count_72 rfl rfl ?_
      refine N.getR C fa_X8_19 rfl dX8_count_73 kd_1 (x := 4) (by decide +kernel) (by decide) ?_
      refine N.callVp (S := []) (As := []) C hX (ok_X7_wornOutCount G 4 v hv4 hW2 hW.th) yf_X7_wornOutCount yv_X7_wornOutCount ml_X8_327 rfl rfl rfl (kdV hv4) (by decide) (by decide) (Nat.le_of_ble_eq_true rfl) dX8_count_76 rfl ?_
      exact N.iret C hR dX8_count_79 (fun hi hx => by refine ⟨rfl, ?_⟩; (repeat' split) <;> first | rfl | omega | (simp_all; done))
    · refine E.pceq (pc' := 80) (by rw [h1]; decide) ?_
      refine E.aload_n C dX8_count_80 rfl rfl ?_
      refine N.getR C fa_X8_39 rfl dX8_count_81 kd_1 (x := 52) (by decide +kernel) (by decide) ?_
      refine E.iconst C dX8_count_84 (by decide) ?_
      refine N.zald C dX8_count_85 kd_52 ln_52 (by omega) (x := v 52 0) rfl ?_
      refine E.if_eq C dX8_count_86 (tgt := 93) (by decide) (fun h86 => ?_) (fun h86 => ?_)
      · skip
        refine E.iconst C dX8_count_93 (by decide) ?_
        refine E.aload_n C dX8_count_94 rfl rfl ?_
        refine N.getR C fa_X8_39 rfl dX8_count_95 kd_1 (x := 52) (by decide +kernel) (by decide) ?_
        refine E.iconst C dX8_count_98 (by decide) ?_
        refine N.zald C dX8_count_99 kd_52 ln_52 (by omega) (x := v 52 1) rfl ?_
        refine E.if_eq C dX8_count_100 (tgt := 107) (by decide) (fun h100 => ?_) (fun h100 => ?_)
        · skip
          refine E.iconst C dX8_count_107 (by decide) ?_
          refine E.iadd C dX8_count_108 (by omega) ?_
          exact N.iret C hR dX8_count_109 (fun hi hx => by refine ⟨rfl, ?_⟩; (repeat' split) <;> first | rfl | omega | (simp_all; done))
        · skip
          refine E.iconst C dX8_count_103 (by decide) ?_
          refine E.goto C dX8_count_104 (tgt := 108) (by decide) ?_
          refine E.iadd C dX8_count_108 (by omega) ?_
          exact N.iret C hR dX8_count_109 (fun hi hx => by refine ⟨rfl, ?_⟩; (repeat' split) <;> first | rfl | omega | (simp_all; done))
      · skip
        refine E.iconst C dX8_count_89 (by decide) ?_
        refine E.goto C dX8_count_90 (tgt := 94) (by decide) ?_
        refine E.aload_n C dX8_count_94 rfl rfl ?_
        refine N.getR C fa_X8_39 rfl dX8_count_95 kd_1 (x := 52) (by decide +kernel) (by decide) ?_
        refine E.iconst C dX8_count_98 (by decide) ?_
        refine N.zald C dX8_count_99 kd_52 ln_52 (by omega) (x := v 52 1) rfl ?_
        refine E.if_eq C dX8_count_100 (tgt := 107) (by decide) (fun h100 => ?_) (fun h100 => ?_)
        · skip
          refine E.iconst C dX8_count_107 (by decide) ?_
          refine E.iadd C dX8_count_108 (by omega) ?_
          exact N.iret C hR dX8_count_109 (fun hi hx => by refine ⟨rfl, ?_⟩; (repeat' split) <;> first | rfl | omega | (simp_all; done))
        · skip
          refine E.iconst C dX8_count_103 (by decide) ?_
          refine E.goto C dX8_count_104 (tgt := 108) (by decide) ?_
          refine E.iadd C dX8_count_108 (by omega) ?_
          exact N.iret C hR dX8_count_109 (fun hi hx => by refine ⟨rfl, ?_⟩; (repeat' split) <;> first | rfl | omega | (simp_all; done))
    · refine E.pceq (pc' := 110) (by rw [h1]; decide) ?_
      refine E.aload_n C dX8_count_110 rfl rfl ?_
      refine N.getR C fa_X8_10 rfl dX8_count_111 kd_1 (x := 2) (by decide +kernel) (by decide) ?_
      refine N.getI C fa_X8_82 rfl dX8_count_114 kd_2 (x := v 2 1) rfl ?_
      exact N.iret C hR dX8_count_117 (fun hi hx => by refine ⟨rfl, ?_⟩; (repeat' split) <;> first | rfl | omega | (simp_all; done))
    · refine E.pceq (pc' := 118) (by rw [h1]; decide) ?_
      refine E.aload_n C dX8_count_118 rfl rfl ?_
      refine N.getR C fa_X8_45 rfl dX8_count_119 kd_1 (x := 53) (by decide +kernel) (by decide) ?_
      refine E.iconst C dX8_count_122 (by decide) ?_
      refine N.aald C (t := 4) (by decide) dX8_count_123 kd_53 ln_53 (by omega) (x := 111 + 2 * 0) (rvSh (by omega)) (by omega) ?_
      refine N.callVp (S := []) (As := []) C hX (ok_X4_isNothing G (111 + 2 * 0) v (kdSh (by omega))) yf_X4_isNothing yv_X4_isNothing ml_X8_311 rfl rfl rfl (kdSh (by omega)) (by decide) (by decide) (Nat.le_of_ble_eq_true rfl) dX8_count_124 rfl ?_
      refine E.if_eq C dX8_count_127 (tgt := 135) (by decide) (fun h127 => ?_) (fun h127 => ?_)
      · have h127 := b0.mp h127
        refine E.aload_n C dX8_count_135 rfl rfl ?_
        refine N.getR C fa_X8_45 rfl dX8_count_136 kd_1 (x := 53) (by decide +kernel) (by decide) ?_
        refine E.iconst C dX8_count_139 (by decide) ?_
        refine N.aald C (t := 4) (by decide) dX8_count_140 kd_53 ln_53 (by omega) (x := 111 + 2 * 0) (rvSh (by omega)) (by omega) ?_
        refine N.getI C fa_X8_330 rfl dX8_count_141 (kdSh (by omega)) (x := v (111 + 2 * 0) 2) rfl ?_
        exact N.iret C hR dX8_count_144 (fun hi hx => by refine ⟨rfl, ?_⟩; (repeat' split) <;> first | rfl | omega | (simp_all; done))
      · have h127 := b0n.mp h127
        refine E.bipush C dX8_count_130 (by decide) ?_
        refine E.goto C dX8_count_132 (tgt := 144) (by decide) ?_
        exact N.iret C hR dX8_count_144 (fun hi hx => by refine ⟨rfl, ?_⟩; (repeat' split) <;> first | rfl | omega | (simp_all; done))
    · refine E.pceq (pc' := 145) (by rw [h1]; decide) ?_
      refine E.aload_n C dX8_count_145 rfl rfl ?_
      refine N.getI C fa_X8_67 rfl dX8_count_146 kd_1 (x := v 1 10) rfl ?_
      exact N.iret C hR dX8_count_149 (fun hi hx => by refine ⟨rfl, ?_⟩; (repeat' split) <;> first | rfl | omega | (simp_all; done))
  · skip
    refine E.iconst C dX8_count_150 (by decide) ?_
    exact N.iret C hR dX8_count_151 (fun hi hx => by refine ⟨rfl, ?_⟩; (repeat' split) <;> first | rfl | omega | (simp_all; done))

set_option maxHeartbeats 4000000 in
set_option maxRecDepth 20000 in
theorem ok_X5_takeEight (G : GT) (x : Int) (v : VT) (hl : 0 ≤ v 2 1 ∧ v 2 1 ≤ 400) : MNi G yX5_takeEight cX5_takeEight 4 (some .boolean) 0 0 [vr 2, vl x] v (fun r w => (400 < v 2 1 + 8 ∧ r = 0 ∧ w = v) ∨ (v 2 1 + 8 ≤ 400 ∧ r = 1 ∧ w 2 1 = v 2 1 + 8 ∧ (∀ e0, 0 ≤ e0 → e0 < 8 → w 3 (v 2 1 + e0) = ji2b (w32 (jlshr x (56 - 8 * e0)))) ∧ (∀ a j, ¬ (a = 2 ∧ j = 1) → ¬ (a = 3 ∧ v 2 1 ≤ j ∧ j < v 2 1 + 8) → w a j = v a j))) := by
  refine MN.of pn_X5_takeEight [some (vr 2), some (vl x), none, none] 1 rfl rfl (fun X C hX hn hR => ?_)
  have hN : ∀ i : Nat, i < 4 → i < xn X := fun i h => by rw [hn]; exact h
  refine E.rngk (fun hinv => ?_)
  refine E.loc (fun hloc => ?_)
  have hin_1 : in64 x := hloc _ (List.mem_of_getElem? (i := 1) rfl)
  refine E.aload_n C dX5_takeEight_0 rfl rfl ?_
  refine N.getI C fa_X5_15 rfl dX5_takeEight_1 kd_2 (x := v 2 1) rfl ?_
  refine E.bipush C dX5_takeEight_4 (by decide) ?_
  refine E.iadd C dX5_takeEight_6 (by omega) ?_
  refine E.sipush C dX5_takeEight_7 (by decide) ?_
  refine E.icmp_le C dX5_takeEight_10 (tgt := 15) (by decide) (fun h10 => ?_) (fun h10 => ?_)
  · skip
    refine E.iconst C dX5_takeEight_15 (by decide) ?_
    refine N.ist_3 C dX5_takeEight_16 (hN 3 (by decide)) rfl ?_
    have lp17 : ∀ (k17 : Nat) (i : Int) (w : VT), (8 - i).toNat = k17 → (0 ≤ i ∧ i ≤ 8 ∧ (∀ e0, 0 ≤ e0 → e0 < i → w 3 (v 2 1 + e0) = ji2b (w32 (jlshr x (56 - 8 * e0)))) ∧ (∀ a j, ¬ (a = 3 ∧ v 2 1 ≤ j ∧ j < v 2 1 + 8) → w a j = v a j)) → E X G 0 0 1000 w 17 [some (vr 2), some (vl x), none, some (vi i)] [] := by
      intro k17
      induction k17 using Nat.strongRecOn with
      | ind k17 ih17 =>
        intro i w hk17 hI17
        obtain ⟨hi0, hi1, hby, hfr⟩ := hI17
        refine E.iload_n C dX5_takeEight_17 rfl rfl ?_
        refine E.bipush C dX5_takeEight_18 (by decide) ?_
        refine E.icmp_ge C dX5_takeEight_20 (tgt := 51) (by decide) (fun h20 => ?_) (fun h20 => ?_)
        · skip
          refine E.aload_n C dX5_takeEight_51 rfl rfl ?_
          refine E.dupR C dX5_takeEight_52 ?_
          refine N.getI C fa_X5_15 rfl dX5_takeEight_53 kd_2 (x := v 2 1) (hfr _ _ (by omega)) ?_
          refine E.bipush C dX5_takeEight_56 (by decide) ?_
          refine E.iadd C dX5_takeEight_58 (by omega) ?_
          refine N.putI C fp_X5_15 rfl dX5_takeEight_59 kd_2 ?_
          refine E.iconst C dX5_takeEight_62 (by decide) ?_
          exact N.zret C hR dX5_takeEight_63 (by omega) (fun hi => by first | exact Or.inl ⟨by omega, rfl, rfl⟩ | (exact Or.inr ⟨by omega, rfl, u_at (by decide), fun d g1 g2 => (u_ne (Or.inl (by decide))).trans (hby d g1 (by omega)), fun a j g1 g2 => (u_ne (by omega)).trans (hfr a j g2)⟩))
        · skip
          refine E.aload_n C dX5_takeEight_23 rfl rfl ?_
          refine N.getR C fa_X5_9 rfl dX5_takeEight_24 kd_2 (x := 3) (by decide +kernel) (by decide) ?_
          refine E.aload_n C dX5_takeEight_27 rfl rfl ?_
          refine N.getI C fa_X5_15 rfl dX5_takeEight_28 kd_2 (x := v 2 1) (hfr _ _ (by omega)) ?_
          refine E.iload_n C dX5_takeEight_31 rfl rfl ?_
          refine E.iadd C dX5_takeEight_32 (by omega) ?_
          refine E.lload_n C dX5_takeEight_33 rfl rfl ?_
          refine E.bipush C dX5_takeEight_34 (by decide) ?_
          refine E.bipush C dX5_takeEight_36 (by decide) ?_
          refine E.iload_n C dX5_takeEight_38 rfl rfl ?_
          refine E.imul C dX5_takeEight_39 (by omega) ?_
          refine E.isub C dX5_takeEight_40 (by omega) ?_
          refine E.lshr C dX5_takeEight_41 ?_
          refine E.l2i C dX5_takeEight_42 ?_
          refine E.i2b C dX5_takeEight_43 ?_
          refine N.bast C dX5_takeEight_44 kd_3 ln_3 (by omega) (ji2b_in _) ?_
          refine N.iinc_3 C dX5_takeEight_45 (hN 3 (by decide)) rfl (by omega) ?_
          refine E.goto C dX5_takeEight_48 (tgt := 17) (by decide) ?_
          exact ih17 _ (by omega) (i + 1) (upd2 w 3 ((v 2 1) + i) (ji2b (w32 (jlshr x (56 - (8 * i)))))) rfl (by refine ⟨by omega, by omega, fun d g1 g2 => ?_, fun a j g => (u_ne (by omega)).trans (hfr a j g)⟩; by_cases hd : d = i; (rw [hd, upd2_same]); (rw [u_ne (Or.inr (by omega))]; exact hby d g1 (by omega)))
    exact lp17 _ 0 v rfl (by exact ⟨by omega, by omega, fun i h1 h2 => by omega, fun a j _ => rfl⟩)
  · skip
    refine E.iconst C dX5_takeEight_13 (by decide) ?_
    exact N.zret C hR dX5_takeEight_14 (by omega) (fun hi => by first | exact Or.inl ⟨by omega, rfl, rfl⟩ | (exact Or.inr ⟨by omega, rfl, u_at (by decide), fun d g1 g2 => (u_ne (Or.inl (by decide))).trans (hby d g1 (by omega)), fun a j g1 g2 => (u_ne (by omega)).trans (hfr a j g2)⟩))

set_option maxHeartbeats 4000000 in
set_option maxRecDepth 20000 in
theorem ok_X5_byteAt (G : GT) (p : Int) (v : VT) (hl : 0 ≤ v 2 1 ∧ v 2 1 ≤ 400) : MP G yX5_byteAt cX5_byteAt 2 (some .int) 0 0 [vr 2, vi p] v (if 0 ≤ p ∧ p < v 2 1 then v 3 p else -1) := by
  refine MN.of pn_X5_byteAt [some (vr 2), some (vi p)] 0 rfl rfl (fun X C hX hn hR => ?_)
  have hN : ∀ i : Nat, i < 2 → i < xn X := fun i h => by rw [hn]; exact h
  refine E.rngk (fun hinv => ?_)
  refine E.loc (fun hloc => ?_)
  have hin_1 : in32 p := hloc _ (List.mem_of_getElem? (i := 1) rfl)
  refine E.iload_n C dX5_byteAt_0 rfl rfl ?_
  refine E.if_lt C dX5_byteAt_1 (tgt := 28) (by decide) (fun h1 => ?_) (fun h1 => ?_)
  · skip
    refine E.iconst C dX5_byteAt_28 (by decide) ?_
    exact N.iret C hR dX5_byteAt_29 (fun hi hx => by refine ⟨?_, rfl⟩; split <;> first | rfl | omega)
  · skip
    refine E.iload_n C dX5_byteAt_4 rfl rfl ?_
    refine E.aload_n C dX5_byteAt_5 rfl rfl ?_
    refine N.getI C fa_X5_15 rfl dX5_byteAt_6 kd_2 (x := v 2 1) rfl ?_
    refine E.icmp_ge C dX5_byteAt_9 (tgt := 28) (by decide) (fun h9 => ?_) (fun h9 => ?_)
    · skip
      refine E.iconst C dX5_byteAt_28 (by decide) ?_
      exact N.iret C hR dX5_byteAt_29 (fun hi hx => by refine ⟨?_, rfl⟩; split <;> first | rfl | omega)
    · skip
      refine E.iload_n C dX5_byteAt_12 rfl rfl ?_
      refine E.sipush C dX5_byteAt_13 (by decide) ?_
      refine E.icmp_ge C dX5_byteAt_16 (tgt := 28) (by decide) (fun h16 => ?_) (fun h16 => ?_)
      · skip
        refine E.iconst C dX5_byteAt_28 (by decide) ?_
        exact N.iret C hR dX5_byteAt_29 (fun hi hx => by refine ⟨?_, rfl⟩; split <;> first | rfl | omega)
      · skip
        refine E.aload_n C dX5_byteAt_19 rfl rfl ?_
        refine N.getR C fa_X5_9 rfl dX5_byteAt_20 kd_2 (x := 3) (by decide +kernel) (by decide) ?_
        refine E.iload_n C dX5_byteAt_23 rfl rfl ?_
        refine N.bald C dX5_byteAt_24 kd_3 ln_3 (by omega) (x := v 3 p) rfl ?_
        refine E.goto C dX5_byteAt_25 (tgt := 29) (by decide) ?_
        exact N.iret C hR dX5_byteAt_29 (fun hi hx => by refine ⟨?_, rfl⟩; split <;> first | rfl | omega)

set_option maxHeartbeats 4000000 in
set_option maxRecDepth 20000 in
theorem ok_X8_feed (G : GT) (x : Int) (v : VT) (hl : 0 ≤ v 2 1 ∧ v 2 1 ≤ 400) : MNi G yX8_feed cX8_feed 3 (some .int) 1 23 [vr 1, vl x] v (fun r w => (400 < v 2 1 + 8 ∧ r = -3 ∧ w = v) ∨ (v 2 1 + 8 ≤ 400 ∧ r = v 2 1 + 8 ∧ w 2 1 = v 2 1 + 8 ∧ (∀ e0, 0 ≤ e0 → e0 < 8 → w 3 (v 2 1 + e0) = ji2b (w32 (jlshr x (56 - 8 * e0)))) ∧ (∀ a j, ¬ (a = 2 ∧ j = 1) → ¬ (a = 3 ∧ v 2 1 ≤ j ∧ j < v 2 1 + 8) → w a j = v a j))) := by
  refine MN.of pn_X8_feed [some (vr 1), some (vl x), none] 0 rfl rfl (fun X C hX hn hR => ?_)
  have hN : ∀ i : Nat, i < 3 → i < xn X := fun i h => by rw [hn]; exact h
  refine E.rngk (fun hinv => ?_)
  refine E.loc (fun hloc => ?_)
  have hin_1 : in64 x := hloc _ (List.mem_of_getElem? (i := 1) rfl)
  refine E.aload_n C dX8_feed_0 rfl rfl ?_
  refine N.getR C fa_X8_10 rfl dX8_feed_1 kd_1 (x := 2) (by decide +kernel) (by decide) ?_
  refine E.lload_n C dX8_feed_4 rfl rfl ?_
  refine N.callVi (S := []) (As := [vl x]) C hX (ok_X5_takeEight G x v hl) yf_X5_takeEight yv_X5_takeEight ml_X8_78 rfl rfl rfl kd_2 (by decide) (by decide) (Nat.le_of_ble_eq_true rfl) dX8_feed_5 rfl (fun t5 w5 hb5 hp5 => ?_)
  refine E.if_eq C dX8_feed_8 (tgt := 21) (by decide) (fun h8 => ?_) (fun h8 => ?_)
  · skip
    refine E.bipush C dX8_feed_21 (by decide) ?_
    exact N.iret C hR dX8_feed_23 (fun hi hx => by rcases hp5 with ⟨q1, q2, q3⟩ | ⟨q1, q2, q3, q4, q5⟩; (first | (exfalso; omega) | exact Or.inl ⟨q1, rfl, q3⟩); (first | (exfalso; omega) | exact Or.inr ⟨q1, q3, q3, q4, q5⟩))
  · skip
    refine E.aload_n C dX8_feed_11 rfl rfl ?_
    refine N.getR C fa_X8_10 rfl dX8_feed_12 kd_1 (x := 2) (by decide +kernel) (by decide) ?_
    refine N.getI C fa_X8_82 rfl dX8_feed_15 kd_2 (x := w5 2 1) rfl ?_
    refine E.goto C dX8_feed_18 (tgt := 23) (by decide) ?_
    exact N.iret C hR dX8_feed_23 (fun hi hx => by rcases hp5 with ⟨q1, q2, q3⟩ | ⟨q1, q2, q3, q4, q5⟩; (first | (exfalso; omega) | exact Or.inl ⟨q1, rfl, q3⟩); (first | (exfalso; omega) | exact Or.inr ⟨q1, q3, q3, q4, q5⟩))

set_option maxHeartbeats 4000000 in
set_option maxRecDepth 20000 in
theorem ok_X8_end (G : GT) (n : Int) (v : VT) : MNi G yX8_end cX8_end 3 (some .int) 1 22 [vr 1, vi n] v (fun x w => (¬ (0 ≤ n ∧ n ≤ v 2 1) ∧ x = -1 ∧ w = v) ∨ ((0 ≤ n ∧ n ≤ v 2 1) ∧ x = v 2 1 ∧ w = upd2 v 2 1 n)) := by
  refine MN.of pn_X8_end [some (vr 1), some (vi n), none] 1 rfl rfl (fun X C hX hn hR => ?_)
  have hN : ∀ i : Nat, i < 3 → i < xn X := fun i h => by rw [hn]; exact h
  refine E.rngk (fun hinv => ?_)
  refine E.loc (fun hloc => ?_)
  have hin_1 : in32 n := hloc _ (List.mem_of_getElem? (i := 1) rfl)
  refine E.iload_n C dX8_end_0 rfl rfl ?_
  refine E.iconst C dX8_end_1 (by decide) ?_
  refine E.aload_n C dX8_end_2 rfl rfl ?_
  refine N.getR C fa_X8_10 rfl dX8_end_3 kd_1 (x := 2) (by decide +kernel) (by decide) ?_
  refine N.getI C fa_X8_82 rfl dX8_end_6 kd_2 (x := v 2 1) rfl ?_
  refine N.callSp (S := []) (As := [vi n, vi 0, vi (v 2 1)]) C hX (ok_X8_within G n 0 (v 2 1) v) yf_X8_within yv_X8_within ml_X8_85 rfl (by decide) (Nat.le_of_ble_eq_true rfl) dX8_end_9 rfl ?_
  refine E.if_ne C dX8_end_12 (tgt := 17) (by decide) (fun h12 => ?_) (fun h12 => ?_)
  · have h12 := b0n.mp h12
    refine E.aload_n C dX8_end_17 rfl rfl ?_
    refine N.getR C fa_X8_10 rfl dX8_end_18 kd_1 (x := 2) (by decide +kernel) (by decide) ?_
    refine N.getI C fa_X8_82 rfl dX8_end_21 kd_2 (x := v 2 1) rfl ?_
    refine N.ist_2 C dX8_end_24 (hN 2 (by decide)) rfl ?_
    refine E.aload_n C dX8_end_25 rfl rfl ?_
    refine N.getR C fa_X8_10 rfl dX8_end_26 kd_1 (x := 2) (by decide +kernel) (by decide) ?_
    refine E.iload_n C dX8_end_29 rfl rfl ?_
    refine N.putI C fp_X8_82 rfl dX8_end_30 kd_2 ?_
    refine E.iload_n C dX8_end_33 rfl rfl ?_
    exact N.iret C hR dX8_end_34 (fun hi hx => by first | exact Or.inl ⟨by omega, rfl, rfl⟩ | exact Or.inr ⟨by omega, rfl, rfl⟩)
  · have h12 := b0.mp h12
    refine E.iconst C dX8_end_15 (by decide) ?_
    exact N.iret C hR dX8_end_16 (fun hi hx => by first | exact Or.inl ⟨by omega, rfl, rfl⟩ | exact Or.inr ⟨by omega, rfl, rfl⟩)
