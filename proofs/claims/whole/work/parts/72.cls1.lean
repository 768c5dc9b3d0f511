set_option maxHeartbeats 4000000 in
set_option maxRecDepth 20000 in
theorem ok_X8_isSlot (G : GT) (a : Int) (v : VT) : MP G yX8_isSlot cX8_isSlot 1 (some .boolean) 1 22 [vi a] v (if 0 ≤ a ∧ a ≤ 1 then 1 else 0) := by
  refine MN.of pn_X8_isSlot [some (vi a)] 0 rfl rfl (fun X C hX hn hR => ?_)
  have hN : ∀ i : Nat, i < 1 → i < xn X := fun i h => by rw [hn]; exact h
  refine E.rngk (fun hinv => ?_)
  refine E.loc (fun hloc => ?_)
  have hin_0 : in32 a := hloc _ (List.mem_of_getElem? (i := 0) rfl)
  refine E.iload_n C dX8_isSlot_0 rfl rfl ?_
  refine E.iconst C dX8_isSlot_1 (by decide) ?_
  refine E.iconst C dX8_isSlot_2 (by decide) ?_
  refine N.callSp (S := []) (As := [vi a, vi 0, vi 1]) C hX (ok_X8_within G a 0 1 v) yf_X8_within yv_X8_within ml_X8_85 rfl (by decide) (Nat.le_of_ble_eq_true rfl) dX8_isSlot_3 rfl ?_
  exact N.zret C hR dX8_isSlot_6 (by first | exact bdec | omega) (fun hi => by exact ⟨rfl, rfl⟩)

set_option maxHeartbeats 4000000 in
set_option maxRecDepth 20000 in
theorem ok_X8_isSize (G : GT) (a : Int) (v : VT) : MP G yX8_isSize cX8_isSize 1 (some .boolean) 1 22 [vi a] v (if 1 ≤ a ∧ a ≤ 40 then 1 else 0) := by
  refine MN.of pn_X8_isSize [some (vi a)] 0 rfl rfl (fun X C hX hn hR => ?_)
  have hN : ∀ i : Nat, i < 1 → i < xn X := fun i h => by rw [hn]; exact h
  refine E.rngk (fun hinv => ?_)
  refine E.loc (fun hloc => ?_)
  have hin_0 : in32 a := hloc _ (List.mem_of_getElem? (i := 0) rfl)
  refine E.iload_n C dX8_isSize_0 rfl rfl ?_
  refine E.iconst C dX8_isSize_1 (by decide) ?_
  refine E.bipush C dX8_isSize_2 (by decide) ?_
  refine N.callSp (S := []) (As := [vi a, vi 1, vi 40]) C hX (ok_X8_within G a 1 40 v) yf_X8_within yv_X8_within ml_X8_85 rfl (by decide) (Nat.le_of_ble_eq_true rfl) dX8_isSize_4 rfl ?_
  exact N.zret C hR dX8_isSize_7 (by first | exact bdec | omega) (fun hi => by exact ⟨rfl, rfl⟩)

set_option maxHeartbeats 4000000 in
set_option maxRecDepth 20000 in
theorem ok_X8_isYears (G : GT) (a : Int) (v : VT) : MP G yX8_isYears cX8_isYears 1 (some .boolean) 1 22 [vi a] v (if 1 ≤ a ∧ a ≤ 4 then 1 else 0) := by
  refine MN.of pn_X8_isYears [some (vi a)] 0 rfl rfl (fun X C hX hn hR => ?_)
  have hN : ∀ i : Nat, i < 1 → i < xn X := fun i h => by rw [hn]; exact h
  refine E.rngk (fun hinv => ?_)
  refine E.loc (fun hloc => ?_)
  have hin_0 : in32 a := hloc _ (List.mem_of_getElem? (i := 0) rfl)
  refine E.iload_n C dX8_isYears_0 rfl rfl ?_
  refine E.iconst C dX8_isYears_1 (by decide) ?_
  refine E.iconst C dX8_isYears_2 (by decide) ?_
  refine N.callSp (S := []) (As := [vi a, vi 1, vi 4]) C hX (ok_X8_within G a 1 4 v) yf_X8_within yv_X8_within ml_X8_85 rfl (by decide) (Nat.le_of_ble_eq_true rfl) dX8_isYears_3 rfl ?_
  exact N.zret C hR dX8_isYears_6 (by first | exact bdec | omega) (fun hi => by exact ⟨rfl, rfl⟩)

set_option maxHeartbeats 4000000 in
set_option maxRecDepth 20000 in
theorem ok_X8_isImage (G : GT) (a : Int) (v : VT) : MP G yX8_isImage cX8_isImage 1 (some .boolean) 1 22 [vi a] v (if 0 ≤ a ∧ a ≤ 1 then 1 else 0) := by
  refine MN.of pn_X8_isImage [some (vi a)] 0 rfl rfl (fun X C hX hn hR => ?_)
  have hN : ∀ i : Nat, i < 1 → i < xn X := fun i h => by rw [hn]; exact h
  refine E.rngk (fun hinv => ?_)
  refine E.loc (fun hloc => ?_)
  have hin_0 : in32 a := hloc _ (List.mem_of_getElem? (i := 0) rfl)
  refine E.iload_n C dX8_isImage_0 rfl rfl ?_
  refine E.iconst C dX8_isImage_1 (by decide) ?_
  refine E.iconst C dX8_isImage_2 (by decide) ?_
  refine N.callSp (S := []) (As := [vi a, vi 0, vi 1]) C hX (ok_X8_within G a 0 1 v) yf_X8_within yv_X8_within ml_X8_85 rfl (by decide) (Nat.le_of_ble_eq_true rfl) dX8_isImage_3 rfl ?_
  exact N.zret C hR dX8_isImage_6 (by first | exact bdec | omega) (fun hi => by exact ⟨rfl, rfl⟩)

set_option maxHeartbeats 4000000 in
set_option maxRecDepth 20000 in
theorem ok_X8_isSheet (G : GT) (a : Int) (v : VT) : MP G yX8_isSheet cX8_isSheet 1 (some .boolean) 1 22 [vi a] v (if 0 ≤ a ∧ a ≤ 3 then 1 else 0) := by
  refine MN.of pn_X8_isSheet [some (vi a)] 0 rfl rfl (fun X C hX hn hR => ?_)
  have hN : ∀ i : Nat, i < 1 → i < xn X := fun i h => by rw [hn]; exact h
  refine E.rngk (fun hinv => ?_)
  refine E.loc (fun hloc => ?_)
  have hin_0 : in32 a := hloc _ (List.mem_of_getElem? (i := 0) rfl)
  refine E.iload_n C dX8_isSheet_0 rfl rfl ?_
  refine E.iconst C dX8_isSheet_1 (by decide) ?_
  refine E.iconst C dX8_isSheet_2 (by decide) ?_
  refine N.callSp (S := []) (As := [vi a, vi 0, vi 3]) C hX (ok_X8_within G a 0 3 v) yf_X8_within yv_X8_within ml_X8_85 rfl (by decide) (Nat.le_of_ble_eq_true rfl) dX8_isSheet_3 rfl ?_
  exact N.zret C hR dX8_isSheet_6 (by first | exact bdec | omega) (fun hi => by exact ⟨rfl, rfl⟩)

set_option maxHeartbeats 4000000 in
set_option maxRecDepth 20000 in
theorem ok_X8_isLane (G : GT) (a : Int) (v : VT) : MP G yX8_isLane cX8_isLane 1 (some .boolean) 1 22 [vi a] v (if 0 ≤ a ∧ a ≤ 2 then 1 else 0) := by
  refine MN.of pn_X8_isLane [some (vi a)] 0 rfl rfl (fun X C hX hn hR => ?_)
  have hN : ∀ i : Nat, i < 1 → i < xn X := fun i h => by rw [hn]; exact h
  refine E.rngk (fun hinv => ?_)
  refine E.loc (fun hloc => ?_)
  have hin_0 : in32 a := hloc _ (List.mem_of_getElem? (i := 0) rfl)
  refine E.iload_n C dX8_isLane_0 rfl rfl ?_
  refine E.iconst C dX8_isLane_1 (by decide) ?_
  refine E.iconst C dX8_isLane_2 (by decide) ?_
  refine N.callSp (S := []) (As := [vi a, vi 0, vi 2]) C hX (ok_X8_within G a 0 2 v) yf_X8_within yv_X8_within ml_X8_85 rfl (by decide) (Nat.le_of_ble_eq_true rfl) dX8_isLane_3 rfl ?_
  exact N.zret C hR dX8_isLane_6 (by first | exact bdec | omega) (fun hi => by exact ⟨rfl, rfl⟩)

set_option maxHeartbeats 4000000 in
set_option maxRecDepth 20000 in
theorem ok_X8_isZeroOrOne (G : GT) (a : Int) (v : VT) : MP G yX8_isZeroOrOne cX8_isZeroOrOne 1 (some .boolean) 0 0 [vi a] v (if a = 0 ∨ a = 1 then 1 else 0) := by
  refine MN.of pn_X8_isZeroOrOne [some (vi a)] 0 rfl rfl (fun X C hX hn hR => ?_)
  have hN : ∀ i : Nat, i < 1 → i < xn X := fun i h => by rw [hn]; exact h
  refine E.rngk (fun hinv => ?_)
  refine E.loc (fun hloc => ?_)
  have hin_0 : in32 a := hloc _ (List.mem_of_getElem? (i := 0) rfl)
  refine E.iload_n C dX8_isZeroOrOne_0 rfl rfl ?_
  refine E.if_eq C dX8_isZeroOrOne_1 (tgt := 9) (by decide) (fun h1 => ?_) (fun h1 => ?_)
  · skip
    refine E.iconst C dX8_isZeroOrOne_9 (by decide) ?_
    refine E.goto C dX8_isZeroOrOne_10 (tgt := 14) (by decide) ?_
    exact N.zret C hR dX8_isZeroOrOne_14 (by omega) (fun hi => by refine ⟨?_, rfl⟩; (try split) <;> omega)
  · skip
    refine E.iload_n C dX8_isZeroOrOne_4 rfl rfl ?_
    refine E.iconst C dX8_isZeroOrOne_5 (by decide) ?_
    refine E.icmp_ne C dX8_isZeroOrOne_6 (tgt := 13) (by decide) (fun h6 => ?_) (fun h6 => ?_)
    · skip
      refine E.iconst C dX8_isZeroOrOne_13 (by decide) ?_
      exact N.zret C hR dX8_isZeroOrOne_14 (by omega) (fun hi => by refine ⟨?_, rfl⟩; (try split) <;> omega)
    · skip
      refine E.iconst C dX8_isZeroOrOne_9 (by decide) ?_
      refine E.goto C dX8_isZeroOrOne_10 (tgt := 14) (by decide) ?_
      exact N.zret C hR dX8_isZeroOrOne_14 (by omega) (fun hi => by refine ⟨?_, rfl⟩; (try split) <;> omega)

set_option maxHeartbeats 4000000 in
set_option maxRecDepth 20000 in
theorem ok_X8_child (G : GT) (c k : Int) (v : VT) (hW : WFV v 4) : MP G yX8_child cX8_child 3 (some .int) 1 23 [vr 1, vi c, vi k] v (childI v 4 c k) := by
  refine MN.of pn_X8_child [some (vr 1), some (vi c), some (vi k)] 0 rfl rfl (fun X C hX hn hR => ?_)
  have hN : ∀ i : Nat, i < 3 → i < xn X := fun i h => by rw [hn]; exact h
  refine E.rngk (fun hinv => ?_)
  refine E.loc (fun hloc => ?_)
  have hin_1 : in32 c := hloc _ (List.mem_of_getElem? (i := 1) rfl)
  have hin_2 : in32 k := hloc _ (List.mem_of_getElem? (i := 2) rfl)
  have hW1 := hW.1
  have hW2 := hW.2.1
  refine E.aload_n C dX8_child_0 rfl rfl ?_
  refine N.getR C fa_X8_19 rfl dX8_child_1 kd_1 (x := 4) (by decide +kernel) (by decide) ?_
  refine E.iload_n C dX8_child_4 rfl rfl ?_
  refine N.callVp (S := []) (As := [vi c]) C hX (ok_X7_hasChild G 4 c v hv4) yf_X7_hasChild yv_X7_hasChild ml_X8_106 rfl rfl rfl (kdV hv4) (by decide) (by decide) (Nat.le_of_ble_eq_true rfl) dX8_child_5 rfl ?_
  refine E.if_ne C dX8_child_8 (tgt := 13) (by decide) (fun h8 => ?_) (fun h8 => ?_)
  · have h8 := b0n.mp h8
    refine E.iload_n C dX8_child_13 rfl rfl ?_
    refine E.table C dX8_child_14 (tg := fun j => if j = 0 then 76 else if j = 1 then 89 else if j = 2 then 102 else if j = 3 then 135 else if j = 4 then 135 else if j = 5 then 135 else if j = 6 then 135 else if j = 7 then 135 else if j = 8 then 135 else if j = 9 then 135 else if j = 10 then 115 else if j = 11 then 125 else 0) (tgt := 135) (fun j h0 h1 => ?_) (by decide) (fun h0 h1 => ?_) (fun h14 => ?_)
    · rcases (show j = 0 ∨ j = 1 ∨ j = 2 ∨ j = 3 ∨ j = 4 ∨ j = 5 ∨ j = 6 ∨ j = 7 ∨ j = 8 ∨ j = 9 ∨ j = 10 ∨ j = 11 by omega) with rfl | rfl | rfl | rfl | rfl | rfl | rfl | rfl | rfl | rfl | rfl | rfl <;> exact ⟨_, rfl, by decide⟩
    · rcases (show k = 0 ∨ k = 1 ∨ k = 2 ∨ k = 3 ∨ k = 4 ∨ k = 5 ∨ k = 6 ∨ k = 7 ∨ k = 8 ∨ k = 9 ∨ k = 10 ∨ k = 11 by omega) with h14 | h14 | h14 | h14 | h14 | h14 | h14 | h14 | h14 | h14 | h14 | h14
      · refine E.pceq (pc' := 76) (by rw [h14]; decide) ?_
        refine E.aload_n C dX8_child_76 rfl rfl ?_
        refine N.getR C fa_X8_19 rfl dX8_child_77 kd_1 (x := 4) (by decide +kernel) (by decide) ?_
        refine N.getR C fa_X8_110 rfl dX8_child_80 (kdV hv4) (x := 4 + 1) (rvV0 hv4) (by have := posVk hv4; omega) ?_
        refine E.iload_n C dX8_child_83 rfl rfl ?_
        refine N.aald C (t := 3) (by decide) dX8_child_84 (kdVc hv4) (lnVc hv4) (by omega) (x := 4 + 5 + c) (rvVc hv4 (by omega)) (by have := posVk hv4; omega) ?_
        refine N.getI C fa_X8_114 rfl dX8_child_85 (kdVC hv4 (by omega)) (x := v (4 + 5 + c) 0) rfl ?_
        exact N.iret C hR dX8_child_88 (fun hi hx => by unfold childI; refine ⟨?_, rfl⟩; (repeat' split) <;> first | omega | (simp_all; done))
      · refine E.pceq (pc' := 89) (by rw [h14]; decide) ?_
        refine E.aload_n C dX8_child_89 rfl rfl ?_
        refine N.getR C fa_X8_19 rfl dX8_child_90 kd_1 (x := 4) (by decide +kernel) (by decide) ?_
        refine N.getR C fa_X8_110 rfl dX8_child_93 (kdV hv4) (x := 4 + 1) (rvV0 hv4) (by have := posVk hv4; omega) ?_
        refine E.iload_n C dX8_child_96 rfl rfl ?_
        refine N.aald C (t := 3) (by decide) dX8_child_97 (kdVc hv4) (lnVc hv4) (by omega) (x := 4 + 5 + c) (rvVc hv4 (by omega)) (by have := posVk hv4; omega) ?_
        refine N.getI C fa_X8_119 rfl dX8_child_98 (kdVC hv4 (by omega)) (x := v (4 + 5 + c) 1) rfl ?_
        exact N.iret C hR dX8_child_101 (fun hi hx => by unfold childI; refine ⟨?_, rfl⟩; (repeat' split) <;> first | omega | (simp_all; done))
      · refine E.pceq (pc' := 102) (by rw [h14]; decide) ?_
        refine E.aload_n C dX8_child_102 rfl rfl ?_
        refine N.getR C fa_X8_19 rfl dX8_child_103 kd_1 (x := 4) (by decide +kernel) (by decide) ?_
        refine N.getR C fa_X8_110 rfl dX8_child_106 (kdV hv4) (x := 4 + 1) (rvV0 hv4) (by have := posVk hv4; omega) ?_
        refine E.iload_n C dX8_child_109 rfl rfl ?_
        refine N.aald C (t := 3) (by decide) dX8_child_110 (kdVc hv4) (lnVc hv4) (by omega) (x := 4 + 5 + c) (rvVc hv4 (by omega)) (by have := posVk hv4; omega) ?_
        refine N.getI C fa_X8_122 rfl dX8_child_111 (kdVC hv4 (by omega)) (x := v (4 + 5 + c) 2) rfl ?_
        exact N.iret C hR dX8_child_114 (fun hi hx => by unfold childI; refine ⟨?_, rfl⟩; (repeat' split) <;> first | omega | (simp_all; done))
      · refine E.pceq (pc' := 135) (by rw [h14]; decide) ?_
        refine E.iconst C dX8_child_135 (by decide) ?_
        exact N.iret C hR dX8_child_136 (fun hi hx => by unfold childI; refine ⟨?_, rfl⟩; (repeat' split) <;> first | omega | (simp_all; done))
      · refine E.pceq (pc' := 135) (by rw [h14]; decide) ?_
        refine E.iconst C dX8_child_135 (by decide) ?_
        exact N.iret C hR dX8_child_136 (fun hi hx => by unfold childI; refine ⟨?_, rfl⟩; (repeat' split) <;> first | omega | (simp_all; done))
      · refine E.pceq (pc' := 135) (by rw [h14]; decide) ?_
        refine E.iconst C dX8_child_135 (by decide) ?_
        exact N.iret C hR dX8_child_136 (fun hi hx => by unfold childI; refine ⟨?_, rfl⟩; (repeat' split) <;> first | omega | (simp_all; done))
      · refine E.pceq (pc' := 135) (by rw [h14]; decide) ?_
        refine E.iconst C dX8_child_135 (by decide) ?_
        exact N.iret C hR dX8_child_136 (fun hi hx => by unfold childI; refine ⟨?_, rfl⟩; (repeat' split) <;> first | omega | (simp_all; done))
      · refine E.pceq (pc' := 135) (by rw [h14]; decide) ?_
        refine E.iconst C dX8_child_135 (by decide) ?_
        exact N.iret C hR dX8_child_136 (fun hi hx => by unfold childI; refine ⟨?_, rfl⟩; (repeat' split) <;> first | omega | (simp_all; done))
      · refine E.pceq (pc' := 135) (by rw [h14]; decide) ?_
        refine E.iconst C dX8_child_135 (by decide) ?_
        exact N.iret C hR dX8_child_136 (fun hi hx => by unfold childI; refine ⟨?_, rfl⟩; (repeat' split) <;> first | omega | (simp_all; done))
      · refine E.pceq (pc' := 135) (by rw [h14]; decide) ?_
        refine E.iconst C dX8_child_135 (by decide) ?_
        exact N.iret C hR dX8_child_136 (fun hi hx => by unfold childI; refine ⟨?_, rfl⟩; (repeat' split) <;> first | omega | (simp_all; done))
      · refine E.pceq (pc' := 115) (by rw [h14]; decide) ?_
        refine E.aload_n C dX8_child_115 rfl rfl ?_
        refine N.getR C fa_X8_19 rfl dX8_child_116 kd_1 (x := 4) (by decide +kernel) (by decide) ?_
        refine E.iload_n C dX8_child_119 rfl rfl ?_
        refine E.iconst C dX8_child_120 (by decide) ?_
        refine N.callVp (S := []) (As := [vi c, vi 0]) C hX (ok_X7_wornBy G 4 c 0 v hv4 (by omega)) yf_X7_wornBy yv_X7_wornBy ml_X8_125 rfl rfl rfl (kdV hv4) (by decide) (by decide) (Nat.le_of_ble_eq_true rfl) dX8_child_121 rfl ?_
        exact N.iret C hR dX8_child_124 (fun hi hx => by unfold childI; refine ⟨?_, rfl⟩; (repeat' split) <;> first | omega | (simp_all; done))
      · refine E.pceq (pc' := 125) (by rw [h14]; decide) ?_
        refine E.aload_n C dX8_child_125 rfl rfl ?_
        refine N.getR C fa_X8_19 rfl dX8_child_126 kd_1 (x := 4) (by decide +kernel) (by decide) ?_
        refine E.iload_n C dX8_child_129 rfl rfl ?_
        refine E.iconst C dX8_child_130 (by decide) ?_
        refine N.callVp (S := []) (As := [vi c, vi 1]) C hX (ok_X7_wornBy G 4 c 1 v hv4 (by omega)) yf_X7_wornBy yv_X7_wornBy ml_X8_125 rfl rfl rfl (kdV hv4) (by decide) (by decide) (Nat.le_of_ble_eq_true rfl) dX8_child_131 rfl ?_
        exact N.iret C hR dX8_child_134 (fun hi hx => by unfold childI; refine ⟨?_, rfl⟩; (repeat' split) <;> first | omega | (simp_all; done))
    · skip
      refine E.iconst C dX8_child_135 (by decide) ?_
      exact N.iret C hR dX8_child_136 (fun hi hx => by unfold childI; refine ⟨?_, rfl⟩; (repeat' split) <;> first | omega | (simp_all; done))
  · have h8 := b0.mp h8
    refine E.iconst C dX8_child_11 (by decide) ?_
    exact N.iret C hR dX8_child_12 (fun hi hx => by unfold childI; refine ⟨?_, rfl⟩; (repeat' split) <;> first | omega | (simp_all; done))

set_option maxHeartbeats 4000000 in
set_option maxRecDepth 20000 in
theorem ok_X8_thing (G : GT) (t k : Int) (v : VT) (hW : WFV v 4) : MP G yX8_thing cX8_thing 4 (some .int) 1 21 [vr 1, vi t, vi k] v (thingI v 4 t k) := by
  refine MN.of pn_X8_thing [some (vr 1), some (vi t), some (vi k), none] 1 rfl rfl (fun X C hX hn hR => ?_)
  have hN : ∀ i : Nat, i < 4 → i < xn X := fun i h => by rw [hn]; exact h
  refine E.rngk (fun hinv => ?_)
  refine E.loc (fun hloc => ?_)
  have hin_1 : in32 t := hloc _ (List.mem_of_getElem? (i := 1) rfl)
  have hin_2 : in32 k := hloc _ (List.mem_of_getElem? (i := 2) rfl)
  have hW1 := hW.1
  have hW2 := hW.2.1
  have hlz := hW.lz t
  refine E.aload_n C dX8_thing_0 rfl rfl ?_
  refine N.getR C fa_X8_19 rfl dX8_thing_1 kd_1 (x := 4) (by decide +kernel) (by decide) ?_
  refine E.iload_n C dX8_thing_4 rfl rfl ?_
  refine N.callVp (S := []) (As := [vi t]) C hX (ok_X7_hasThing G 4 t v hv4) yf_X7_hasThing yv_X7_hasThing ml_X8_129 rfl rfl rfl (kdV hv4) (by decide) (by decide) (Nat.le_of_ble_eq_true rfl) dX8_thing_5 rfl ?_
  refine E.if_ne C dX8_thing_8 (tgt := 13) (by decide) (fun h8 => ?_) (fun h8 => ?_)
  · have h8 := b0n.mp h8
    refine E.aload_n C dX8_thing_13 rfl rfl ?_
    refine N.getR C fa_X8_19 rfl dX8_thing_14 kd_1 (x := 4) (by decide +kernel) (by decide) ?_
    refine N.getR C fa_X8_132 rfl dX8_thing_17 (kdV hv4) (x := 4 + 2) (rvV1 hv4) (by have := posVk hv4; omega) ?_
    refine E.iload_n C dX8_thing_20 rfl rfl ?_
    refine N.aald C (t := 5) (by decide) dX8_thing_21 (kdVt hv4) (lnVt hv4) (by omega) (x := 4 + 13 + t) (rvVt hv4 (by omega)) (by have := posVk hv4; omega) ?_
    refine N.ast_3 C dX8_thing_22 (hN 3 (by decide)) rfl ?_
    refine E.iload_n C dX8_thing_23 rfl rfl ?_
    refine E.table C dX8_thing_24 (tg := fun j => if j = 0 then 72 else if j = 1 then 77 else if j = 2 then 82 else if j = 3 then 87 else if j = 4 then 92 else if j = 5 then 97 else if j = 6 then 110 else if j = 7 then 115 else 0) (tgt := 120) (fun j h0 h1 => ?_) (by decide) (fun h0 h1 => ?_) (fun h24 => ?_)
    · rcases (show j = 0 ∨ j = 1 ∨ j = 2 ∨ j = 3 ∨ j = 4 ∨ j = 5 ∨ j = 6 ∨ j = 7 by omega) with rfl | rfl | rfl | rfl | rfl | rfl | rfl | rfl <;> exact ⟨_, rfl, by decide⟩
    · rcases (show k = 0 ∨ k = 1 ∨ k = 2 ∨ k = 3 ∨ k = 4 ∨ k = 5 ∨ k = 6 ∨ k = 7 by omega) with h24 | h24 | h24 | h24 | h24 | h24 | h24 | h24
      · refine E.pceq (pc' := 72) (by rw [h24]; decide) ?_
        refine E.aload_n C dX8_thing_72 rfl rfl ?_
        refine N.getI C fa_X8_136 rfl dX8_thing_73 (kdVT hv4 (by omega)) (x := v (4 + 13 + t) 0) rfl ?_
        exact N.iret C hR dX8_thing_76 (fun hi hx => by unfold thingI; refine ⟨?_, rfl⟩; (repeat' split) <;> first | omega | (simp_all; done) | (simp_all; omega))
      · refine E.pceq (pc' := 77) (by rw [h24]; decide) ?_
        refine E.aload_n C dX8_thing_77 rfl rfl ?_
        refine N.getI C fa_X8_141 rfl dX8_thing_78 (kdVT hv4 (by omega)) (x := v (4 + 13 + t) 1) rfl ?_
        exact N.iret C hR dX8_thing_81 (fun hi hx => by unfold thingI; refine ⟨?_, rfl⟩; (repeat' split) <;> first | omega | (simp_all; done) | (simp_all; omega))
      · refine E.pceq (pc' := 82) (by rw [h24]; decide) ?_
        refine E.aload_n C dX8_thing_82 rfl rfl ?_
        refine N.getI C fa_X8_144 rfl dX8_thing_83 (kdVT hv4 (by omega)) (x := v (4 + 13 + t) 2) rfl ?_
        exact N.iret C hR dX8_thing_86 (fun hi hx => by unfold thingI; refine ⟨?_, rfl⟩; (repeat' split) <;> first | omega | (simp_all; done) | (simp_all; omega))
      · refine E.pceq (pc' := 87) (by rw [h24]; decide) ?_
        refine E.aload_n C dX8_thing_87 rfl rfl ?_
        refine N.getI C fa_X8_145 rfl dX8_thing_88 (kdVT hv4 (by omega)) (x := v (4 + 13 + t) 3) rfl ?_
        exact N.iret C hR dX8_thing_91 (fun hi hx => by unfold thingI; refine ⟨?_, rfl⟩; (repeat' split) <;> first | omega | (simp_all; done) | (simp_all; omega))
      · refine E.pceq (pc' := 92) (by rw [h24]; decide) ?_
        refine E.aload_n C dX8_thing_92 rfl rfl ?_
        refine N.getI C fa_X8_148 rfl dX8_thing_93 (kdVT hv4 (by omega)) (x := v (4 + 13 + t) 4) rfl ?_
        exact N.iret C hR dX8_thing_96 (fun hi hx => by unfold thingI; refine ⟨?_, rfl⟩; (repeat' split) <;> first | omega | (simp_all; done) | (simp_all; omega))
      · refine E.pceq (pc' := 97) (by rw [h24]; decide) ?_
        refine E.aload_n C dX8_thing_97 rfl rfl ?_
        refine N.getI C fa_X8_151 rfl dX8_thing_98 (kdVT hv4 (by omega)) (x := v (4 + 13 + t) 5) rfl ?_
        refine E.if_eq C dX8_thing_101 (tgt := 108) (by decide) (fun h101 => ?_) (fun h101 => ?_)
        · skip
          refine E.iconst C dX8_thing_108 (by decide) ?_
          exact N.iret C hR dX8_thing_109 (fun hi hx => by unfold thingI; refine ⟨?_, rfl⟩; (repeat' split) <;> first | omega | (simp_all; done) | (simp_all; omega))
        · skip
          refine E.iconst C dX8_thing_104 (by decide) ?_
          refine E.goto C dX8_thing_105 (tgt := 109) (by decide) ?_
          exact N.iret C hR dX8_thing_109 (fun hi hx => by unfold thingI; refine ⟨?_, rfl⟩; (repeat' split) <;> first | omega | (simp_all; done) | (simp_all; omega))
      · refine E.pceq (pc' := 110) (by rw [h24]; decide) ?_
        refine E.aload_n C dX8_thing_110 rfl rfl ?_
        refine N.getI C fa_X8_155 rfl dX8_thing_111 (kdVT hv4 (by omega)) (x := v (4 + 13 + t) 6) rfl ?_
        exact N.iret C hR dX8_thing_114 (fun hi hx => by unfold thingI; refine ⟨?_, rfl⟩; (repeat' split) <;> first | omega | (simp_all; done) | (simp_all; omega))
      · refine E.pceq (pc' := 115) (by rw [h24]; decide) ?_
        refine E.aload_n C dX8_thing_115 rfl rfl ?_
        refine N.getI C fa_X8_158 rfl dX8_thing_116 (kdVT hv4 (by omega)) (x := v (4 + 13 + t) 7) rfl ?_
        exact N.iret C hR dX8_thing_119 (fun hi hx => by unfold thingI; refine ⟨?_, rfl⟩; (repeat' split) <;> first | omega | (simp_all; done) | (simp_all; omega))
    · skip
      refine E.iconst C dX8_thing_120 (by decide) ?_
      exact N.iret C hR dX8_thing_121 (fun hi hx => by unfold thingI; refine ⟨?_, rfl⟩; (repeat' split) <;> first | omega | (simp_all; done) | (simp_all; omega))
  · have h8 := b0.mp h8
    refine E.iconst C dX8_thing_11 (by decide) ?_
    exact N.iret C hR dX8_thing_12 (fun hi hx => by unfold thingI; refine ⟨?_, rfl⟩; (repeat' split) <;> first | omega | (simp_all; done) | (simp_all; omega))

set_option maxHeartbeats 4000000 in
set_option maxRecDepth 20000 in
theorem ok_X8_slack (G : GT) (a : Int) (v : VT) : MNi G yX8_slack cX8_slack 3 (some .int) 1 22 [vr 1, vi a] v (fun x w => (0 ≤ a ∧ a ≤ 4 ∧ x = v 1 10 ∧ w = upd2 v 1 10 a) ∨ (¬ (0 ≤ a ∧ a ≤ 4) ∧ x = -1 ∧ w = v)) := by
  refine MN.of pn_X8_slack [some (vr 1), some (vi a), none] 1 rfl rfl (fun X C hX hn hR => ?_)
  have hN : ∀ i : Nat, i < 3 → i < xn X := fun i h => by rw [hn]; exact h
  refine E.rngk (fun hinv => ?_)
  refine E.loc (fun hloc => ?_)
  have hin_1 : in32 a := hloc _ (List.mem_of_getElem? (i := 1) rfl)
  refine E.iload_n C dX8_slack_0 rfl rfl ?_
  refine E.iconst C dX8_slack_1 (by decide) ?_
  refine E.iconst C dX8_slack_2 (by decide) ?_
  refine N.callSp (S := []) (As := [vi a, vi 0, vi 4]) C hX (ok_X8_within G a 0 4 v) yf_X8_within yv_X8_within ml_X8_85 rfl (by decide) (Nat.le_of_ble_eq_true rfl) dX8_slack_3 rfl ?_
  refine E.if_ne C dX8_slack_6 (tgt := 11) (by decide) (fun h6 => ?_) (fun h6 => ?_)
  · have h6 := b0n.mp h6
    refine E.aload_n C dX8_slack_11 rfl rfl ?_
    refine N.getI C fa_X8_67 rfl dX8_slack_12 kd_1 (x := v 1 10) rfl ?_
    refine N.ist_2 C dX8_slack_15 (hN 2 (by decide)) rfl ?_
    refine E.aload_n C dX8_slack_16 rfl rfl ?_
    refine E.iload_n C dX8_slack_17 rfl rfl ?_
    refine N.putI C fp_X8_67 rfl dX8_slack_18 kd_1 ?_
    refine E.iload_n C dX8_slack_21 rfl rfl ?_
    exact N.iret C hR dX8_slack_22 (fun hi hx => by first | exact Or.inr ⟨by omega, rfl, rfl⟩ | exact Or.inl ⟨by omega, by omega, rfl, rfl⟩)
  · have h6 := b0.mp h6
    refine E.iconst C dX8_slack_9 (by decide) ?_
    exact N.iret C hR dX8_slack_10 (fun hi hx => by first | exact Or.inr ⟨by omega, rfl, rfl⟩ | exact Or.inl ⟨by omega, by omega, rfl, rfl⟩)

set_option maxHeartbeats 4000000 in
set_option maxRecDepth 20000 in
theorem ok_X8_like (G : GT) (c t a : Int) (v : VT) (hW : WFV v 4) : MNi G yX8_like cX8_like 5 (some .int) 1 23 [vr 1, vi c, vi t, vi a] v (fun x w => (0 ≤ c ∧ c < v 4 4 ∧ 0 ≤ t ∧ t < v 4 5 ∧ 0 ≤ a ∧ a ≤ 9 ∧ x = v 7 (c * 10 + t) ∧ w = upd2 v 7 (c * 10 + t) a) ∨ (¬ (0 ≤ c ∧ c < v 4 4 ∧ 0 ≤ t ∧ t < v 4 5 ∧ 0 ≤ a ∧ a ≤ 9) ∧ x = -1 ∧ w = v)) := by
  refine MN.of pn_X8_like [some (vr 1), some (vi c), some (vi t), some (vi a), none] 1 rfl rfl (fun X C hX hn hR => ?_)
  have hN : ∀ i : Nat, i < 5 → i < xn X := fun i h => by rw [hn]; exact h
  refine E.rngk (fun hinv => ?_)
  refine E.loc (fun hloc => ?_)
  have hin_1 : in32 c := hloc _ (List.mem_of_getElem? (i := 1) rfl)
  have hin_2 : in32 t := hloc _ (List.mem_of_getElem? (i := 2) rfl)
  have hin_3 : in32 a := hloc _ (List.mem_of_getElem? (i := 3) rfl)
  have hW1 := hW.1
  have hW2 := hW.2.1
  refine E.aload_n C dX8_like_0 rfl rfl ?_
  refine N.getR C fa_X8_19 rfl dX8_like_1 kd_1 (x := 4) (by decide +kernel) (by decide) ?_
  refine E.iload_n C dX8_like_4 rfl rfl ?_
  refine N.callVp (S := []) (As := [vi c]) C hX (ok_X7_hasChild G 4 c v hv4) yf_X7_hasChild yv_X7_hasChild ml_X8_106 rfl rfl rfl (kdV hv4) (by decide) (by decide) (Nat.le_of_ble_eq_true rfl) dX8_like_5 rfl ?_
  refine E.if_eq C dX8_like_8 (tgt := 32) (by decide) (fun h8 => ?_) (fun h8 => ?_)
  · have h8 := b0.mp h8
    refine E.iconst C dX8_like_32 (by decide) ?_
    exact N.iret C hR dX8_like_33 (fun hi hx => by first | exact Or.inr ⟨by omega, rfl, rfl⟩ | exact Or.inl ⟨by omega, by omega, by omega, by omega, by omega, by omega, rfl, rfl⟩)
  · have h8 := b0n.mp h8
    refine E.aload_n C dX8_like_11 rfl rfl ?_
    refine N.getR C fa_X8_19 rfl dX8_like_12 kd_1 (x := 4) (by decide +kernel) (by decide) ?_
    refine E.iload_n C dX8_like_15 rfl rfl ?_
    refine N.callVp (S := []) (As := [vi t]) C hX (ok_X7_hasThing G 4 t v hv4) yf_X7_hasThing yv_X7_hasThing ml_X8_129 rfl rfl rfl (kdV hv4) (by decide) (by decide) (Nat.le_of_ble_eq_true rfl) dX8_like_16 rfl ?_
    refine E.if_eq C dX8_like_19 (tgt := 32) (by decide) (fun h19 => ?_) (fun h19 => ?_)
    · have h19 := b0.mp h19
      refine E.iconst C dX8_like_32 (by decide) ?_
      exact N.iret C hR dX8_like_33 (fun hi hx => by first | exact Or.inr ⟨by omega, rfl, rfl⟩ | exact Or.inl ⟨by omega, by omega, by omega, by omega, by omega, by omega, rfl, rfl⟩)
    · have h19 := b0n.mp h19
      refine E.iload_n C dX8_like_22 rfl rfl ?_
      refine E.iconst C dX8_like_23 (by decide) ?_
      refine E.bipush C dX8_like_24 (by decide) ?_
      refine N.callSp (S := []) (As := [vi a, vi 0, vi 9]) C hX (ok_X8_within G a 0 9 v) yf_X8_within yv_X8_within ml_X8_85 rfl (by decide) (Nat.le_of_ble_eq_true rfl) dX8_like_26 rfl ?_
      refine E.if_ne C dX8_like_29 (tgt := 34) (by decide) (fun h29 => ?_) (fun h29 => ?_)
      · have h29 := b0n.mp h29
        refine E.aload_n C dX8_like_34 rfl rfl ?_
        refine N.getR C fa_X8_19 rfl dX8_like_35 kd_1 (x := 4) (by decide +kernel) (by decide) ?_
        refine E.iload_n C dX8_like_38 rfl rfl ?_
        refine E.iload_n C dX8_like_39 rfl rfl ?_
        refine N.callVp (S := []) (As := [vi c, vi t]) C hX (ok_X7_likingOf G 4 c t v hv4 (by omega)) yf_X7_likingOf yv_X7_likingOf ml_X8_161 rfl rfl rfl (kdV hv4) (by decide) (by decide) (Nat.le_of_ble_eq_true rfl) dX8_like_40 rfl ?_
        refine N.ist_4 C dX8_like_43 (hN 4 (by decide)) rfl ?_
        refine E.aload_n C dX8_like_45 rfl rfl ?_
        refine N.getR C fa_X8_19 rfl dX8_like_46 kd_1 (x := 4) (by decide +kernel) (by decide) ?_
        refine E.iload_n C dX8_like_49 rfl rfl ?_
        refine E.iload_n C dX8_like_50 rfl rfl ?_
        refine E.iload_n C dX8_like_51 rfl rfl ?_
        refine N.callVe (S := []) (As := [vi c, vi t, vi a]) C hX (ok_X7_setLiking G 4 c t a v hv4 (by omega)) yf_X7_setLiking yv_X7_setLiking ml_X8_164 rfl rfl rfl (kdV hv4) (by decide) (by decide) (Nat.le_of_ble_eq_true rfl) dX8_like_52 rfl ?_
        refine E.iload C dX8_like_55 rfl ?_
        exact N.iret C hR dX8_like_57 (fun hi hx => by first | exact Or.inr ⟨by omega, rfl, rfl⟩ | exact Or.inl ⟨by omega, by omega, by omega, by omega, by omega, by omega, rfl, rfl⟩)
      · have h29 := b0.mp h29
        refine E.iconst C dX8_like_32 (by decide) ?_
        exact N.iret C hR dX8_like_33 (fun hi hx => by first | exact Or.inr ⟨by omega, rfl, rfl⟩ | exact Or.inl ⟨by omega, by omega, by omega, by omega, by omega, by omega, rfl, rfl⟩)

set_option maxHeartbeats 4000000 in
set_option maxRecDepth 20000 in
theorem ok_X8_fits (G : GT) (c t sl : Int) (v : VT) (hW : WFV v 4) (hal : v 1 10 = sl) (hsl : 0 ≤ sl ∧ sl ≤ 4) : MNi G yX8_fits cX8_fits 3 (some .int) 3 69 [vr 1, vi c, vi t] v (fun x w => w = v ∧ ((0 ≤ c ∧ c < v 4 4 ∧ 0 ≤ t ∧ t < v 4 5) ∧ x = fitV v 4 c t sl ∨ ¬ (0 ≤ c ∧ c < v 4 4 ∧ 0 ≤ t ∧ t < v 4 5) ∧ x = -1)) := by
  refine MN.of pn_X8_fits [some (vr 1), some (vi c), some (vi t)] 0 rfl rfl (fun X C hX hn hR => ?_)
  have hN : ∀ i : Nat, i < 3 → i < xn X := fun i h => by rw [hn]; exact h
  refine E.rngk (fun hinv => ?_)
  refine E.loc (fun hloc => ?_)
  have hin_1 : in32 c := hloc _ (List.mem_of_getElem? (i := 1) rfl)
  have hin_2 : in32 t := hloc _ (List.mem_of_getElem? (i := 2) rfl)
  have hW1 := hW.1
  have hW2 := hW.2.1
  refine E.aload_n C dX8_fits_0 rfl rfl ?_
  refine N.getR C fa_X8_19 rfl dX8_fits_1 kd_1 (x := 4) (by decide +kernel) (by decide) ?_
  refine E.iload_n C dX8_fits_4 rfl rfl ?_
  refine N.callVp (S := []) (As := [vi c]) C hX (ok_X7_hasChild G 4 c v hv4) yf_X7_hasChild yv_X7_hasChild ml_X8_106 rfl rfl rfl (kdV hv4) (by decide) (by decide) (Nat.le_of_ble_eq_true rfl) dX8_fits_5 rfl ?_
  refine E.if_eq C dX8_fits_8 (tgt := 22) (by decide) (fun h8 => ?_) (fun h8 => ?_)
  · have h8 := b0.mp h8
    refine E.iconst C dX8_fits_22 (by decide) ?_
    exact N.iret C hR dX8_fits_23 (fun hi hx => by first | exact ⟨rfl, Or.inr ⟨by omega, rfl⟩⟩ | exact ⟨rfl, Or.inl ⟨by omega, rfl⟩⟩)
  · have h8 := b0n.mp h8
    refine E.aload_n C dX8_fits_11 rfl rfl ?_
    refine N.getR C fa_X8_19 rfl dX8_fits_12 kd_1 (x := 4) (by decide +kernel) (by decide) ?_
    refine E.iload_n C dX8_fits_15 rfl rfl ?_
    refine N.callVp (S := []) (As := [vi t]) C hX (ok_X7_hasThing G 4 t v hv4) yf_X7_hasThing yv_X7_hasThing ml_X8_129 rfl rfl rfl (kdV hv4) (by decide) (by decide) (Nat.le_of_ble_eq_true rfl) dX8_fits_16 rfl ?_
    refine E.if_ne C dX8_fits_19 (tgt := 24) (by decide) (fun h19 => ?_) (fun h19 => ?_)
    · have h19 := b0n.mp h19
      refine E.aload_n C dX8_fits_24 rfl rfl ?_
      refine N.getR C fa_X8_19 rfl dX8_fits_25 kd_1 (x := 4) (by decide +kernel) (by decide) ?_
      refine E.iload_n C dX8_fits_28 rfl rfl ?_
      refine E.iload_n C dX8_fits_29 rfl rfl ?_
      refine E.aload_n C dX8_fits_30 rfl rfl ?_
      refine N.getI C fa_X8_67 rfl dX8_fits_31 kd_1 (x := v 1 10) rfl ?_
      refine N.callVp (S := []) (As := [vi c, vi t, vi (v 1 10)]) C hX (ok_X7_fitOf G 4 c t (v 1 10) v hv4 (by omega) (hW.th _ (by omega) (by omega)) ⟨(hW.fz _ (by omega) (by omega)).1, (hW.fz _ (by omega) (by omega)).2, by omega, by omega⟩) yf_X7_fitOf yv_X7_fitOf ml_X8_168 rfl rfl rfl (kdV hv4) (by decide) (by decide) (Nat.le_of_ble_eq_true rfl) dX8_fits_34 rfl ?_
      refine E.veq (x' := fitV v 4 c t sl) (by rw [hal]; rfl) ?_
      exact N.iret C hR dX8_fits_37 (fun hi hx => by first | exact ⟨rfl, Or.inr ⟨by omega, rfl⟩⟩ | exact ⟨rfl, Or.inl ⟨by omega, rfl⟩⟩)
    · have h19 := b0.mp h19
      refine E.iconst C dX8_fits_22 (by decide) ?_
      exact N.iret C hR dX8_fits_23 (fun hi hx => by first | exact ⟨rfl, Or.inr ⟨by omega, rfl⟩⟩ | exact ⟨rfl, Or.inl ⟨by omega, rfl⟩⟩)

set_option maxHeartbeats 4000000 in
set_option maxRecDepth 20000 in
theorem ok_X8_wear (G : GT) (c t sl : Int) (v : VT) (hW : WFV v 4) (hal : v 1 10 = sl) (hsl : 0 ≤ sl ∧ sl ≤ 4) : MNi G yX8_wear cX8_wear 4 (some .int) 3 70 [vr 1, vi c, vi t] v (fun x w => (¬ (0 ≤ c ∧ c < v 4 4 ∧ 0 ≤ t ∧ t < v 4 5) ∧ x = -1 ∧ w = v) ∨ ((0 ≤ c ∧ c < v 4 4 ∧ 0 ≤ t ∧ t < v 4 5) ∧ fitV v 4 c t sl = 0 ∧ x = -2 ∧ w = v) ∨ ((0 ≤ c ∧ c < v 4 4 ∧ 0 ≤ t ∧ t < v 4 5) ∧ ¬ fitV v 4 c t sl = 0 ∧ x = wornI v 4 c (v (4 + 13 + t) 0) ∧ w = wearF v 4 c t sl)) := by
  refine MN.of pn_X8_wear [some (vr 1), some (vi c), some (vi t), none] 1 rfl rfl (fun X C hX hn hR => ?_)
  have hN : ∀ i : Nat, i < 4 → i < xn X := fun i h => by rw [hn]; exact h
  refine E.rngk (fun hinv => ?_)
  refine E.loc (fun hloc => ?_)
  have hin_1 : in32 c := hloc _ (List.mem_of_getElem? (i := 1) rfl)
  have hin_2 : in32 t := hloc _ (List.mem_of_getElem? (i := 2) rfl)
  have hW1 := hW.1
  have hW2 := hW.2.1
  refine E.aload_n C dX8_wear_0 rfl rfl ?_
  refine N.getR C fa_X8_19 rfl dX8_wear_1 kd_1 (x := 4) (by decide +kernel) (by decide) ?_
  refine E.iload_n C dX8_wear_4 rfl rfl ?_
  refine N.callVp (S := []) (As := [vi c]) C hX (ok_X7_hasChild G 4 c v hv4) yf_X7_hasChild yv_X7_hasChild ml_X8_106 rfl rfl rfl (kdV hv4) (by decide) (by decide) (Nat.le_of_ble_eq_true rfl) dX8_wear_5 rfl ?_
  refine E.if_eq C dX8_wear_8 (tgt := 22) (by decide) (fun h8 => ?_) (fun h8 => ?_)
  · have h8 := b0.mp h8
    refine E.iconst C dX8_wear_22 (by decide) ?_
    exact N.iret C hR dX8_wear_23 (fun hi hx => by exact Or.inl ⟨by omega, rfl, rfl⟩)
  · have h8 := b0n.mp h8
    refine E.aload_n C dX8_wear_11 rfl rfl ?_
    refine N.getR C fa_X8_19 rfl dX8_wear_12 kd_1 (x := 4) (by decide +kernel) (by decide) ?_
    refine E.iload_n C dX8_wear_15 rfl rfl ?_
    refine N.callVp (S := []) (As := [vi t]) C hX (ok_X7_hasThing G 4 t v hv4) yf_X7_hasThing yv_X7_hasThing ml_X8_129 rfl rfl rfl (kdV hv4) (by decide) (by decide) (Nat.le_of_ble_eq_true rfl) dX8_wear_16 rfl ?_
    refine E.if_ne C dX8_wear_19 (tgt := 24) (by decide) (fun h19 => ?_) (fun h19 => ?_)
    · have h19 := b0n.mp h19
      refine E.aload_n C dX8_wear_24 rfl rfl ?_
      refine N.getR C fa_X8_19 rfl dX8_wear_25 kd_1 (x := 4) (by decide +kernel) (by decide) ?_
      refine E.iload_n C dX8_wear_28 rfl rfl ?_
      refine E.iload_n C dX8_wear_29 rfl rfl ?_
      refine E.aload_n C dX8_wear_30 rfl rfl ?_
      refine N.getI C fa_X8_67 rfl dX8_wear_31 kd_1 (x := v 1 10) rfl ?_
      refine N.callVp (S := []) (As := [vi c, vi t, vi (v 1 10)]) C hX (ok_X7_fitOf G 4 c t (v 1 10) v hv4 (by omega) (hW.th _ (by omega) (by omega)) ⟨(hW.fz _ (by omega) (by omega)).1, (hW.fz _ (by omega) (by omega)).2, by omega, by omega⟩) yf_X7_fitOf yv_X7_fitOf ml_X8_168 rfl rfl rfl (kdV hv4) (by decide) (by decide) (Nat.le_of_ble_eq_true rfl) dX8_wear_34 rfl ?_
      refine E.veq (x' := fitV v 4 c t sl) (by rw [hal]; rfl) ?_
      refine E.if_ne C dX8_wear_37 (tgt := 43) (by decide) (fun h37 => ?_) (fun h37 => ?_)
      · skip
        refine E.aload_n C dX8_wear_43 rfl rfl ?_
        refine N.getR C fa_X8_19 rfl dX8_wear_44 kd_1 (x := 4) (by decide +kernel) (by decide) ?_
        refine E.iload_n C dX8_wear_47 rfl rfl ?_
        refine E.aload_n C dX8_wear_48 rfl rfl ?_
        refine N.getR C fa_X8_19 rfl dX8_wear_49 kd_1 (x := 4) (by decide +kernel) (by decide) ?_
        refine N.getR C fa_X8_132 rfl dX8_wear_52 (kdV hv4) (x := 4 + 2) (rvV1 hv4) (by have := posVk hv4; omega) ?_
        refine E.iload_n C dX8_wear_55 rfl rfl ?_
        refine N.aald C (t := 5) (by decide) dX8_wear_56 (kdVt hv4) (lnVt hv4) (by omega) (x := 4 + 13 + t) (rvVt hv4 (by omega)) (by have := posVk hv4; omega) ?_
        refine N.getI C fa_X8_136 rfl dX8_wear_57 (kdVT hv4 (by omega)) (x := v (4 + 13 + t) 0) rfl ?_
        refine N.callVp (S := []) (As := [vi c, vi (v (4 + 13 + t) 0)]) C hX (ok_X7_wornBy G 4 c (v (4 + 13 + t) 0) v hv4 hW2) yf_X7_wornBy yv_X7_wornBy ml_X8_125 rfl rfl rfl (kdV hv4) (by decide) (by decide) (Nat.le_of_ble_eq_true rfl) dX8_wear_60 rfl ?_
        have hthq := hW.th t (by omega) (by omega)
        unfold thOK at hthq
        obtain ⟨bx, hbx⟩ : ∃ z, z = (wornI v 4 c (v (4 + 13 + t) 0)) := ⟨_, rfl⟩
        refine E.veq hbx.symm ?_
        refine N.ist_3 C dX8_wear_63 (hN 3 (by decide)) rfl ?_
        refine E.aload_n C dX8_wear_64 rfl rfl ?_
        refine N.getR C fa_X8_19 rfl dX8_wear_65 kd_1 (x := 4) (by decide +kernel) (by decide) ?_
        refine E.iload_n C dX8_wear_68 rfl rfl ?_
        refine N.callVp (S := []) (As := [vi bx]) C hX (ok_X7_hasThing G 4 bx v hv4) yf_X7_hasThing yv_X7_hasThing ml_X8_129 rfl rfl rfl (kdV hv4) (by decide) (by decide) (Nat.le_of_ble_eq_true rfl) dX8_wear_69 rfl ?_
        refine E.if_eq C dX8_wear_72 (tgt := 89) (by decide) (fun h72 => ?_) (fun h72 => ?_)
        · have h72 := b0.mp h72
          refine E.aload_n C dX8_wear_89 rfl rfl ?_
          refine N.getR C fa_X8_19 rfl dX8_wear_90 kd_1 (x := 4) (by decide +kernel) (by decide) ?_
          refine E.iload_n C dX8_wear_93 rfl rfl ?_
          refine E.iload_n C dX8_wear_94 rfl rfl ?_
          refine E.aload_n C dX8_wear_95 rfl rfl ?_
          refine N.getI C fa_X8_67 rfl dX8_wear_96 kd_1 (x := v 1 10) rfl ?_
          refine N.callVe (S := []) (As := [vi c, vi t, vi (v 1 10)]) C hX (ok_X7_putOn G 4 c t (v 1 10) v hv4 (by omega) (by unfold thOK; first | (rw [u_ne (by omega), u_ne (by omega)]; exact hthq) | exact hthq) (by first | (rw [u_ne (by omega)]; exact ⟨(hW.fz _ (by omega) (by omega)).1, (hW.fz _ (by omega) (by omega)).2, by omega, by omega⟩) | exact ⟨(hW.fz _ (by omega) (by omega)).1, (hW.fz _ (by omega) (by omega)).2, by omega, by omega⟩)) yf_X7_putOn yv_X7_putOn ml_X8_172 rfl rfl rfl (kdV hv4) (by decide) (by decide) (Nat.le_of_ble_eq_true rfl) dX8_wear_99 rfl ?_
          refine E.iload_n C dX8_wear_102 rfl rfl ?_
          exact N.iret C hR dX8_wear_103 (fun hi hx => by refine Or.inr (Or.inr ⟨by omega, by omega, hbx, ?_⟩); unfold wearF offF; rw [← hbx, hal]; first | ((rw [if_pos (by omega), u_ne (by omega)]) <;> rfl) | ((rw [if_neg (by omega)]) <;> rfl))
        · have h72 := b0n.mp h72
          refine E.aload_n C dX8_wear_75 rfl rfl ?_
          refine N.getR C fa_X8_19 rfl dX8_wear_76 kd_1 (x := 4) (by decide +kernel) (by decide) ?_
          refine N.getR C fa_X8_132 rfl dX8_wear_79 (kdV hv4) (x := 4 + 2) (rvV1 hv4) (by have := posVk hv4; omega) ?_
          refine E.iload_n C dX8_wear_82 rfl rfl ?_
          refine N.aald C (t := 5) (by decide) dX8_wear_83 (kdVt hv4) (lnVt hv4) (by omega) (x := 4 + 13 + bx) (rvVt hv4 (by omega)) (by have := posVk hv4; omega) ?_
          refine E.bipush C dX8_wear_84 (by decide) ?_
          refine N.putI C fp_X8_158 rfl dX8_wear_86 (kdVT hv4 (by omega)) ?_
          refine E.aload_n C dX8_wear_89 rfl rfl ?_
          refine N.getR C fa_X8_19 rfl dX8_wear_90 kd_1 (x := 4) (by decide +kernel) (by decide) ?_
          refine E.iload_n C dX8_wear_93 rfl rfl ?_
          refine E.iload_n C dX8_wear_94 rfl rfl ?_
          refine E.aload_n C dX8_wear_95 rfl rfl ?_
          refine N.getI C fa_X8_67 rfl dX8_wear_96 kd_1 (x := v 1 10) (upd2_ne _ _ _ _ _ _ (Or.inr (by decide))) ?_
          refine N.callVe (S := []) (As := [vi c, vi t, vi (v 1 10)]) C hX (ok_X7_putOn G 4 c t (v 1 10) (upd2 v (4 + 13 + bx) 7 (-4)) hv4 (by omega) (by unfold thOK; first | (rw [u_ne (by omega), u_ne (by omega)]; exact hthq) | exact hthq) (by first | (rw [u_ne (by omega)]; exact ⟨(hW.fz _ (by omega) (by omega)).1, (hW.fz _ (by omega) (by omega)).2, by omega, by omega⟩) | exact ⟨(hW.fz _ (by omega) (by omega)).1, (hW.fz _ (by omega) (by omega)).2, by omega, by omega⟩)) yf_X7_putOn yv_X7_putOn ml_X8_172 rfl rfl rfl (kdV hv4) (by decide) (by decide) (Nat.le_of_ble_eq_true rfl) dX8_wear_99 rfl ?_
          refine E.iload_n C dX8_wear_102 rfl rfl ?_
          exact N.iret C hR dX8_wear_103 (fun hi hx => by refine Or.inr (Or.inr ⟨by omega, by omega, hbx, ?_⟩); unfold wearF offF; rw [← hbx, hal]; first | ((rw [if_pos (by omega), u_ne (by omega)]) <;> rfl) | ((rw [if_neg (by omega)]) <;> rfl))
      · skip
        refine E.bipush C dX8_wear_40 (by decide) ?_
        exact N.iret C hR dX8_wear_42 (fun hi hx => by exact Or.inr (Or.inl ⟨by omega, by omega, rfl, rfl⟩))
    · have h19 := b0.mp h19
      refine E.iconst C dX8_wear_22 (by decide) ?_
      exact N.iret C hR dX8_wear_23 (fun hi hx => by exact Or.inl ⟨by omega, rfl, rfl⟩)

set_option maxHeartbeats 4000000 in
set_option maxRecDepth 20000 in
theorem ok_X8_doff (G : GT) (c s : Int) (v : VT) (hW : WFV v 4) : MNi G yX8_doff cX8_doff 4 (some .int) 2 42 [vr 1, vi c, vi s] v (fun x w => (¬ (0 ≤ c ∧ c < v 4 4 ∧ 0 ≤ s ∧ s ≤ 1) ∧ x = -1 ∧ w = v) ∨ (0 ≤ c ∧ c < v 4 4 ∧ 0 ≤ s ∧ s ≤ 1 ∧ x = wornI v 4 c s ∧ w = offF v 4 x)) := by
  refine MN.of pn_X8_doff [some (vr 1), some (vi c), some (vi s), none] 1 rfl rfl (fun X C hX hn hR => ?_)
  have hN : ∀ i : Nat, i < 4 → i < xn X := fun i h => by rw [hn]; exact h
  refine E.rngk (fun hinv => ?_)
  refine E.loc (fun hloc => ?_)
  have hin_1 : in32 c := hloc _ (List.mem_of_getElem? (i := 1) rfl)
  have hin_2 : in32 s := hloc _ (List.mem_of_getElem? (i := 2) rfl)
  have hW1 := hW.1
  have hW2 := hW.2.1
  refine E.aload_n C dX8_doff_0 rfl rfl ?_
  refine N.getR C fa_X8_19 rfl dX8_doff_1 kd_1 (x := 4) (by decide +kernel) (by decide) ?_
  refine E.iload_n C dX8_doff_4 rfl rfl ?_
  refine N.callVp (S := []) (As := [vi c]) C hX (ok_X7_hasChild G 4 c v hv4) yf_X7_hasChild yv_X7_hasChild ml_X8_106 rfl rfl rfl (kdV hv4) (by decide) (by decide) (Nat.le_of_ble_eq_true rfl) dX8_doff_5 rfl ?_
  refine E.if_eq C dX8_doff_8 (tgt := 18) (by decide) (fun h8 => ?_) (fun h8 => ?_)
  · have h8 := b0.mp h8
    refine E.iconst C dX8_doff_18 (by decide) ?_
    exact N.iret C hR dX8_doff_19 (fun hi hx => by exact Or.inl ⟨by omega, rfl, rfl⟩)
  · have h8 := b0n.mp h8
    refine E.iload_n C dX8_doff_11 rfl rfl ?_
    refine N.callSp (S := []) (As := [vi s]) C hX (ok_X8_isSlot G s v) yf_X8_isSlot yv_X8_isSlot ml_X8_175 rfl (by decide) (Nat.le_of_ble_eq_true rfl) dX8_doff_12 rfl ?_
    refine E.if_ne C dX8_doff_15 (tgt := 20) (by decide) (fun h15 => ?_) (fun h15 => ?_)
    · have h15 := b0n.mp h15
      refine E.aload_n C dX8_doff_20 rfl rfl ?_
      refine N.getR C fa_X8_19 rfl dX8_doff_21 kd_1 (x := 4) (by decide +kernel) (by decide) ?_
      refine E.iload_n C dX8_doff_24 rfl rfl ?_
      refine E.iload_n C dX8_doff_25 rfl rfl ?_
      refine N.callVp (S := []) (As := [vi c, vi s]) C hX (ok_X7_wornBy G 4 c s v hv4 hW2) yf_X7_wornBy yv_X7_wornBy ml_X8_125 rfl rfl rfl (kdV hv4) (by decide) (by decide) (Nat.le_of_ble_eq_true rfl) dX8_doff_26 rfl ?_
      obtain ⟨bx, hbx⟩ : ∃ z, z = (wornI v 4 c s) := ⟨_, rfl⟩
      refine E.veq hbx.symm ?_
      refine N.ist_3 C dX8_doff_29 (hN 3 (by decide)) rfl ?_
      refine E.aload_n C dX8_doff_30 rfl rfl ?_
      refine N.getR C fa_X8_19 rfl dX8_doff_31 kd_1 (x := 4) (by decide +kernel) (by decide) ?_
      refine E.iload_n C dX8_doff_34 rfl rfl ?_
      refine N.callVp (S := []) (As := [vi bx]) C hX (ok_X7_hasThing G 4 bx v hv4) yf_X7_hasThing yv_X7_hasThing ml_X8_129 rfl rfl rfl (kdV hv4) (by decide) (by decide) (Nat.le_of_ble_eq_true rfl) dX8_doff_35 rfl ?_
      refine E.if_eq C dX8_doff_38 (tgt := 55) (by decide) (fun h38 => ?_) (fun h38 => ?_)
      · have h38 := b0.mp h38
        refine E.iload_n C dX8_doff_55 rfl rfl ?_
        exact N.iret C hR dX8_doff_56 (fun hi hx => by refine Or.inr ⟨by omega, by omega, by omega, by omega, hbx, ?_⟩; unfold offF; first | exact (if_pos (by omega)).symm | exact (if_neg (by omega)).symm)
      · have h38 := b0n.mp h38
        refine E.aload_n C dX8_doff_41 rfl rfl ?_
        refine N.getR C fa_X8_19 rfl dX8_doff_42 kd_1 (x := 4) (by decide +kernel) (by decide) ?_
        refine N.getR C fa_X8_132 rfl dX8_doff_45 (kdV hv4) (x := 4 + 2) (rvV1 hv4) (by have := posVk hv4; omega) ?_
        refine E.iload_n C dX8_doff_48 rfl rfl ?_
        refine N.aald C (t := 5) (by decide) dX8_doff_49 (kdVt hv4) (lnVt hv4) (by omega) (x := 4 + 13 + bx) (rvVt hv4 (by omega)) (by have := posVk hv4; omega) ?_
        refine E.bipush C dX8_doff_50 (by decide) ?_
        refine N.putI C fp_X8_158 rfl dX8_doff_52 (kdVT hv4 (by omega)) ?_
        refine E.iload_n C dX8_doff_55 rfl rfl ?_
        exact N.iret C hR dX8_doff_56 (fun hi hx => by refine Or.inr ⟨by omega, by omega, by omega, by omega, hbx, ?_⟩; unfold offF; first | exact (if_pos (by omega)).symm | exact (if_neg (by omega)).symm)
    · have h15 := b0.mp h15
      refine E.iconst C dX8_doff_18 (by decide) ?_
      exact N.iret C hR dX8_doff_19 (fun hi hx => by exact Or.inl ⟨by omega, rfl, rfl⟩)

set_option maxHeartbeats 4000000 in
set_option maxRecDepth 20000 in
theorem ok_X8_cold (G : GT) (s : Int) (v : VT) (hW : WFV v 4) : MNi G yX8_cold cX8_cold 2 (some .int) 2 46 [vr 1, vi s] v (fun x w => w = v ∧ (0 ≤ s ∧ s ≤ 1 ∧ x = orN (fun c => decide (wornI v 4 c s = -4)) (v 4 4).toNat ∨ ¬ (0 ≤ s ∧ s ≤ 1) ∧ x = -1)) := by
  refine MN.of pn_X8_cold [some (vr 1), some (vi s)] 0 rfl rfl (fun X C hX hn hR => ?_)
  have hN : ∀ i : Nat, i < 2 → i < xn X := fun i h => by rw [hn]; exact h
  refine E.rngk (fun hinv => ?_)
  refine E.loc (fun hloc => ?_)
  have hin_1 : in32 s := hloc _ (List.mem_of_getElem? (i := 1) rfl)
  have hW1 := hW.1
  have hW2 := hW.2.1
  refine E.iload_n C dX8_cold_0 rfl rfl ?_
  refine N.callSp (S := []) (As := [vi s]) C hX (ok_X8_isSlot G s v) yf_X8_isSlot yv_X8_isSlot ml_X8_175 rfl (by decide) (Nat.le_of_ble_eq_true rfl) dX8_cold_1 rfl ?_
  refine E.if_eq C dX8_cold_4 (tgt := 18) (by decide) (fun h4 => ?_) (fun h4 => ?_)
  · have h4 := b0.mp h4
    refine E.iconst C dX8_cold_18 (by decide) ?_
    exact N.iret C hR dX8_cold_19 (fun hi hx => by first | exact ⟨rfl, Or.inl ⟨by omega, by omega, rfl⟩⟩ | exact ⟨rfl, Or.inr ⟨by omega, rfl⟩⟩)
  · have h4 := b0n.mp h4
    refine E.aload_n C dX8_cold_7 rfl rfl ?_
    refine N.getR C fa_X8_19 rfl dX8_cold_8 kd_1 (x := 4) (by decide +kernel) (by decide) ?_
    refine E.iload_n C dX8_cold_11 rfl rfl ?_
    refine N.callVp (S := []) (As := [vi s]) C hX (ok_X7_coldOnes G 4 s v hv4 hW1 hW2) yf_X7_coldOnes yv_X7_coldOnes ml_X8_178 rfl rfl rfl (kdV hv4) (by decide) (by decide) (Nat.le_of_ble_eq_true rfl) dX8_cold_12 rfl ?_
    refine E.goto C dX8_cold_15 (tgt := 19) (by decide) ?_
    exact N.iret C hR dX8_cold_19 (fun hi hx => by first | exact ⟨rfl, Or.inl ⟨by omega, by omega, rfl⟩⟩ | exact ⟨rfl, Or.inr ⟨by omega, rfl⟩⟩)

set_option maxHeartbeats 4000000 in
set_option maxRecDepth 20000 in
theorem ok_X8_deal (G : GT) (s k sl : Int) (v : VT) (hW : WFV v 4) (hal : v 1 10 = sl) (hsl : 0 ≤ sl ∧ sl ≤ 4) : MNi G yX8_deal cX8_deal 4 (some .int) 5 120 [vr 1, vi s, vi k] v (fun x w => (∀ a j, (a < 54 ∨ 59 < a) → w a j = v a j) ∧ ((¬ ((0 ≤ s ∧ s ≤ 1) ∧ ((k = 0 ∨ k = 1) ∨ (0 ≤ w32 (k - 10) ∧ w32 (k - 10) < v 4 4))) ∧ x = -1) ∨ (((0 ≤ s ∧ s ≤ 1) ∧ ((k = 0 ∨ k = 1) ∨ (0 ≤ w32 (k - 10) ∧ w32 (k - 10) < v 4 4))) ∧ x = if k = 0 then warmV v 4 s sl else if k = 1 then v 4 4 - warmV v 4 s sl else dealV v 4 s sl (w32 (k - 10))))) := by
  refine MN.of pn_X8_deal [some (vr 1), some (vi s), some (vi k), none] 1 rfl rfl (fun X C hX hn hR => ?_)
  have hN : ∀ i : Nat, i < 4 → i < xn X := fun i h => by rw [hn]; exact h
  refine E.rngk (fun hinv => ?_)
  refine E.loc (fun hloc => ?_)
  have hin_1 : in32 s := hloc _ (List.mem_of_getElem? (i := 1) rfl)
  have hin_2 : in32 k := hloc _ (List.mem_of_getElem? (i := 2) rfl)
  have hW1 := hW.1
  have hW2 := hW.2.1
  have hwb := warm_bd (v := v) (o := 4) (s := s) (sl := sl) hW1.1
  refine E.iload_n C dX8_deal_0 rfl rfl ?_
  refine E.bipush C dX8_deal_1 (by decide) ?_
  refine E.isubW C dX8_deal_3 ?_
  refine N.ist_3 C dX8_deal_4 (hN 3 (by decide)) rfl ?_
  refine E.iload_n C dX8_deal_5 rfl rfl ?_
  refine N.callSp (S := []) (As := [vi s]) C hX (ok_X8_isSlot G s v) yf_X8_isSlot yv_X8_isSlot ml_X8_175 rfl (by decide) (Nat.le_of_ble_eq_true rfl) dX8_deal_6 rfl ?_
  refine E.if_eq C dX8_deal_9 (tgt := 30) (by decide) (fun h9 => ?_) (fun h9 => ?_)
  · have h9 := b0.mp h9
    refine E.iconst C dX8_deal_30 (by decide) ?_
    exact N.iret C hR dX8_deal_31 (fun hi hx => by exact ⟨fun a j _ => rfl, Or.inl ⟨by omega, rfl⟩⟩)
  · have h9 := b0n.mp h9
    refine E.iload_n C dX8_deal_12 rfl rfl ?_
    refine N.callSp (S := []) (As := [vi k]) C hX (ok_X8_isZeroOrOne G k v) yf_X8_isZeroOrOne yv_X8_isZeroOrOne ml_X8_182 rfl (by decide) (Nat.le_of_ble_eq_true rfl) dX8_deal_13 rfl ?_
    refine E.if_ne C dX8_deal_16 (tgt := 32) (by decide) (fun h16 => ?_) (fun h16 => ?_)
    · have h16 := b0n.mp h16
      refine E.aload_n C dX8_deal_32 rfl rfl ?_
      refine N.getR C fa_X8_52 rfl dX8_deal_33 kd_1 (x := 54) (by decide +kernel) (by decide) ?_
      refine E.aload_n C dX8_deal_36 rfl rfl ?_
      refine N.getR C fa_X8_19 rfl dX8_deal_37 kd_1 (x := 4) (by decide +kernel) (by decide) ?_
      refine E.iload_n C dX8_deal_40 rfl rfl ?_
      refine E.aload_n C dX8_deal_41 rfl rfl ?_
      refine N.getI C fa_X8_67 rfl dX8_deal_42 kd_1 (x := v 1 10) rfl ?_
      refine E.veq (x' := sl) (hal) ?_
      refine N.callVv (S := []) (As := [vr 4, vi s, vi sl]) C hX (ok_X1_make G 4 s sl v hv4 hW hsl) yf_X1_make yv_X1_make ml_X8_185 rfl rfl rfl kd_54 (by decide) (by decide) (Nat.le_of_ble_eq_true rfl) dX8_deal_45 rfl (fun w45 hp45 => ?_)
      obtain ⟨mf, m5, m6, m7, m8, m9, -⟩ := id hp45
      refine E.iload_n C dX8_deal_48 rfl rfl ?_
      refine E.if_ne C dX8_deal_49 (tgt := 60) (by decide) (fun h49 => ?_) (fun h49 => ?_)
      · skip
        refine E.iload_n C dX8_deal_60 rfl rfl ?_
        refine E.iconst C dX8_deal_61 (by decide) ?_
        refine E.icmp_ne C dX8_deal_62 (tgt := 83) (by decide) (fun h62 => ?_) (fun h62 => ?_)
        · skip
          refine E.aload_n C dX8_deal_83 rfl rfl ?_
          refine N.getR C fa_X8_52 rfl dX8_deal_84 kd_1 (x := 54) (by decide +kernel) (by decide) ?_
          refine E.iload_n C dX8_deal_87 rfl rfl ?_
          refine N.callVp (S := []) (As := [vi (w32 (k - 10))]) C hX (ok_X1_thingOf G (w32 (k - 10)) w45 (by rw [m5]; exact hW1)) yf_X1_thingOf yv_X1_thingOf ml_X8_195 rfl rfl rfl kd_54 (by decide) (by decide) (Nat.le_of_ble_eq_true rfl) dX8_deal_88 rfl ?_
          skip
          exact N.iret C hR dX8_deal_91 (fun hi hx => by first | (refine ⟨mf, Or.inr ⟨by omega, ?_⟩⟩; rw [if_neg (by omega), if_pos (by omega)]; done) | (refine ⟨mf, Or.inr ⟨by omega, ?_⟩⟩; rw [if_neg (by omega), if_pos (by omega), mf 4 4 (by decide)]; done) | (refine ⟨mf, Or.inr ⟨by omega, ?_⟩⟩; rw [if_pos (by rw [m5]; omega), m9 _ (by omega) (by omega), if_neg (by omega), if_neg (by omega)]))
        · skip
          refine E.aload_n C dX8_deal_65 rfl rfl ?_
          refine N.getR C fa_X8_19 rfl dX8_deal_66 kd_1 (x := 4) (by decide +kernel) (by decide) ?_
          refine N.getI C fa_X8_192 rfl dX8_deal_69 (kdV hv4) (x := v 4 4) (hp45.1 _ _ (by omega)) ?_
          refine E.aload_n C dX8_deal_72 rfl rfl ?_
          refine N.getR C fa_X8_52 rfl dX8_deal_73 kd_1 (x := 54) (by decide +kernel) (by decide) ?_
          refine N.getI C fa_X8_189 rfl dX8_deal_76 kd_54 (x := w45 54 7) rfl ?_
          refine E.veq (x' := warmV v 4 s sl) (m7) ?_
          refine E.isub C dX8_deal_79 (by omega) ?_
          refine E.goto C dX8_deal_80 (tgt := 91) (by decide) ?_
          skip
          exact N.iret C hR dX8_deal_91 (fun hi hx => by first | (refine ⟨mf, Or.inr ⟨by omega, ?_⟩⟩; rw [if_neg (by omega), if_pos (by omega)]; done) | (refine ⟨mf, Or.inr ⟨by omega, ?_⟩⟩; rw [if_neg (by omega), if_pos (by omega), mf 4 4 (by decide)]; done) | (refine ⟨mf, Or.inr ⟨by omega, ?_⟩⟩; rw [if_pos (by rw [m5]; omega), m9 _ (by omega) (by omega), if_neg (by omega), if_neg (by omega)]))
      · skip
        refine E.aload_n C dX8_deal_52 rfl rfl ?_
        refine N.getR C fa_X8_52 rfl dX8_deal_53 kd_1 (x := 54) (by decide +kernel) (by decide) ?_
        refine N.getI C fa_X8_189 rfl dX8_deal_56 kd_54 (x := w45 54 7) rfl ?_
        refine E.veq (x' := warmV v 4 s sl) (m7) ?_
        exact N.iret C hR dX8_deal_59 (fun hi hx => by exact ⟨mf, Or.inr ⟨by omega, by rw [if_pos (by omega)]⟩⟩)
    · have h16 := b0.mp h16
      refine E.aload_n C dX8_deal_19 rfl rfl ?_
      refine N.getR C fa_X8_19 rfl dX8_deal_20 kd_1 (x := 4) (by decide +kernel) (by decide) ?_
      refine E.iload_n C dX8_deal_23 rfl rfl ?_
      refine N.callVp (S := []) (As := [vi (w32 (k - 10))]) C hX (ok_X7_hasChild G 4 (w32 (k - 10)) v hv4) yf_X7_hasChild yv_X7_hasChild ml_X8_106 rfl rfl rfl (kdV hv4) (by decide) (by decide) (Nat.le_of_ble_eq_true rfl) dX8_deal_24 rfl ?_
      refine E.if_ne C dX8_deal_27 (tgt := 32) (by decide) (fun h27 => ?_) (fun h27 => ?_)
      · have h27 := b0n.mp h27
        refine E.aload_n C dX8_deal_32 rfl rfl ?_
        refine N.getR C fa_X8_52 rfl dX8_deal_33 kd_1 (x := 54) (by decide +kernel) (by decide) ?_
        refine E.aload_n C dX8_deal_36 rfl rfl ?_
        refine N.getR C fa_X8_19 rfl dX8_deal_37 kd_1 (x := 4) (by decide +kernel) (by decide) ?_
        refine E.iload_n C dX8_deal_40 rfl rfl ?_
        refine E.aload_n C dX8_deal_41 rfl rfl ?_
        refine N.getI C fa_X8_67 rfl dX8_deal_42 kd_1 (x := v 1 10) rfl ?_
        refine E.veq (x' := sl) (hal) ?_
        refine N.callVv (S := []) (As := [vr 4, vi s, vi sl]) C hX (ok_X1_make G 4 s sl v hv4 hW hsl) yf_X1_make yv_X1_make ml_X8_185 rfl rfl rfl kd_54 (by decide) (by decide) (Nat.le_of_ble_eq_true rfl) dX8_deal_45 rfl (fun w45 hp45 => ?_)
        obtain ⟨mf, m5, m6, m7, m8, m9, -⟩ := id hp45
        refine E.iload_n C dX8_deal_48 rfl rfl ?_
        refine E.if_ne C dX8_deal_49 (tgt := 60) (by decide) (fun h49 => ?_) (fun h49 => ?_)
        · skip
          refine E.iload_n C dX8_deal_60 rfl rfl ?_
          refine E.iconst C dX8_deal_61 (by decide) ?_
          refine E.icmp_ne C dX8_deal_62 (tgt := 83) (by decide) (fun h62 => ?_) (fun h62 => ?_)
          · skip
            refine E.aload_n C dX8_deal_83 rfl rfl ?_
            refine N.getR C fa_X8_52 rfl dX8_deal_84 kd_1 (x := 54) (by decide +kernel) (by decide) ?_
            refine E.iload_n C dX8_deal_87 rfl rfl ?_
            refine N.callVp (S := []) (As := [vi (w32 (k - 10))]) C hX (ok_X1_thingOf G (w32 (k - 10)) w45 (by rw [m5]; exact hW1)) yf_X1_thingOf yv_X1_thingOf ml_X8_195 rfl rfl rfl kd_54 (by decide) (by decide) (Nat.le_of_ble_eq_true rfl) dX8_deal_88 rfl ?_
            skip
            exact N.iret C hR dX8_deal_91 (fun hi hx => by first | (refine ⟨mf, Or.inr ⟨by omega, ?_⟩⟩; rw [if_neg (by omega), if_pos (by omega)]; done) | (refine ⟨mf, Or.inr ⟨by omega, ?_⟩⟩; rw [if_neg (by omega), if_pos (by omega), mf 4 4 (by decide)]; done) | (refine ⟨mf, Or.inr ⟨by omega, ?_⟩⟩; rw [if_pos (by rw [m5]; omega), m9 _ (by omega) (by omega), if_neg (by omega), if_neg (by omega)]))
          · skip
            refine E.aload_n C dX8_deal_65 rfl rfl ?_
            refine N.getR C fa_X8_19 rfl dX8_deal_66 kd_1 (x := 4) (by decide +kernel) (by decide) ?_
            refine N.getI C fa_X8_192 rfl dX8_deal_69 (kdV hv4) (x := v 4 4) (hp45.1 _ _ (by omega)) ?_
            refine E.aload_n C dX8_deal_72 rfl rfl ?_
            refine N.getR C fa_X8_52 rfl dX8_deal_73 kd_1 (x := 54) (by decide +kernel) (by decide) ?_
            refine N.getI C fa_X8_189 rfl dX8_deal_76 kd_54 (x := w45 54 7) rfl ?_
            refine E.veq (x' := warmV v 4 s sl) (m7) ?_
            refine E.isub C dX8_deal_79 (by omega) ?_
            refine E.goto C dX8_deal_80 (tgt := 91) (by decide) ?_
            skip
            exact N.iret C hR dX8_deal_91 (fun hi hx => by first | (refine ⟨mf, Or.inr ⟨by omega, ?_⟩⟩; rw [if_neg (by omega), if_pos (by omega)]; done) | (refine ⟨mf, Or.inr ⟨by omega, ?_⟩⟩; rw [if_neg (by omega), if_pos (by omega), mf 4 4 (by decide)]; done) | (refine ⟨mf, Or.inr ⟨by omega, ?_⟩⟩; rw [if_pos (by rw [m5]; omega), m9 _ (by omega) (by omega), if_neg (by omega), if_neg (by omega)]))
        · skip
          refine E.aload_n C dX8_deal_52 rfl rfl ?_
          refine N.getR C fa_X8_52 rfl dX8_deal_53 kd_1 (x := 54) (by decide +kernel) (by decide) ?_
          refine N.getI C fa_X8_189 rfl dX8_deal_56 kd_54 (x := w45 54 7) rfl ?_
          refine E.veq (x' := warmV v 4 s sl) (m7) ?_
          exact N.iret C hR dX8_deal_59 (fun hi hx => by exact ⟨mf, Or.inr ⟨by omega, by rw [if_pos (by omega)]⟩⟩)
      · have h27 := b0.mp h27
        refine E.iconst C dX8_deal_30 (by decide) ?_
        exact N.iret C hR dX8_deal_31 (fun hi hx => by exact ⟨fun a j _ => rfl, Or.inl ⟨by omega, rfl⟩⟩)

set_option maxHeartbeats 4000000 in
set_option maxRecDepth 20000 in
theorem ok_X8_dress (G : GT) (s sl : Int) (v : VT) (hW : WFV v 4) (hal : v 1 10 = sl) (hsl : 0 ≤ sl ∧ sl ≤ 4) : MNi G yX8_dress cX8_dress 2 (some .int) 5 121 [vr 1, vi s] v (fun x w => (¬ (0 ≤ s ∧ s ≤ 1) ∧ x = -1 ∧ w = v) ∨ (0 ≤ s ∧ s ≤ 1 ∧ x = newV v 4 s sl ∧ (∀ a j, (a < 54 ∨ 59 < a) → w a j = drsV v 4 s sl a j) ∧ WFV (drsV v 4 s sl) 4)) := by
  refine MN.of pn_X8_dress [some (vr 1), some (vi s)] 0 rfl rfl (fun X C hX hn hR => ?_)
  have hN : ∀ i : Nat, i < 2 → i < xn X := fun i h => by rw [hn]; exact h
  refine E.rngk (fun hinv => ?_)
  refine E.loc (fun hloc => ?_)
  have hin_1 : in32 s := hloc _ (List.mem_of_getElem? (i := 1) rfl)
  refine E.iload_n C dX8_dress_0 rfl rfl ?_
  refine N.callSp (S := []) (As := [vi s]) C hX (ok_X8_isSlot G s v) yf_X8_isSlot yv_X8_isSlot ml_X8_175 rfl (by decide) (Nat.le_of_ble_eq_true rfl) dX8_dress_1 rfl ?_
  refine E.if_eq C dX8_dress_4 (tgt := 19) (by decide) (fun h4 => ?_) (fun h4 => ?_)
  · have h4 := b0.mp h4
    refine E.iconst C dX8_dress_19 (by decide) ?_
    exact N.iret C hR dX8_dress_20 (fun hi hx => by first | exact Or.inl ⟨by omega, rfl, rfl⟩ | exact Or.inr ⟨by omega, by omega, hp13⟩)
  · have h4 := b0n.mp h4
    refine E.aload_n C dX8_dress_7 rfl rfl ?_
    refine E.aload_n C dX8_dress_8 rfl rfl ?_
    refine N.getR C fa_X8_19 rfl dX8_dress_9 kd_1 (x := 4) (by decide +kernel) (by decide) ?_
    refine E.iload_n C dX8_dress_12 rfl rfl ?_
    refine N.callVi (S := []) (As := [vr 4, vi s]) C hX (ok_X8_dressAll G 4 s sl v hv4 hW hal hsl) yf_X8_dressAll yv_X8_dressAll ml_X8_198 rfl rfl rfl kd_1 (by decide) (by decide) (Nat.le_of_ble_eq_true rfl) dX8_dress_13 rfl (fun t13 w13 hb13 hp13 => ?_)
    refine E.goto C dX8_dress_16 (tgt := 20) (by decide) ?_
    exact N.iret C hR dX8_dress_20 (fun hi hx => by first | exact Or.inl ⟨by omega, rfl, rfl⟩ | exact Or.inr ⟨by omega, by omega, hp13⟩)

set_option maxHeartbeats 4000000 in
set_option maxRecDepth 20000 in
theorem ok_X8_spare (G : GT) (s sl : Int) (v : VT) (hW : WFV v 4) (hal : v 1 10 = sl) (hsl : 0 ≤ sl ∧ sl ≤ 4) : MNi G yX8_spare cX8_spare 2 (some .int) 5 120 [vr 1, vi s] v (fun x w => (∀ a j, (a < 54 ∨ 59 < a) → w a j = v a j) ∧ ((¬ (0 ≤ s ∧ s ≤ 1) ∧ x = -1) ∨ (0 ≤ s ∧ s ≤ 1 ∧ MakeQ v 4 s sl w ∧ x = orN (leftB w 4 s 1) (v 4 5).toNat))) := by
  refine MN.of pn_X8_spare [some (vr 1), some (vi s)] 0 rfl rfl (fun X C hX hn hR => ?_)
  have hN : ∀ i : Nat, i < 2 → i < xn X := fun i h => by rw [hn]; exact h
  refine E.rngk (fun hinv => ?_)
  refine E.loc (fun hloc => ?_)
  have hin_1 : in32 s := hloc _ (List.mem_of_getElem? (i := 1) rfl)
  have hW1 := hW.1
  have hW2 := hW.2.1
  refine E.iload_n C dX8_spare_0 rfl rfl ?_
  refine N.callSp (S := []) (As := [vi s]) C hX (ok_X8_isSlot G s v) yf_X8_isSlot yv_X8_isSlot ml_X8_175 rfl (by decide) (Nat.le_of_ble_eq_true rfl) dX8_spare_1 rfl ?_
  refine E.if_ne C dX8_spare_4 (tgt := 9) (by decide) (fun h4 => ?_) (fun h4 => ?_)
  · have h4 := b0n.mp h4
    refine E.aload_n C dX8_spare_9 rfl rfl ?_
    refine N.getR C fa_X8_52 rfl dX8_spare_10 kd_1 (x := 54) (by decide +kernel) (by decide) ?_
    refine E.aload_n C dX8_spare_13 rfl rfl ?_
    refine N.getR C fa_X8_19 rfl dX8_spare_14 kd_1 (x := 4) (by decide +kernel) (by decide) ?_
    refine E.iload_n C dX8_spare_17 rfl rfl ?_
    refine E.aload_n C dX8_spare_18 rfl rfl ?_
    refine N.getI C fa_X8_67 rfl dX8_spare_19 kd_1 (x := v 1 10) rfl ?_
    refine E.veq (x' := sl) (hal) ?_
    refine N.callVv (S := []) (As := [vr 4, vi s, vi sl]) C hX (ok_X1_make G 4 s sl v hv4 hW hsl) yf_X1_make yv_X1_make ml_X8_185 rfl rfl rfl kd_54 (by decide) (by decide) (Nat.le_of_ble_eq_true rfl) dX8_spare_22 rfl (fun w22 hp22 => ?_)
    have hs22 := make_sm hv4 hW1.2 hW2.2 hp22
    have e5 := hs22.2.1
    refine E.aload_n C dX8_spare_25 rfl rfl ?_
    refine N.getR C fa_X8_52 rfl dX8_spare_26 kd_1 (x := 54) (by decide +kernel) (by decide) ?_
    refine E.aload_n C dX8_spare_29 rfl rfl ?_
    refine N.getR C fa_X8_19 rfl dX8_spare_30 kd_1 (x := 4) (by decide +kernel) (by decide) ?_
    refine E.iload_n C dX8_spare_33 rfl rfl ?_
    refine E.iconst C dX8_spare_34 (by decide) ?_
    refine N.callVp (S := []) (As := [vr 4, vi s, vi 1]) C hX (ok_X1_leftOf G 4 s 1 w22 hv4 (by rw [e5]; exact hW2) (hs22.wfv hW).th) yf_X1_leftOf yv_X1_leftOf ml_X8_202 rfl rfl rfl kd_54 (by decide) (by decide) (Nat.le_of_ble_eq_true rfl) dX8_spare_35 rfl ?_
    exact N.iret C hR dX8_spare_38 (fun hi hx => by first | exact ⟨fun a j _ => rfl, Or.inl ⟨by omega, rfl⟩⟩ | exact ⟨hp22.1, Or.inr ⟨by omega, by omega, hp22, by rw [e5]⟩⟩)
  · have h4 := b0.mp h4
    refine E.iconst C dX8_spare_7 (by decide) ?_
    exact N.iret C hR dX8_spare_8 (fun hi hx => by first | exact ⟨fun a j _ => rfl, Or.inl ⟨by omega, rfl⟩⟩ | exact ⟨hp22.1, Or.inr ⟨by omega, by omega, hp22, by rw [e5]⟩⟩)

set_option maxHeartbeats 4000000 in
set_option maxRecDepth 20000 in
theorem ok_X8_winter (G : GT) (v : VT) (hW : WFV v 4) : MNi G yX8_winter cX8_winter 1 (some .int) 2 43 [vr 1] v (fun x w => x = cntN (winP v 4) (v 4 5).toNat ∧ w = winF v 4 (v 4 5)) := by
  refine MN.of pn_X8_winter [some (vr 1)] 0 rfl rfl (fun X C hX hn hR => ?_)
  have hN : ∀ i : Nat, i < 1 → i < xn X := fun i h => by rw [hn]; exact h
  refine E.rngk (fun hinv => ?_)
  refine E.loc (fun hloc => ?_)
  refine E.aload_n C dX8_winter_0 rfl rfl ?_
  refine N.getR C fa_X8_19 rfl dX8_winter_1 kd_1 (x := 4) (by decide +kernel) (by decide) ?_
  refine N.callVd (S := []) (As := []) C hX (ok_X7_passWinter G 4 v hv4 hW.2.1 hW.wi) yf_X7_passWinter yv_X7_passWinter ml_X8_206 rfl rfl rfl (kdV hv4) (by decide) (by decide) (Nat.le_of_ble_eq_true rfl) dX8_winter_4 rfl ?_
  exact N.iret C hR dX8_winter_7 (fun hi hx => by exact ⟨rfl, rfl⟩)

set_option maxHeartbeats 4000000 in
set_option maxRecDepth 20000 in
theorem ok_X8_spring (G : GT) (q sl : Int) (v : VT) (hW : WFV v 4) (hal : v 1 10 = sl) (hsl : 0 ≤ sl ∧ sl ≤ 4) : MNi G yX8_spring cX8_spring 2 (some .int) 4 94 [vr 1, vi q] v (fun x w => x = cntN (offB (grwF v 4 q (v 4 4)) 4 (v 4 4) sl) (v 4 5).toNat ∧ w = sprV v 4 q sl) := by
  refine MN.of pn_X8_spring [some (vr 1), some (vi q)] 0 rfl rfl (fun X C hX hn hR => ?_)
  have hN : ∀ i : Nat, i < 2 → i < xn X := fun i h => by rw [hn]; exact h
  refine E.rngk (fun hinv => ?_)
  refine E.loc (fun hloc => ?_)
  have hin_1 : in32 q := hloc _ (List.mem_of_getElem? (i := 1) rfl)
  refine E.aload_n C dX8_spring_0 rfl rfl ?_
  refine N.getR C fa_X8_19 rfl dX8_spring_1 kd_1 (x := 4) (by decide +kernel) (by decide) ?_
  refine E.iload_n C dX8_spring_4 rfl rfl ?_
  refine E.aload_n C dX8_spring_5 rfl rfl ?_
  refine N.getI C fa_X8_67 rfl dX8_spring_6 kd_1 (x := v 1 10) rfl ?_
  refine E.veq (x' := sl) (hal) ?_
  refine N.callVd (S := []) (As := [vi q, vi sl]) C hX (ok_X7_passSpring G 4 q sl v hv4 hW.1 hW.2.1 hW.ch hW.th ⟨by omega, by omega⟩) yf_X7_passSpring yv_X7_passSpring ml_X8_209 rfl rfl rfl (kdV hv4) (by decide) (by decide) (Nat.le_of_ble_eq_true rfl) dX8_spring_9 rfl ?_
  exact N.iret C hR dX8_spring_12 (fun hi hx => by exact ⟨rfl, rfl⟩)
