set_option maxHeartbeats 4000000 in
set_option maxRecDepth 20000 in
theorem ok_X9_in (G : GT) (a b c : Int) (v : VT) : MP G yX9_in cX9_in 6 (some .boolean) 0 0 [vl a, vl b, vl c] v (if b ≤ a ∧ a ≤ c then 1 else 0) := by
  refine MN.of pn_X9_in [some (vl a), none, some (vl b), none, some (vl c), none] 0 rfl rfl (fun X C hX hn hR => ?_)
  have hN : ∀ i : Nat, i < 6 → i < xn X := fun i h => by rw [hn]; exact h
  refine E.rngk (fun hinv => ?_)
  refine E.loc (fun hloc => ?_)
  have hin_0 : in64 a := hloc _ (List.mem_of_getElem? (i := 0) rfl)
  have hin_2 : in64 b := hloc _ (List.mem_of_getElem? (i := 2) rfl)
  have hin_4 : in64 c := hloc _ (List.mem_of_getElem? (i := 4) rfl)
  refine E.lload_n C dX9_in_0 rfl rfl ?_
  refine E.lload_n C dX9_in_1 rfl rfl ?_
  refine E.lcmp C dX9_in_2 ?_
  refine E.if_lt C dX9_in_3 (tgt := 17) (by decide) (fun h3 => ?_) (fun h3 => ?_)
  · have h3 := lcmpv_lt.mp h3
    refine E.iconst C dX9_in_17 (by decide) ?_
    exact N.zret C hR dX9_in_18 (by omega) (fun hi => by refine ⟨?_, rfl⟩; (try split) <;> omega)
  · have h3 := mt lcmpv_lt.mpr h3
    refine E.lload_n C dX9_in_6 rfl rfl ?_
    refine E.lload C dX9_in_7 rfl ?_
    refine E.lcmp C dX9_in_9 ?_
    refine E.if_gt C dX9_in_10 (tgt := 17) (by decide) (fun h10 => ?_) (fun h10 => ?_)
    · have h10 := lcmpv_gt.mp h10
      refine E.iconst C dX9_in_17 (by decide) ?_
      exact N.zret C hR dX9_in_18 (by omega) (fun hi => by refine ⟨?_, rfl⟩; (try split) <;> omega)
    · have h10 := mt lcmpv_gt.mpr h10
      refine E.iconst C dX9_in_13 (by decide) ?_
      refine E.goto C dX9_in_14 (tgt := 18) (by decide) ?_
      exact N.zret C hR dX9_in_18 (by omega) (fun hi => by refine ⟨?_, rfl⟩; (try split) <;> omega)

set_option maxHeartbeats 4000000 in
set_option maxRecDepth 20000 in
theorem ok_X9_flag (G : GT) (a : Int) (v : VT) (ha : a = 0 ∨ a = 1) : MP G yX9_flag cX9_flag 1 (some .int) 0 0 [vi a] v (a) := by
  refine MN.of pn_X9_flag [some (vi a)] 0 rfl rfl (fun X C hX hn hR => ?_)
  have hN : ∀ i : Nat, i < 1 → i < xn X := fun i h => by rw [hn]; exact h
  refine E.rngk (fun hinv => ?_)
  refine E.loc (fun hloc => ?_)
  have hin_0 : in32 a := hloc _ (List.mem_of_getElem? (i := 0) rfl)
  refine E.iload_n C dX9_flag_0 rfl rfl ?_
  refine E.if_eq C dX9_flag_1 (tgt := 8) (by decide) (fun h1 => ?_) (fun h1 => ?_)
  · skip
    refine E.iconst C dX9_flag_8 (by decide) ?_
    exact N.iret C hR dX9_flag_9 (fun hi hx => by refine ⟨by omega, rfl⟩)
  · skip
    refine E.iconst C dX9_flag_4 (by decide) ?_
    refine E.goto C dX9_flag_5 (tgt := 9) (by decide) ?_
    exact N.iret C hR dX9_flag_9 (fun hi hx => by refine ⟨by omega, rfl⟩)

set_option maxHeartbeats 4000000 in
set_option maxRecDepth 20000 in
theorem ok_X9_isSlot (G : GT) (a : Int) (v : VT) : MP G yX9_isSlot cX9_isSlot 1 (some .boolean) 1 25 [vi a] v (if 0 ≤ a ∧ a ≤ 1 then 1 else 0) := by
  refine MN.of pn_X9_isSlot [some (vi a)] 0 rfl rfl (fun X C hX hn hR => ?_)
  have hN : ∀ i : Nat, i < 1 → i < xn X := fun i h => by rw [hn]; exact h
  refine E.rngk (fun hinv => ?_)
  refine E.loc (fun hloc => ?_)
  have hin_0 : in32 a := hloc _ (List.mem_of_getElem? (i := 0) rfl)
  refine E.iload_n C dX9_isSlot_0 rfl rfl ?_
  refine E.i2l C dX9_isSlot_1 ?_
  refine E.lconst C dX9_isSlot_2 (x := 0) rfl ?_
  refine E.lconst C dX9_isSlot_3 (x := 1) rfl ?_
  refine N.callSp (S := []) (As := [vl a, vl 0, vl 1]) C hX (ok_X9_in G a 0 1 v) yf_X9_in yv_X9_in ml_X9_93 rfl (by decide) (Nat.le_of_ble_eq_true rfl) dX9_isSlot_4 rfl ?_
  exact N.zret C hR dX9_isSlot_7 (by first | exact bdec | omega) (fun hi => by exact ⟨rfl, rfl⟩)

set_option maxHeartbeats 4000000 in
set_option maxRecDepth 20000 in
theorem ok_X9_areYears (G : GT) (a : Int) (v : VT) : MP G yX9_areYears cX9_areYears 1 (some .boolean) 1 25 [vi a] v (if 1 ≤ a ∧ a ≤ 4 then 1 else 0) := by
  refine MN.of pn_X9_areYears [some (vi a)] 0 rfl rfl (fun X C hX hn hR => ?_)
  have hN : ∀ i : Nat, i < 1 → i < xn X := fun i h => by rw [hn]; exact h
  refine E.rngk (fun hinv => ?_)
  refine E.loc (fun hloc => ?_)
  have hin_0 : in32 a := hloc _ (List.mem_of_getElem? (i := 0) rfl)
  refine E.iload_n C dX9_areYears_0 rfl rfl ?_
  refine E.i2l C dX9_areYears_1 ?_
  refine E.lconst C dX9_areYears_2 (x := 1) rfl ?_
  refine E.ldc2 C ct_X9_196 (x := 4) (by decide) dX9_areYears_3 ?_
  refine N.callSp (S := []) (As := [vl a, vl 1, vl 4]) C hX (ok_X9_in G a 1 4 v) yf_X9_in yv_X9_in ml_X9_93 rfl (by decide) (Nat.le_of_ble_eq_true rfl) dX9_areYears_6 rfl ?_
  exact N.zret C hR dX9_areYears_9 (by first | exact bdec | omega) (fun hi => by exact ⟨rfl, rfl⟩)

set_option maxHeartbeats 4000000 in
set_option maxRecDepth 20000 in
theorem ok_X9_isSheet (G : GT) (a b : Int) (v : VT) : MP G yX9_isSheet cX9_isSheet 2 (some .boolean) 1 25 [vi a, vi b] v (if (0 ≤ a ∧ a ≤ 3) ∧ (0 ≤ b ∧ b ≤ 2) then 1 else 0) := by
  refine MN.of pn_X9_isSheet [some (vi a), some (vi b)] 0 rfl rfl (fun X C hX hn hR => ?_)
  have hN : ∀ i : Nat, i < 2 → i < xn X := fun i h => by rw [hn]; exact h
  refine E.rngk (fun hinv => ?_)
  refine E.loc (fun hloc => ?_)
  have hin_0 : in32 a := hloc _ (List.mem_of_getElem? (i := 0) rfl)
  have hin_1 : in32 b := hloc _ (List.mem_of_getElem? (i := 1) rfl)
  refine E.iload_n C dX9_isSheet_0 rfl rfl ?_
  refine E.i2l C dX9_isSheet_1 ?_
  refine E.lconst C dX9_isSheet_2 (x := 0) rfl ?_
  refine E.ldc2 C ct_X9_200 (x := 3) (by decide) dX9_isSheet_3 ?_
  refine N.callSp (S := []) (As := [vl a, vl 0, vl 3]) C hX (ok_X9_in G a 0 3 v) yf_X9_in yv_X9_in ml_X9_93 rfl (by decide) (Nat.le_of_ble_eq_true rfl) dX9_isSheet_6 rfl ?_
  refine E.if_eq C dX9_isSheet_9 (tgt := 28) (by decide) (fun h9 => ?_) (fun h9 => ?_)
  · have h9 := b0.mp h9
    refine E.iconst C dX9_isSheet_28 (by decide) ?_
    exact N.zret C hR dX9_isSheet_29 (by omega) (fun hi => by refine ⟨?_, rfl⟩; (try split) <;> omega)
  · have h9 := b0n.mp h9
    refine E.iload_n C dX9_isSheet_12 rfl rfl ?_
    refine E.i2l C dX9_isSheet_13 ?_
    refine E.lconst C dX9_isSheet_14 (x := 0) rfl ?_
    refine E.ldc2 C ct_X9_182 (x := 2) (by decide) dX9_isSheet_15 ?_
    refine N.callSp (S := []) (As := [vl b, vl 0, vl 2]) C hX (ok_X9_in G b 0 2 v) yf_X9_in yv_X9_in ml_X9_93 rfl (by decide) (Nat.le_of_ble_eq_true rfl) dX9_isSheet_18 rfl ?_
    refine E.if_eq C dX9_isSheet_21 (tgt := 28) (by decide) (fun h21 => ?_) (fun h21 => ?_)
    · have h21 := b0.mp h21
      refine E.iconst C dX9_isSheet_28 (by decide) ?_
      exact N.zret C hR dX9_isSheet_29 (by omega) (fun hi => by refine ⟨?_, rfl⟩; (try split) <;> omega)
    · have h21 := b0n.mp h21
      refine E.iconst C dX9_isSheet_24 (by decide) ?_
      refine E.goto C dX9_isSheet_25 (tgt := 29) (by decide) ?_
      exact N.zret C hR dX9_isSheet_29 (by omega) (fun hi => by refine ⟨?_, rfl⟩; (try split) <;> omega)

set_option maxHeartbeats 4000000 in
set_option maxRecDepth 20000 in
theorem ok_X9_isChild (G : GT) (a : Int) (v : VT) (hc : 0 ≤ v 120 0 ∧ v 120 0 ≤ 8) : MP G yX9_isChild cX9_isChild 2 (some .boolean) 1 25 [vr 119, vi a] v (if 0 ≤ a ∧ a ≤ v 120 0 - 1 then 1 else 0) := by
  refine MN.of pn_X9_isChild [some (vr 119), some (vi a)] 0 rfl rfl (fun X C hX hn hR => ?_)
  have hN : ∀ i : Nat, i < 2 → i < xn X := fun i h => by rw [hn]; exact h
  refine E.rngk (fun hinv => ?_)
  refine E.loc (fun hloc => ?_)
  have hin_1 : in32 a := hloc _ (List.mem_of_getElem? (i := 1) rfl)
  refine E.iload_n C dX9_isChild_0 rfl rfl ?_
  refine E.i2l C dX9_isChild_1 ?_
  refine E.lconst C dX9_isChild_2 (x := 0) rfl ?_
  refine E.aload_n C dX9_isChild_3 rfl rfl ?_
  refine N.getR C fa_X9_7 rfl dX9_isChild_4 kd_119 (x := 120) (by decide +kernel) (by decide) ?_
  refine E.iconst C dX9_isChild_7 (by decide) ?_
  refine N.iald C dX9_isChild_8 kd_120 ln_120 (by omega) (x := v 120 0) rfl ?_
  refine E.iconst C dX9_isChild_9 (by decide) ?_
  refine E.isub C dX9_isChild_10 (by omega) ?_
  refine E.i2l C dX9_isChild_11 ?_
  refine N.callSp (S := []) (As := [vl a, vl 0, vl ((v 120 0) - 1)]) C hX (ok_X9_in G a 0 ((v 120 0) - 1) v) yf_X9_in yv_X9_in ml_X9_93 rfl (by decide) (Nat.le_of_ble_eq_true rfl) dX9_isChild_12 rfl ?_
  exact N.zret C hR dX9_isChild_15 (by first | exact bdec | omega) (fun hi => by exact ⟨rfl, rfl⟩)

set_option maxHeartbeats 4000000 in
set_option maxRecDepth 20000 in
theorem ok_X9_isThing (G : GT) (a : Int) (v : VT) (hb : 0 ≤ v 120 41 ∧ v 120 41 ≤ 10) : MP G yX9_isThing cX9_isThing 2 (some .boolean) 1 25 [vr 119, vi a] v (if 0 ≤ a ∧ a ≤ v 120 41 - 1 then 1 else 0) := by
  refine MN.of pn_X9_isThing [some (vr 119), some (vi a)] 0 rfl rfl (fun X C hX hn hR => ?_)
  have hN : ∀ i : Nat, i < 2 → i < xn X := fun i h => by rw [hn]; exact h
  refine E.rngk (fun hinv => ?_)
  refine E.loc (fun hloc => ?_)
  have hin_1 : in32 a := hloc _ (List.mem_of_getElem? (i := 1) rfl)
  refine E.iload_n C dX9_isThing_0 rfl rfl ?_
  refine E.i2l C dX9_isThing_1 ?_
  refine E.lconst C dX9_isThing_2 (x := 0) rfl ?_
  refine E.aload_n C dX9_isThing_3 rfl rfl ?_
  refine N.getR C fa_X9_7 rfl dX9_isThing_4 kd_119 (x := 120) (by decide +kernel) (by decide) ?_
  refine E.bipush C dX9_isThing_7 (by decide) ?_
  refine N.iald C dX9_isThing_9 kd_120 ln_120 (by omega) (x := v 120 41) rfl ?_
  refine E.iconst C dX9_isThing_10 (by decide) ?_
  refine E.isub C dX9_isThing_11 (by omega) ?_
  refine E.i2l C dX9_isThing_12 ?_
  refine N.callSp (S := []) (As := [vl a, vl 0, vl ((v 120 41) - 1)]) C hX (ok_X9_in G a 0 ((v 120 41) - 1) v) yf_X9_in yv_X9_in ml_X9_93 rfl (by decide) (Nat.le_of_ble_eq_true rfl) dX9_isThing_13 rfl ?_
  exact N.zret C hR dX9_isThing_16 (by first | exact bdec | omega) (fun hi => by exact ⟨rfl, rfl⟩)

set_option maxHeartbeats 4000000 in
set_option maxRecDepth 20000 in
theorem ok_X9_of (G : GT) (t k : Int) (v : VT) (hx : 0 ≤ t ∧ t < 10 ∧ 0 ≤ k ∧ k < 7) : MP G yX9_of cX9_of 3 (some .int) 0 0 [vr 119, vi t, vi k] v (v 120 (42 + 7 * t + k)) := by
  refine MN.of pn_X9_of [some (vr 119), some (vi t), some (vi k)] 0 rfl rfl (fun X C hX hn hR => ?_)
  have hN : ∀ i : Nat, i < 3 → i < xn X := fun i h => by rw [hn]; exact h
  refine E.rngk (fun hinv => ?_)
  refine E.loc (fun hloc => ?_)
  have hin_1 : in32 t := hloc _ (List.mem_of_getElem? (i := 1) rfl)
  have hin_2 : in32 k := hloc _ (List.mem_of_getElem? (i := 2) rfl)
  refine E.aload_n C dX9_of_0 rfl rfl ?_
  refine N.getR C fa_X9_7 rfl dX9_of_1 kd_119 (x := 120) (by decide +kernel) (by decide) ?_
  refine E.bipush C dX9_of_4 (by decide) ?_
  refine E.bipush C dX9_of_6 (by decide) ?_
  refine E.iload_n C dX9_of_8 rfl rfl ?_
  refine E.imul C dX9_of_9 (by omega) ?_
  refine E.iadd C dX9_of_10 (by omega) ?_
  refine E.iload_n C dX9_of_11 rfl rfl ?_
  refine E.iadd C dX9_of_12 (by omega) ?_
  refine N.iald C dX9_of_13 kd_120 ln_120 (by omega) (x := v 120 ((42 + (7 * t)) + k)) rfl ?_
  exact N.iret C hR dX9_of_14 (fun hi hx => by exact ⟨rfl, rfl⟩)

set_option maxHeartbeats 4000000 in
set_option maxRecDepth 20000 in
theorem ok_X9_worn (G : GT) (c s : Int) (v : VT) (hx : 0 ≤ c ∧ c < 8 ∧ 0 ≤ s ∧ s < 2) : MP G yX9_worn cX9_worn 3 (some .int) 0 0 [vr 119, vi c, vi s] v (v 120 (1 + 5 * c + 3 + s)) := by
  refine MN.of pn_X9_worn [some (vr 119), some (vi c), some (vi s)] 0 rfl rfl (fun X C hX hn hR => ?_)
  have hN : ∀ i : Nat, i < 3 → i < xn X := fun i h => by rw [hn]; exact h
  refine E.rngk (fun hinv => ?_)
  refine E.loc (fun hloc => ?_)
  have hin_1 : in32 c := hloc _ (List.mem_of_getElem? (i := 1) rfl)
  have hin_2 : in32 s := hloc _ (List.mem_of_getElem? (i := 2) rfl)
  refine E.aload_n C dX9_worn_0 rfl rfl ?_
  refine N.getR C fa_X9_7 rfl dX9_worn_1 kd_119 (x := 120) (by decide +kernel) (by decide) ?_
  refine E.iconst C dX9_worn_4 (by decide) ?_
  refine E.iconst C dX9_worn_5 (by decide) ?_
  refine E.iload_n C dX9_worn_6 rfl rfl ?_
  refine E.imul C dX9_worn_7 (by omega) ?_
  refine E.iadd C dX9_worn_8 (by omega) ?_
  refine E.iconst C dX9_worn_9 (by decide) ?_
  refine E.iadd C dX9_worn_10 (by omega) ?_
  refine E.iload_n C dX9_worn_11 rfl rfl ?_
  refine E.iadd C dX9_worn_12 (by omega) ?_
  refine N.iald C dX9_worn_13 kd_120 ln_120 (by omega) (x := v 120 (((1 + (5 * c)) + 3) + s)) rfl ?_
  exact N.iret C hR dX9_worn_14 (fun hi hx => by exact ⟨rfl, rfl⟩)

set_option maxHeartbeats 4000000 in
set_option maxRecDepth 20000 in
theorem ok_X9_likes (G : GT) (c t : Int) (v : VT) (hx : 0 ≤ c ∧ c < 8 ∧ 0 ≤ t ∧ t < 10) : MP G yX9_likes cX9_likes 3 (some .int) 0 0 [vr 119, vi c, vi t] v (v 120 (119 + 10 * c + t)) := by
  refine MN.of pn_X9_likes [some (vr 119), some (vi c), some (vi t)] 0 rfl rfl (fun X C hX hn hR => ?_)
  have hN : ∀ i : Nat, i < 3 → i < xn X := fun i h => by rw [hn]; exact h
  refine E.rngk (fun hinv => ?_)
  refine E.loc (fun hloc => ?_)
  have hin_1 : in32 c := hloc _ (List.mem_of_getElem? (i := 1) rfl)
  have hin_2 : in32 t := hloc _ (List.mem_of_getElem? (i := 2) rfl)
  refine E.aload_n C dX9_likes_0 rfl rfl ?_
  refine N.getR C fa_X9_7 rfl dX9_likes_1 kd_119 (x := 120) (by decide +kernel) (by decide) ?_
  refine E.bipush C dX9_likes_4 (by decide) ?_
  refine E.bipush C dX9_likes_6 (by decide) ?_
  refine E.iload_n C dX9_likes_8 rfl rfl ?_
  refine E.imul C dX9_likes_9 (by omega) ?_
  refine E.iadd C dX9_likes_10 (by omega) ?_
  refine E.iload_n C dX9_likes_11 rfl rfl ?_
  refine E.iadd C dX9_likes_12 (by omega) ?_
  refine N.iald C dX9_likes_13 kd_120 ln_120 (by omega) (x := v 120 ((119 + (10 * c)) + t)) rfl ?_
  exact N.iret C hR dX9_likes_14 (fun hi hx => by exact ⟨rfl, rfl⟩)

set_option maxHeartbeats 4000000 in
set_option maxRecDepth 20000 in
theorem ok_X9_takesOff (G : GT) (c s : Int) (v : VT) (hx : 0 ≤ c ∧ c < 8 ∧ 0 ≤ s ∧ s < 2) : MVe G yX9_takesOff cX9_takesOff 3 none 0 0 [vr 119, vi c, vi s] v (upd2 v 120 (1 + 5 * c + 3 + s) (-4)) := by
  refine MN.of pn_X9_takesOff [some (vr 119), some (vi c), some (vi s)] 0 rfl rfl (fun X C hX hn hR => ?_)
  have hN : ∀ i : Nat, i < 3 → i < xn X := fun i h => by rw [hn]; exact h
  refine E.rngk (fun hinv => ?_)
  refine E.loc (fun hloc => ?_)
  have hin_1 : in32 c := hloc _ (List.mem_of_getElem? (i := 1) rfl)
  have hin_2 : in32 s := hloc _ (List.mem_of_getElem? (i := 2) rfl)
  refine E.aload_n C dX9_takesOff_0 rfl rfl ?_
  refine N.getR C fa_X9_7 rfl dX9_takesOff_1 kd_119 (x := 120) (by decide +kernel) (by decide) ?_
  refine E.iconst C dX9_takesOff_4 (by decide) ?_
  refine E.iconst C dX9_takesOff_5 (by decide) ?_
  refine E.iload_n C dX9_takesOff_6 rfl rfl ?_
  refine E.imul C dX9_takesOff_7 (by omega) ?_
  refine E.iadd C dX9_takesOff_8 (by omega) ?_
  refine E.iconst C dX9_takesOff_9 (by decide) ?_
  refine E.iadd C dX9_takesOff_10 (by omega) ?_
  refine E.iload_n C dX9_takesOff_11 rfl rfl ?_
  refine E.iadd C dX9_takesOff_12 (by omega) ?_
  refine E.bipush C dX9_takesOff_13 (by decide) ?_
  refine N.iast C dX9_takesOff_15 kd_120 ln_120 (by omega) ?_
  exact N.vret C hR dX9_takesOff_16 (fun hi => by rfl)

set_option maxHeartbeats 4000000 in
set_option maxRecDepth 20000 in
theorem ok_X9_whoWears (G : GT) (t : Int) (v : VT) (hc : 0 ≤ v 120 0 ∧ v 120 0 ≤ 8) (hx : 0 ≤ t ∧ t < 10) (hs : 0 ≤ v 120 (42 + 7 * t + 0) ∧ v 120 (42 + 7 * t + 0) < 2) : MP G yX9_whoWears cX9_whoWears 4 (some .int) 1 22 [vr 119, vi t] v (whoN v t (v 120 0).toNat) := by
  refine MN.of pn_X9_whoWears [some (vr 119), some (vi t), none, none] 2 rfl rfl (fun X C hX hn hR => ?_)
  have hN : ∀ i : Nat, i < 4 → i < xn X := fun i h => by rw [hn]; exact h
  refine E.rngk (fun hinv => ?_)
  refine E.loc (fun hloc => ?_)
  have hin_1 : in32 t := hloc _ (List.mem_of_getElem? (i := 1) rfl)
  refine E.bipush C dX9_whoWears_0 (by decide) ?_
  refine N.ist_2 C dX9_whoWears_2 (hN 2 (by decide)) rfl ?_
  refine E.iconst C dX9_whoWears_3 (by decide) ?_
  refine N.ist_3 C dX9_whoWears_4 (hN 3 (by decide)) rfl ?_
  have lp5 : ∀ (k5 : Nat) (x : Int) (c : Int), (v 120 0 - c).toNat = k5 → (0 ≤ c ∧ c ≤ v 120 0 ∧ x = whoN v t c.toNat) → E X G 0 0 1000 v 5 [some (vr 119), some (vi t), some (vi x), some (vi c)] [] := by
    intro k5
    induction k5 using Nat.strongRecOn with
    | ind k5 ih5 =>
      intro x c hk5 hI5
      obtain ⟨ht0, ht1, hcx⟩ := hI5
      refine E.iload_n C dX9_whoWears_5 rfl rfl ?_
      refine E.aload_n C dX9_whoWears_6 rfl rfl ?_
      refine N.getR C fa_X9_7 rfl dX9_whoWears_7 kd_119 (x := 120) (by decide +kernel) (by decide) ?_
      refine E.iconst C dX9_whoWears_10 (by decide) ?_
      refine N.iald C dX9_whoWears_11 kd_120 ln_120 (by omega) (x := v 120 0) rfl ?_
      refine E.icmp_ge C dX9_whoWears_12 (tgt := 42) (by decide) (fun h12 => ?_) (fun h12 => ?_)
      · skip
        refine E.iload_n C dX9_whoWears_42 rfl rfl ?_
        exact N.iret C hR dX9_whoWears_43 (fun hi hx => by exact ⟨by rw [hcx]; congr 1; omega, rfl⟩)
      · skip
        refine E.aload_n C dX9_whoWears_15 rfl rfl ?_
        refine E.iload_n C dX9_whoWears_16 rfl rfl ?_
        refine E.aload_n C dX9_whoWears_17 rfl rfl ?_
        refine E.iload_n C dX9_whoWears_18 rfl rfl ?_
        refine E.iconst C dX9_whoWears_19 (by decide) ?_
        refine N.callVp (S := [vi c, vr 119]) (As := [vi t, vi 0]) C hX (ok_X9_of G t 0 v (by omega)) yf_X9_of yv_X9_of ml_X9_172 rfl rfl rfl kd_119 (by decide) (by decide) (Nat.le_of_ble_eq_true rfl) dX9_whoWears_20 rfl ?_
        refine N.callVp (S := []) (As := [vi c, vi (v 120 (42 + 7 * t + 0))]) C hX (ok_X9_worn G c (v 120 (42 + 7 * t + 0)) v (by omega)) yf_X9_worn yv_X9_worn ml_X9_175 rfl rfl rfl kd_119 (by decide) (by decide) (Nat.le_of_ble_eq_true rfl) dX9_whoWears_23 rfl ?_
        refine E.iload_n C dX9_whoWears_26 rfl rfl ?_
        refine E.icmp_ne C dX9_whoWears_27 (tgt := 34) (by decide) (fun h27 => ?_) (fun h27 => ?_)
        · skip
          refine E.iload_n C dX9_whoWears_34 rfl rfl ?_
          refine N.ist_2 C dX9_whoWears_35 (hN 2 (by decide)) rfl ?_
          refine N.iinc_3 C dX9_whoWears_36 (hN 3 (by decide)) rfl (by omega) ?_
          refine E.goto C dX9_whoWears_39 (tgt := 5) (by decide) ?_
          exact ih5 _ (by omega) x (c + 1) rfl (by refine ⟨by omega, by omega, ?_⟩; rw [whoN_step ht0]; first | rw [if_pos h27] | (rw [if_neg h27]; exact hcx))
        · skip
          refine E.iload_n C dX9_whoWears_30 rfl rfl ?_
          refine E.goto C dX9_whoWears_31 (tgt := 35) (by decide) ?_
          refine N.ist_2 C dX9_whoWears_35 (hN 2 (by decide)) rfl ?_
          refine N.iinc_3 C dX9_whoWears_36 (hN 3 (by decide)) rfl (by omega) ?_
          refine E.goto C dX9_whoWears_39 (tgt := 5) (by decide) ?_
          exact ih5 _ (by omega) c (c + 1) rfl (by refine ⟨by omega, by omega, ?_⟩; rw [whoN_step ht0]; first | rw [if_pos h27] | (rw [if_neg h27]; exact hcx))
  exact lp5 _ (-4) 0 rfl (by exact ⟨by omega, by omega, rfl⟩)

set_option maxHeartbeats 4000000 in
set_option maxRecDepth 20000 in
theorem ok_X9_isOut (G : GT) (t : Int) (v : VT) (hx : 0 ≤ t ∧ t < 10) (hk : -1000 ≤ v 120 (42 + 7 * t + 3) ∧ v 120 (42 + 7 * t + 3) ≤ 1000) : MP G yX9_isOut cX9_isOut 3 (some .boolean) 1 22 [vr 119, vi t] v (outI (v 120 (42 + 7 * t + 1)) (v 120 (42 + 7 * t + 3)) (v 120 (42 + 7 * t + 4))) := by
  refine MN.of pn_X9_isOut [some (vr 119), some (vi t), none] 1 rfl rfl (fun X C hX hn hR => ?_)
  have hN : ∀ i : Nat, i < 3 → i < xn X := fun i h => by rw [hn]; exact h
  refine E.rngk (fun hinv => ?_)
  refine E.loc (fun hloc => ?_)
  have hin_1 : in32 t := hloc _ (List.mem_of_getElem? (i := 1) rfl)
  refine E.aload_n C dX9_isOut_0 rfl rfl ?_
  refine E.iload_n C dX9_isOut_1 rfl rfl ?_
  refine E.iconst C dX9_isOut_2 (by decide) ?_
  refine N.callVp (S := []) (As := [vi t, vi 1]) C hX (ok_X9_of G t 1 v (by omega)) yf_X9_of yv_X9_of ml_X9_172 rfl rfl rfl kd_119 (by decide) (by decide) (Nat.le_of_ble_eq_true rfl) dX9_isOut_3 rfl ?_
  refine E.iconst C dX9_isOut_6 (by decide) ?_
  refine E.icmp_eq C dX9_isOut_7 (tgt := 20) (by decide) (fun h7 => ?_) (fun h7 => ?_)
  · skip
    refine E.iconst C dX9_isOut_20 (by decide) ?_
    refine E.goto C dX9_isOut_21 (tgt := 25) (by decide) ?_
    refine N.ist_2 C dX9_isOut_25 (hN 2 (by decide)) rfl ?_
    refine E.aload_n C dX9_isOut_26 rfl rfl ?_
    refine E.iload_n C dX9_isOut_27 rfl rfl ?_
    refine E.iconst C dX9_isOut_28 (by decide) ?_
    refine N.callVp (S := []) (As := [vi t, vi 4]) C hX (ok_X9_of G t 4 v (by omega)) yf_X9_of yv_X9_of ml_X9_172 rfl rfl rfl kd_119 (by decide) (by decide) (Nat.le_of_ble_eq_true rfl) dX9_isOut_29 rfl ?_
    refine E.iload_n C dX9_isOut_32 rfl rfl ?_
    refine E.aload_n C dX9_isOut_33 rfl rfl ?_
    refine E.iload_n C dX9_isOut_34 rfl rfl ?_
    refine E.iconst C dX9_isOut_35 (by decide) ?_
    refine N.callVp (S := [vi 2, vi (v 120 (42 + 7 * t + 4))]) (As := [vi t, vi 3]) C hX (ok_X9_of G t 3 v (by omega)) yf_X9_of yv_X9_of ml_X9_172 rfl rfl rfl kd_119 (by decide) (by decide) (Nat.le_of_ble_eq_true rfl) dX9_isOut_36 rfl ?_
    refine E.imul C dX9_isOut_39 (by omega) ?_
    refine E.icmp_lt C dX9_isOut_40 (tgt := 47) (by decide) (fun h40 => ?_) (fun h40 => ?_)
    · skip
      refine E.iconst C dX9_isOut_47 (by decide) ?_
      exact N.zret C hR dX9_isOut_48 (by omega) (fun hi => by refine ⟨?_, rfl⟩; unfold outI; (repeat' split) <;> omega)
    · skip
      refine E.iconst C dX9_isOut_43 (by decide) ?_
      refine E.goto C dX9_isOut_44 (tgt := 48) (by decide) ?_
      exact N.zret C hR dX9_isOut_48 (by omega) (fun hi => by refine ⟨?_, rfl⟩; unfold outI; (repeat' split) <;> omega)
  · skip
    refine E.aload_n C dX9_isOut_10 rfl rfl ?_
    refine E.iload_n C dX9_isOut_11 rfl rfl ?_
    refine E.iconst C dX9_isOut_12 (by decide) ?_
    refine N.callVp (S := []) (As := [vi t, vi 1]) C hX (ok_X9_of G t 1 v (by omega)) yf_X9_of yv_X9_of ml_X9_172 rfl rfl rfl kd_119 (by decide) (by decide) (Nat.le_of_ble_eq_true rfl) dX9_isOut_13 rfl ?_
    refine E.iconst C dX9_isOut_16 (by decide) ?_
    refine E.icmp_ne C dX9_isOut_17 (tgt := 24) (by decide) (fun h17 => ?_) (fun h17 => ?_)
    · skip
      refine E.iconst C dX9_isOut_24 (by decide) ?_
      refine N.ist_2 C dX9_isOut_25 (hN 2 (by decide)) rfl ?_
      refine E.aload_n C dX9_isOut_26 rfl rfl ?_
      refine E.iload_n C dX9_isOut_27 rfl rfl ?_
      refine E.iconst C dX9_isOut_28 (by decide) ?_
      refine N.callVp (S := []) (As := [vi t, vi 4]) C hX (ok_X9_of G t 4 v (by omega)) yf_X9_of yv_X9_of ml_X9_172 rfl rfl rfl kd_119 (by decide) (by decide) (Nat.le_of_ble_eq_true rfl) dX9_isOut_29 rfl ?_
      refine E.iload_n C dX9_isOut_32 rfl rfl ?_
      refine E.aload_n C dX9_isOut_33 rfl rfl ?_
      refine E.iload_n C dX9_isOut_34 rfl rfl ?_
      refine E.iconst C dX9_isOut_35 (by decide) ?_
      refine N.callVp (S := [vi 1, vi (v 120 (42 + 7 * t + 4))]) (As := [vi t, vi 3]) C hX (ok_X9_of G t 3 v (by omega)) yf_X9_of yv_X9_of ml_X9_172 rfl rfl rfl kd_119 (by decide) (by decide) (Nat.le_of_ble_eq_true rfl) dX9_isOut_36 rfl ?_
      refine E.imul C dX9_isOut_39 (by omega) ?_
      refine E.icmp_lt C dX9_isOut_40 (tgt := 47) (by decide) (fun h40 => ?_) (fun h40 => ?_)
      · skip
        refine E.iconst C dX9_isOut_47 (by decide) ?_
        exact N.zret C hR dX9_isOut_48 (by omega) (fun hi => by refine ⟨?_, rfl⟩; unfold outI; (repeat' split) <;> omega)
      · skip
        refine E.iconst C dX9_isOut_43 (by decide) ?_
        refine E.goto C dX9_isOut_44 (tgt := 48) (by decide) ?_
        exact N.zret C hR dX9_isOut_48 (by omega) (fun hi => by refine ⟨?_, rfl⟩; unfold outI; (repeat' split) <;> omega)
    · skip
      refine E.iconst C dX9_isOut_20 (by decide) ?_
      refine E.goto C dX9_isOut_21 (tgt := 25) (by decide) ?_
      refine N.ist_2 C dX9_isOut_25 (hN 2 (by decide)) rfl ?_
      refine E.aload_n C dX9_isOut_26 rfl rfl ?_
      refine E.iload_n C dX9_isOut_27 rfl rfl ?_
      refine E.iconst C dX9_isOut_28 (by decide) ?_
      refine N.callVp (S := []) (As := [vi t, vi 4]) C hX (ok_X9_of G t 4 v (by omega)) yf_X9_of yv_X9_of ml_X9_172 rfl rfl rfl kd_119 (by decide) (by decide) (Nat.le_of_ble_eq_true rfl) dX9_isOut_29 rfl ?_
      refine E.iload_n C dX9_isOut_32 rfl rfl ?_
      refine E.aload_n C dX9_isOut_33 rfl rfl ?_
      refine E.iload_n C dX9_isOut_34 rfl rfl ?_
      refine E.iconst C dX9_isOut_35 (by decide) ?_
      refine N.callVp (S := [vi 2, vi (v 120 (42 + 7 * t + 4))]) (As := [vi t, vi 3]) C hX (ok_X9_of G t 3 v (by omega)) yf_X9_of yv_X9_of ml_X9_172 rfl rfl rfl kd_119 (by decide) (by decide) (Nat.le_of_ble_eq_true rfl) dX9_isOut_36 rfl ?_
      refine E.imul C dX9_isOut_39 (by omega) ?_
      refine E.icmp_lt C dX9_isOut_40 (tgt := 47) (by decide) (fun h40 => ?_) (fun h40 => ?_)
      · skip
        refine E.iconst C dX9_isOut_47 (by decide) ?_
        exact N.zret C hR dX9_isOut_48 (by omega) (fun hi => by refine ⟨?_, rfl⟩; unfold outI; (repeat' split) <;> omega)
      · skip
        refine E.iconst C dX9_isOut_43 (by decide) ?_
        refine E.goto C dX9_isOut_44 (tgt := 48) (by decide) ?_
        exact N.zret C hR dX9_isOut_48 (by omega) (fun hi => by refine ⟨?_, rfl⟩; unfold outI; (repeat' split) <;> omega)

set_option maxHeartbeats 4000000 in
set_option maxRecDepth 20000 in
theorem ok_X9_fitOf (G : GT) (at_ c bg : Int) (v : VT) (hx : 0 ≤ at_ ∧ at_ < 780) (hk : -1000 ≤ v 120 (at_ + 2) ∧ v 120 (at_ + 2) ≤ 1000 ∧ -1000 ≤ v 120 (at_ + 3) ∧ v 120 (at_ + 3) ≤ 1000) (hz : -1000 ≤ bg ∧ bg ≤ 1000 ∧ -1000 ≤ v 119 2 ∧ v 119 2 ≤ 1000) : MP G yX9_fitOf cX9_fitOf 6 (some .int) 1 25 [vr 119, vi at_, vi c, vi bg] v (fitI (v 120 (at_ + 1)) (v 120 (at_ + 2)) (v 120 (at_ + 3)) (v 120 (at_ + 4)) (v 120 (at_ + 5)) (v 120 (at_ + 6)) c bg (v 119 2)) := by
  refine MN.of pn_X9_fitOf [some (vr 119), some (vi at_), some (vi c), some (vi bg), none, none] 2 rfl rfl (fun X C hX hn hR => ?_)
  have hN : ∀ i : Nat, i < 6 → i < xn X := fun i h => by rw [hn]; exact h
  refine E.rngk (fun hinv => ?_)
  refine E.loc (fun hloc => ?_)
  have hin_1 : in32 at_ := hloc _ (List.mem_of_getElem? (i := 1) rfl)
  have hin_2 : in32 c := hloc _ (List.mem_of_getElem? (i := 2) rfl)
  have hin_3 : in32 bg := hloc _ (List.mem_of_getElem? (i := 3) rfl)
  refine E.aload_n C dX9_fitOf_0 rfl rfl ?_
  refine N.getR C fa_X9_7 rfl dX9_fitOf_1 kd_119 (x := 120) (by decide +kernel) (by decide) ?_
  refine E.iload_n C dX9_fitOf_4 rfl rfl ?_
  refine E.iconst C dX9_fitOf_5 (by decide) ?_
  refine E.iadd C dX9_fitOf_6 (by omega) ?_
  refine N.iald C dX9_fitOf_7 kd_120 ln_120 (by omega) (x := v 120 (at_ + 1)) rfl ?_
  refine N.ist_4 C dX9_fitOf_8 (hN 4 (by decide)) rfl ?_
  refine E.iload C dX9_fitOf_10 rfl ?_
  refine E.iconst C dX9_fitOf_12 (by decide) ?_
  refine E.icmp_eq C dX9_fitOf_13 (tgt := 22) (by decide) (fun h13 => ?_) (fun h13 => ?_)
  · skip
    refine E.iconst C dX9_fitOf_22 (by decide) ?_
    refine E.goto C dX9_fitOf_23 (tgt := 27) (by decide) ?_
    refine N.ist_5 C dX9_fitOf_27 (hN 5 (by decide)) rfl ?_
    refine E.aload_n C dX9_fitOf_29 rfl rfl ?_
    refine N.getR C fa_X9_7 rfl dX9_fitOf_30 kd_119 (x := 120) (by decide +kernel) (by decide) ?_
    refine E.iload_n C dX9_fitOf_33 rfl rfl ?_
    refine E.iconst C dX9_fitOf_34 (by decide) ?_
    refine E.iadd C dX9_fitOf_35 (by omega) ?_
    refine N.iald C dX9_fitOf_36 kd_120 ln_120 (by omega) (x := v 120 (at_ + 4)) rfl ?_
    refine E.iload C dX9_fitOf_37 rfl ?_
    refine E.aload_n C dX9_fitOf_39 rfl rfl ?_
    refine N.getR C fa_X9_7 rfl dX9_fitOf_40 kd_119 (x := 120) (by decide +kernel) (by decide) ?_
    refine E.iload_n C dX9_fitOf_43 rfl rfl ?_
    refine E.iconst C dX9_fitOf_44 (by decide) ?_
    refine E.iadd C dX9_fitOf_45 (by omega) ?_
    refine N.iald C dX9_fitOf_46 kd_120 ln_120 (by omega) (x := v 120 (at_ + 3)) rfl ?_
    refine E.imul C dX9_fitOf_47 (by omega) ?_
    refine E.icmp_ge C dX9_fitOf_48 (tgt := 70) (by decide) (fun h48 => ?_) (fun h48 => ?_)
    · skip
      refine E.iconst C dX9_fitOf_70 (by decide) ?_
      exact N.iret C hR dX9_fitOf_71 (fun hi hx => by refine ⟨?_, rfl⟩; unfold fitI outI; (repeat' split) <;> omega)
    · skip
      refine E.iload C dX9_fitOf_51 rfl ?_
      refine E.iconst C dX9_fitOf_53 (by decide) ?_
      refine E.icmp_ne C dX9_fitOf_54 (tgt := 72) (by decide) (fun h54 => ?_) (fun h54 => ?_)
      · skip
        refine E.aload_n C dX9_fitOf_72 rfl rfl ?_
        refine N.getR C fa_X9_7 rfl dX9_fitOf_73 kd_119 (x := 120) (by decide +kernel) (by decide) ?_
        refine E.iload_n C dX9_fitOf_76 rfl rfl ?_
        refine E.iconst C dX9_fitOf_77 (by decide) ?_
        refine E.iadd C dX9_fitOf_78 (by omega) ?_
        refine N.iald C dX9_fitOf_79 kd_120 ln_120 (by omega) (x := v 120 (at_ + 2)) rfl ?_
        refine E.i2l C dX9_fitOf_80 ?_
        refine E.iload_n C dX9_fitOf_81 rfl rfl ?_
        refine E.i2l C dX9_fitOf_82 ?_
        refine E.iload_n C dX9_fitOf_83 rfl rfl ?_
        refine E.aload_n C dX9_fitOf_84 rfl rfl ?_
        refine N.getI C fa_X9_85 rfl dX9_fitOf_85 kd_119 (x := v 119 2) rfl ?_
        refine E.iadd C dX9_fitOf_88 (by omega) ?_
        refine E.i2l C dX9_fitOf_89 ?_
        refine N.callSp (S := []) (As := [vl (v 120 (at_ + 2)), vl bg, vl (bg + (v 119 2))]) C hX (ok_X9_in G (v 120 (at_ + 2)) bg (bg + (v 119 2)) v) yf_X9_in yv_X9_in ml_X9_93 rfl (by decide) (Nat.le_of_ble_eq_true rfl) dX9_fitOf_90 rfl ?_
        refine E.if_eq C dX9_fitOf_93 (tgt := 98) (by decide) (fun h93 => ?_) (fun h93 => ?_)
        · have h93 := b0.mp h93
          refine E.iload C dX9_fitOf_98 rfl ?_
          refine E.i2l C dX9_fitOf_100 ?_
          refine E.ldc2 C ct_X9_182 (x := 2) (by decide) dX9_fitOf_101 ?_
          refine E.ldc2 C ct_X9_200 (x := 3) (by decide) dX9_fitOf_104 ?_
          refine N.callSp (S := []) (As := [vl (v 120 (at_ + 1)), vl 2, vl 3]) C hX (ok_X9_in G (v 120 (at_ + 1)) 2 3 v) yf_X9_in yv_X9_in ml_X9_93 rfl (by decide) (Nat.le_of_ble_eq_true rfl) dX9_fitOf_107 rfl ?_
          refine E.if_eq C dX9_fitOf_110 (tgt := 154) (by decide) (fun h110 => ?_) (fun h110 => ?_)
          · have h110 := b0.mp h110
            refine E.iconst C dX9_fitOf_154 (by decide) ?_
            exact N.iret C hR dX9_fitOf_155 (fun hi hx => by refine ⟨?_, rfl⟩; unfold fitI outI; (repeat' split) <;> omega)
          · have h110 := b0n.mp h110
            refine E.aload_n C dX9_fitOf_113 rfl rfl ?_
            refine N.getR C fa_X9_7 rfl dX9_fitOf_114 kd_119 (x := 120) (by decide +kernel) (by decide) ?_
            refine E.iload_n C dX9_fitOf_117 rfl rfl ?_
            refine E.iconst C dX9_fitOf_118 (by decide) ?_
            refine E.iadd C dX9_fitOf_119 (by omega) ?_
            refine N.iald C dX9_fitOf_120 kd_120 ln_120 (by omega) (x := v 120 (at_ + 5)) rfl ?_
            refine E.if_ne C dX9_fitOf_121 (tgt := 154) (by decide) (fun h121 => ?_) (fun h121 => ?_)
            · skip
              refine E.iconst C dX9_fitOf_154 (by decide) ?_
              exact N.iret C hR dX9_fitOf_155 (fun hi hx => by refine ⟨?_, rfl⟩; unfold fitI outI; (repeat' split) <;> omega)
            · skip
              refine E.aload_n C dX9_fitOf_124 rfl rfl ?_
              refine N.getR C fa_X9_7 rfl dX9_fitOf_125 kd_119 (x := 120) (by decide +kernel) (by decide) ?_
              refine E.iload_n C dX9_fitOf_128 rfl rfl ?_
              refine E.iconst C dX9_fitOf_129 (by decide) ?_
              refine E.iadd C dX9_fitOf_130 (by omega) ?_
              refine N.iald C dX9_fitOf_131 kd_120 ln_120 (by omega) (x := v 120 (at_ + 2)) rfl ?_
              refine E.iconst C dX9_fitOf_132 (by decide) ?_
              refine E.iadd C dX9_fitOf_133 (by omega) ?_
              refine E.i2l C dX9_fitOf_134 ?_
              refine E.iload_n C dX9_fitOf_135 rfl rfl ?_
              refine E.i2l C dX9_fitOf_136 ?_
              refine E.iload_n C dX9_fitOf_137 rfl rfl ?_
              refine E.aload_n C dX9_fitOf_138 rfl rfl ?_
              refine N.getI C fa_X9_85 rfl dX9_fitOf_139 kd_119 (x := v 119 2) rfl ?_
              refine E.iadd C dX9_fitOf_142 (by omega) ?_
              refine E.i2l C dX9_fitOf_143 ?_
              refine N.callSp (S := []) (As := [vl ((v 120 (at_ + 2)) + 2), vl bg, vl (bg + (v 119 2))]) C hX (ok_X9_in G ((v 120 (at_ + 2)) + 2) bg (bg + (v 119 2)) v) yf_X9_in yv_X9_in ml_X9_93 rfl (by decide) (Nat.le_of_ble_eq_true rfl) dX9_fitOf_144 rfl ?_
              refine E.if_eq C dX9_fitOf_147 (tgt := 154) (by decide) (fun h147 => ?_) (fun h147 => ?_)
              · have h147 := b0.mp h147
                refine E.iconst C dX9_fitOf_154 (by decide) ?_
                exact N.iret C hR dX9_fitOf_155 (fun hi hx => by refine ⟨?_, rfl⟩; unfold fitI outI; (repeat' split) <;> omega)
              · have h147 := b0n.mp h147
                refine E.iconst C dX9_fitOf_150 (by decide) ?_
                refine E.goto C dX9_fitOf_151 (tgt := 155) (by decide) ?_
                exact N.iret C hR dX9_fitOf_155 (fun hi hx => by refine ⟨?_, rfl⟩; unfold fitI outI; (repeat' split) <;> omega)
        · have h93 := b0n.mp h93
          refine E.iconst C dX9_fitOf_96 (by decide) ?_
          exact N.iret C hR dX9_fitOf_97 (fun hi hx => by refine ⟨?_, rfl⟩; unfold fitI outI; (repeat' split) <;> omega)
      · skip
        refine E.aload_n C dX9_fitOf_57 rfl rfl ?_
        refine N.getR C fa_X9_7 rfl dX9_fitOf_58 kd_119 (x := 120) (by decide +kernel) (by decide) ?_
        refine E.iload_n C dX9_fitOf_61 rfl rfl ?_
        refine E.bipush C dX9_fitOf_62 (by decide) ?_
        refine E.iadd C dX9_fitOf_64 (by omega) ?_
        refine N.iald C dX9_fitOf_65 kd_120 ln_120 (by omega) (x := v 120 (at_ + 6)) rfl ?_
        refine E.iload_n C dX9_fitOf_66 rfl rfl ?_
        refine E.icmp_eq C dX9_fitOf_67 (tgt := 72) (by decide) (fun h67 => ?_) (fun h67 => ?_)
        · skip
          refine E.aload_n C dX9_fitOf_72 rfl rfl ?_
          refine N.getR C fa_X9_7 rfl dX9_fitOf_73 kd_119 (x := 120) (by decide +kernel) (by decide) ?_
          refine E.iload_n C dX9_fitOf_76 rfl rfl ?_
          refine E.iconst C dX9_fitOf_77 (by decide) ?_
          refine E.iadd C dX9_fitOf_78 (by omega) ?_
          refine N.iald C dX9_fitOf_79 kd_120 ln_120 (by omega) (x := v 120 (at_ + 2)) rfl ?_
          refine E.i2l C dX9_fitOf_80 ?_
          refine E.iload_n C dX9_fitOf_81 rfl rfl ?_
          refine E.i2l C dX9_fitOf_82 ?_
          refine E.iload_n C dX9_fitOf_83 rfl rfl ?_
          refine E.aload_n C dX9_fitOf_84 rfl rfl ?_
          refine N.getI C fa_X9_85 rfl dX9_fitOf_85 kd_119 (x := v 119 2) rfl ?_
          refine E.iadd C dX9_fitOf_88 (by omega) ?_
          refine E.i2l C dX9_fitOf_89 ?_
          refine N.callSp (S := []) (As := [vl (v 120 (at_ + 2)), vl bg, vl (bg + (v 119 2))]) C hX (ok_X9_in G (v 120 (at_ + 2)) bg (bg + (v 119 2)) v) yf_X9_in yv_X9_in ml_X9_93 rfl (by decide) (Nat.le_of_ble_eq_true rfl) dX9_fitOf_90 rfl ?_
          refine E.if_eq C dX9_fitOf_93 (tgt := 98) (by decide) (fun h93 => ?_) (fun h93 => ?_)
          · have h93 := b0.mp h93
            refine E.iload C dX9_fitOf_98 rfl ?_
            refine E.i2l C dX9_fitOf_100 ?_
            refine E.ldc2 C ct_X9_182 (x := 2) (by decide) dX9_fitOf_101 ?_
            refine E.ldc2 C ct_X9_200 (x := 3) (by decide) dX9_fitOf_104 ?_
            refine N.callSp (S := []) (As := [vl (v 120 (at_ + 1)), vl 2, vl 3]) C hX (ok_X9_in G (v 120 (at_ + 1)) 2 3 v) yf_X9_in yv_X9_in ml_X9_93 rfl (by decide) (Nat.le_of_ble_eq_true rfl) dX9_fitOf_107 rfl ?_
            refine E.if_eq C dX9_fitOf_110 (tgt := 154) (by decide) (fun h110 => ?_) (fun h110 => ?_)
            · have h110 := b0.mp h110
              refine E.iconst C dX9_fitOf_154 (by decide) ?_
              exact N.iret C hR dX9_fitOf_155 (fun hi hx => by refine ⟨?_, rfl⟩; unfold fitI outI; (repeat' split) <;> omega)
            · have h110 := b0n.mp h110
              refine E.aload_n C dX9_fitOf_113 rfl rfl ?_
              refine N.getR C fa_X9_7 rfl dX9_fitOf_114 kd_119 (x := 120) (by decide +kernel) (by decide) ?_
              refine E.iload_n C dX9_fitOf_117 rfl rfl ?_
              refine E.iconst C dX9_fitOf_118 (by decide) ?_
              refine E.iadd C dX9_fitOf_119 (by omega) ?_
              refine N.iald C dX9_fitOf_120 kd_120 ln_120 (by omega) (x := v 120 (at_ + 5)) rfl ?_
              refine E.if_ne C dX9_fitOf_121 (tgt := 154) (by decide) (fun h121 => ?_) (fun h121 => ?_)
              · skip
                refine E.iconst C dX9_fitOf_154 (by decide) ?_
                exact N.iret C hR dX9_fitOf_155 (fun hi hx => by refine ⟨?_, rfl⟩; unfold fitI outI; (repeat' split) <;> omega)
              · skip
                refine E.aload_n C dX9_fitOf_124 rfl rfl ?_
                refine N.getR C fa_X9_7 rfl dX9_fitOf_125 kd_119 (x := 120) (by decide +kernel) (by decide) ?_
                refine E.iload_n C dX9_fitOf_128 rfl rfl ?_
                refine E.iconst C dX9_fitOf_129 (by decide) ?_
                refine E.iadd C dX9_fitOf_130 (by omega) ?_
                refine N.iald C dX9_fitOf_131 kd_120 ln_120 (by omega) (x := v 120 (at_ + 2)) rfl ?_
                refine E.iconst C dX9_fitOf_132 (by decide) ?_
                refine E.iadd C dX9_fitOf_133 (by omega) ?_
                refine E.i2l C dX9_fitOf_134 ?_
                refine E.iload_n C dX9_fitOf_135 rfl rfl ?_
                refine E.i2l C dX9_fitOf_136 ?_
                refine E.iload_n C dX9_fitOf_137 rfl rfl ?_
                refine E.aload_n C dX9_fitOf_138 rfl rfl ?_
                refine N.getI C fa_X9_85 rfl dX9_fitOf_139 kd_119 (x := v 119 2) rfl ?_
                refine E.iadd C dX9_fitOf_142 (by omega) ?_
                refine E.i2l C dX9_fitOf_143 ?_
                refine N.callSp (S := []) (As := [vl ((v 120 (at_ + 2)) + 2), vl bg, vl (bg + (v 119 2))]) C hX (ok_X9_in G ((v 120 (at_ + 2)) + 2) bg (bg + (v 119 2)) v) yf_X9_in yv_X9_in ml_X9_93 rfl (by decide) (Nat.le_of_ble_eq_true rfl) dX9_fitOf_144 rfl ?_
                refine E.if_eq C dX9_fitOf_147 (tgt := 154) (by decide) (fun h147 => ?_) (fun h147 => ?_)
                · have h147 := b0.mp h147
                  refine E.iconst C dX9_fitOf_154 (by decide) ?_
                  exact N.iret C hR dX9_fitOf_155 (fun hi hx => by refine ⟨?_, rfl⟩; unfold fitI outI; (repeat' split) <;> omega)
                · have h147 := b0n.mp h147
                  refine E.iconst C dX9_fitOf_150 (by decide) ?_
                  refine E.goto C dX9_fitOf_151 (tgt := 155) (by decide) ?_
                  exact N.iret C hR dX9_fitOf_155 (fun hi hx => by refine ⟨?_, rfl⟩; unfold fitI outI; (repeat' split) <;> omega)
          · have h93 := b0n.mp h93
            refine E.iconst C dX9_fitOf_96 (by decide) ?_
            exact N.iret C hR dX9_fitOf_97 (fun hi hx => by refine ⟨?_, rfl⟩; unfold fitI outI; (repeat' split) <;> omega)
        · skip
          refine E.iconst C dX9_fitOf_70 (by decide) ?_
          exact N.iret C hR dX9_fitOf_71 (fun hi hx => by refine ⟨?_, rfl⟩; unfold fitI outI; (repeat' split) <;> omega)
  · skip
    refine E.iload C dX9_fitOf_16 rfl ?_
    refine E.iconst C dX9_fitOf_18 (by decide) ?_
    refine E.icmp_ne C dX9_fitOf_19 (tgt := 26) (by decide) (fun h19 => ?_) (fun h19 => ?_)
    · skip
      refine E.iconst C dX9_fitOf_26 (by decide) ?_
      refine N.ist_5 C dX9_fitOf_27 (hN 5 (by decide)) rfl ?_
      refine E.aload_n C dX9_fitOf_29 rfl rfl ?_
      refine N.getR C fa_X9_7 rfl dX9_fitOf_30 kd_119 (x := 120) (by decide +kernel) (by decide) ?_
      refine E.iload_n C dX9_fitOf_33 rfl rfl ?_
      refine E.iconst C dX9_fitOf_34 (by decide) ?_
      refine E.iadd C dX9_fitOf_35 (by omega) ?_
      refine N.iald C dX9_fitOf_36 kd_120 ln_120 (by omega) (x := v 120 (at_ + 4)) rfl ?_
      refine E.iload C dX9_fitOf_37 rfl ?_
      refine E.aload_n C dX9_fitOf_39 rfl rfl ?_
      refine N.getR C fa_X9_7 rfl dX9_fitOf_40 kd_119 (x := 120) (by decide +kernel) (by decide) ?_
      refine E.iload_n C dX9_fitOf_43 rfl rfl ?_
      refine E.iconst C dX9_fitOf_44 (by decide) ?_
      refine E.iadd C dX9_fitOf_45 (by omega) ?_
      refine N.iald C dX9_fitOf_46 kd_120 ln_120 (by omega) (x := v 120 (at_ + 3)) rfl ?_
      refine E.imul C dX9_fitOf_47 (by omega) ?_
      refine E.icmp_ge C dX9_fitOf_48 (tgt := 70) (by decide) (fun h48 => ?_) (fun h48 => ?_)
      · skip
        refine E.iconst C dX9_fitOf_70 (by decide) ?_
        exact N.iret C hR dX9_fitOf_71 (fun hi hx => by refine ⟨?_, rfl⟩; unfold fitI outI; (repeat' split) <;> omega)
      · skip
        refine E.iload C dX9_fitOf_51 rfl ?_
        refine E.iconst C dX9_fitOf_53 (by decide) ?_
        refine E.icmp_ne C dX9_fitOf_54 (tgt := 72) (by decide) (fun h54 => ?_) (fun h54 => ?_)
        · skip
          refine E.aload_n C dX9_fitOf_72 rfl rfl ?_
          refine N.getR C fa_X9_7 rfl dX9_fitOf_73 kd_119 (x := 120) (by decide +kernel) (by decide) ?_
          refine E.iload_n C dX9_fitOf_76 rfl rfl ?_
          refine E.iconst C dX9_fitOf_77 (by decide) ?_
          refine E.iadd C dX9_fitOf_78 (by omega) ?_
          refine N.iald C dX9_fitOf_79 kd_120 ln_120 (by omega) (x := v 120 (at_ + 2)) rfl ?_
          refine E.i2l C dX9_fitOf_80 ?_
          refine E.iload_n C dX9_fitOf_81 rfl rfl ?_
          refine E.i2l C dX9_fitOf_82 ?_
          refine E.iload_n C dX9_fitOf_83 rfl rfl ?_
          refine E.aload_n C dX9_fitOf_84 rfl rfl ?_
          refine N.getI C fa_X9_85 rfl dX9_fitOf_85 kd_119 (x := v 119 2) rfl ?_
          refine E.iadd C dX9_fitOf_88 (by omega) ?_
          refine E.i2l C dX9_fitOf_89 ?_
          refine N.callSp (S := []) (As := [vl (v 120 (at_ + 2)), vl bg, vl (bg + (v 119 2))]) C hX (ok_X9_in G (v 120 (at_ + 2)) bg (bg + (v 119 2)) v) yf_X9_in yv_X9_in ml_X9_93 rfl (by decide) (Nat.le_of_ble_eq_true rfl) dX9_fitOf_90 rfl ?_
          refine E.if_eq C dX9_fitOf_93 (tgt := 98) (by decide) (fun h93 => ?_) (fun h93 => ?_)
          · have h93 := b0.mp h93
            refine E.iload C dX9_fitOf_98 rfl ?_
            refine E.i2l C dX9_fitOf_100 ?_
            refine E.ldc2 C ct_X9_182 (x := 2) (by decide) dX9_fitOf_101 ?_
            refine E.ldc2 C ct_X9_200 (x := 3) (by decide) dX9_fitOf_104 ?_
            refine N.callSp (S := []) (As := [vl (v 120 (at_ + 1)), vl 2, vl 3]) C hX (ok_X9_in G (v 120 (at_ + 1)) 2 3 v) yf_X9_in yv_X9_in ml_X9_93 rfl (by decide) (Nat.le_of_ble_eq_true rfl) dX9_fitOf_107 rfl ?_
            refine E.if_eq C dX9_fitOf_110 (tgt := 154) (by decide) (fun h110 => ?_) (fun h110 => ?_)
            · have h110 := b0.mp h110
              refine E.iconst C dX9_fitOf_154 (by decide) ?_
              exact N.iret C hR dX9_fitOf_155 (fun hi hx => by refine ⟨?_, rfl⟩; unfold fitI outI; (repeat' split) <;> omega)
            · have h110 := b0n.mp h110
              refine E.aload_n C dX9_fitOf_113 rfl rfl ?_
              refine N.getR C fa_X9_7 rfl dX9_fitOf_114 kd_119 (x := 120) (by decide +kernel) (by decide) ?_
              refine E.iload_n C dX9_fitOf_117 rfl rfl ?_
              refine E.iconst C dX9_fitOf_118 (by decide) ?_
              refine E.iadd C dX9_fitOf_119 (by omega) ?_
              refine N.iald C dX9_fitOf_120 kd_120 ln_120 (by omega) (x := v 120 (at_ + 5)) rfl ?_
              refine E.if_ne C dX9_fitOf_121 (tgt := 154) (by decide) (fun h121 => ?_) (fun h121 => ?_)
              · skip
                refine E.iconst C dX9_fitOf_154 (by decide) ?_
                exact N.iret C hR dX9_fitOf_155 (fun hi hx => by refine ⟨?_, rfl⟩; unfold fitI outI; (repeat' split) <;> omega)
              · skip
                refine E.aload_n C dX9_fitOf_124 rfl rfl ?_
                refine N.getR C fa_X9_7 rfl dX9_fitOf_125 kd_119 (x := 120) (by decide +kernel) (by decide) ?_
                refine E.iload_n C dX9_fitOf_128 rfl rfl ?_
                refine E.iconst C dX9_fitOf_129 (by decide) ?_
                refine E.iadd C dX9_fitOf_130 (by omega) ?_
                refine N.iald C dX9_fitOf_131 kd_120 ln_120 (by omega) (x := v 120 (at_ + 2)) rfl ?_
                refine E.iconst C dX9_fitOf_132 (by decide) ?_
                refine E.iadd C dX9_fitOf_133 (by omega) ?_
                refine E.i2l C dX9_fitOf_134 ?_
                refine E.iload_n C dX9_fitOf_135 rfl rfl ?_
                refine E.i2l C dX9_fitOf_136 ?_
                refine E.iload_n C dX9_fitOf_137 rfl rfl ?_
                refine E.aload_n C dX9_fitOf_138 rfl rfl ?_
                refine N.getI C fa_X9_85 rfl dX9_fitOf_139 kd_119 (x := v 119 2) rfl ?_
                refine E.iadd C dX9_fitOf_142 (by omega) ?_
                refine E.i2l C dX9_fitOf_143 ?_
                refine N.callSp (S := []) (As := [vl ((v 120 (at_ + 2)) + 2), vl bg, vl (bg + (v 119 2))]) C hX (ok_X9_in G ((v 120 (at_ + 2)) + 2) bg (bg + (v 119 2)) v) yf_X9_in yv_X9_in ml_X9_93 rfl (by decide) (Nat.le_of_ble_eq_true rfl) dX9_fitOf_144 rfl ?_
                refine E.if_eq C dX9_fitOf_147 (tgt := 154) (by decide) (fun h147 => ?_) (fun h147 => ?_)
                · have h147 := b0.mp h147
                  refine E.iconst C dX9_fitOf_154 (by decide) ?_
                  exact N.iret C hR dX9_fitOf_155 (fun hi hx => by refine ⟨?_, rfl⟩; unfold fitI outI; (repeat' split) <;> omega)
                · have h147 := b0n.mp h147
                  refine E.iconst C dX9_fitOf_150 (by decide) ?_
                  refine E.goto C dX9_fitOf_151 (tgt := 155) (by decide) ?_
                  exact N.iret C hR dX9_fitOf_155 (fun hi hx => by refine ⟨?_, rfl⟩; unfold fitI outI; (repeat' split) <;> omega)
          · have h93 := b0n.mp h93
            refine E.iconst C dX9_fitOf_96 (by decide) ?_
            exact N.iret C hR dX9_fitOf_97 (fun hi hx => by refine ⟨?_, rfl⟩; unfold fitI outI; (repeat' split) <;> omega)
        · skip
          refine E.aload_n C dX9_fitOf_57 rfl rfl ?_
          refine N.getR C fa_X9_7 rfl dX9_fitOf_58 kd_119 (x := 120) (by decide +kernel) (by decide) ?_
          refine E.iload_n C dX9_fitOf_61 rfl rfl ?_
          refine E.bipush C dX9_fitOf_62 (by decide) ?_
          refine E.iadd C dX9_fitOf_64 (by omega) ?_
          refine N.iald C dX9_fitOf_65 kd_120 ln_120 (by omega) (x := v 120 (at_ + 6)) rfl ?_
          refine E.iload_n C dX9_fitOf_66 rfl rfl ?_
          refine E.icmp_eq C dX9_fitOf_67 (tgt := 72) (by decide) (fun h67 => ?_) (fun h67 => ?_)
          · skip
            refine E.aload_n C dX9_fitOf_72 rfl rfl ?_
            refine N.getR C fa_X9_7 rfl dX9_fitOf_73 kd_119 (x := 120) (by decide +kernel) (by decide) ?_
            refine E.iload_n C dX9_fitOf_76 rfl rfl ?_
            refine E.iconst C dX9_fitOf_77 (by decide) ?_
            refine E.iadd C dX9_fitOf_78 (by omega) ?_
            refine N.iald C dX9_fitOf_79 kd_120 ln_120 (by omega) (x := v 120 (at_ + 2)) rfl ?_
            refine E.i2l C dX9_fitOf_80 ?_
            refine E.iload_n C dX9_fitOf_81 rfl rfl ?_
            refine E.i2l C dX9_fitOf_82 ?_
            refine E.iload_n C dX9_fitOf_83 rfl rfl ?_
            refine E.aload_n C dX9_fitOf_84 rfl rfl ?_
            refine N.getI C fa_X9_85 rfl dX9_fitOf_85 kd_119 (x := v 119 2) rfl ?_
            refine E.iadd C dX9_fitOf_88 (by omega) ?_
            refine E.i2l C dX9_fitOf_89 ?_
            refine N.callSp (S := []) (As := [vl (v 120 (at_ + 2)), vl bg, vl (bg + (v 119 2))]) C hX (ok_X9_in G (v 120 (at_ + 2)) bg (bg + (v 119 2)) v) yf_X9_in yv_X9_in ml_X9_93 rfl (by decide) (Nat.le_of_ble_eq_true rfl) dX9_fitOf_90 rfl ?_
            refine E.if_eq C dX9_fitOf_93 (tgt := 98) (by decide) (fun h93 => ?_) (fun h93 => ?_)
            · have h93 := b0.mp h93
              refine E.iload C dX9_fitOf_98 rfl ?_
              refine E.i2l C dX9_fitOf_100 ?_
              refine E.ldc2 C ct_X9_182 (x := 2) (by decide) dX9_fitOf_101 ?_
              refine E.ldc2 C ct_X9_200 (x := 3) (by decide) dX9_fitOf_104 ?_
              refine N.callSp (S := []) (As := [vl (v 120 (at_ + 1)), vl 2, vl 3]) C hX (ok_X9_in G (v 120 (at_ + 1)) 2 3 v) yf_X9_in yv_X9_in ml_X9_93 rfl (by decide) (Nat.le_of_ble_eq_true rfl) dX9_fitOf_107 rfl ?_
              refine E.if_eq C dX9_fitOf_110 (tgt := 154) (by decide) (fun h110 => ?_) (fun h110 => ?_)
              · have h110 := b0.mp h110
                refine E.iconst C dX9_fitOf_154 (by decide) ?_
                exact N.iret C hR dX9_fitOf_155 (fun hi hx => by refine ⟨?_, rfl⟩; unfold fitI outI; (repeat' split) <;> omega)
              · have h110 := b0n.mp h110
                refine E.aload_n C dX9_fitOf_113 rfl rfl ?_
                refine N.getR C fa_X9_7 rfl dX9_fitOf_114 kd_119 (x := 120) (by decide +kernel) (by decide) ?_
                refine E.iload_n C dX9_fitOf_117 rfl rfl ?_
                refine E.iconst C dX9_fitOf_118 (by decide) ?_
                refine E.iadd C dX9_fitOf_119 (by omega) ?_
                refine N.iald C dX9_fitOf_120 kd_120 ln_120 (by omega) (x := v 120 (at_ + 5)) rfl ?_
                refine E.if_ne C dX9_fitOf_121 (tgt := 154) (by decide) (fun h121 => ?_) (fun h121 => ?_)
                · skip
                  refine E.iconst C dX9_fitOf_154 (by decide) ?_
                  exact N.iret C hR dX9_fitOf_155 (fun hi hx => by refine ⟨?_, rfl⟩; unfold fitI outI; (repeat' split) <;> omega)
                · skip
                  refine E.aload_n C dX9_fitOf_124 rfl rfl ?_
                  refine N.getR C fa_X9_7 rfl dX9_fitOf_125 kd_119 (x := 120) (by decide +kernel) (by decide) ?_
                  refine E.iload_n C dX9_fitOf_128 rfl rfl ?_
                  refine E.iconst C dX9_fitOf_129 (by decide) ?_
                  refine E.iadd C dX9_fitOf_130 (by omega) ?_
                  refine N.iald C dX9_fitOf_131 kd_120 ln_120 (by omega) (x := v 120 (at_ + 2)) rfl ?_
                  refine E.iconst C dX9_fitOf_132 (by decide) ?_
                  refine E.iadd C dX9_fitOf_133 (by omega) ?_
                  refine E.i2l C dX9_fitOf_134 ?_
                  refine E.iload_n C dX9_fitOf_135 rfl rfl ?_
                  refine E.i2l C dX9_fitOf_136 ?_
                  refine E.iload_n C dX9_fitOf_137 rfl rfl ?_
                  refine E.aload_n C dX9_fitOf_138 rfl rfl ?_
                  refine N.getI C fa_X9_85 rfl dX9_fitOf_139 kd_119 (x := v 119 2) rfl ?_
                  refine E.iadd C dX9_fitOf_142 (by omega) ?_
                  refine E.i2l C dX9_fitOf_143 ?_
                  refine N.callSp (S := []) (As := [vl ((v 120 (at_ + 2)) + 2), vl bg, vl (bg + (v 119 2))]) C hX (ok_X9_in G ((v 120 (at_ + 2)) + 2) bg (bg + (v 119 2)) v) yf_X9_in yv_X9_in ml_X9_93 rfl (by decide) (Nat.le_of_ble_eq_true rfl) dX9_fitOf_144 rfl ?_
                  refine E.if_eq C dX9_fitOf_147 (tgt := 154) (by decide) (fun h147 => ?_) (fun h147 => ?_)
                  · have h147 := b0.mp h147
                    refine E.iconst C dX9_fitOf_154 (by decide) ?_
                    exact N.iret C hR dX9_fitOf_155 (fun hi hx => by refine ⟨?_, rfl⟩; unfold fitI outI; (repeat' split) <;> omega)
                  · have h147 := b0n.mp h147
                    refine E.iconst C dX9_fitOf_150 (by decide) ?_
                    refine E.goto C dX9_fitOf_151 (tgt := 155) (by decide) ?_
                    exact N.iret C hR dX9_fitOf_155 (fun hi hx => by refine ⟨?_, rfl⟩; unfold fitI outI; (repeat' split) <;> omega)
            · have h93 := b0n.mp h93
              refine E.iconst C dX9_fitOf_96 (by decide) ?_
              exact N.iret C hR dX9_fitOf_97 (fun hi hx => by refine ⟨?_, rfl⟩; unfold fitI outI; (repeat' split) <;> omega)
          · skip
            refine E.iconst C dX9_fitOf_70 (by decide) ?_
            exact N.iret C hR dX9_fitOf_71 (fun hi hx => by refine ⟨?_, rfl⟩; unfold fitI outI; (repeat' split) <;> omega)
    · skip
      refine E.iconst C dX9_fitOf_22 (by decide) ?_
      refine E.goto C dX9_fitOf_23 (tgt := 27) (by decide) ?_
      refine N.ist_5 C dX9_fitOf_27 (hN 5 (by decide)) rfl ?_
      refine E.aload_n C dX9_fitOf_29 rfl rfl ?_
      refine N.getR C fa_X9_7 rfl dX9_fitOf_30 kd_119 (x := 120) (by decide +kernel) (by decide) ?_
      refine E.iload_n C dX9_fitOf_33 rfl rfl ?_
      refine E.iconst C dX9_fitOf_34 (by decide) ?_
      refine E.iadd C dX9_fitOf_35 (by omega) ?_
      refine N.iald C dX9_fitOf_36 kd_120 ln_120 (by omega) (x := v 120 (at_ + 4)) rfl ?_
      refine E.iload C dX9_fitOf_37 rfl ?_
      refine E.aload_n C dX9_fitOf_39 rfl rfl ?_
      refine N.getR C fa_X9_7 rfl dX9_fitOf_40 kd_119 (x := 120) (by decide +kernel) (by decide) ?_
      refine E.iload_n C dX9_fitOf_43 rfl rfl ?_
      refine E.iconst C dX9_fitOf_44 (by decide) ?_
      refine E.iadd C dX9_fitOf_45 (by omega) ?_
      refine N.iald C dX9_fitOf_46 kd_120 ln_120 (by omega) (x := v 120 (at_ + 3)) rfl ?_
      refine E.imul C dX9_fitOf_47 (by omega) ?_
      refine E.icmp_ge C dX9_fitOf_48 (tgt := 70) (by decide) (fun h48 => ?_) (fun h48 => ?_)
      · skip
        refine E.iconst C dX9_fitOf_70 (by decide) ?_
        exact N.iret C hR dX9_fitOf_71 (fun hi hx => by refine ⟨?_, rfl⟩; unfold fitI outI; (repeat' split) <;> omega)
      · skip
        refine E.iload C dX9_fitOf_51 rfl ?_
        refine E.iconst C dX9_fitOf_53 (by decide) ?_
        refine E.icmp_ne C dX9_fitOf_54 (tgt := 72) (by decide) (fun h54 => ?_) (fun h54 => ?_)
        · skip
          refine E.aload_n C dX9_fitOf_72 rfl rfl ?_
          refine N.getR C fa_X9_7 rfl dX9_fitOf_73 kd_119 (x := 120) (by decide +kernel) (by decide) ?_
          refine E.iload_n C dX9_fitOf_76 rfl rfl ?_
          refine E.iconst C dX9_fitOf_77 (by decide) ?_
          refine E.iadd C dX9_fitOf_78 (by omega) ?_
          refine N.iald C dX9_fitOf_79 kd_120 ln_120 (by omega) (x := v 120 (at_ + 2)) rfl ?_
          refine E.i2l C dX9_fitOf_80 ?_
          refine E.iload_n C dX9_fitOf_81 rfl rfl ?_
          refine E.i2l C dX9_fitOf_82 ?_
          refine E.iload_n C dX9_fitOf_83 rfl rfl ?_
          refine E.aload_n C dX9_fitOf_84 rfl rfl ?_
          refine N.getI C fa_X9_85 rfl dX9_fitOf_85 kd_119 (x := v 119 2) rfl ?_
          refine E.iadd C dX9_fitOf_88 (by omega) ?_
          refine E.i2l C dX9_fitOf_89 ?_
          refine N.callSp (S := []) (As := [vl (v 120 (at_ + 2)), vl bg, vl (bg + (v 119 2))]) C hX (ok_X9_in G (v 120 (at_ + 2)) bg (bg + (v 119 2)) v) yf_X9_in yv_X9_in ml_X9_93 rfl (by decide) (Nat.le_of_ble_eq_true rfl) dX9_fitOf_90 rfl ?_
          refine E.if_eq C dX9_fitOf_93 (tgt := 98) (by decide) (fun h93 => ?_) (fun h93 => ?_)
          · have h93 := b0.mp h93
            refine E.iload C dX9_fitOf_98 rfl ?_
            refine E.i2l C dX9_fitOf_100 ?_
            refine E.ldc2 C ct_X9_182 (x := 2) (by decide) dX9_fitOf_101 ?_
            refine E.ldc2 C ct_X9_200 (x := 3) (by decide) dX9_fitOf_104 ?_
            refine N.callSp (S := []) (As := [vl (v 120 (at_ + 1)), vl 2, vl 3]) C hX (ok_X9_in G (v 120 (at_ + 1)) 2 3 v) yf_X9_in yv_X9_in ml_X9_93 rfl (by decide) (Nat.le_of_ble_eq_true rfl) dX9_fitOf_107 rfl ?_
            refine E.if_eq C dX9_fitOf_110 (tgt := 154) (by decide) (fun h110 => ?_) (fun h110 => ?_)
            · have h110 := b0.mp h110
              refine E.iconst C dX9_fitOf_154 (by decide) ?_
              exact N.iret C hR dX9_fitOf_155 (fun hi hx => by refine ⟨?_, rfl⟩; unfold fitI outI; (repeat' split) <;> omega)
            · have h110 := b0n.mp h110
              refine E.aload_n C dX9_fitOf_113 rfl rfl ?_
              refine N.getR C fa_X9_7 rfl dX9_fitOf_114 kd_119 (x := 120) (by decide +kernel) (by decide) ?_
              refine E.iload_n C dX9_fitOf_117 rfl rfl ?_
              refine E.iconst C dX9_fitOf_118 (by decide) ?_
              refine E.iadd C dX9_fitOf_119 (by omega) ?_
              refine N.iald C dX9_fitOf_120 kd_120 ln_120 (by omega) (x := v 120 (at_ + 5)) rfl ?_
              refine E.if_ne C dX9_fitOf_121 (tgt := 154) (by decide) (fun h121 => ?_) (fun h121 => ?_)
              · skip
                refine E.iconst C dX9_fitOf_154 (by decide) ?_
                exact N.iret C hR dX9_fitOf_155 (fun hi hx => by refine ⟨?_, rfl⟩; unfold fitI outI; (repeat' split) <;> omega)
              · skip
                refine E.aload_n C dX9_fitOf_124 rfl rfl ?_
                refine N.getR C fa_X9_7 rfl dX9_fitOf_125 kd_119 (x := 120) (by decide +kernel) (by decide) ?_
                refine E.iload_n C dX9_fitOf_128 rfl rfl ?_
                refine E.iconst C dX9_fitOf_129 (by decide) ?_
                refine E.iadd C dX9_fitOf_130 (by omega) ?_
                refine N.iald C dX9_fitOf_131 kd_120 ln_120 (by omega) (x := v 120 (at_ + 2)) rfl ?_
                refine E.iconst C dX9_fitOf_132 (by decide) ?_
                refine E.iadd C dX9_fitOf_133 (by omega) ?_
                refine E.i2l C dX9_fitOf_134 ?_
                refine E.iload_n C dX9_fitOf_135 rfl rfl ?_
                refine E.i2l C dX9_fitOf_136 ?_
                refine E.iload_n C dX9_fitOf_137 rfl rfl ?_
                refine E.aload_n C dX9_fitOf_138 rfl rfl ?_
                refine N.getI C fa_X9_85 rfl dX9_fitOf_139 kd_119 (x := v 119 2) rfl ?_
                refine E.iadd C dX9_fitOf_142 (by omega) ?_
                refine E.i2l C dX9_fitOf_143 ?_
                refine N.callSp (S := []) (As := [vl ((v 120 (at_ + 2)) + 2), vl bg, vl (bg + (v 119 2))]) C hX (ok_X9_in G ((v 120 (at_ + 2)) + 2) bg (bg + (v 119 2)) v) yf_X9_in yv_X9_in ml_X9_93 rfl (by decide) (Nat.le_of_ble_eq_true rfl) dX9_fitOf_144 rfl ?_
                refine E.if_eq C dX9_fitOf_147 (tgt := 154) (by decide) (fun h147 => ?_) (fun h147 => ?_)
                · have h147 := b0.mp h147
                  refine E.iconst C dX9_fitOf_154 (by decide) ?_
                  exact N.iret C hR dX9_fitOf_155 (fun hi hx => by refine ⟨?_, rfl⟩; unfold fitI outI; (repeat' split) <;> omega)
                · have h147 := b0n.mp h147
                  refine E.iconst C dX9_fitOf_150 (by decide) ?_
                  refine E.goto C dX9_fitOf_151 (tgt := 155) (by decide) ?_
                  exact N.iret C hR dX9_fitOf_155 (fun hi hx => by refine ⟨?_, rfl⟩; unfold fitI outI; (repeat' split) <;> omega)
          · have h93 := b0n.mp h93
            refine E.iconst C dX9_fitOf_96 (by decide) ?_
            exact N.iret C hR dX9_fitOf_97 (fun hi hx => by refine ⟨?_, rfl⟩; unfold fitI outI; (repeat' split) <;> omega)
        · skip
          refine E.aload_n C dX9_fitOf_57 rfl rfl ?_
          refine N.getR C fa_X9_7 rfl dX9_fitOf_58 kd_119 (x := 120) (by decide +kernel) (by decide) ?_
          refine E.iload_n C dX9_fitOf_61 rfl rfl ?_
          refine E.bipush C dX9_fitOf_62 (by decide) ?_
          refine E.iadd C dX9_fitOf_64 (by omega) ?_
          refine N.iald C dX9_fitOf_65 kd_120 ln_120 (by omega) (x := v 120 (at_ + 6)) rfl ?_
          refine E.iload_n C dX9_fitOf_66 rfl rfl ?_
          refine E.icmp_eq C dX9_fitOf_67 (tgt := 72) (by decide) (fun h67 => ?_) (fun h67 => ?_)
          · skip
            refine E.aload_n C dX9_fitOf_72 rfl rfl ?_
            refine N.getR C fa_X9_7 rfl dX9_fitOf_73 kd_119 (x := 120) (by decide +kernel) (by decide) ?_
            refine E.iload_n C dX9_fitOf_76 rfl rfl ?_
            refine E.iconst C dX9_fitOf_77 (by decide) ?_
            refine E.iadd C dX9_fitOf_78 (by omega) ?_
            refine N.iald C dX9_fitOf_79 kd_120 ln_120 (by omega) (x := v 120 (at_ + 2)) rfl ?_
            refine E.i2l C dX9_fitOf_80 ?_
            refine E.iload_n C dX9_fitOf_81 rfl rfl ?_
            refine E.i2l C dX9_fitOf_82 ?_
            refine E.iload_n C dX9_fitOf_83 rfl rfl ?_
            refine E.aload_n C dX9_fitOf_84 rfl rfl ?_
            refine N.getI C fa_X9_85 rfl dX9_fitOf_85 kd_119 (x := v 119 2) rfl ?_
            refine E.iadd C dX9_fitOf_88 (by omega) ?_
            refine E.i2l C dX9_fitOf_89 ?_
            refine N.callSp (S := []) (As := [vl (v 120 (at_ + 2)), vl bg, vl (bg + (v 119 2))]) C hX (ok_X9_in G (v 120 (at_ + 2)) bg (bg + (v 119 2)) v) yf_X9_in yv_X9_in ml_X9_93 rfl (by decide) (Nat.le_of_ble_eq_true rfl) dX9_fitOf_90 rfl ?_
            refine E.if_eq C dX9_fitOf_93 (tgt := 98) (by decide) (fun h93 => ?_) (fun h93 => ?_)
            · have h93 := b0.mp h93
              refine E.iload C dX9_fitOf_98 rfl ?_
              refine E.i2l C dX9_fitOf_100 ?_
              refine E.ldc2 C ct_X9_182 (x := 2) (by decide) dX9_fitOf_101 ?_
              refine E.ldc2 C ct_X9_200 (x := 3) (by decide) dX9_fitOf_104 ?_
              refine N.callSp (S := []) (As := [vl (v 120 (at_ + 1)), vl 2, vl 3]) C hX (ok_X9_in G (v 120 (at_ + 1)) 2 3 v) yf_X9_in yv_X9_in ml_X9_93 rfl (by decide) (Nat.le_of_ble_eq_true rfl) dX9_fitOf_107 rfl ?_
              refine E.if_eq C dX9_fitOf_110 (tgt := 154) (by decide) (fun h110 => ?_) (fun h110 => ?_)
              · have h110 := b0.mp h110
                refine E.iconst C dX9_fitOf_154 (by decide) ?_
                exact N.iret C hR dX9_fitOf_155 (fun hi hx => by refine ⟨?_, rfl⟩; unfold fitI outI; (repeat' split) <;> omega)
              · have h110 := b0n.mp h110
                refine E.aload_n C dX9_fitOf_113 rfl rfl ?_
                refine N.getR C fa_X9_7 rfl dX9_fitOf_114 kd_119 (x := 120) (by decide +kernel) (by decide) ?_
                refine E.iload_n C dX9_fitOf_117 rfl rfl ?_
                refine E.iconst C dX9_fitOf_118 (by decide) ?_
                refine E.iadd C dX9_fitOf_119 (by omega) ?_
                refine N.iald C dX9_fitOf_120 kd_120 ln_120 (by omega) (x := v 120 (at_ + 5)) rfl ?_
                refine E.if_ne C dX9_fitOf_121 (tgt := 154) (by decide) (fun h121 => ?_) (fun h121 => ?_)
                · skip
                  refine E.iconst C dX9_fitOf_154 (by decide) ?_
                  exact N.iret C hR dX9_fitOf_155 (fun hi hx => by refine ⟨?_, rfl⟩; unfold fitI outI; (repeat' split) <;> omega)
                · skip
                  refine E.aload_n C dX9_fitOf_124 rfl rfl ?_
                  refine N.getR C fa_X9_7 rfl dX9_fitOf_125 kd_119 (x := 120) (by decide +kernel) (by decide) ?_
                  refine E.iload_n C dX9_fitOf_128 rfl rfl ?_
                  refine E.iconst C dX9_fitOf_129 (by decide) ?_
                  refine E.iadd C dX9_fitOf_130 (by omega) ?_
                  refine N.iald C dX9_fitOf_131 kd_120 ln_120 (by omega) (x := v 120 (at_ + 2)) rfl ?_
                  refine E.iconst C dX9_fitOf_132 (by decide) ?_
                  refine E.iadd C dX9_fitOf_133 (by omega) ?_
                  refine E.i2l C dX9_fitOf_134 ?_
                  refine E.iload_n C dX9_fitOf_135 rfl rfl ?_
                  refine E.i2l C dX9_fitOf_136 ?_
                  refine E.iload_n C dX9_fitOf_137 rfl rfl ?_
                  refine E.aload_n C dX9_fitOf_138 rfl rfl ?_
                  refine N.getI C fa_X9_85 rfl dX9_fitOf_139 kd_119 (x := v 119 2) rfl ?_
                  refine E.iadd C dX9_fitOf_142 (by omega) ?_
                  refine E.i2l C dX9_fitOf_143 ?_
                  refine N.callSp (S := []) (As := [vl ((v 120 (at_ + 2)) + 2), vl bg, vl (bg + (v 119 2))]) C hX (ok_X9_in G ((v 120 (at_ + 2)) + 2) bg (bg + (v 119 2)) v) yf_X9_in yv_X9_in ml_X9_93 rfl (by decide) (Nat.le_of_ble_eq_true rfl) dX9_fitOf_144 rfl ?_
                  refine E.if_eq C dX9_fitOf_147 (tgt := 154) (by decide) (fun h147 => ?_) (fun h147 => ?_)
                  · have h147 := b0.mp h147
                    refine E.iconst C dX9_fitOf_154 (by decide) ?_
                    exact N.iret C hR dX9_fitOf_155 (fun hi hx => by refine ⟨?_, rfl⟩; unfold fitI outI; (repeat' split) <;> omega)
                  · have h147 := b0n.mp h147
                    refine E.iconst C dX9_fitOf_150 (by decide) ?_
                    refine E.goto C dX9_fitOf_151 (tgt := 155) (by decide) ?_
                    exact N.iret C hR dX9_fitOf_155 (fun hi hx => by refine ⟨?_, rfl⟩; unfold fitI outI; (repeat' split) <;> omega)
            · have h93 := b0n.mp h93
              refine E.iconst C dX9_fitOf_96 (by decide) ?_
              exact N.iret C hR dX9_fitOf_97 (fun hi hx => by refine ⟨?_, rfl⟩; unfold fitI outI; (repeat' split) <;> omega)
          · skip
            refine E.iconst C dX9_fitOf_70 (by decide) ?_
            exact N.iret C hR dX9_fitOf_71 (fun hi hx => by refine ⟨?_, rfl⟩; unfold fitI outI; (repeat' split) <;> omega)

set_option maxHeartbeats 4000000 in
set_option maxRecDepth 20000 in
theorem ok_X9_fitNow (G : GT) (c t : Int) (v : VT) (hx : 0 ≤ c ∧ c < 8 ∧ 0 ≤ t ∧ t < 10) (hk : -1000 ≤ v 120 (42 + 7 * t + 2) ∧ v 120 (42 + 7 * t + 2) ≤ 1000 ∧ -1000 ≤ v 120 (42 + 7 * t + 3) ∧ v 120 (42 + 7 * t + 3) ≤ 1000) (hz : -1000 ≤ v 120 (1 + 5 * c) ∧ v 120 (1 + 5 * c) ≤ 1000 ∧ -1000 ≤ v 119 2 ∧ v 119 2 ≤ 1000) : MP G yX9_fitNow cX9_fitNow 3 (some .int) 2 50 [vr 119, vi c, vi t] v (fitS v c t) := by
  refine MN.of pn_X9_fitNow [some (vr 119), some (vi c), some (vi t)] 0 rfl rfl (fun X C hX hn hR => ?_)
  have hN : ∀ i : Nat, i < 3 → i < xn X := fun i h => by rw [hn]; exact h
  refine E.rngk (fun hinv => ?_)
  refine E.loc (fun hloc => ?_)
  have hin_1 : in32 c := hloc _ (List.mem_of_getElem? (i := 1) rfl)
  have hin_2 : in32 t := hloc _ (List.mem_of_getElem? (i := 2) rfl)
  refine E.aload_n C dX9_fitNow_0 rfl rfl ?_
  refine E.bipush C dX9_fitNow_1 (by decide) ?_
  refine E.bipush C dX9_fitNow_3 (by decide) ?_
  refine E.iload_n C dX9_fitNow_5 rfl rfl ?_
  refine E.imul C dX9_fitNow_6 (by omega) ?_
  refine E.iadd C dX9_fitNow_7 (by omega) ?_
  refine E.iload_n C dX9_fitNow_8 rfl rfl ?_
  refine E.aload_n C dX9_fitNow_9 rfl rfl ?_
  refine N.getR C fa_X9_7 rfl dX9_fitNow_10 kd_119 (x := 120) (by decide +kernel) (by decide) ?_
  refine E.iconst C dX9_fitNow_13 (by decide) ?_
  refine E.iconst C dX9_fitNow_14 (by decide) ?_
  refine E.iload_n C dX9_fitNow_15 rfl rfl ?_
  refine E.imul C dX9_fitNow_16 (by omega) ?_
  refine E.iadd C dX9_fitNow_17 (by omega) ?_
  refine N.iald C dX9_fitNow_18 kd_120 ln_120 (by omega) (x := v 120 (1 + (5 * c))) rfl ?_
  refine N.callVp (S := []) (As := [vi (42 + (7 * t)), vi c, vi (v 120 (1 + (5 * c)))]) C hX (ok_X9_fitOf G (42 + (7 * t)) c (v 120 (1 + (5 * c))) v (by omega) hk hz) yf_X9_fitOf yv_X9_fitOf ml_X9_202 rfl rfl rfl kd_119 (by decide) (by decide) (Nat.le_of_ble_eq_true rfl) dX9_fitNow_19 rfl ?_
  exact N.iret C hR dX9_fitNow_22 (fun hi hx => by exact ⟨rfl, rfl⟩)

set_option maxHeartbeats 4000000 in
set_option maxRecDepth 20000 in
theorem ok_X9_putsOn (G : GT) (c t : Int) (v : VT) (hx : 0 ≤ c ∧ c < 8 ∧ 0 ≤ t ∧ t < 10) (hk : -1000 ≤ v 120 (42 + 7 * t + 2) ∧ v 120 (42 + 7 * t + 2) ≤ 1000 ∧ -1000 ≤ v 120 (42 + 7 * t + 3) ∧ v 120 (42 + 7 * t + 3) ≤ 1000) (hz : -1000 ≤ v 120 (1 + 5 * c) ∧ v 120 (1 + 5 * c) ≤ 1000 ∧ -1000 ≤ v 119 2 ∧ v 119 2 ≤ 1000) (hs : 0 ≤ v 120 (42 + 7 * t + 0) ∧ v 120 (42 + 7 * t + 0) < 2) : MVe G yX9_putsOn cX9_putsOn 3 none 3 72 [vr 119, vi c, vi t] v (putS v c t) := by
  refine MN.of pn_X9_putsOn [some (vr 119), some (vi c), some (vi t)] 0 rfl rfl (fun X C hX hn hR => ?_)
  have hN : ∀ i : Nat, i < 3 → i < xn X := fun i h => by rw [hn]; exact h
  refine E.rngk (fun hinv => ?_)
  refine E.loc (fun hloc => ?_)
  have hin_1 : in32 c := hloc _ (List.mem_of_getElem? (i := 1) rfl)
  have hin_2 : in32 t := hloc _ (List.mem_of_getElem? (i := 2) rfl)
  refine E.aload_n C dX9_putsOn_0 rfl rfl ?_
  refine E.iload_n C dX9_putsOn_1 rfl rfl ?_
  refine E.iload_n C dX9_putsOn_2 rfl rfl ?_
  refine N.callVp (S := []) (As := [vi c, vi t]) C hX (ok_X9_fitNow G c t v (by omega) hk hz) yf_X9_fitNow yv_X9_fitNow ml_X9_206 rfl rfl rfl kd_119 (by decide) (by decide) (Nat.le_of_ble_eq_true rfl) dX9_putsOn_3 rfl ?_
  refine E.veq (x' := fitI (v 120 (42 + 7 * t + 1)) (v 120 (42 + 7 * t + 2)) (v 120 (42 + 7 * t + 3)) (v 120 (42 + 7 * t + 4)) (v 120 (42 + 7 * t + 5)) (v 120 (42 + 7 * t + 6)) c (v 120 (1 + 5 * c)) (v 119 2)) (by unfold fitS; rfl) ?_
  refine E.iconst C dX9_putsOn_6 (by decide) ?_
  refine E.icmp_ne C dX9_putsOn_7 (tgt := 43) (by decide) (fun h7 => ?_) (fun h7 => ?_)
  · skip
    refine E.aload_n C dX9_putsOn_43 rfl rfl ?_
    refine N.getR C fa_X9_7 rfl dX9_putsOn_44 kd_119 (x := 120) (by decide +kernel) (by decide) ?_
    refine E.iconst C dX9_putsOn_47 (by decide) ?_
    refine E.iconst C dX9_putsOn_48 (by decide) ?_
    refine E.iload_n C dX9_putsOn_49 rfl rfl ?_
    refine E.imul C dX9_putsOn_50 (by omega) ?_
    refine E.iadd C dX9_putsOn_51 (by omega) ?_
    refine E.iconst C dX9_putsOn_52 (by decide) ?_
    refine E.iadd C dX9_putsOn_53 (by omega) ?_
    refine E.aload_n C dX9_putsOn_54 rfl rfl ?_
    refine E.iload_n C dX9_putsOn_55 rfl rfl ?_
    refine E.iconst C dX9_putsOn_56 (by decide) ?_
    refine N.callVp (S := [vi ((1 + (5 * c)) + 3), vr 120]) (As := [vi t, vi 0]) C hX (ok_X9_of G t 0 v (by omega)) yf_X9_of yv_X9_of ml_X9_172 rfl rfl rfl kd_119 (by decide) (by decide) (Nat.le_of_ble_eq_true rfl) dX9_putsOn_57 rfl ?_
    refine E.iadd C dX9_putsOn_60 (by omega) ?_
    refine E.iload_n C dX9_putsOn_61 rfl rfl ?_
    refine N.iast C dX9_putsOn_62 kd_120 ln_120 (by omega) ?_
    exact N.vret C hR dX9_putsOn_63 (fun hi => by unfold putS fitS; split <;> first | rfl | (exfalso; omega))
  · skip
    refine E.aload_n C dX9_putsOn_10 rfl rfl ?_
    refine N.getR C fa_X9_7 rfl dX9_putsOn_11 kd_119 (x := 120) (by decide +kernel) (by decide) ?_
    refine E.bipush C dX9_putsOn_14 (by decide) ?_
    refine E.bipush C dX9_putsOn_16 (by decide) ?_
    refine E.iload_n C dX9_putsOn_18 rfl rfl ?_
    refine E.imul C dX9_putsOn_19 (by omega) ?_
    refine E.iadd C dX9_putsOn_20 (by omega) ?_
    refine E.iconst C dX9_putsOn_21 (by decide) ?_
    refine E.iadd C dX9_putsOn_22 (by omega) ?_
    refine E.dup2 C dX9_putsOn_23 ?_
    refine N.iald C dX9_putsOn_24 kd_120 ln_120 (by omega) (x := v 120 ((42 + (7 * t)) + 2)) rfl ?_
    refine E.iconst C dX9_putsOn_25 (by decide) ?_
    refine E.iadd C dX9_putsOn_26 (by omega) ?_
    refine N.iast C dX9_putsOn_27 kd_120 ln_120 (by omega) ?_
    refine E.aload_n C dX9_putsOn_28 rfl rfl ?_
    refine N.getR C fa_X9_7 rfl dX9_putsOn_29 kd_119 (x := 120) (by decide +kernel) (by decide) ?_
    refine E.bipush C dX9_putsOn_32 (by decide) ?_
    refine E.bipush C dX9_putsOn_34 (by decide) ?_
    refine E.iload_n C dX9_putsOn_36 rfl rfl ?_
    refine E.imul C dX9_putsOn_37 (by omega) ?_
    refine E.iadd C dX9_putsOn_38 (by omega) ?_
    refine E.iconst C dX9_putsOn_39 (by decide) ?_
    refine E.iadd C dX9_putsOn_40 (by omega) ?_
    refine E.iconst C dX9_putsOn_41 (by decide) ?_
    refine N.iast C dX9_putsOn_42 kd_120 ln_120 (by omega) ?_
    refine E.aload_n C dX9_putsOn_43 rfl rfl ?_
    refine N.getR C fa_X9_7 rfl dX9_putsOn_44 kd_119 (x := 120) (by decide +kernel) (by decide) ?_
    refine E.iconst C dX9_putsOn_47 (by decide) ?_
    refine E.iconst C dX9_putsOn_48 (by decide) ?_
    refine E.iload_n C dX9_putsOn_49 rfl rfl ?_
    refine E.imul C dX9_putsOn_50 (by omega) ?_
    refine E.iadd C dX9_putsOn_51 (by omega) ?_
    refine E.iconst C dX9_putsOn_52 (by decide) ?_
    refine E.iadd C dX9_putsOn_53 (by omega) ?_
    refine E.aload_n C dX9_putsOn_54 rfl rfl ?_
    refine E.iload_n C dX9_putsOn_55 rfl rfl ?_
    refine E.iconst C dX9_putsOn_56 (by decide) ?_
    refine N.callVp (S := [vi ((1 + (5 * c)) + 3), vr 120]) (As := [vi t, vi 0]) C hX (ok_X9_of G t 0 (upd2 (upd2 v 120 ((42 + (7 * t)) + 2) ((v 120 ((42 + (7 * t)) + 2)) + 2)) 120 ((42 + (7 * t)) + 5) 1) (by omega)) yf_X9_of yv_X9_of ml_X9_172 rfl rfl rfl kd_119 (by decide) (by decide) (Nat.le_of_ble_eq_true rfl) dX9_putsOn_57 rfl ?_
    refine E.veq (x' := (v 120 (42 + 7 * t + 0))) (by rw [show (upd2 (upd2 v 120 ((42 + (7 * t)) + 2) ((v 120 ((42 + (7 * t)) + 2)) + 2)) 120 ((42 + (7 * t)) + 5) 1) 120 (42 + 7 * t + 0) = v 120 (42 + 7 * t + 0) from ((upd2_ne _ _ _ _ _ _ (Or.inr (by omega))).trans (upd2_ne _ _ _ _ _ _ (Or.inr (by omega))))]) ?_
    refine E.iadd C dX9_putsOn_60 (by omega) ?_
    refine E.iload_n C dX9_putsOn_61 rfl rfl ?_
    refine N.iast C dX9_putsOn_62 kd_120 ln_120 (by omega) ?_
    exact N.vret C hR dX9_putsOn_63 (fun hi => by unfold putS fitS; split <;> first | rfl | (exfalso; omega))

set_option maxHeartbeats 4000000 in
set_option maxRecDepth 20000 in
theorem ok_X9_grows (G : GT) (c q : Int) (v : VT) (hx : 0 ≤ c ∧ c < 8) (hz : 0 ≤ v 120 (1 + 5 * c) ∧ v 120 (1 + 5 * c) ≤ 1000 ∧ 0 ≤ v 120 (1 + 5 * c + 1) ∧ v 120 (1 + 5 * c + 1) ≤ 1000 ∧ 0 ≤ v 120 (1 + 5 * c + 2) ∧ v 120 (1 + 5 * c + 2) ≤ 1000) : MVe G yX9_grows cX9_grows 4 none 0 0 [vr 119, vi c, vi q] v (upd2 v 120 (1 + 5 * c) (growI (v 120 (1 + 5 * c)) (if q = 0 then v 120 (1 + 5 * c + 1) else v 120 (1 + 5 * c + 2)))) := by
  refine MN.of pn_X9_grows [some (vr 119), some (vi c), some (vi q), none] 1 rfl rfl (fun X C hX hn hR => ?_)
  have hN : ∀ i : Nat, i < 4 → i < xn X := fun i h => by rw [hn]; exact h
  refine E.rngk (fun hinv => ?_)
  refine E.loc (fun hloc => ?_)
  have hin_1 : in32 c := hloc _ (List.mem_of_getElem? (i := 1) rfl)
  have hin_2 : in32 q := hloc _ (List.mem_of_getElem? (i := 2) rfl)
  refine E.aload_n C dX9_grows_0 rfl rfl ?_
  refine N.getR C fa_X9_7 rfl dX9_grows_1 kd_119 (x := 120) (by decide +kernel) (by decide) ?_
  refine E.iconst C dX9_grows_4 (by decide) ?_
  refine E.iconst C dX9_grows_5 (by decide) ?_
  refine E.iload_n C dX9_grows_6 rfl rfl ?_
  refine E.imul C dX9_grows_7 (by omega) ?_
  refine E.iadd C dX9_grows_8 (by omega) ?_
  refine N.iald C dX9_grows_9 kd_120 ln_120 (by omega) (x := v 120 (1 + (5 * c))) rfl ?_
  refine E.aload_n C dX9_grows_10 rfl rfl ?_
  refine N.getR C fa_X9_7 rfl dX9_grows_11 kd_119 (x := 120) (by decide +kernel) (by decide) ?_
  refine E.iconst C dX9_grows_14 (by decide) ?_
  refine E.iconst C dX9_grows_15 (by decide) ?_
  refine E.iload_n C dX9_grows_16 rfl rfl ?_
  refine E.imul C dX9_grows_17 (by omega) ?_
  refine E.iadd C dX9_grows_18 (by omega) ?_
  refine E.iload_n C dX9_grows_19 rfl rfl ?_
  refine E.if_eq C dX9_grows_20 (tgt := 27) (by decide) (fun h20 => ?_) (fun h20 => ?_)
  · skip
    refine E.iconst C dX9_grows_27 (by decide) ?_
    refine E.iadd C dX9_grows_28 (by omega) ?_
    refine N.iald C dX9_grows_29 kd_120 ln_120 (by omega) (x := v 120 ((1 + (5 * c)) + 1)) rfl ?_
    refine E.iadd C dX9_grows_30 (by omega) ?_
    refine N.ist_3 C dX9_grows_31 (hN 3 (by decide)) rfl ?_
    refine E.aload_n C dX9_grows_32 rfl rfl ?_
    refine N.getR C fa_X9_7 rfl dX9_grows_33 kd_119 (x := 120) (by decide +kernel) (by decide) ?_
    refine E.iconst C dX9_grows_36 (by decide) ?_
    refine E.iconst C dX9_grows_37 (by decide) ?_
    refine E.iload_n C dX9_grows_38 rfl rfl ?_
    refine E.imul C dX9_grows_39 (by omega) ?_
    refine E.iadd C dX9_grows_40 (by omega) ?_
    refine E.iload_n C dX9_grows_41 rfl rfl ?_
    refine E.bipush C dX9_grows_42 (by decide) ?_
    refine E.icmp_le C dX9_grows_44 (tgt := 52) (by decide) (fun h44 => ?_) (fun h44 => ?_)
    · skip
      refine E.iload_n C dX9_grows_52 rfl rfl ?_
      refine N.iast C dX9_grows_53 kd_120 ln_120 (by omega) ?_
      exact N.vret C hR dX9_grows_54 (fun hi => by unfold growI; congr 1; (repeat' split) <;> omega)
    · skip
      refine E.bipush C dX9_grows_47 (by decide) ?_
      refine E.goto C dX9_grows_49 (tgt := 53) (by decide) ?_
      refine N.iast C dX9_grows_53 kd_120 ln_120 (by omega) ?_
      exact N.vret C hR dX9_grows_54 (fun hi => by unfold growI; congr 1; (repeat' split) <;> omega)
  · skip
    refine E.iconst C dX9_grows_23 (by decide) ?_
    refine E.goto C dX9_grows_24 (tgt := 28) (by decide) ?_
    refine E.iadd C dX9_grows_28 (by omega) ?_
    refine N.iald C dX9_grows_29 kd_120 ln_120 (by omega) (x := v 120 ((1 + (5 * c)) + 2)) rfl ?_
    refine E.iadd C dX9_grows_30 (by omega) ?_
    refine N.ist_3 C dX9_grows_31 (hN 3 (by decide)) rfl ?_
    refine E.aload_n C dX9_grows_32 rfl rfl ?_
    refine N.getR C fa_X9_7 rfl dX9_grows_33 kd_119 (x := 120) (by decide +kernel) (by decide) ?_
    refine E.iconst C dX9_grows_36 (by decide) ?_
    refine E.iconst C dX9_grows_37 (by decide) ?_
    refine E.iload_n C dX9_grows_38 rfl rfl ?_
    refine E.imul C dX9_grows_39 (by omega) ?_
    refine E.iadd C dX9_grows_40 (by omega) ?_
    refine E.iload_n C dX9_grows_41 rfl rfl ?_
    refine E.bipush C dX9_grows_42 (by decide) ?_
    refine E.icmp_le C dX9_grows_44 (tgt := 52) (by decide) (fun h44 => ?_) (fun h44 => ?_)
    · skip
      refine E.iload_n C dX9_grows_52 rfl rfl ?_
      refine N.iast C dX9_grows_53 kd_120 ln_120 (by omega) ?_
      exact N.vret C hR dX9_grows_54 (fun hi => by unfold growI; congr 1; (repeat' split) <;> omega)
    · skip
      refine E.bipush C dX9_grows_47 (by decide) ?_
      refine E.goto C dX9_grows_49 (tgt := 53) (by decide) ?_
      refine N.iast C dX9_grows_53 kd_120 ln_120 (by omega) ?_
      exact N.vret C hR dX9_grows_54 (fun hi => by unfold growI; congr 1; (repeat' split) <;> omega)

set_option maxHeartbeats 4000000 in
set_option maxRecDepth 20000 in
theorem ok_X9_copies (G : GT) (a b : Int) (v : VT) (hx : 0 ≤ a ∧ a ≤ 597 ∧ 0 ≤ b ∧ b ≤ 597) (hs : a + 199 ≤ b ∨ b + 199 ≤ a) : MVe G yX9_copies cX9_copies 4 none 0 0 [vr 119, vi a, vi b] v (cpsF v a b 199) := by
  refine MN.of pn_X9_copies [some (vr 119), some (vi a), some (vi b), none] 1 rfl rfl (fun X C hX hn hR => ?_)
  have hN : ∀ i : Nat, i < 4 → i < xn X := fun i h => by rw [hn]; exact h
  refine E.rngk (fun hinv => ?_)
  refine E.loc (fun hloc => ?_)
  have hin_1 : in32 a := hloc _ (List.mem_of_getElem? (i := 1) rfl)
  have hin_2 : in32 b := hloc _ (List.mem_of_getElem? (i := 2) rfl)
  refine E.iconst C dX9_copies_0 (by decide) ?_
  refine N.ist_3 C dX9_copies_1 (hN 3 (by decide)) rfl ?_
  have lp2 : ∀ (k2 : Nat) (t : Int), (199 - t).toNat = k2 → (0 ≤ t ∧ t ≤ 199) → E X G 0 0 1000 (cpsF v a b t) 2 [some (vr 119), some (vi a), some (vi b), some (vi t)] [] := by
    intro k2
    induction k2 using Nat.strongRecOn with
    | ind k2 ih2 =>
      intro t hk2 hI2
      obtain ⟨ht0, ht1⟩ := hI2
      refine E.iload_n C dX9_copies_2 rfl rfl ?_
      refine E.sipush C dX9_copies_3 (by decide) ?_
      refine E.icmp_ge C dX9_copies_6 (tgt := 31) (by decide) (fun h6 => ?_) (fun h6 => ?_)
      · skip
        exact N.vret C hR dX9_copies_31 (fun hi => by rw [show t = 199 by omega])
      · skip
        refine E.aload_n C dX9_copies_9 rfl rfl ?_
        refine N.getR C fa_X9_7 rfl dX9_copies_10 kd_119 (x := 120) (by decide +kernel) (by decide) ?_
        refine E.iload_n C dX9_copies_13 rfl rfl ?_
        refine E.iload_n C dX9_copies_14 rfl rfl ?_
        refine E.iadd C dX9_copies_15 (by omega) ?_
        refine E.aload_n C dX9_copies_16 rfl rfl ?_
        refine N.getR C fa_X9_7 rfl dX9_copies_17 kd_119 (x := 120) (by decide +kernel) (by decide) ?_
        refine E.iload_n C dX9_copies_20 rfl rfl ?_
        refine E.iload_n C dX9_copies_21 rfl rfl ?_
        refine E.iadd C dX9_copies_22 (by omega) ?_
        refine N.iald C dX9_copies_23 kd_120 ln_120 (by omega) (x := (cpsF v a b t) 120 (b + t)) rfl ?_
        refine N.iast C dX9_copies_24 kd_120 ln_120 (by omega) ?_
        refine N.iinc_3 C dX9_copies_25 (hN 3 (by decide)) rfl (by omega) ?_
        refine E.goto C dX9_copies_28 (tgt := 2) (by decide) ?_
        refine E.heq (h' := cpsF v a b (t + 1)) (cpsF_s (by omega) hs) ?_
        exact ih2 _ (by omega) (t + 1) rfl (by omega)
  refine E.heq (h' := cpsF v a b 0) (cpsF_0) ?_
  exact lp2 _ 0 rfl (by omega)

set_option maxHeartbeats 4000000 in
set_option maxRecDepth 20000 in
theorem ok_X9_canMark (G : GT) (k c : Int) (v : VT) (hx : 0 ≤ k ∧ k < 6 ∧ 0 ≤ c ∧ c < 8) (hz : 0 ≤ v 120 (1 + 5 * c) ∧ v 120 (1 + 5 * c) ≤ 1000 ∧ 0 ≤ v 120 (1 + 5 * c + 1) ∧ v 120 (1 + 5 * c + 1) ≤ 1000 ∧ 0 ≤ v 119 2 ∧ v 119 2 ≤ 1000) (hm : in32 (k * v 120 (1 + 5 * c + 1)) ∧ 0 ≤ k * v 120 (1 + 5 * c + 1) ∧ k * v 120 (1 + 5 * c + 1) ≤ 10000) : MP G yX9_canMark cX9_canMark 4 (some .boolean) 1 25 [vr 119, vi k, vi c] v (canS v k c) := by
  refine MN.of pn_X9_canMark [some (vr 119), some (vi k), some (vi c), none] 1 rfl rfl (fun X C hX hn hR => ?_)
  have hN : ∀ i : Nat, i < 4 → i < xn X := fun i h => by rw [hn]; exact h
  refine E.rngk (fun hinv => ?_)
  refine E.loc (fun hloc => ?_)
  have hin_1 : in32 k := hloc _ (List.mem_of_getElem? (i := 1) rfl)
  have hin_2 : in32 c := hloc _ (List.mem_of_getElem? (i := 2) rfl)
  refine E.aload_n C dX9_canMark_0 rfl rfl ?_
  refine N.getR C fa_X9_7 rfl dX9_canMark_1 kd_119 (x := 120) (by decide +kernel) (by decide) ?_
  refine E.iconst C dX9_canMark_4 (by decide) ?_
  refine E.iconst C dX9_canMark_5 (by decide) ?_
  refine E.iload_n C dX9_canMark_6 rfl rfl ?_
  refine E.imul C dX9_canMark_7 (by omega) ?_
  refine E.iadd C dX9_canMark_8 (by omega) ?_
  refine N.iald C dX9_canMark_9 kd_120 ln_120 (by omega) (x := v 120 (1 + (5 * c))) rfl ?_
  refine E.iload_n C dX9_canMark_10 rfl rfl ?_
  refine E.aload_n C dX9_canMark_11 rfl rfl ?_
  refine N.getR C fa_X9_7 rfl dX9_canMark_12 kd_119 (x := 120) (by decide +kernel) (by decide) ?_
  refine E.iconst C dX9_canMark_15 (by decide) ?_
  refine E.iconst C dX9_canMark_16 (by decide) ?_
  refine E.iload_n C dX9_canMark_17 rfl rfl ?_
  refine E.imul C dX9_canMark_18 (by omega) ?_
  refine E.iadd C dX9_canMark_19 (by omega) ?_
  refine E.iconst C dX9_canMark_20 (by decide) ?_
  refine E.iadd C dX9_canMark_21 (by omega) ?_
  refine N.iald C dX9_canMark_22 kd_120 ln_120 (by omega) (x := v 120 ((1 + (5 * c)) + 1)) rfl ?_
  refine E.imul C dX9_canMark_23 (by omega) ?_
  refine E.iadd C dX9_canMark_24 (by omega) ?_
  refine N.ist_3 C dX9_canMark_25 (hN 3 (by decide)) rfl ?_
  refine E.iload_n C dX9_canMark_26 rfl rfl ?_
  refine E.bipush C dX9_canMark_27 (by decide) ?_
  refine E.icmp_le C dX9_canMark_29 (tgt := 37) (by decide) (fun h29 => ?_) (fun h29 => ?_)
  · skip
    refine E.iload_n C dX9_canMark_37 rfl rfl ?_
    refine N.ist_3 C dX9_canMark_38 (hN 3 (by decide)) rfl ?_
    refine E.aload_n C dX9_canMark_39 rfl rfl ?_
    refine N.getR C fa_X9_7 rfl dX9_canMark_40 kd_119 (x := 120) (by decide +kernel) (by decide) ?_
    refine E.bipush C dX9_canMark_43 (by decide) ?_
    refine E.iload_n C dX9_canMark_45 rfl rfl ?_
    refine E.iadd C dX9_canMark_46 (by omega) ?_
    refine N.iald C dX9_canMark_47 kd_120 ln_120 (by omega) (x := v 120 (113 + k)) rfl ?_
    refine E.i2l C dX9_canMark_48 ?_
    refine E.iload_n C dX9_canMark_49 rfl rfl ?_
    refine E.i2l C dX9_canMark_50 ?_
    refine E.iload_n C dX9_canMark_51 rfl rfl ?_
    refine E.aload_n C dX9_canMark_52 rfl rfl ?_
    refine N.getI C fa_X9_85 rfl dX9_canMark_53 kd_119 (x := v 119 2) rfl ?_
    refine E.iadd C dX9_canMark_56 (by omega) ?_
    refine E.i2l C dX9_canMark_57 ?_
    refine N.callSp (S := []) (As := [vl (v 120 (113 + k)), vl ((v 120 (1 + (5 * c))) + (k * (v 120 ((1 + (5 * c)) + 1)))), vl (((v 120 (1 + (5 * c))) + (k * (v 120 ((1 + (5 * c)) + 1)))) + (v 119 2))]) C hX (ok_X9_in G (v 120 (113 + k)) ((v 120 (1 + (5 * c))) + (k * (v 120 ((1 + (5 * c)) + 1)))) (((v 120 (1 + (5 * c))) + (k * (v 120 ((1 + (5 * c)) + 1)))) + (v 119 2)) v) yf_X9_in yv_X9_in ml_X9_93 rfl (by decide) (Nat.le_of_ble_eq_true rfl) dX9_canMark_58 rfl ?_
    exact N.zret C hR dX9_canMark_61 (by first | exact bdec | omega) (fun hi => by refine ⟨?_, rfl⟩; unfold canS; (repeat' split) <;> first | rfl | omega)
  · skip
    refine E.bipush C dX9_canMark_32 (by decide) ?_
    refine E.goto C dX9_canMark_34 (tgt := 38) (by decide) ?_
    refine N.ist_3 C dX9_canMark_38 (hN 3 (by decide)) rfl ?_
    refine E.aload_n C dX9_canMark_39 rfl rfl ?_
    refine N.getR C fa_X9_7 rfl dX9_canMark_40 kd_119 (x := 120) (by decide +kernel) (by decide) ?_
    refine E.bipush C dX9_canMark_43 (by decide) ?_
    refine E.iload_n C dX9_canMark_45 rfl rfl ?_
    refine E.iadd C dX9_canMark_46 (by omega) ?_
    refine N.iald C dX9_canMark_47 kd_120 ln_120 (by omega) (x := v 120 (113 + k)) rfl ?_
    refine E.i2l C dX9_canMark_48 ?_
    refine E.iload_n C dX9_canMark_49 rfl rfl ?_
    refine E.i2l C dX9_canMark_50 ?_
    refine E.iload_n C dX9_canMark_51 rfl rfl ?_
    refine E.aload_n C dX9_canMark_52 rfl rfl ?_
    refine N.getI C fa_X9_85 rfl dX9_canMark_53 kd_119 (x := v 119 2) rfl ?_
    refine E.iadd C dX9_canMark_56 (by omega) ?_
    refine E.i2l C dX9_canMark_57 ?_
    refine N.callSp (S := []) (As := [vl (v 120 (113 + k)), vl 40, vl (40 + (v 119 2))]) C hX (ok_X9_in G (v 120 (113 + k)) 40 (40 + (v 119 2)) v) yf_X9_in yv_X9_in ml_X9_93 rfl (by decide) (Nat.le_of_ble_eq_true rfl) dX9_canMark_58 rfl ?_
    exact N.zret C hR dX9_canMark_61 (by first | exact bdec | omega) (fun hi => by refine ⟨?_, rfl⟩; unfold canS; (repeat' split) <;> first | rfl | omega)

set_option maxHeartbeats 4000000 in
set_option maxRecDepth 20000 in
theorem ok_X9_fault (G : GT) (v : VT) : MP G yX9_fault cX9_fault 1 (some .int) 0 0 [vr 119] v (v 119 14) := by
  refine MN.of pn_X9_fault [some (vr 119)] 0 rfl rfl (fun X C hX hn hR => ?_)
  have hN : ∀ i : Nat, i < 1 → i < xn X := fun i h => by rw [hn]; exact h
  refine E.rngk (fun hinv => ?_)
  refine E.loc (fun hloc => ?_)
  refine E.aload_n C dX9_fault_0 rfl rfl ?_
  refine N.getI C fa_X9_97 rfl dX9_fault_1 kd_119 (x := v 119 14) rfl ?_
  exact N.iret C hR dX9_fault_4 (fun hi hx => by exact ⟨rfl, rfl⟩)

set_option maxHeartbeats 4000000 in
set_option maxRecDepth 20000 in
theorem ok_X9_torn (G : GT) (v : VT) : MP G yX9_torn cX9_torn 1 (some .int) 0 0 [vr 119] v (v 119 37) := by
  refine MN.of pn_X9_torn [some (vr 119)] 0 rfl rfl (fun X C hX hn hR => ?_)
  have hN : ∀ i : Nat, i < 1 → i < xn X := fun i h => by rw [hn]; exact h
  refine E.rngk (fun hinv => ?_)
  refine E.loc (fun hloc => ?_)
  refine E.aload_n C dX9_torn_0 rfl rfl ?_
  refine N.getI C fa_X9_335 rfl dX9_torn_1 kd_119 (x := v 119 37) rfl ?_
  exact N.iret C hR dX9_torn_4 (fun hi hx => by exact ⟨rfl, rfl⟩)
