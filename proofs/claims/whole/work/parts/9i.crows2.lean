set_option maxHeartbeats 4000000 in
set_option maxRecDepth 20000 in
theorem ok_X8_rows (G : GT) (q sl : Int) (v : VT) (hW : WFV v 4) (hmk0 : 0 ≤ v 4 6 ∧ v 4 6 ≤ 6) (hmk : ∀ k, 0 ≤ k → k < v 4 6 → 1 ≤ v 8 k ∧ v 8 k ≤ 40) (hal : v 1 10 = sl) (hsl : 0 ≤ sl ∧ sl ≤ 4) : MNi G yX8_rows cX8_rows 3 (some .int) 3 71 [vr 1, vi q] v (fun x w => (∀ a j, (a < 60 ∨ 63 < a) → w a j = v a j) ∧ ((¬ (q = 0 ∨ (0 ≤ q - 10 ∧ q - 10 < v 4 6)) ∧ x = -1) ∨ (q = 0 ∧ x = endR (mkB v 4 (v 8) sl) (v 4 4).toNat (v 4 6) 0) ∨ (¬ q = 0 ∧ (q = 0 ∨ (0 ≤ q - 10 ∧ q - 10 < v 4 6)) ∧ ((endR (mkB v 4 (v 8) sl) (v 4 4).toNat (v 4 6) 0 = 0 ∧ x = -4) ∨ (0 < endR (mkB v 4 (v 8) sl) (v 4 4).toNat (v 4 6) 0 ∧ x = fstB (mkB v 4 (v 8) sl) (v 4 4) (v 4 6) (q - 10) (useN (mkB v 4 (v 8) sl) (v 4 4) (v 4 6) (q - 10).toNat)))))) := by
  refine MN.of pn_X8_rows [some (vr 1), some (vi q), none] 1 rfl rfl (fun X C hX hn hR => ?_)
  have hN : ∀ i : Nat, i < 3 → i < xn X := fun i h => by rw [hn]; exact h
  refine E.rngk (fun hinv => ?_)
  refine E.loc (fun hloc => ?_)
  have hin_1 : in32 q := hloc _ (List.mem_of_getElem? (i := 1) rfl)
  have hwk := w10 hin_1
  have hik := hin_1
  unfold in32 at hik
  refine E.iload_n C dX8_rows_0 rfl rfl ?_
  refine E.bipush C dX8_rows_1 (by decide) ?_
  refine E.isubW C dX8_rows_3 ?_
  have hwq : (q - 10 : Int) = q - 10 := rfl
  refine N.ist_2 C dX8_rows_4 (hN 2 (by decide)) rfl ?_
  refine E.iload_n C dX8_rows_5 rfl rfl ?_
  refine E.if_eq C dX8_rows_6 (tgt := 28) (by decide) (fun h6 => ?_) (fun h6 => ?_)
  · skip
    refine E.aload_n C dX8_rows_28 rfl rfl ?_
    refine N.getR C fa_X8_59 rfl dX8_rows_29 kd_1 (x := 60) (by decide +kernel) (by decide) ?_
    refine E.aload_n C dX8_rows_32 rfl rfl ?_
    refine N.getR C fa_X8_19 rfl dX8_rows_33 kd_1 (x := 4) (by decide +kernel) (by decide) ?_
    refine E.aload_n C dX8_rows_36 rfl rfl ?_
    refine N.getI C fa_X8_67 rfl dX8_rows_37 kd_1 (x := v 1 10) rfl ?_
    refine E.veq (x' := sl) (hal) ?_
    refine N.callVv (S := []) (As := [vr 4, vi sl]) C hX (ok_X2_trace G sl v hW hmk0 hmk hsl) yf_X2_trace yv_X2_trace ml_X8_279 rfl rfl rfl kd_60 (by decide) (by decide) (Nat.le_of_ble_eq_true rfl) dX8_rows_40 rfl (fun w40 hp40 => ?_)
    have hTq : TrQ (mkB v 4 (v 8) sl) (v 4 4) (v 4 6) w40 := ⟨hW.1, hmk0, hp40.2.1, hp40.2.2.1, hp40.2.2.2.1, hp40.2.2.2.2⟩
    have hft : (∀ a j, (a < 60 ∨ 63 < a) → w40 a j = v a j) := fun a j g => hp40.1 a j (Or.inl (by omega)) (by omega) (by omega)
    refine E.iload_n C dX8_rows_43 rfl rfl ?_
    refine E.if_ne C dX8_rows_44 (tgt := 57) (by decide) (fun h44 => ?_) (fun h44 => ?_)
    · skip
      refine E.aload_n C dX8_rows_57 rfl rfl ?_
      refine N.getR C fa_X8_59 rfl dX8_rows_58 kd_1 (x := 60) (by decide +kernel) (by decide) ?_
      refine E.iload_n C dX8_rows_61 rfl rfl ?_
      refine N.callVq (S := []) (As := [vi (w32 (q - 10))]) C hX (ok_X2_inFirst G (w32 (q - 10)) (mkB v 4 (v 8) sl) (v 4 4) (v 4 6) w40 hTq ⟨by omega, by omega⟩) yf_X2_inFirst yv_X2_inFirst ml_X8_286 rfl rfl rfl kd_60 (by decide) (by decide) (Nat.le_of_ble_eq_true rfl) dX8_rows_62 rfl (fun t62 hb62 hp62 => ?_)
      exact N.iret C hR dX8_rows_65 (fun hi hx => by first | exact ⟨fun a j _ => rfl, Or.inl ⟨by omega, rfl⟩⟩ | exact ⟨hft, Or.inr (Or.inl ⟨by omega, rfl⟩)⟩ | (have e : w32 (q - 10) = q - 10 := (by omega); have hz := hp62; rw [e] at hz; exact ⟨hft, Or.inr (Or.inr ⟨by omega, by omega, hz⟩)⟩))
    · skip
      refine E.aload_n C dX8_rows_47 rfl rfl ?_
      refine N.getR C fa_X8_59 rfl dX8_rows_48 kd_1 (x := 60) (by decide +kernel) (by decide) ?_
      refine N.callVp (S := []) (As := []) C hX (ok_X2_howMany G (mkB v 4 (v 8) sl) (v 4 4) (v 4 6) w40 hTq) yf_X2_howMany yv_X2_howMany ml_X8_283 rfl rfl rfl kd_60 (by decide) (by decide) (Nat.le_of_ble_eq_true rfl) dX8_rows_51 rfl ?_
      refine E.goto C dX8_rows_54 (tgt := 65) (by decide) ?_
      exact N.iret C hR dX8_rows_65 (fun hi hx => by first | exact ⟨fun a j _ => rfl, Or.inl ⟨by omega, rfl⟩⟩ | exact ⟨hft, Or.inr (Or.inl ⟨by omega, rfl⟩)⟩ | (have e : w32 (q - 10) = q - 10 := (by omega); have hz := hp62; rw [e] at hz; exact ⟨hft, Or.inr (Or.inr ⟨by omega, by omega, hz⟩)⟩))
  · skip
    refine E.iload_n C dX8_rows_9 rfl rfl ?_
    refine E.iconst C dX8_rows_10 (by decide) ?_
    refine E.aload_n C dX8_rows_11 rfl rfl ?_
    refine N.getR C fa_X8_19 rfl dX8_rows_12 kd_1 (x := 4) (by decide +kernel) (by decide) ?_
    refine N.getI C fa_X8_273 rfl dX8_rows_15 (kdV hv4) (x := v 4 6) rfl ?_
    refine E.iconst C dX8_rows_18 (by decide) ?_
    refine E.isub C dX8_rows_19 (by omega) ?_
    refine N.callSp (S := []) (As := [vi (w32 (q - 10)), vi 0, vi ((v 4 6) - 1)]) C hX (ok_X8_within G (w32 (q - 10)) 0 ((v 4 6) - 1) v) yf_X8_within yv_X8_within ml_X8_85 rfl (by decide) (Nat.le_of_ble_eq_true rfl) dX8_rows_20 rfl ?_
    refine E.if_ne C dX8_rows_23 (tgt := 28) (by decide) (fun h23 => ?_) (fun h23 => ?_)
    · have h23 := b0n.mp h23
      refine E.aload_n C dX8_rows_28 rfl rfl ?_
      refine N.getR C fa_X8_59 rfl dX8_rows_29 kd_1 (x := 60) (by decide +kernel) (by decide) ?_
      refine E.aload_n C dX8_rows_32 rfl rfl ?_
      refine N.getR C fa_X8_19 rfl dX8_rows_33 kd_1 (x := 4) (by decide +kernel) (by decide) ?_
      refine E.aload_n C dX8_rows_36 rfl rfl ?_
      refine N.getI C fa_X8_67 rfl dX8_rows_37 kd_1 (x := v 1 10) rfl ?_
      refine E.veq (x' := sl) (hal) ?_
      refine N.callVv (S := []) (As := [vr 4, vi sl]) C hX (ok_X2_trace G sl v hW hmk0 hmk hsl) yf_X2_trace yv_X2_trace ml_X8_279 rfl rfl rfl kd_60 (by decide) (by decide) (Nat.le_of_ble_eq_true rfl) dX8_rows_40 rfl (fun w40 hp40 => ?_)
      have hTq : TrQ (mkB v 4 (v 8) sl) (v 4 4) (v 4 6) w40 := ⟨hW.1, hmk0, hp40.2.1, hp40.2.2.1, hp40.2.2.2.1, hp40.2.2.2.2⟩
      have hft : (∀ a j, (a < 60 ∨ 63 < a) → w40 a j = v a j) := fun a j g => hp40.1 a j (Or.inl (by omega)) (by omega) (by omega)
      refine E.iload_n C dX8_rows_43 rfl rfl ?_
      refine E.if_ne C dX8_rows_44 (tgt := 57) (by decide) (fun h44 => ?_) (fun h44 => ?_)
      · skip
        refine E.aload_n C dX8_rows_57 rfl rfl ?_
        refine N.getR C fa_X8_59 rfl dX8_rows_58 kd_1 (x := 60) (by decide +kernel) (by decide) ?_
        refine E.iload_n C dX8_rows_61 rfl rfl ?_
        refine N.callVq (S := []) (As := [vi (w32 (q - 10))]) C hX (ok_X2_inFirst G (w32 (q - 10)) (mkB v 4 (v 8) sl) (v 4 4) (v 4 6) w40 hTq ⟨by omega, by omega⟩) yf_X2_inFirst yv_X2_inFirst ml_X8_286 rfl rfl rfl kd_60 (by decide) (by decide) (Nat.le_of_ble_eq_true rfl) dX8_rows_62 rfl (fun t62 hb62 hp62 => ?_)
        exact N.iret C hR dX8_rows_65 (fun hi hx => by first | exact ⟨fun a j _ => rfl, Or.inl ⟨by omega, rfl⟩⟩ | exact ⟨hft, Or.inr (Or.inl ⟨by omega, rfl⟩)⟩ | (have e : w32 (q - 10) = q - 10 := (by omega); have hz := hp62; rw [e] at hz; exact ⟨hft, Or.inr (Or.inr ⟨by omega, by omega, hz⟩)⟩))
      · skip
        refine E.aload_n C dX8_rows_47 rfl rfl ?_
        refine N.getR C fa_X8_59 rfl dX8_rows_48 kd_1 (x := 60) (by decide +kernel) (by decide) ?_
        refine N.callVp (S := []) (As := []) C hX (ok_X2_howMany G (mkB v 4 (v 8) sl) (v 4 4) (v 4 6) w40 hTq) yf_X2_howMany yv_X2_howMany ml_X8_283 rfl rfl rfl kd_60 (by decide) (by decide) (Nat.le_of_ble_eq_true rfl) dX8_rows_51 rfl ?_
        refine E.goto C dX8_rows_54 (tgt := 65) (by decide) ?_
        exact N.iret C hR dX8_rows_65 (fun hi hx => by first | exact ⟨fun a j _ => rfl, Or.inl ⟨by omega, rfl⟩⟩ | exact ⟨hft, Or.inr (Or.inl ⟨by omega, rfl⟩)⟩ | (have e : w32 (q - 10) = q - 10 := (by omega); have hz := hp62; rw [e] at hz; exact ⟨hft, Or.inr (Or.inr ⟨by omega, by omega, hz⟩)⟩))
    · have h23 := b0.mp h23
      refine E.iconst C dX8_rows_26 (by decide) ?_
      exact N.iret C hR dX8_rows_27 (fun hi hx => by first | exact ⟨fun a j _ => rfl, Or.inl ⟨by omega, rfl⟩⟩ | exact ⟨hft, Or.inr (Or.inl ⟨by omega, rfl⟩)⟩ | (have e : w32 (q - 10) = q - 10 := (by omega); have hz := hp62; rw [e] at hz; exact ⟨hft, Or.inr (Or.inr ⟨by omega, by omega, hz⟩)⟩))

set_option maxHeartbeats 4000000 in
set_option maxRecDepth 20000 in
theorem ok_X8_whose (G : GT) (q sl : Int) (v : VT) (hW : WFV v 4) (hmk0 : 0 ≤ v 4 6 ∧ v 4 6 ≤ 6) (hmk : ∀ k, 0 ≤ k → k < v 4 6 → 1 ≤ v 8 k ∧ v 8 k ≤ 40) (hal : v 1 10 = sl) (hsl : 0 ≤ sl ∧ sl ≤ 4) : MNi G yX8_whose cX8_whose 2 (some .int) 3 71 [vr 1, vi q] v (fun x w => (∀ a j, (a < 60 ∨ 63 < a) → w a j = v a j) ∧ ((¬ (q = 0 ∨ q = 1) ∧ x = -1) ∨ ((q = 0 ∨ q = 1) ∧ v 4 6 = 0 ∧ x = -2) ∨ (0 < v 4 6 ∧ q = 0 ∧ x = orN (goB (mkB v 4 (v 8) sl) (v 4 4) (v 4 6) 0 0) (v 4 4).toNat) ∨ (0 < v 4 6 ∧ q = 1 ∧ in32 x ∧ ∀ d, 0 ≤ d → d < 32 → (bt x d = true ↔ LasB (mkB v 4 (v 8) sl) (v 4 4) (v 4 6) (pwI (v 4 4).toNat) 0 d)))) := by
  refine MN.of pn_X8_whose [some (vr 1), some (vi q)] 0 rfl rfl (fun X C hX hn hR => ?_)
  have hN : ∀ i : Nat, i < 2 → i < xn X := fun i h => by rw [hn]; exact h
  refine E.rngk (fun hinv => ?_)
  refine E.loc (fun hloc => ?_)
  have hin_1 : in32 q := hloc _ (List.mem_of_getElem? (i := 1) rfl)
  refine E.iload_n C dX8_whose_0 rfl rfl ?_
  refine N.callSp (S := []) (As := [vi q]) C hX (ok_X8_isZeroOrOne G q v) yf_X8_isZeroOrOne yv_X8_isZeroOrOne ml_X8_182 rfl (by decide) (Nat.le_of_ble_eq_true rfl) dX8_whose_1 rfl ?_
  refine E.if_ne C dX8_whose_4 (tgt := 9) (by decide) (fun h4 => ?_) (fun h4 => ?_)
  · have h4 := b0n.mp h4
    refine E.aload_n C dX8_whose_9 rfl rfl ?_
    refine N.getR C fa_X8_19 rfl dX8_whose_10 kd_1 (x := 4) (by decide +kernel) (by decide) ?_
    refine N.getI C fa_X8_273 rfl dX8_whose_13 (kdV hv4) (x := v 4 6) rfl ?_
    refine E.if_ne C dX8_whose_16 (tgt := 22) (by decide) (fun h16 => ?_) (fun h16 => ?_)
    · skip
      refine E.aload_n C dX8_whose_22 rfl rfl ?_
      refine N.getR C fa_X8_59 rfl dX8_whose_23 kd_1 (x := 60) (by decide +kernel) (by decide) ?_
      refine E.aload_n C dX8_whose_26 rfl rfl ?_
      refine N.getR C fa_X8_19 rfl dX8_whose_27 kd_1 (x := 4) (by decide +kernel) (by decide) ?_
      refine E.aload_n C dX8_whose_30 rfl rfl ?_
      refine N.getI C fa_X8_67 rfl dX8_whose_31 kd_1 (x := v 1 10) rfl ?_
      refine E.veq (x' := sl) (hal) ?_
      refine N.callVv (S := []) (As := [vr 4, vi sl]) C hX (ok_X2_trace G sl v hW hmk0 hmk hsl) yf_X2_trace yv_X2_trace ml_X8_279 rfl rfl rfl kd_60 (by decide) (by decide) (Nat.le_of_ble_eq_true rfl) dX8_whose_34 rfl (fun w34 hp34 => ?_)
      have hTq : TrQ (mkB v 4 (v 8) sl) (v 4 4) (v 4 6) w34 := ⟨hW.1, hmk0, hp34.2.1, hp34.2.2.1, hp34.2.2.2.1, hp34.2.2.2.2⟩
      have hft : (∀ a j, (a < 60 ∨ 63 < a) → w34 a j = v a j) := fun a j g => hp34.1 a j (Or.inl (by omega)) (by omega) (by omega)
      refine E.iload_n C dX8_whose_37 rfl rfl ?_
      refine E.if_ne C dX8_whose_38 (tgt := 51) (by decide) (fun h38 => ?_) (fun h38 => ?_)
      · skip
        refine E.aload_n C dX8_whose_51 rfl rfl ?_
        refine N.getR C fa_X8_59 rfl dX8_whose_52 kd_1 (x := 60) (by decide +kernel) (by decide) ?_
        refine N.callVi (S := []) (As := []) C hX (ok_X2_lastOnes G (mkB v 4 (v 8) sl) (v 4 4) (v 4 6) w34 hTq (by omega)) yf_X2_lastOnes yv_X2_lastOnes ml_X8_292 rfl rfl rfl kd_60 (by decide) (by decide) (Nat.le_of_ble_eq_true rfl) dX8_whose_55 rfl (fun t55 w55 hb55 hp55 => ?_)
        exact N.iret C hR dX8_whose_58 (fun hi hx => by first | exact ⟨fun a j _ => rfl, Or.inl ⟨by omega, rfl⟩⟩ | exact ⟨fun a j _ => rfl, Or.inr (Or.inl ⟨by omega, by omega, rfl⟩)⟩ | exact ⟨hft, Or.inr (Or.inr (Or.inl ⟨by omega, by omega, rfl⟩))⟩ | exact ⟨fun a j g => (hp55.1 a j (by omega)).trans (hft a j g), Or.inr (Or.inr (Or.inr ⟨by omega, by omega, hp55.2.1, hp55.2.2⟩))⟩)
      · skip
        refine E.aload_n C dX8_whose_41 rfl rfl ?_
        refine N.getR C fa_X8_59 rfl dX8_whose_42 kd_1 (x := 60) (by decide +kernel) (by decide) ?_
        refine N.callVp (S := []) (As := []) C hX (ok_X2_firstOnes G (mkB v 4 (v 8) sl) (v 4 4) (v 4 6) w34 hTq (by omega)) yf_X2_firstOnes yv_X2_firstOnes ml_X8_289 rfl rfl rfl kd_60 (by decide) (by decide) (Nat.le_of_ble_eq_true rfl) dX8_whose_45 rfl ?_
        refine E.goto C dX8_whose_48 (tgt := 58) (by decide) ?_
        exact N.iret C hR dX8_whose_58 (fun hi hx => by first | exact ⟨fun a j _ => rfl, Or.inl ⟨by omega, rfl⟩⟩ | exact ⟨fun a j _ => rfl, Or.inr (Or.inl ⟨by omega, by omega, rfl⟩)⟩ | exact ⟨hft, Or.inr (Or.inr (Or.inl ⟨by omega, by omega, rfl⟩))⟩ | exact ⟨fun a j g => (hp55.1 a j (by omega)).trans (hft a j g), Or.inr (Or.inr (Or.inr ⟨by omega, by omega, hp55.2.1, hp55.2.2⟩))⟩)
    · skip
      refine E.bipush C dX8_whose_19 (by decide) ?_
      exact N.iret C hR dX8_whose_21 (fun hi hx => by first | exact ⟨fun a j _ => rfl, Or.inl ⟨by omega, rfl⟩⟩ | exact ⟨fun a j _ => rfl, Or.inr (Or.inl ⟨by omega, by omega, rfl⟩)⟩ | exact ⟨hft, Or.inr (Or.inr (Or.inl ⟨by omega, by omega, rfl⟩))⟩ | exact ⟨fun a j g => (hp55.1 a j (by omega)).trans (hft a j g), Or.inr (Or.inr (Or.inr ⟨by omega, by omega, hp55.2.1, hp55.2.2⟩))⟩)
  · have h4 := b0.mp h4
    refine E.iconst C dX8_whose_7 (by decide) ?_
    exact N.iret C hR dX8_whose_8 (fun hi hx => by first | exact ⟨fun a j _ => rfl, Or.inl ⟨by omega, rfl⟩⟩ | exact ⟨fun a j _ => rfl, Or.inr (Or.inl ⟨by omega, by omega, rfl⟩)⟩ | exact ⟨hft, Or.inr (Or.inr (Or.inl ⟨by omega, by omega, rfl⟩))⟩ | exact ⟨fun a j g => (hp55.1 a j (by omega)).trans (hft a j g), Or.inr (Or.inr (Or.inr ⟨by omega, by omega, hp55.2.1, hp55.2.2⟩))⟩)
