set_option maxHeartbeats 4000000 in
set_option maxRecDepth 20000 in
theorem ok_X9_rows (G : GT) (q sl : Int) (A v : VT) (hA : WFV A 0) (hM : MR A (v 120)) (hK : 0 ≤ v 120 112 ∧ v 120 112 ≤ 6) (hal : v 119 2 = sl) (hsl : 0 ≤ sl ∧ sl ≤ 4) : MNi G yX9_rows cX9_rows 2 (some .int) 3 72 [vr 119, vi q] v (fun x w => (∀ a j, (¬ a = 119 ∨ (¬ j = 30 ∧ ¬ j = 31 ∧ ¬ j = 32)) → ¬ a = 133 → ¬ a = 134 → w a j = v a j) ∧ ((¬ (q = 0 ∨ (0 ≤ q - 10 ∧ q - 10 < v 120 112)) ∧ x = -1) ∨ (q = 0 ∧ x = ((enuM (mkB A 0 (fun k => v 120 (113 + k)) sl) (A 0 4) (v 120 112).toNat 0 0).length : Int)) ∨ (¬ q = 0 ∧ (q = 0 ∨ (0 ≤ q - 10 ∧ q - 10 < v 120 112)) ∧ ((((enuM (mkB A 0 (fun k => v 120 (113 + k)) sl) (A 0 4) (v 120 112).toNat 0 0).length : Int) = 0 ∧ x = -4) ∨ ∃ t, (enuM (mkB A 0 (fun k => v 120 (113 + k)) sl) (A 0 4) (v 120 112).toNat 0 0).head? = some t ∧ x = t.getD (q - 10).toNat (-4))))) := by
  refine MN.of pn_X9_rows [some (vr 119), some (vi q)] 0 rfl rfl (fun X C hX hn hR => ?_)
  have hN : ∀ i : Nat, i < 2 → i < xn X := fun i h => by rw [hn]; exact h
  refine E.rngk (fun hinv => ?_)
  refine E.loc (fun hloc => ?_)
  have hin_1 : in32 q := hloc _ (List.mem_of_getElem? (i := 1) rfl)
  have hc := hM.1
  have hb := hM.2.1
  have hA1 := hA.1
  have hA2 := hA.2.1
  refine E.iload_n C dX9_rows_0 rfl rfl ?_
  refine E.if_eq C dX9_rows_1 (tgt := 28) (by decide) (fun h1 => ?_) (fun h1 => ?_)
  · skip
    refine E.aload_n C dX9_rows_28 rfl rfl ?_
    refine N.callVv (S := []) (As := []) C hX (ok_X9_findRows G sl A v hA hM hK hal hsl) yf_X9_findRows yv_X9_findRows ml_X9_320 rfl rfl rfl kd_119 (by decide) (by decide) (Nat.le_of_ble_eq_true rfl) dX9_rows_29 rfl (fun w29 hp29 => ?_)
    refine E.iload_n C dX9_rows_32 rfl rfl ?_
    refine E.if_ne C dX9_rows_33 (tgt := 43) (by decide) (fun h33 => ?_) (fun h33 => ?_)
    · skip
      refine E.aload_n C dX9_rows_43 rfl rfl ?_
      refine N.getI C fa_X9_305 rfl dX9_rows_44 kd_119 (x := w29 119 30) rfl ?_
      refine E.if_ne C dX9_rows_47 (tgt := 55) (by decide) (fun h47 => ?_) (fun h47 => ?_)
      · skip
        refine E.aload_n C dX9_rows_55 rfl rfl ?_
        refine N.getR C fa_X9_53 rfl dX9_rows_56 kd_119 (x := 134) (by decide +kernel) (by decide) ?_
        refine E.iload_n C dX9_rows_59 rfl rfl ?_
        refine E.bipush C dX9_rows_60 (by decide) ?_
        refine E.isub C dX9_rows_62 (by omega) ?_
        refine N.iald C dX9_rows_63 kd_134 ln_134 (by omega) (x := w29 134 (q - 10)) rfl ?_
        exact N.iret C hR dX9_rows_64 (fun hi hx => by first | exact ⟨fun a j _ _ _ => rfl, Or.inl ⟨by omega, rfl⟩⟩ | (refine ⟨hp29.1, Or.inr (Or.inl ⟨by omega, ?_⟩)⟩; rcases hp29.2 with ⟨z1, z2, -⟩ | ⟨z1, z2⟩; (rw [z2, enu_0 z1]); (exact z2.1)) | (refine ⟨hp29.1, Or.inr (Or.inr ⟨by omega, by omega, Or.inl ⟨?_, rfl⟩⟩)⟩; rcases hp29.2 with ⟨z1, z2, -⟩ | ⟨z1, z2⟩; (exfalso; omega); (rw [← z2.1]; omega)) | (refine ⟨hp29.1, Or.inr (Or.inr ⟨by omega, by omega, Or.inr ?_⟩)⟩; rcases hp29.2 with ⟨z1, z2, -⟩ | ⟨z1, z2⟩; (exfalso; omega); (exact z2.hd (by omega) (by omega) (by omega))))
      · skip
        refine E.bipush C dX9_rows_50 (by decide) ?_
        refine E.goto C dX9_rows_52 (tgt := 64) (by decide) ?_
        exact N.iret C hR dX9_rows_64 (fun hi hx => by first | exact ⟨fun a j _ _ _ => rfl, Or.inl ⟨by omega, rfl⟩⟩ | (refine ⟨hp29.1, Or.inr (Or.inl ⟨by omega, ?_⟩)⟩; rcases hp29.2 with ⟨z1, z2, -⟩ | ⟨z1, z2⟩; (rw [z2, enu_0 z1]); (exact z2.1)) | (refine ⟨hp29.1, Or.inr (Or.inr ⟨by omega, by omega, Or.inl ⟨?_, rfl⟩⟩)⟩; rcases hp29.2 with ⟨z1, z2, -⟩ | ⟨z1, z2⟩; (exfalso; omega); (rw [← z2.1]; omega)) | (refine ⟨hp29.1, Or.inr (Or.inr ⟨by omega, by omega, Or.inr ?_⟩)⟩; rcases hp29.2 with ⟨z1, z2, -⟩ | ⟨z1, z2⟩; (exfalso; omega); (exact z2.hd (by omega) (by omega) (by omega))))
    · skip
      refine E.aload_n C dX9_rows_36 rfl rfl ?_
      refine N.getI C fa_X9_305 rfl dX9_rows_37 kd_119 (x := w29 119 30) rfl ?_
      refine E.goto C dX9_rows_40 (tgt := 64) (by decide) ?_
      exact N.iret C hR dX9_rows_64 (fun hi hx => by first | exact ⟨fun a j _ _ _ => rfl, Or.inl ⟨by omega, rfl⟩⟩ | (refine ⟨hp29.1, Or.inr (Or.inl ⟨by omega, ?_⟩)⟩; rcases hp29.2 with ⟨z1, z2, -⟩ | ⟨z1, z2⟩; (rw [z2, enu_0 z1]); (exact z2.1)) | (refine ⟨hp29.1, Or.inr (Or.inr ⟨by omega, by omega, Or.inl ⟨?_, rfl⟩⟩)⟩; rcases hp29.2 with ⟨z1, z2, -⟩ | ⟨z1, z2⟩; (exfalso; omega); (rw [← z2.1]; omega)) | (refine ⟨hp29.1, Or.inr (Or.inr ⟨by omega, by omega, Or.inr ?_⟩)⟩; rcases hp29.2 with ⟨z1, z2, -⟩ | ⟨z1, z2⟩; (exfalso; omega); (exact z2.hd (by omega) (by omega) (by omega))))
  · skip
    refine E.iload_n C dX9_rows_4 rfl rfl ?_
    refine E.i2l C dX9_rows_5 ?_
    refine E.ldc2 C ct_X9_184 (x := 10) (by decide) dX9_rows_6 ?_
    refine E.bipush C dX9_rows_9 (by decide) ?_
    refine E.aload_n C dX9_rows_11 rfl rfl ?_
    refine N.getR C fa_X9_7 rfl dX9_rows_12 kd_119 (x := 120) (by decide +kernel) (by decide) ?_
    refine E.bipush C dX9_rows_15 (by decide) ?_
    refine N.iald C dX9_rows_17 kd_120 ln_120 (by omega) (x := v 120 112) rfl ?_
    refine E.iadd C dX9_rows_18 (by omega) ?_
    refine E.i2l C dX9_rows_19 ?_
    refine N.callSp (S := []) (As := [vl q, vl 10, vl (9 + (v 120 112))]) C hX (ok_X9_in G q 10 (9 + (v 120 112)) v) yf_X9_in yv_X9_in ml_X9_93 rfl (by decide) (Nat.le_of_ble_eq_true rfl) dX9_rows_20 rfl ?_
    refine E.if_ne C dX9_rows_23 (tgt := 28) (by decide) (fun h23 => ?_) (fun h23 => ?_)
    · have h23 := b0n.mp h23
      refine E.aload_n C dX9_rows_28 rfl rfl ?_
      refine N.callVv (S := []) (As := []) C hX (ok_X9_findRows G sl A v hA hM hK hal hsl) yf_X9_findRows yv_X9_findRows ml_X9_320 rfl rfl rfl kd_119 (by decide) (by decide) (Nat.le_of_ble_eq_true rfl) dX9_rows_29 rfl (fun w29 hp29 => ?_)
      refine E.iload_n C dX9_rows_32 rfl rfl ?_
      refine E.if_ne C dX9_rows_33 (tgt := 43) (by decide) (fun h33 => ?_) (fun h33 => ?_)
      · skip
        refine E.aload_n C dX9_rows_43 rfl rfl ?_
        refine N.getI C fa_X9_305 rfl dX9_rows_44 kd_119 (x := w29 119 30) rfl ?_
        refine E.if_ne C dX9_rows_47 (tgt := 55) (by decide) (fun h47 => ?_) (fun h47 => ?_)
        · skip
          refine E.aload_n C dX9_rows_55 rfl rfl ?_
          refine N.getR C fa_X9_53 rfl dX9_rows_56 kd_119 (x := 134) (by decide +kernel) (by decide) ?_
          refine E.iload_n C dX9_rows_59 rfl rfl ?_
          refine E.bipush C dX9_rows_60 (by decide) ?_
          refine E.isub C dX9_rows_62 (by omega) ?_
          refine N.iald C dX9_rows_63 kd_134 ln_134 (by omega) (x := w29 134 (q - 10)) rfl ?_
          exact N.iret C hR dX9_rows_64 (fun hi hx => by first | exact ⟨fun a j _ _ _ => rfl, Or.inl ⟨by omega, rfl⟩⟩ | (refine ⟨hp29.1, Or.inr (Or.inl ⟨by omega, ?_⟩)⟩; rcases hp29.2 with ⟨z1, z2, -⟩ | ⟨z1, z2⟩; (rw [z2, enu_0 z1]); (exact z2.1)) | (refine ⟨hp29.1, Or.inr (Or.inr ⟨by omega, by omega, Or.inl ⟨?_, rfl⟩⟩)⟩; rcases hp29.2 with ⟨z1, z2, -⟩ | ⟨z1, z2⟩; (exfalso; omega); (rw [← z2.1]; omega)) | (refine ⟨hp29.1, Or.inr (Or.inr ⟨by omega, by omega, Or.inr ?_⟩)⟩; rcases hp29.2 with ⟨z1, z2, -⟩ | ⟨z1, z2⟩; (exfalso; omega); (exact z2.hd (by omega) (by omega) (by omega))))
        · skip
          refine E.bipush C dX9_rows_50 (by decide) ?_
          refine E.goto C dX9_rows_52 (tgt := 64) (by decide) ?_
          exact N.iret C hR dX9_rows_64 (fun hi hx => by first | exact ⟨fun a j _ _ _ => rfl, Or.inl ⟨by omega, rfl⟩⟩ | (refine ⟨hp29.1, Or.inr (Or.inl ⟨by omega, ?_⟩)⟩; rcases hp29.2 with ⟨z1, z2, -⟩ | ⟨z1, z2⟩; (rw [z2, enu_0 z1]); (exact z2.1)) | (refine ⟨hp29.1, Or.inr (Or.inr ⟨by omega, by omega, Or.inl ⟨?_, rfl⟩⟩)⟩; rcases hp29.2 with ⟨z1, z2, -⟩ | ⟨z1, z2⟩; (exfalso; omega); (rw [← z2.1]; omega)) | (refine ⟨hp29.1, Or.inr (Or.inr ⟨by omega, by omega, Or.inr ?_⟩)⟩; rcases hp29.2 with ⟨z1, z2, -⟩ | ⟨z1, z2⟩; (exfalso; omega); (exact z2.hd (by omega) (by omega) (by omega))))
      · skip
        refine E.aload_n C dX9_rows_36 rfl rfl ?_
        refine N.getI C fa_X9_305 rfl dX9_rows_37 kd_119 (x := w29 119 30) rfl ?_
        refine E.goto C dX9_rows_40 (tgt := 64) (by decide) ?_
        exact N.iret C hR dX9_rows_64 (fun hi hx => by first | exact ⟨fun a j _ _ _ => rfl, Or.inl ⟨by omega, rfl⟩⟩ | (refine ⟨hp29.1, Or.inr (Or.inl ⟨by omega, ?_⟩)⟩; rcases hp29.2 with ⟨z1, z2, -⟩ | ⟨z1, z2⟩; (rw [z2, enu_0 z1]); (exact z2.1)) | (refine ⟨hp29.1, Or.inr (Or.inr ⟨by omega, by omega, Or.inl ⟨?_, rfl⟩⟩)⟩; rcases hp29.2 with ⟨z1, z2, -⟩ | ⟨z1, z2⟩; (exfalso; omega); (rw [← z2.1]; omega)) | (refine ⟨hp29.1, Or.inr (Or.inr ⟨by omega, by omega, Or.inr ?_⟩)⟩; rcases hp29.2 with ⟨z1, z2, -⟩ | ⟨z1, z2⟩; (exfalso; omega); (exact z2.hd (by omega) (by omega) (by omega))))
    · have h23 := b0.mp h23
      refine E.iconst C dX9_rows_26 (by decide) ?_
      exact N.iret C hR dX9_rows_27 (fun hi hx => by first | exact ⟨fun a j _ _ _ => rfl, Or.inl ⟨by omega, rfl⟩⟩ | (refine ⟨hp29.1, Or.inr (Or.inl ⟨by omega, ?_⟩)⟩; rcases hp29.2 with ⟨z1, z2, -⟩ | ⟨z1, z2⟩; (rw [z2, enu_0 z1]); (exact z2.1)) | (refine ⟨hp29.1, Or.inr (Or.inr ⟨by omega, by omega, Or.inl ⟨?_, rfl⟩⟩)⟩; rcases hp29.2 with ⟨z1, z2, -⟩ | ⟨z1, z2⟩; (exfalso; omega); (rw [← z2.1]; omega)) | (refine ⟨hp29.1, Or.inr (Or.inr ⟨by omega, by omega, Or.inr ?_⟩)⟩; rcases hp29.2 with ⟨z1, z2, -⟩ | ⟨z1, z2⟩; (exfalso; omega); (exact z2.hd (by omega) (by omega) (by omega))))

set_option maxHeartbeats 4000000 in
set_option maxRecDepth 20000 in
theorem ok_X9_whose (G : GT) (q sl : Int) (A v : VT) (hA : WFV A 0) (hM : MR A (v 120)) (hK : 0 ≤ v 120 112 ∧ v 120 112 ≤ 6) (hal : v 119 2 = sl) (hsl : 0 ≤ sl ∧ sl ≤ 4) : MNi G yX9_whose cX9_whose 2 (some .int) 3 72 [vr 119, vi q] v (fun x w => (∀ a j, (¬ a = 119 ∨ (¬ j = 30 ∧ ¬ j = 31 ∧ ¬ j = 32)) → ¬ a = 133 → ¬ a = 134 → w a j = v a j) ∧ ((¬ (q = 0 ∨ q = 1) ∧ x = -1) ∨ ((q = 0 ∨ q = 1) ∧ v 120 112 = 0 ∧ x = -2) ∨ (0 < v 120 112 ∧ (q = 0 ∨ q = 1) ∧ in32 x ∧ ∀ d, 0 ≤ d → d < 32 → (bt x d = true ↔ ∃ t, t ∈ enuM (mkB A 0 (fun k => v 120 (113 + k)) sl) (A 0 4) (v 120 112).toNat 0 0 ∧ t.getD (if q = 0 then 0 else (v 120 112 - 1).toNat) (-4) = d)))) := by
  refine MN.of pn_X9_whose [some (vr 119), some (vi q)] 0 rfl rfl (fun X C hX hn hR => ?_)
  have hN : ∀ i : Nat, i < 2 → i < xn X := fun i h => by rw [hn]; exact h
  refine E.rngk (fun hinv => ?_)
  refine E.loc (fun hloc => ?_)
  have hin_1 : in32 q := hloc _ (List.mem_of_getElem? (i := 1) rfl)
  have hc := hM.1
  have hb := hM.2.1
  have hA1 := hA.1
  have hA2 := hA.2.1
  refine E.iload_n C dX9_whose_0 rfl rfl ?_
  refine E.i2l C dX9_whose_1 ?_
  refine E.lconst C dX9_whose_2 (x := 0) rfl ?_
  refine E.lconst C dX9_whose_3 (x := 1) rfl ?_
  refine N.callSp (S := []) (As := [vl q, vl 0, vl 1]) C hX (ok_X9_in G q 0 1 v) yf_X9_in yv_X9_in ml_X9_93 rfl (by decide) (Nat.le_of_ble_eq_true rfl) dX9_whose_4 rfl ?_
  refine E.if_ne C dX9_whose_7 (tgt := 12) (by decide) (fun h7 => ?_) (fun h7 => ?_)
  · have h7 := b0n.mp h7
    refine E.aload_n C dX9_whose_12 rfl rfl ?_
    refine N.getR C fa_X9_7 rfl dX9_whose_13 kd_119 (x := 120) (by decide +kernel) (by decide) ?_
    refine E.bipush C dX9_whose_16 (by decide) ?_
    refine N.iald C dX9_whose_18 kd_120 ln_120 (by omega) (x := v 120 112) rfl ?_
    refine E.if_ne C dX9_whose_19 (tgt := 25) (by decide) (fun h19 => ?_) (fun h19 => ?_)
    · skip
      refine E.aload_n C dX9_whose_25 rfl rfl ?_
      refine N.callVv (S := []) (As := []) C hX (ok_X9_findRows G sl A v hA hM hK hal hsl) yf_X9_findRows yv_X9_findRows ml_X9_320 rfl rfl rfl kd_119 (by decide) (by decide) (Nat.le_of_ble_eq_true rfl) dX9_whose_26 rfl (fun w26 hp26 => ?_)
      refine E.iload_n C dX9_whose_29 rfl rfl ?_
      refine E.if_ne C dX9_whose_30 (tgt := 40) (by decide) (fun h30 => ?_) (fun h30 => ?_)
      · skip
        refine E.aload_n C dX9_whose_40 rfl rfl ?_
        refine N.getI C fa_X9_311 rfl dX9_whose_41 kd_119 (x := w26 119 32) rfl ?_
        exact N.iret C hR dX9_whose_44 (fun hi hx => by first | exact ⟨fun a j _ _ _ => rfl, Or.inl ⟨by omega, rfl⟩⟩ | exact ⟨fun a j _ _ _ => rfl, Or.inr (Or.inl ⟨by omega, by omega, rfl⟩)⟩ | (refine ⟨hp26.1, Or.inr (Or.inr ⟨by omega, by omega, hx, fun d d1 d2 => ?_⟩)⟩; rcases hp26.2 with ⟨z1, z2, -⟩ | ⟨z1, z2⟩; (exfalso; omega); first | (rw [if_pos (by omega)]; exact z2.2.2.1 d d1 d2) | (rw [if_neg (by omega)]; exact z2.2.2.2 d d1 d2)))
      · skip
        refine E.aload_n C dX9_whose_33 rfl rfl ?_
        refine N.getI C fa_X9_308 rfl dX9_whose_34 kd_119 (x := w26 119 31) rfl ?_
        refine E.goto C dX9_whose_37 (tgt := 44) (by decide) ?_
        exact N.iret C hR dX9_whose_44 (fun hi hx => by first | exact ⟨fun a j _ _ _ => rfl, Or.inl ⟨by omega, rfl⟩⟩ | exact ⟨fun a j _ _ _ => rfl, Or.inr (Or.inl ⟨by omega, by omega, rfl⟩)⟩ | (refine ⟨hp26.1, Or.inr (Or.inr ⟨by omega, by omega, hx, fun d d1 d2 => ?_⟩)⟩; rcases hp26.2 with ⟨z1, z2, -⟩ | ⟨z1, z2⟩; (exfalso; omega); first | (rw [if_pos (by omega)]; exact z2.2.2.1 d d1 d2) | (rw [if_neg (by omega)]; exact z2.2.2.2 d d1 d2)))
    · skip
      refine E.bipush C dX9_whose_22 (by decide) ?_
      exact N.iret C hR dX9_whose_24 (fun hi hx => by first | exact ⟨fun a j _ _ _ => rfl, Or.inl ⟨by omega, rfl⟩⟩ | exact ⟨fun a j _ _ _ => rfl, Or.inr (Or.inl ⟨by omega, by omega, rfl⟩)⟩ | (refine ⟨hp26.1, Or.inr (Or.inr ⟨by omega, by omega, hx, fun d d1 d2 => ?_⟩)⟩; rcases hp26.2 with ⟨z1, z2, -⟩ | ⟨z1, z2⟩; (exfalso; omega); first | (rw [if_pos (by omega)]; exact z2.2.2.1 d d1 d2) | (rw [if_neg (by omega)]; exact z2.2.2.2 d d1 d2)))
  · have h7 := b0.mp h7
    refine E.iconst C dX9_whose_10 (by decide) ?_
    exact N.iret C hR dX9_whose_11 (fun hi hx => by first | exact ⟨fun a j _ _ _ => rfl, Or.inl ⟨by omega, rfl⟩⟩ | exact ⟨fun a j _ _ _ => rfl, Or.inr (Or.inl ⟨by omega, by omega, rfl⟩)⟩ | (refine ⟨hp26.1, Or.inr (Or.inr ⟨by omega, by omega, hx, fun d d1 d2 => ?_⟩)⟩; rcases hp26.2 with ⟨z1, z2, -⟩ | ⟨z1, z2⟩; (exfalso; omega); first | (rw [if_pos (by omega)]; exact z2.2.2.1 d d1 d2) | (rw [if_neg (by omega)]; exact z2.2.2.2 d d1 d2)))
