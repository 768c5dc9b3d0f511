set_option maxHeartbeats 4000000 in
set_option maxRecDepth 20000 in
theorem ok_J6_bitCount_0f7a4 (G : GT) (x : Int) (v : VT) (hx0 : 0 ≤ x ∧ x < 256) : MP G yJ6_bitCount_0f7a4 cJ6_bitCount_0f7a4 1 (some .int) 0 0 [vi x] v (popI x) := by
  refine MN.of pn_J6_bitCount_0f7a4 [some (vi x)] 0 rfl rfl (fun X C hX hn hR => ?_)
  have hN : ∀ i : Nat, i < 1 → i < xn X := fun i h => by rw [hn]; exact h
  refine E.rngk (fun hinv => ?_)
  refine E.loc (fun hloc => ?_)
  have hin_0 : in32 x := hloc _ (List.mem_of_getElem? (i := 0) rfl)
  refine E.iload_n C dJ6_bitCount_0f7a4_0 rfl rfl ?_
  refine E.iload_n C dJ6_bitCount_0f7a4_1 rfl rfl ?_
  refine E.iconst C dJ6_bitCount_0f7a4_2 (by decide) ?_
  refine E.iushr C dJ6_bitCount_0f7a4_3 ?_
  refine E.ldc_w C ct_J6_265 (x := 1431655765) (by decide) dJ6_bitCount_0f7a4_4 ?_
  refine E.iand C dJ6_bitCount_0f7a4_7 ?_
  refine E.isubW C dJ6_bitCount_0f7a4_8 ?_
  refine N.ist_0 C dJ6_bitCount_0f7a4_9 (hN 0 (by decide)) rfl ?_
  refine E.iload_n C dJ6_bitCount_0f7a4_10 rfl rfl ?_
  refine E.ldc_w C ct_J6_266 (x := 858993459) (by decide) dJ6_bitCount_0f7a4_11 ?_
  refine E.iand C dJ6_bitCount_0f7a4_14 ?_
  refine E.iload_n C dJ6_bitCount_0f7a4_15 rfl rfl ?_
  refine E.iconst C dJ6_bitCount_0f7a4_16 (by decide) ?_
  refine E.iushr C dJ6_bitCount_0f7a4_17 ?_
  refine E.ldc_w C ct_J6_266 (x := 858993459) (by decide) dJ6_bitCount_0f7a4_18 ?_
  refine E.iand C dJ6_bitCount_0f7a4_21 ?_
  refine E.iaddW C dJ6_bitCount_0f7a4_22 ?_
  refine N.ist_0 C dJ6_bitCount_0f7a4_23 (hN 0 (by decide)) rfl ?_
  refine E.iload_n C dJ6_bitCount_0f7a4_24 rfl rfl ?_
  refine E.iload_n C dJ6_bitCount_0f7a4_25 rfl rfl ?_
  refine E.iconst C dJ6_bitCount_0f7a4_26 (by decide) ?_
  refine E.iushr C dJ6_bitCount_0f7a4_27 ?_
  refine E.iaddW C dJ6_bitCount_0f7a4_28 ?_
  refine E.ldc_w C ct_J6_267 (x := 252645135) (by decide) dJ6_bitCount_0f7a4_29 ?_
  refine E.iand C dJ6_bitCount_0f7a4_32 ?_
  refine N.ist_0 C dJ6_bitCount_0f7a4_33 (hN 0 (by decide)) rfl ?_
  refine E.iload_n C dJ6_bitCount_0f7a4_34 rfl rfl ?_
  refine E.iload_n C dJ6_bitCount_0f7a4_35 rfl rfl ?_
  refine E.bipush C dJ6_bitCount_0f7a4_36 (by decide) ?_
  refine E.iushr C dJ6_bitCount_0f7a4_38 ?_
  refine E.iaddW C dJ6_bitCount_0f7a4_39 ?_
  refine N.ist_0 C dJ6_bitCount_0f7a4_40 (hN 0 (by decide)) rfl ?_
  refine E.iload_n C dJ6_bitCount_0f7a4_41 rfl rfl ?_
  refine E.iload_n C dJ6_bitCount_0f7a4_42 rfl rfl ?_
  refine E.bipush C dJ6_bitCount_0f7a4_43 (by decide) ?_
  refine E.iushr C dJ6_bitCount_0f7a4_45 ?_
  refine E.iaddW C dJ6_bitCount_0f7a4_46 ?_
  refine N.ist_0 C dJ6_bitCount_0f7a4_47 (hN 0 (by decide)) rfl ?_
  refine E.iload_n C dJ6_bitCount_0f7a4_48 rfl rfl ?_
  refine E.bipush C dJ6_bitCount_0f7a4_49 (by decide) ?_
  refine E.iand C dJ6_bitCount_0f7a4_51 ?_
  exact N.iret C hR dJ6_bitCount_0f7a4_52 (fun hi hx => by exact ⟨(bc_pop hx0).1, rfl⟩)

set_option maxHeartbeats 4000000 in
set_option maxRecDepth 20000 in
theorem ok_X2_canFollow (G : GT) (c k u : Int) (v : VT) (hx : 0 ≤ c ∧ c < 8 ∧ 0 ≤ k ∧ k < 6) : MP G yX2_canFollow cX2_canFollow 4 (some .boolean) 0 0 [vr 60, vi c, vi k, vi u] v (if bt (v 61 k) c = true ∧ bt u c = false then 1 else 0) := by
  refine MN.of pn_X2_canFollow [some (vr 60), some (vi c), some (vi k), some (vi u)] 0 rfl rfl (fun X C hX hn hR => ?_)
  have hN : ∀ i : Nat, i < 4 → i < xn X := fun i h => by rw [hn]; exact h
  refine E.rngk (fun hinv => ?_)
  refine E.loc (fun hloc => ?_)
  have hin_1 : in32 c := hloc _ (List.mem_of_getElem? (i := 1) rfl)
  have hin_2 : in32 k := hloc _ (List.mem_of_getElem? (i := 2) rfl)
  have hin_3 : in32 u := hloc _ (List.mem_of_getElem? (i := 3) rfl)
  have hz := and_shl (x := jand (v 61 k) (jxor u (-1))) (c := c) ⟨hx.1, by omega⟩
  rw [bt_and, Bool.and_eq_true, bt_not ⟨hx.1, by omega⟩, Bool.not_eq_true'] at hz
  refine E.aload_n C dX2_canFollow_0 rfl rfl ?_
  refine N.getR C fa_X2_9 rfl dX2_canFollow_1 kd_60 (x := 61) (by decide +kernel) (by decide) ?_
  refine E.iload_n C dX2_canFollow_4 rfl rfl ?_
  refine N.iald C dX2_canFollow_5 kd_61 ln_61 (by omega) (x := v 61 k) rfl ?_
  refine E.iload_n C dX2_canFollow_6 rfl rfl ?_
  refine E.iconst C dX2_canFollow_7 (by decide) ?_
  refine E.ixor C dX2_canFollow_8 ?_
  refine E.iand C dX2_canFollow_9 ?_
  refine E.iconst C dX2_canFollow_10 (by decide) ?_
  refine E.iload_n C dX2_canFollow_11 rfl rfl ?_
  refine E.ishl C dX2_canFollow_12 ?_
  refine E.iand C dX2_canFollow_13 ?_
  refine E.if_eq C dX2_canFollow_14 (tgt := 21) (by decide) (fun h14 => ?_) (fun h14 => ?_)
  · skip
    refine E.iconst C dX2_canFollow_21 (by decide) ?_
    exact N.zret C hR dX2_canFollow_22 (by first | exact bdec | omega) (fun hi => by refine ⟨?_, rfl⟩; first | (rw [if_pos (hz.mp (by omega))]) | (rw [if_neg (fun q => (hz.mpr q) (by omega))]))
  · skip
    refine E.iconst C dX2_canFollow_17 (by decide) ?_
    refine E.goto C dX2_canFollow_18 (tgt := 22) (by decide) ?_
    exact N.zret C hR dX2_canFollow_22 (by first | exact bdec | omega) (fun hi => by refine ⟨?_, rfl⟩; first | (rw [if_pos (hz.mp (by omega))]) | (rw [if_neg (fun q => (hz.mpr q) (by omega))]))

set_option maxHeartbeats 4000000 in
set_option maxRecDepth 20000 in
theorem ok_X2_fittingMark (G : GT) (o k sl : Int) (v : VT) (ho : isV o) (hW : WFV v o) (hk : 0 ≤ k ∧ k < 6) (hsl : 0 ≤ sl ∧ sl ≤ 4) (hm : 1 ≤ v (o + 4) k ∧ v (o + 4) k ≤ 40) : MP G yX2_fittingMark cX2_fittingMark 7 (some .int) 1 22 [vr o, vi k, vi sl] v (orN (mkB v o (v (o + 4)) sl k) (v o 4).toNat) := by
  refine MN.of pn_X2_fittingMark [some (vr o), some (vi k), some (vi sl), none, none, none, none] 4 rfl rfl (fun X C hX hn hR => ?_)
  have hN : ∀ i : Nat, i < 7 → i < xn X := fun i h => by rw [hn]; exact h
  refine E.rngk (fun hinv => ?_)
  refine E.loc (fun hloc => ?_)
  have hin_1 : in32 k := hloc _ (List.mem_of_getElem? (i := 1) rfl)
  have hin_2 : in32 sl := hloc _ (List.mem_of_getElem? (i := 2) rfl)
  have hW1 := hW.1
  refine E.iconst C dX2_fittingMark_0 (by decide) ?_
  refine N.ist_3 C dX2_fittingMark_1 (hN 3 (by decide)) rfl ?_
  refine E.iconst C dX2_fittingMark_2 (by decide) ?_
  refine N.ist_4 C dX2_fittingMark_3 (hN 4 (by decide)) rfl ?_
  have lp5 : ∀ (k5 : Nat) (x : Int) (c : Int), (v o 4 - c).toNat = k5 → (0 ≤ c ∧ c ≤ v o 4 ∧ x = orN (mkB v o (v (o + 4)) sl k) c.toNat) → E X G 0 0 1000 v 5 [some (vr o), some (vi k), some (vi sl), some (vi x), some (vi c), none, none] [] := by
    intro k5
    induction k5 using Nat.strongRecOn with
    | ind k5 ih5 =>
      intro x c hk5 hI5
      obtain ⟨hc0, hc1, hxx⟩ := hI5
      refine E.iload C dX2_fittingMark_5 rfl ?_
      refine E.aload_n C dX2_fittingMark_7 rfl rfl ?_
      refine N.getI C fa_X2_21 rfl dX2_fittingMark_8 (kdV ho) (x := v o 4) rfl ?_
      refine E.icmp_ge C dX2_fittingMark_11 (tgt := 74) (by decide) (fun h11 => ?_) (fun h11 => ?_)
      · skip
        refine E.iload_n C dX2_fittingMark_74 rfl rfl ?_
        exact N.iret C hR dX2_fittingMark_75 (fun hi hx => by exact ⟨by rw [hxx, show c = v o 4 by omega], rfl⟩)
      · skip
        have hch := hW.2.2.1 c hc0 (by omega)
        unfold chOK at hch
        have hkl : 0 ≤ k * v (o + 5 + c) 1 ∧ k * v (o + 5 + c) 1 ≤ 20 := ⟨Int.mul_nonneg hk.1 hch.2.2.1, by have h1 : k * v (o + 5 + c) 1 ≤ 5 * v (o + 5 + c) 1 := Int.mul_le_mul_of_nonneg_right (by omega) hch.2.2.1; omega⟩
        refine E.aload_n C dX2_fittingMark_14 rfl rfl ?_
        refine N.getR C fa_X2_40 rfl dX2_fittingMark_15 (kdV ho) (x := o + 1) (rvV0 ho) (by have := posVk ho; omega) ?_
        refine E.iload C dX2_fittingMark_18 rfl ?_
        refine N.aald C (t := 3) (by decide) dX2_fittingMark_20 (kdVc ho) (lnVc ho) (by omega) (x := o + 5 + c) (rvVc ho (by omega)) (by have := posVk ho; omega) ?_
        refine N.ast_5 C dX2_fittingMark_21 (hN 5 (by decide)) rfl ?_
        refine E.bipush C dX2_fittingMark_23 (by decide) ?_
        refine E.aload C dX2_fittingMark_25 rfl ?_
        refine N.getI C fa_X2_44 rfl dX2_fittingMark_27 (kdVC ho (by omega)) (x := v (o + 5 + c) 0) rfl ?_
        refine E.iload_n C dX2_fittingMark_30 rfl rfl ?_
        refine E.aload C dX2_fittingMark_31 rfl ?_
        refine N.getI C fa_X2_49 rfl dX2_fittingMark_33 (kdVC ho (by omega)) (x := v (o + 5 + c) 1) rfl ?_
        refine E.imul C dX2_fittingMark_36 (by unfold in32; omega) ?_
        refine E.iadd C dX2_fittingMark_37 (by omega) ?_
        refine N.mmin (S := []) C hX mm_X2_52 mminR dX2_fittingMark_38 (by decide) (Nat.le_of_ble_eq_true rfl) ?_
        refine N.ist_6 C dX2_fittingMark_41 (hN 6 (by decide)) rfl ?_
        obtain ⟨kl, hkl2⟩ : ∃ z, z = k * v (o + 5 + c) 1 := ⟨_, rfl⟩
        rw [← hkl2] at hkl
        refine E.aload_n C dX2_fittingMark_43 rfl rfl ?_
        refine N.getR C fa_X2_58 rfl dX2_fittingMark_44 (kdV ho) (x := o + 4) (rvV3 ho) (by have := posVk ho; omega) ?_
        refine E.iload_n C dX2_fittingMark_47 rfl rfl ?_
        refine N.iald C dX2_fittingMark_48 (kdVm ho) (lnVm ho) (by omega) (x := v (o + 4) k) rfl ?_
        refine E.iload C dX2_fittingMark_49 rfl ?_
        refine E.iload C dX2_fittingMark_51 rfl ?_
        refine E.iload_n C dX2_fittingMark_53 rfl rfl ?_
        refine E.iadd C dX2_fittingMark_54 (by omega) ?_
        refine N.callSp (S := []) (As := [vi (v (o + 4) k), vi (if ((v (o + 5 + c) 0) + (k * (v (o + 5 + c) 1))) < 40 then ((v (o + 5 + c) 0) + (k * (v (o + 5 + c) 1))) else 40), vi ((if ((v (o + 5 + c) 0) + (k * (v (o + 5 + c) 1))) < 40 then ((v (o + 5 + c) 0) + (k * (v (o + 5 + c) 1))) else 40) + sl)]) C hX (ok_X8_within G (v (o + 4) k) (if ((v (o + 5 + c) 0) + (k * (v (o + 5 + c) 1))) < 40 then ((v (o + 5 + c) 0) + (k * (v (o + 5 + c) 1))) else 40) ((if ((v (o + 5 + c) 0) + (k * (v (o + 5 + c) 1))) < 40 then ((v (o + 5 + c) 0) + (k * (v (o + 5 + c) 1))) else 40) + sl) v) yf_X8_within yv_X8_within ml_X2_61 rfl (by decide) (Nat.le_of_ble_eq_true rfl) dX2_fittingMark_55 rfl ?_
        have hmk : mkB v o (v (o + 4)) sl k c = true ↔ _ := decide_eq_true_iff
        refine E.if_eq C dX2_fittingMark_58 (tgt := 68) (by decide) (fun h58 => ?_) (fun h58 => ?_)
        · have h58 := b0.mp h58
          refine N.iinc_4 C dX2_fittingMark_68 (hN 4 (by decide)) rfl (by omega) ?_
          refine E.goto C dX2_fittingMark_71 (tgt := 5) (by decide) ?_
          refine E.drop (i := 5) ?_
          refine E.drop (i := 6) ?_
          exact ih5 _ (by omega) x (c + 1) rfl (by refine ⟨by omega, by omega, ?_⟩; rw [orN_step hc0, ← hxx]; first | (rw [if_pos (hmk.mpr (by omega))]) | (rw [if_neg (fun q => by have := hmk.mp q; omega)]))
        · have h58 := b0n.mp h58
          refine E.iload_n C dX2_fittingMark_61 rfl rfl ?_
          refine E.iconst C dX2_fittingMark_62 (by decide) ?_
          refine E.iload C dX2_fittingMark_63 rfl ?_
          refine E.ishl C dX2_fittingMark_65 ?_
          refine E.ior C dX2_fittingMark_66 ?_
          refine N.ist_3 C dX2_fittingMark_67 (hN 3 (by decide)) rfl ?_
          refine N.iinc_4 C dX2_fittingMark_68 (hN 4 (by decide)) rfl (by omega) ?_
          refine E.goto C dX2_fittingMark_71 (tgt := 5) (by decide) ?_
          refine E.drop (i := 5) ?_
          refine E.drop (i := 6) ?_
          exact ih5 _ (by omega) (jor x (jshl 1 c)) (c + 1) rfl (by refine ⟨by omega, by omega, ?_⟩; rw [orN_step hc0, ← hxx]; first | (rw [if_pos (hmk.mpr (by omega))]) | (rw [if_neg (fun q => by have := hmk.mp q; omega)]))
  exact lp5 _ 0 0 rfl (by exact ⟨by omega, by omega, rfl⟩)

set_option maxHeartbeats 4000000 in
set_option maxRecDepth 20000 in
theorem ok_X2_endingsBehind (G : GT) (u : Int) (f : Int → Int → Bool) (v : VT) (hn3 : 0 ≤ v 60 3 ∧ v 60 3 ≤ 8) (hK : 0 ≤ v 60 4 ∧ v 60 4 ≤ 6) (hu : 0 ≤ u ∧ u < pwI (v 60 3).toNat) (hf : ∀ k c, 0 ≤ k → k < v 60 4 → 0 ≤ c → c < v 60 3 → bt (v 61 k) c = f k c) (he : ∀ i, u < i → i < pwI (v 60 3).toNat → v 62 i = endR f (v 60 3).toNat (v 60 4) i) : MP G yX2_endingsBehind cX2_endingsBehind 5 (some .int) 1 23 [vr 60, vi u] v (endR f (v 60 3).toNat (v 60 4) u) := by
  refine MN.of pn_X2_endingsBehind [some (vr 60), some (vi u), none, none, none] 3 rfl rfl (fun X C hX hn hR => ?_)
  have hN : ∀ i : Nat, i < 5 → i < xn X := fun i h => by rw [hn]; exact h
  refine E.rngk (fun hinv => ?_)
  refine E.loc (fun hloc => ?_)
  have hin_1 : in32 u := hloc _ (List.mem_of_getElem? (i := 1) rfl)
  have h8 := pw_8 hn3
  have hpu := bc_pop (x := u) ⟨hu.1, by omega⟩
  have heb : ∀ i, 0 ≤ i → i < pwI (v 60 3).toNat → 0 ≤ endR f (v 60 3).toNat (v 60 4) i ∧ endR f (v 60 3).toNat (v 60 4) i ≤ 262144 := fun i g1 g2 => end_bd (by omega) hK.2 (bc_pop ⟨g1, by omega⟩).2.1
  refine E.iload_n C dX2_endingsBehind_0 rfl rfl ?_
  refine N.callSp (S := []) (As := [vi u]) C hX (ok_J6_bitCount_0f7a4 G u v ⟨hu.1, by omega⟩) yf_J6_bitCount_0f7a4 yv_J6_bitCount_0f7a4 ml_X2_65 rfl (by decide) (Nat.le_of_ble_eq_true rfl) dX2_endingsBehind_1 rfl ?_
  refine N.ist_2 C dX2_endingsBehind_4 (hN 2 (by decide)) rfl ?_
  refine E.iload_n C dX2_endingsBehind_5 rfl rfl ?_
  refine E.aload_n C dX2_endingsBehind_6 rfl rfl ?_
  refine N.getI C fa_X2_31 rfl dX2_endingsBehind_7 kd_60 (x := v 60 4) rfl ?_
  refine E.icmp_lt C dX2_endingsBehind_10 (tgt := 27) (by decide) (fun h10 => ?_) (fun h10 => ?_)
  · skip
    refine E.iconst C dX2_endingsBehind_27 (by decide) ?_
    refine N.ist_3 C dX2_endingsBehind_28 (hN 3 (by decide)) rfl ?_
    refine E.iconst C dX2_endingsBehind_29 (by decide) ?_
    refine N.ist_4 C dX2_endingsBehind_30 (hN 4 (by decide)) rfl ?_
    have lp32 : ∀ (k32 : Nat) (s_ : Int) (c : Int), (v 60 3 - c).toNat = k32 → (0 ≤ c ∧ c ≤ v 60 3 ∧ s_ = sumN (fun c => if okR f (popI u) c u then endR f (v 60 3).toNat (v 60 4) (jor u (jshl 1 c)) else 0) c.toNat ∧ 0 ≤ s_ ∧ s_ ≤ c * 262144) → E X G 0 0 1000 v 32 [some (vr 60), some (vi u), some (vi (popI u)), some (vi s_), some (vi c)] [] := by
      intro k32
      induction k32 using Nat.strongRecOn with
      | ind k32 ih32 =>
        intro s_ c hk32 hI32
        obtain ⟨hc0, hc1, hs, hs0, hs1⟩ := hI32
        refine E.iload C dX2_endingsBehind_32 rfl ?_
        refine E.aload_n C dX2_endingsBehind_34 rfl rfl ?_
        refine N.getI C fa_X2_27 rfl dX2_endingsBehind_35 kd_60 (x := v 60 3) rfl ?_
        refine E.icmp_ge C dX2_endingsBehind_38 (tgt := 72) (by decide) (fun h38 => ?_) (fun h38 => ?_)
        · skip
          refine E.iload_n C dX2_endingsBehind_72 rfl rfl ?_
          exact N.iret C hR dX2_endingsBehind_73 (fun hi hx => by first | (refine ⟨?_, rfl⟩; unfold endR; rw [if_pos (by omega), show (v 60 4 - popI u).toNat = 0 by omega]; rfl) | (refine ⟨?_, rfl⟩; unfold endR; rw [if_neg (by omega)]) | (refine ⟨?_, rfl⟩; rw [hs, show c = v 60 3 by omega]; exact (end_eq hn3 ⟨hu.1, by omega⟩ (by omega)).symm))
        · skip
          refine E.aload_n C dX2_endingsBehind_41 rfl rfl ?_
          refine E.iload C dX2_endingsBehind_42 rfl ?_
          refine E.iload_n C dX2_endingsBehind_44 rfl rfl ?_
          refine E.iload_n C dX2_endingsBehind_45 rfl rfl ?_
          refine N.callVp (S := []) (As := [vi c, vi (popI u), vi u]) C hX (ok_X2_canFollow G c (popI u) u v (by omega)) yf_X2_canFollow yv_X2_canFollow ml_X2_70 rfl rfl rfl kd_60 (by decide) (by decide) (Nat.le_of_ble_eq_true rfl) dX2_endingsBehind_46 rfl ?_
          refine E.if_eq C dX2_endingsBehind_49 (tgt := 66) (by decide) (fun h49 => ?_) (fun h49 => ?_)
          · have h49 := b0.mp h49
            refine N.iinc_4 C dX2_endingsBehind_66 (hN 4 (by decide)) rfl (by omega) ?_
            refine E.goto C dX2_endingsBehind_69 (tgt := 32) (by decide) ?_
            exact ih32 _ (by omega) s_ (c + 1) rfl (by first | (refine ⟨by omega, by omega, ?_, by omega, by omega⟩; rw [sum_step hc0, ← hs]; rw [if_pos (okR_iff.mpr ⟨by rw [← hf _ _ (by omega) (by omega) hc0 (by omega)]; exact h49.1, h49.2⟩), ← hev]) | (refine ⟨by omega, by omega, ?_, by omega, by omega⟩; rw [sum_step hc0, ← hs]; rw [if_neg (fun q => h49 ⟨by rw [hf _ _ (by omega) (by omega) hc0 (by omega)]; exact (okR_iff.mp q).1, (okR_iff.mp q).2⟩), Int.add_zero]))
          · have h49 := b0n.mp h49
            have hpa := pop_add (u := u) (c := c) ⟨hu.1, by omega⟩ ⟨hc0, by omega⟩ h49.2
            have hup := or_up hn3 hu ⟨hc0, by omega⟩
            have hev := he _ hpa.2 hup.2
            have hbd := heb _ hup.1 hup.2
            refine E.iload_n C dX2_endingsBehind_52 rfl rfl ?_
            refine E.aload_n C dX2_endingsBehind_53 rfl rfl ?_
            refine N.getR C fa_X2_15 rfl dX2_endingsBehind_54 kd_60 (x := 62) (by decide +kernel) (by decide) ?_
            refine E.iload_n C dX2_endingsBehind_57 rfl rfl ?_
            refine E.iconst C dX2_endingsBehind_58 (by decide) ?_
            refine E.iload C dX2_endingsBehind_59 rfl ?_
            refine E.ishl C dX2_endingsBehind_61 ?_
            refine E.ior C dX2_endingsBehind_62 ?_
            refine N.iald C dX2_endingsBehind_63 kd_62 ln_62 (by omega) (x := v 62 (jor u (jshl 1 c))) rfl ?_
            refine E.iadd C dX2_endingsBehind_64 (by omega) ?_
            refine N.ist_3 C dX2_endingsBehind_65 (hN 3 (by decide)) rfl ?_
            refine N.iinc_4 C dX2_endingsBehind_66 (hN 4 (by decide)) rfl (by omega) ?_
            refine E.goto C dX2_endingsBehind_69 (tgt := 32) (by decide) ?_
            exact ih32 _ (by omega) (s_ + (v 62 (jor u (jshl 1 c)))) (c + 1) rfl (by first | (refine ⟨by omega, by omega, ?_, by omega, by omega⟩; rw [sum_step hc0, ← hs]; rw [if_pos (okR_iff.mpr ⟨by rw [← hf _ _ (by omega) (by omega) hc0 (by omega)]; exact h49.1, h49.2⟩), ← hev]) | (refine ⟨by omega, by omega, ?_, by omega, by omega⟩; rw [sum_step hc0, ← hs]; rw [if_neg (fun q => h49 ⟨by rw [hf _ _ (by omega) (by omega) hc0 (by omega)]; exact (okR_iff.mp q).1, (okR_iff.mp q).2⟩), Int.add_zero]))
    exact lp32 _ 0 0 rfl (by exact ⟨by omega, by omega, rfl, by omega, by omega⟩)
  · skip
    refine E.iload_n C dX2_endingsBehind_13 rfl rfl ?_
    refine E.aload_n C dX2_endingsBehind_14 rfl rfl ?_
    refine N.getI C fa_X2_31 rfl dX2_endingsBehind_15 kd_60 (x := v 60 4) rfl ?_
    refine E.icmp_ne C dX2_endingsBehind_18 (tgt := 25) (by decide) (fun h18 => ?_) (fun h18 => ?_)
    · skip
      refine E.iconst C dX2_endingsBehind_25 (by decide) ?_
      exact N.iret C hR dX2_endingsBehind_26 (fun hi hx => by first | (refine ⟨?_, rfl⟩; unfold endR; rw [if_pos (by omega), show (v 60 4 - popI u).toNat = 0 by omega]; rfl) | (refine ⟨?_, rfl⟩; unfold endR; rw [if_neg (by omega)]) | (refine ⟨?_, rfl⟩; rw [hs, show c = v 60 3 by omega]; exact (end_eq hn3 ⟨hu.1, by omega⟩ (by omega)).symm))
    · skip
      refine E.iconst C dX2_endingsBehind_21 (by decide) ?_
      refine E.goto C dX2_endingsBehind_22 (tgt := 26) (by decide) ?_
      exact N.iret C hR dX2_endingsBehind_26 (fun hi hx => by first | (refine ⟨?_, rfl⟩; unfold endR; rw [if_pos (by omega), show (v 60 4 - popI u).toNat = 0 by omega]; rfl) | (refine ⟨?_, rfl⟩; unfold endR; rw [if_neg (by omega)]) | (refine ⟨?_, rfl⟩; rw [hs, show c = v 60 3 by omega]; exact (end_eq hn3 ⟨hu.1, by omega⟩ (by omega)).symm))
