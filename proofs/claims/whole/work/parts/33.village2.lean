set_option maxHeartbeats 4000000 in
set_option maxRecDepth 20000 in
theorem ok_X7_growEach (G : GT) (o x : Int) (v : VT) (ho : isV o) (hc : 0 ≤ v o 4 ∧ v o 4 ≤ 8) (hch : ∀ c, 0 ≤ c → c < v o 4 → 0 ≤ v (o + 5 + c) 0 ∧ v (o + 5 + c) 0 ≤ 900 ∧ 0 ≤ v (o + 5 + c) 1 ∧ v (o + 5 + c) 1 ≤ 100 ∧ 0 ≤ v (o + 5 + c) 2 ∧ v (o + 5 + c) 2 ≤ 100) : MVe G yX7_growEach cX7_growEach 3 none 2 42 [vr o, vi x] v (geF v o x (v o 4)) := by
  refine MN.of pn_X7_growEach [some (vr o), some (vi x), none] 1 rfl rfl (fun X C hX hn hR => ?_)
  have hN : ∀ i : Nat, i < 3 → i < xn X := fun i h => by rw [hn]; exact h
  refine E.rngk (fun hinv => ?_)
  refine E.loc (fun hloc => ?_)
  have hin_1 : in32 x := hloc _ (List.mem_of_getElem? (i := 1) rfl)
  refine E.iconst C dX7_growEach_0 (by decide) ?_
  refine N.ist_2 C dX7_growEach_1 (hN 2 (by decide)) rfl ?_
  have lp2 : ∀ (k2 : Nat) (t : Int), (v o 4 - t).toNat = k2 → (0 ≤ t ∧ t ≤ v o 4) → E X G 0 0 1000 (geF v o x t) 2 [some (vr o), some (vi x), some (vi t)] [] := by
    intro k2
    induction k2 using Nat.strongRecOn with
    | ind k2 ih2 =>
      intro t hk2 hI2
      obtain ⟨ht0, ht1⟩ := hI2
      refine E.iload_n C dX7_growEach_2 rfl rfl ?_
      refine E.aload_n C dX7_growEach_3 rfl rfl ?_
      refine N.getI C fa_X7_30 rfl dX7_growEach_4 (kdV ho) (x := v o 4) (geF_out (by omega)) ?_
      refine E.icmp_ge C dX7_growEach_7 (tgt := 39) (by decide) (fun h7 => ?_) (fun h7 => ?_)
      · skip
        exact N.vret C hR dX7_growEach_39 (fun hi => by rw [show t = v o 4 by omega])
      · skip
        have hcc := hch t ht0 (by omega)
        refine E.aload_n C dX7_growEach_10 rfl rfl ?_
        refine N.getR C fa_X7_11 rfl dX7_growEach_11 (kdV ho) (x := o + 1) (rvV0 ho) (by have := posVk ho; omega) ?_
        refine E.iload_n C dX7_growEach_14 rfl rfl ?_
        refine N.aald C (t := 3) (by decide) dX7_growEach_15 (kdVc ho) (lnVc ho) (by omega) (x := o + 5 + t) (rvVc ho (by omega)) (by have := posVk ho; omega) ?_
        refine E.iload_n C dX7_growEach_16 rfl rfl ?_
        refine E.iload_n C dX7_growEach_17 rfl rfl ?_
        refine E.ishr C dX7_growEach_18 ?_
        refine E.iconst C dX7_growEach_19 (by decide) ?_
        refine E.iand C dX7_growEach_20 ?_
        refine E.iconst C dX7_growEach_21 (by decide) ?_
        refine E.icmp_ne C dX7_growEach_22 (tgt := 29) (by decide) (fun h22 => ?_) (fun h22 => ?_)
        · skip
          refine E.iconst C dX7_growEach_29 (by decide) ?_
          refine N.callVe (S := []) (As := [vi 0]) C hX (ok_X0_grow G (o + 5 + t) 0 (geF v o x t) (kdVC ho (by omega)) (by rw [geF_out (by omega), geF_out (by omega), geF_out (by omega)]; omega)) yf_X0_grow yv_X0_grow ml_X7_109 rfl rfl rfl (kdVC ho (by omega)) (by decide) (by decide) (Nat.le_of_ble_eq_true rfl) dX7_growEach_30 rfl ?_
          refine N.iinc_2 C dX7_growEach_33 (hN 2 (by decide)) rfl (by omega) ?_
          refine E.goto C dX7_growEach_36 (tgt := 2) (by decide) ?_
          refine E.heq (h' := geF v o x (t + 1)) (by first | exact geF_s (Or.inl ⟨by assumption, rfl⟩) ht0 | exact geF_s (Or.inr ⟨by assumption, rfl⟩) ht0) ?_
          exact ih2 _ (by omega) (t + 1) rfl (by omega)
        · skip
          refine E.iconst C dX7_growEach_25 (by decide) ?_
          refine E.goto C dX7_growEach_26 (tgt := 30) (by decide) ?_
          refine N.callVe (S := []) (As := [vi 1]) C hX (ok_X0_grow G (o + 5 + t) 1 (geF v o x t) (kdVC ho (by omega)) (by rw [geF_out (by omega), geF_out (by omega), geF_out (by omega)]; omega)) yf_X0_grow yv_X0_grow ml_X7_109 rfl rfl rfl (kdVC ho (by omega)) (by decide) (by decide) (Nat.le_of_ble_eq_true rfl) dX7_growEach_30 rfl ?_
          refine N.iinc_2 C dX7_growEach_33 (hN 2 (by decide)) rfl (by omega) ?_
          refine E.goto C dX7_growEach_36 (tgt := 2) (by decide) ?_
          refine E.heq (h' := geF v o x (t + 1)) (by first | exact geF_s (Or.inl ⟨by assumption, rfl⟩) ht0 | exact geF_s (Or.inr ⟨by assumption, rfl⟩) ht0) ?_
          exact ih2 _ (by omega) (t + 1) rfl (by omega)
  refine E.heq (h' := geF v o x 0) (geF_0) ?_
  exact lp2 _ 0 rfl (by omega)

set_option maxHeartbeats 4000000 in
set_option maxRecDepth 20000 in
theorem ok_X7_strengthen (G : GT) (o s l : Int) (v : VT) (ho : isV o) (hb : 0 ≤ v o 5 ∧ v o 5 ≤ 10) : MVe G yX7_strengthen cX7_strengthen 4 none 1 21 [vr o, vi s, vi l] v (strF v o s l (v o 5)) := by
  refine MN.of pn_X7_strengthen [some (vr o), some (vi s), some (vi l), none] 1 rfl rfl (fun X C hX hn hR => ?_)
  have hN : ∀ i : Nat, i < 4 → i < xn X := fun i h => by rw [hn]; exact h
  refine E.rngk (fun hinv => ?_)
  refine E.loc (fun hloc => ?_)
  have hin_1 : in32 s := hloc _ (List.mem_of_getElem? (i := 1) rfl)
  have hin_2 : in32 l := hloc _ (List.mem_of_getElem? (i := 2) rfl)
  refine E.iconst C dX7_strengthen_0 (by decide) ?_
  refine N.ist_3 C dX7_strengthen_1 (hN 3 (by decide)) rfl ?_
  have lp2 : ∀ (k2 : Nat) (t : Int), (v o 5 - t).toNat = k2 → (0 ≤ t ∧ t ≤ v o 5) → E X G 0 0 1000 (strF v o s l t) 2 [some (vr o), some (vi s), some (vi l), some (vi t)] [] := by
    intro k2
    induction k2 using Nat.strongRecOn with
    | ind k2 ih2 =>
      intro t hk2 hI2
      obtain ⟨ht0, ht1⟩ := hI2
      refine E.iload_n C dX7_strengthen_2 rfl rfl ?_
      refine E.aload_n C dX7_strengthen_3 rfl rfl ?_
      refine N.getI C fa_X7_34 rfl dX7_strengthen_4 (kdV ho) (x := v o 5) (strF_out (by omega)) ?_
      refine E.icmp_ge C dX7_strengthen_7 (tgt := 51) (by decide) (fun h7 => ?_) (fun h7 => ?_)
      · skip
        exact N.vret C hR dX7_strengthen_51 (fun hi => by rw [show t = v o 5 by omega])
      · skip
        refine E.aload_n C dX7_strengthen_10 rfl rfl ?_
        refine N.getR C fa_X7_19 rfl dX7_strengthen_11 (kdV ho) (x := o + 2) (rvV1 ho) (by have := posVk ho; omega) ?_
        refine E.iload_n C dX7_strengthen_14 rfl rfl ?_
        refine N.aald C (t := 5) (by decide) dX7_strengthen_15 (kdVt ho) (lnVt ho) (by omega) (x := o + 13 + t) (rvVt ho (by omega)) (by have := posVk ho; omega) ?_
        refine N.getI C fa_X7_88 rfl dX7_strengthen_16 (kdVT ho (by omega)) (x := v (o + 13 + t) 0) (strF_out (by omega)) ?_
        refine E.iload_n C dX7_strengthen_19 rfl rfl ?_
        refine E.icmp_ne C dX7_strengthen_20 (tgt := 45) (by decide) (fun h20 => ?_) (fun h20 => ?_)
        · skip
          refine N.iinc_3 C dX7_strengthen_45 (hN 3 (by decide)) rfl (by omega) ?_
          refine E.goto C dX7_strengthen_48 (tgt := 2) (by decide) ?_
          refine E.heq (h' := strF v o s l (t + 1)) (by first | exact strF_s (by omega) ht0 | exact strF_n (by omega)) ?_
          exact ih2 _ (by omega) (t + 1) rfl (by omega)
        · skip
          refine E.aload_n C dX7_strengthen_23 rfl rfl ?_
          refine N.getR C fa_X7_19 rfl dX7_strengthen_24 (kdV ho) (x := o + 2) (rvV1 ho) (by have := posVk ho; omega) ?_
          refine E.iload_n C dX7_strengthen_27 rfl rfl ?_
          refine N.aald C (t := 5) (by decide) dX7_strengthen_28 (kdVt ho) (lnVt ho) (by omega) (x := o + 13 + t) (rvVt ho (by omega)) (by have := posVk ho; omega) ?_
          refine E.aload_n C dX7_strengthen_29 rfl rfl ?_
          refine N.getR C fa_X7_19 rfl dX7_strengthen_30 (kdV ho) (x := o + 2) (rvV1 ho) (by have := posVk ho; omega) ?_
          refine E.iload_n C dX7_strengthen_33 rfl rfl ?_
          refine N.aald C (t := 5) (by decide) dX7_strengthen_34 (kdVt ho) (lnVt ho) (by omega) (x := o + 13 + t) (rvVt ho (by omega)) (by have := posVk ho; omega) ?_
          refine N.getI C fa_X7_120 rfl dX7_strengthen_35 (kdVT ho (by omega)) (x := v (o + 13 + t) 3) (strF_out (by omega)) ?_
          refine E.iload_n C dX7_strengthen_38 rfl rfl ?_
          refine N.mmax (S := [vr (o + 13 + t)]) C hX mm_X7_123 mmaxR dX7_strengthen_39 (by decide) (Nat.le_of_ble_eq_true rfl) ?_
          refine N.putI C fp_X7_120 rfl dX7_strengthen_42 (kdVT ho (by omega)) ?_
          refine N.iinc_3 C dX7_strengthen_45 (hN 3 (by decide)) rfl (by omega) ?_
          refine E.goto C dX7_strengthen_48 (tgt := 2) (by decide) ?_
          refine E.heq (h' := strF v o s l (t + 1)) (by first | exact strF_s (by omega) ht0 | exact strF_n (by omega)) ?_
          exact ih2 _ (by omega) (t + 1) rfl (by omega)
  refine E.heq (h' := strF v o s l 0) (strF_0) ?_
  exact lp2 _ 0 rfl (by omega)

set_option maxHeartbeats 4000000 in
set_option maxRecDepth 20000 in
theorem ok_X7_coldOnes (G : GT) (o s : Int) (v : VT) (ho : isV o) (hc : 0 ≤ v o 4 ∧ v o 4 ≤ 8) (hb : 0 ≤ v o 5 ∧ v o 5 ≤ 10) : MP G yX7_coldOnes cX7_coldOnes 4 (some .int) 1 23 [vr o, vi s] v (orN (fun c => decide (wornI v o c s = -4)) (v o 4).toNat) := by
  refine MN.of pn_X7_coldOnes [some (vr o), some (vi s), none, none] 2 rfl rfl (fun X C hX hn hR => ?_)
  have hN : ∀ i : Nat, i < 4 → i < xn X := fun i h => by rw [hn]; exact h
  refine E.rngk (fun hinv => ?_)
  refine E.loc (fun hloc => ?_)
  have hin_1 : in32 s := hloc _ (List.mem_of_getElem? (i := 1) rfl)
  refine E.iconst C dX7_coldOnes_0 (by decide) ?_
  refine N.ist_2 C dX7_coldOnes_1 (hN 2 (by decide)) rfl ?_
  refine E.iconst C dX7_coldOnes_2 (by decide) ?_
  refine N.ist_3 C dX7_coldOnes_3 (hN 3 (by decide)) rfl ?_
  have lp4 : ∀ (k4 : Nat) (x : Int) (t : Int), (v o 4 - t).toNat = k4 → (0 ≤ t ∧ t ≤ v o 4 ∧ x = orN (fun c => decide (wornI v o c s = -4)) t.toNat) → E X G 0 0 1000 v 4 [some (vr o), some (vi s), some (vi x), some (vi t)] [] := by
    intro k4
    induction k4 using Nat.strongRecOn with
    | ind k4 ih4 =>
      intro x t hk4 hI4
      obtain ⟨ht0, ht1, hcx⟩ := hI4
      refine E.iload_n C dX7_coldOnes_4 rfl rfl ?_
      refine E.aload_n C dX7_coldOnes_5 rfl rfl ?_
      refine N.getI C fa_X7_30 rfl dX7_coldOnes_6 (kdV ho) (x := v o 4) rfl ?_
      refine E.icmp_ge C dX7_coldOnes_9 (tgt := 35) (by decide) (fun h9 => ?_) (fun h9 => ?_)
      · skip
        refine E.iload_n C dX7_coldOnes_35 rfl rfl ?_
        exact N.iret C hR dX7_coldOnes_36 (fun hi hx => by exact ⟨by rw [hcx]; congr 1; omega, rfl⟩)
      · skip
        refine E.aload_n C dX7_coldOnes_12 rfl rfl ?_
        refine E.iload_n C dX7_coldOnes_13 rfl rfl ?_
        refine E.iload_n C dX7_coldOnes_14 rfl rfl ?_
        refine N.callVp (S := []) (As := [vi t, vi s]) C hX (ok_X7_wornBy G o t s v ho hb) yf_X7_wornBy yv_X7_wornBy ml_X7_99 rfl rfl rfl (kdV ho) (by decide) (by decide) (Nat.le_of_ble_eq_true rfl) dX7_coldOnes_15 rfl ?_
        refine E.bipush C dX7_coldOnes_18 (by decide) ?_
        refine E.icmp_ne C dX7_coldOnes_20 (tgt := 29) (by decide) (fun h20 => ?_) (fun h20 => ?_)
        · skip
          refine N.iinc_3 C dX7_coldOnes_29 (hN 3 (by decide)) rfl (by omega) ?_
          refine E.goto C dX7_coldOnes_32 (tgt := 4) (by decide) ?_
          exact ih4 _ (by omega) x (t + 1) rfl (by refine ⟨by omega, by omega, ?_⟩; rw [orN_step ht0, hcx]; simp [*])
        · skip
          refine E.iload_n C dX7_coldOnes_23 rfl rfl ?_
          refine E.iconst C dX7_coldOnes_24 (by decide) ?_
          refine E.iload_n C dX7_coldOnes_25 rfl rfl ?_
          refine E.ishl C dX7_coldOnes_26 ?_
          refine E.ior C dX7_coldOnes_27 ?_
          refine N.ist_2 C dX7_coldOnes_28 (hN 2 (by decide)) rfl ?_
          refine N.iinc_3 C dX7_coldOnes_29 (hN 3 (by decide)) rfl (by omega) ?_
          refine E.goto C dX7_coldOnes_32 (tgt := 4) (by decide) ?_
          exact ih4 _ (by omega) (jor x (jshl 1 t)) (t + 1) rfl (by refine ⟨by omega, by omega, ?_⟩; rw [orN_step ht0, hcx]; simp [*])
  exact lp4 _ 0 0 rfl (by exact ⟨by omega, by omega, rfl⟩)

set_option maxHeartbeats 4000000 in
set_option maxRecDepth 20000 in
theorem ok_X7_wornOutCount (G : GT) (o : Int) (v : VT) (ho : isV o) (hb : 0 ≤ v o 5 ∧ v o 5 ≤ 10) (hth : ∀ t, 0 ≤ t → t < v o 5 → thOK v (o + 13 + t)) : MP G yX7_wornOutCount cX7_wornOutCount 3 (some .int) 1 21 [vr o] v (cntN (fun t => decide (outI (v (o + 13 + t) 1) (v (o + 13 + t) 3) (v (o + 13 + t) 4) = 1)) (v o 5).toNat) := by
  refine MN.of pn_X7_wornOutCount [some (vr o), none, none] 2 rfl rfl (fun X C hX hn hR => ?_)
  have hN : ∀ i : Nat, i < 3 → i < xn X := fun i h => by rw [hn]; exact h
  refine E.rngk (fun hinv => ?_)
  refine E.loc (fun hloc => ?_)
  refine E.iconst C dX7_wornOutCount_0 (by decide) ?_
  refine N.ist_1 C dX7_wornOutCount_1 (hN 1 (by decide)) rfl ?_
  refine E.iconst C dX7_wornOutCount_2 (by decide) ?_
  refine N.ist_2 C dX7_wornOutCount_3 (hN 2 (by decide)) rfl ?_
  have lp4 : ∀ (k4 : Nat) (x : Int) (t : Int), (v o 5 - t).toNat = k4 → (0 ≤ t ∧ t ≤ v o 5 ∧ x = cntN (fun t => decide (outI (v (o + 13 + t) 1) (v (o + 13 + t) 3) (v (o + 13 + t) 4) = 1)) t.toNat) → E X G 0 0 1000 v 4 [some (vr o), some (vi x), some (vi t)] [] := by
    intro k4
    induction k4 using Nat.strongRecOn with
    | ind k4 ih4 =>
      intro x t hk4 hI4
      obtain ⟨ht0, ht1, hcx⟩ := hI4; have hbd := cnt_bd (fun t => decide (outI (v (o + 13 + t) 1) (v (o + 13 + t) 3) (v (o + 13 + t) 4) = 1)) t.toNat
      refine E.iload_n C dX7_wornOutCount_4 rfl rfl ?_
      refine E.aload_n C dX7_wornOutCount_5 rfl rfl ?_
      refine N.getI C fa_X7_34 rfl dX7_wornOutCount_6 (kdV ho) (x := v o 5) rfl ?_
      refine E.icmp_ge C dX7_wornOutCount_9 (tgt := 33) (by decide) (fun h9 => ?_) (fun h9 => ?_)
      · skip
        refine E.iload_n C dX7_wornOutCount_33 rfl rfl ?_
        exact N.iret C hR dX7_wornOutCount_34 (fun hi hx => by exact ⟨by rw [hcx]; congr 1; omega, rfl⟩)
      · skip
        have ho1 := outI_01 (v (o + 13 + t) 1) (v (o + 13 + t) 3) (v (o + 13 + t) 4)
        refine E.aload_n C dX7_wornOutCount_12 rfl rfl ?_
        refine N.getR C fa_X7_19 rfl dX7_wornOutCount_13 (kdV ho) (x := o + 2) (rvV1 ho) (by have := posVk ho; omega) ?_
        refine E.iload_n C dX7_wornOutCount_16 rfl rfl ?_
        refine N.aald C (t := 5) (by decide) dX7_wornOutCount_17 (kdVt ho) (lnVt ho) (by omega) (x := o + 13 + t) (rvVt ho (by omega)) (by have := posVk ho; omega) ?_
        refine N.callVp (S := []) (As := []) C hX (ok_X6_isWornOut G (o + 13 + t) v (kdVT ho (by omega)) (hth t ht0 (by omega))) yf_X6_isWornOut yv_X6_isWornOut ml_X7_102 rfl rfl rfl (kdVT ho (by omega)) (by decide) (by decide) (Nat.le_of_ble_eq_true rfl) dX7_wornOutCount_18 rfl ?_
        refine E.if_eq C dX7_wornOutCount_21 (tgt := 27) (by decide) (fun h21 => ?_) (fun h21 => ?_)
        · skip
          refine N.iinc_2 C dX7_wornOutCount_27 (hN 2 (by decide)) rfl (by omega) ?_
          refine E.goto C dX7_wornOutCount_30 (tgt := 4) (by decide) ?_
          exact ih4 _ (by omega) x (t + 1) rfl (by refine ⟨by omega, by omega, ?_⟩; rw [cnt_step ht0, hcx]; simp [*] <;> omega)
        · skip
          refine N.iinc_1 C dX7_wornOutCount_24 (hN 1 (by decide)) rfl (by omega) ?_
          refine N.iinc_2 C dX7_wornOutCount_27 (hN 2 (by decide)) rfl (by omega) ?_
          refine E.goto C dX7_wornOutCount_30 (tgt := 4) (by decide) ?_
          exact ih4 _ (by omega) (x + 1) (t + 1) rfl (by refine ⟨by omega, by omega, ?_⟩; rw [cnt_step ht0, hcx]; simp [*] <;> omega)
  exact lp4 _ 0 0 rfl (by exact ⟨by omega, by omega, rfl⟩)

set_option maxHeartbeats 4000000 in
set_option maxRecDepth 20000 in
theorem ok_X7_passSpring (G : GT) (o q sl : Int) (v : VT) (ho : isV o) (hc : 0 ≤ v o 4 ∧ v o 4 ≤ 8) (hb : 0 ≤ v o 5 ∧ v o 5 ≤ 10) (hch : ∀ c, 0 ≤ c → c < v o 4 → 0 ≤ v (o + 5 + c) 0 ∧ v (o + 5 + c) 0 ≤ 900 ∧ 0 ≤ v (o + 5 + c) 1 ∧ v (o + 5 + c) 1 ≤ 100 ∧ 0 ≤ v (o + 5 + c) 2 ∧ v (o + 5 + c) 2 ≤ 100) (hth : ∀ t, 0 ≤ t → t < v o 5 → thOK v (o + 13 + t)) (hsl : 0 ≤ sl ∧ sl ≤ 100) : MIe G yX7_passSpring cX7_passSpring 6 (some .int) 3 69 [vr o, vi q, vi sl] v (cntN (offB (grwF v o q (v o 4)) o (v o 4) sl) (v o 5).toNat) (sprF (grwF v o q (v o 4)) o (v o 4) sl (v o 5)) := by
  refine MN.of pn_X7_passSpring [some (vr o), some (vi q), some (vi sl), none, none, none] 3 rfl rfl (fun X C hX hn hR => ?_)
  have hN : ∀ i : Nat, i < 6 → i < xn X := fun i h => by rw [hn]; exact h
  refine E.rngk (fun hinv => ?_)
  refine E.loc (fun hloc => ?_)
  have hin_1 : in32 q := hloc _ (List.mem_of_getElem? (i := 1) rfl)
  have hin_2 : in32 sl := hloc _ (List.mem_of_getElem? (i := 2) rfl)
  refine E.iconst C dX7_passSpring_0 (by decide) ?_
  refine N.ist_3 C dX7_passSpring_1 (hN 3 (by decide)) rfl ?_
  have lp2 : ∀ (k2 : Nat) (c : Int), (v o 4 - c).toNat = k2 → (0 ≤ c ∧ c ≤ v o 4) → E X G 0 0 1000 (grwF v o q c) 2 [some (vr o), some (vi q), some (vi sl), some (vi c), none, none] [] := by
    intro k2
    induction k2 using Nat.strongRecOn with
    | ind k2 ih2 =>
      intro c hk2 hI2
      obtain ⟨ht0, ht1⟩ := hI2
      refine E.iload_n C dX7_passSpring_2 rfl rfl ?_
      refine E.aload_n C dX7_passSpring_3 rfl rfl ?_
      refine N.getI C fa_X7_30 rfl dX7_passSpring_4 (kdV ho) (x := v o 4) (grwF_out (by omega)) ?_
      refine E.icmp_ge C dX7_passSpring_7 (tgt := 26) (by decide) (fun h7 => ?_) (fun h7 => ?_)
      · skip
        refine E.iconst C dX7_passSpring_26 (by decide) ?_
        refine N.ist_3 C dX7_passSpring_27 (hN 3 (by decide)) rfl ?_
        refine E.iconst C dX7_passSpring_28 (by decide) ?_
        refine N.ist_4 C dX7_passSpring_29 (hN 4 (by decide)) rfl ?_
        have lp31 : ∀ (k31 : Nat) (x : Int) (t : Int), (v o 5 - t).toNat = k31 → (0 ≤ t ∧ t ≤ v o 5 ∧ x = cntN (offB (grwF v o q (v o 4)) o (v o 4) sl) t.toNat) → E X G 0 0 1000 (sprF (grwF v o q (v o 4)) o (v o 4) sl t) 31 [some (vr o), some (vi q), some (vi sl), some (vi x), some (vi t), none] [] := by
          intro k31
          induction k31 using Nat.strongRecOn with
          | ind k31 ih31 =>
            intro x t hk31 hI31
            obtain ⟨ht0, ht1, hcx⟩ := hI31; have hbd := cnt_bd (offB (grwF v o q (v o 4)) o (v o 4) sl) t.toNat
            refine E.iload C dX7_passSpring_31 rfl ?_
            refine E.aload_n C dX7_passSpring_33 rfl rfl ?_
            refine N.getI C fa_X7_34 rfl dX7_passSpring_34 (kdV ho) (x := v o 5) ((sprF_out (by omega)).trans (grwF_out (by omega))) ?_
            refine E.icmp_ge C dX7_passSpring_37 (tgt := 95) (by decide) (fun h37 => ?_) (fun h37 => ?_)
            · skip
              refine E.iload_n C dX7_passSpring_95 rfl rfl ?_
              exact N.iret C hR dX7_passSpring_96 (fun hi hx => by exact ⟨by rw [hcx]; congr 1; omega, by congr 1; omega⟩)
            · skip
              have hg : ∀ j, grwF v o q (v o 4) (o + 13 + t) j = v (o + 13 + t) j := fun j => grwF_out (by omega)
              have hoB : offB (grwF v o q (v o 4)) o (v o 4) sl t = true ↔ (0 ≤ v (o + 13 + t) 7 ∧ v (o + 13 + t) 7 < v o 4 ∧ ¬ fitI (v (o + 13 + t) 1) (v (o + 13 + t) 2) (v (o + 13 + t) 3) (v (o + 13 + t) 4) (v (o + 13 + t) 5) (v (o + 13 + t) 6) (v (o + 13 + t) 7) (grwF v o q (v o 4) (o + 5 + v (o + 13 + t) 7) 0) sl = 1) := by rw [offB_iff]; unfold offP; simp only [hg]
              refine E.aload_n C dX7_passSpring_40 rfl rfl ?_
              refine N.getR C fa_X7_19 rfl dX7_passSpring_41 (kdV ho) (x := o + 2) (rvV1 ho) (by have := posVk ho; omega) ?_
              refine E.iload C dX7_passSpring_44 rfl ?_
              refine N.aald C (t := 5) (by decide) dX7_passSpring_46 (kdVt ho) (lnVt ho) (by omega) (x := o + 13 + t) (rvVt ho (by omega)) (by have := posVk ho; omega) ?_
              refine N.getI C fa_X7_91 rfl dX7_passSpring_47 (kdVT ho (by omega)) (x := v (o + 13 + t) 7) ((sprF_out (by omega)).trans (grwF_out (by omega))) ?_
              refine N.ist_5 C dX7_passSpring_50 (hN 5 (by decide)) rfl ?_
              refine E.aload_n C dX7_passSpring_52 rfl rfl ?_
              refine E.iload C dX7_passSpring_53 rfl ?_
              refine N.callVp (S := []) (As := [vi (v (o + 13 + t) 7)]) C hX (ok_X7_hasChild G o (v (o + 13 + t) 7) (sprF (grwF v o q (v o 4)) o (v o 4) sl t) ho) yf_X7_hasChild yv_X7_hasChild ml_X7_113 rfl rfl rfl (kdV ho) (by decide) (by decide) (Nat.le_of_ble_eq_true rfl) dX7_passSpring_55 rfl ?_
              refine E.veq (x' := (if 0 ≤ (v (o + 13 + t) 7) ∧ (v (o + 13 + t) 7) < (v o 4) then 1 else 0)) (by rw [show (sprF (grwF v o q (v o 4)) o (v o 4) sl t) o 4 = v o 4 from ((sprF_out (by omega)).trans (grwF_out (by omega)))]) ?_
              refine E.if_eq C dX7_passSpring_58 (tgt := 89) (by decide) (fun h58 => ?_) (fun h58 => ?_)
              · have h58 := b0.mp h58
                refine N.iinc_4 C dX7_passSpring_89 (hN 4 (by decide)) rfl (by omega) ?_
                refine E.goto C dX7_passSpring_92 (tgt := 31) (by decide) ?_
                refine E.heq (h' := sprF (grwF v o q (v o 4)) o (v o 4) sl (t + 1)) (by first | exact sprF_s (hoB.mpr (by omega)) ht0 | exact sprF_n (Bool.eq_false_iff.mpr (fun hq => by have := hoB.mp hq; omega))) ?_
                refine E.drop (i := 5) ?_
                exact ih31 _ (by omega) x (t + 1) rfl (by refine ⟨by omega, by omega, ?_⟩; rw [cnt_step ht0, hcx]; first | rw [if_pos (hoB.mpr (by omega))] | (rw [if_neg (fun hq => by have := hoB.mp hq; omega)]; omega))
              · have h58 := b0n.mp h58
                refine E.aload_n C dX7_passSpring_61 rfl rfl ?_
                refine E.iload C dX7_passSpring_62 rfl ?_
                refine E.iload C dX7_passSpring_64 rfl ?_
                refine E.iload_n C dX7_passSpring_66 rfl rfl ?_
                refine N.callVp (S := []) (As := [vi (v (o + 13 + t) 7), vi t, vi sl]) C hX (ok_X7_fitOf G o (v (o + 13 + t) 7) t sl (sprF (grwF v o q (v o 4)) o (v o 4) sl t) ho (by omega) (by have hq := hth t ht0 (by omega); unfold thOK at *; rw [sprF_out (by omega), sprF_out (by omega), grwF_out (by omega), grwF_out (by omega)]; exact hq) (by rw [sprF_out (by omega)]; have hq := hch (v (o + 13 + t) 7) (by omega) (by omega); have hq2 := grwF_bd (q := q) (t := v o 4) hq.1 hq.2.2.1 hq.2.2.2.2.1 ⟨by omega, by omega⟩; omega)) yf_X7_fitOf yv_X7_fitOf ml_X7_117 rfl rfl rfl (kdV ho) (by decide) (by decide) (Nat.le_of_ble_eq_true rfl) dX7_passSpring_67 rfl ?_
                refine E.veq (x' := fitI (v (o + 13 + t) 1) (v (o + 13 + t) 2) (v (o + 13 + t) 3) (v (o + 13 + t) 4) (v (o + 13 + t) 5) (v (o + 13 + t) 6) (v (o + 13 + t) 7) ((grwF v o q (v o 4)) (o + 5 + (v (o + 13 + t) 7)) 0) sl) (by rw [show (sprF (grwF v o q (v o 4)) o (v o 4) sl t) (o + 13 + t) 1 = v (o + 13 + t) 1 from ((sprF_out (by omega)).trans (grwF_out (by omega))), show (sprF (grwF v o q (v o 4)) o (v o 4) sl t) (o + 13 + t) 2 = v (o + 13 + t) 2 from ((sprF_out (by omega)).trans (grwF_out (by omega))), show (sprF (grwF v o q (v o 4)) o (v o 4) sl t) (o + 13 + t) 3 = v (o + 13 + t) 3 from ((sprF_out (by omega)).trans (grwF_out (by omega))), show (sprF (grwF v o q (v o 4)) o (v o 4) sl t) (o + 13 + t) 4 = v (o + 13 + t) 4 from ((sprF_out (by omega)).trans (grwF_out (by omega))), show (sprF (grwF v o q (v o 4)) o (v o 4) sl t) (o + 13 + t) 5 = v (o + 13 + t) 5 from ((sprF_out (by omega)).trans (grwF_out (by omega))), show (sprF (grwF v o q (v o 4)) o (v o 4) sl t) (o + 13 + t) 6 = v (o + 13 + t) 6 from ((sprF_out (by omega)).trans (grwF_out (by omega))), show (sprF (grwF v o q (v o 4)) o (v o 4) sl t) (o + 5 + (v (o + 13 + t) 7)) 0 = (grwF v o q (v o 4)) (o + 5 + (v (o + 13 + t) 7)) 0 from (sprF_out (by omega))]) ?_
                refine E.iconst C dX7_passSpring_70 (by decide) ?_
                refine E.icmp_eq C dX7_passSpring_71 (tgt := 89) (by decide) (fun h71 => ?_) (fun h71 => ?_)
                · skip
                  refine N.iinc_4 C dX7_passSpring_89 (hN 4 (by decide)) rfl (by omega) ?_
                  refine E.goto C dX7_passSpring_92 (tgt := 31) (by decide) ?_
                  refine E.heq (h' := sprF (grwF v o q (v o 4)) o (v o 4) sl (t + 1)) (by first | exact sprF_s (hoB.mpr (by omega)) ht0 | exact sprF_n (Bool.eq_false_iff.mpr (fun hq => by have := hoB.mp hq; omega))) ?_
                  refine E.drop (i := 5) ?_
                  exact ih31 _ (by omega) x (t + 1) rfl (by refine ⟨by omega, by omega, ?_⟩; rw [cnt_step ht0, hcx]; first | rw [if_pos (hoB.mpr (by omega))] | (rw [if_neg (fun hq => by have := hoB.mp hq; omega)]; omega))
                · skip
                  refine E.aload_n C dX7_passSpring_74 rfl rfl ?_
                  refine N.getR C fa_X7_19 rfl dX7_passSpring_75 (kdV ho) (x := o + 2) (rvV1 ho) (by have := posVk ho; omega) ?_
                  refine E.iload C dX7_passSpring_78 rfl ?_
                  refine N.aald C (t := 5) (by decide) dX7_passSpring_80 (kdVt ho) (lnVt ho) (by omega) (x := o + 13 + t) (rvVt ho (by omega)) (by have := posVk ho; omega) ?_
                  refine E.bipush C dX7_passSpring_81 (by decide) ?_
                  refine N.putI C fp_X7_91 rfl dX7_passSpring_83 (kdVT ho (by omega)) ?_
                  refine N.iinc_3 C dX7_passSpring_86 (hN 3 (by decide)) rfl (by omega) ?_
                  refine N.iinc_4 C dX7_passSpring_89 (hN 4 (by decide)) rfl (by omega) ?_
                  refine E.goto C dX7_passSpring_92 (tgt := 31) (by decide) ?_
                  refine E.heq (h' := sprF (grwF v o q (v o 4)) o (v o 4) sl (t + 1)) (by first | exact sprF_s (hoB.mpr (by omega)) ht0 | exact sprF_n (Bool.eq_false_iff.mpr (fun hq => by have := hoB.mp hq; omega))) ?_
                  refine E.drop (i := 5) ?_
                  exact ih31 _ (by omega) (x + 1) (t + 1) rfl (by refine ⟨by omega, by omega, ?_⟩; rw [cnt_step ht0, hcx]; first | rw [if_pos (hoB.mpr (by omega))] | (rw [if_neg (fun hq => by have := hoB.mp hq; omega)]; omega))
        refine E.heq (h' := sprF (grwF v o q (v o 4)) o (v o 4) sl 0) (by rw [show c = v o 4 by omega]; exact sprF_0) ?_
        exact lp31 _ 0 0 rfl (by exact ⟨by omega, by omega, rfl⟩)
      · skip
        refine E.aload_n C dX7_passSpring_10 rfl rfl ?_
        refine N.getR C fa_X7_11 rfl dX7_passSpring_11 (kdV ho) (x := o + 1) (rvV0 ho) (by have := posVk ho; omega) ?_
        refine E.iload_n C dX7_passSpring_14 rfl rfl ?_
        refine N.aald C (t := 3) (by decide) dX7_passSpring_15 (kdVc ho) (lnVc ho) (by omega) (x := o + 5 + c) (rvVc ho (by omega)) (by have := posVk ho; omega) ?_
        refine E.iload_n C dX7_passSpring_16 rfl rfl ?_
        refine N.callVe (S := []) (As := [vi q]) C hX (ok_X0_grow G (o + 5 + c) q (grwF v o q c) (kdVC ho (by omega)) (by rw [grwF_out (by omega), grwF_out (by omega), grwF_out (by omega)]; have := hch c ht0 (by omega); omega)) yf_X0_grow yv_X0_grow ml_X7_109 rfl rfl rfl (kdVC ho (by omega)) (by decide) (by decide) (Nat.le_of_ble_eq_true rfl) dX7_passSpring_17 rfl ?_
        refine N.iinc_3 C dX7_passSpring_20 (hN 3 (by decide)) rfl (by omega) ?_
        refine E.goto C dX7_passSpring_23 (tgt := 2) (by decide) ?_
        refine E.heq (h' := grwF v o q (c + 1)) (grwF_s ht0) ?_
        exact ih2 _ (by omega) (c + 1) rfl (by omega)
  refine E.heq (h' := grwF v o q 0) (grwF_0) ?_
  exact lp2 _ 0 rfl (by omega)
