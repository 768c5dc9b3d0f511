set_option maxHeartbeats 4000000 in
set_option maxRecDepth 20000 in
theorem ok_X7_undress (G : GT) (o s : Int) (v : VT) (ho : isV o) (hb : 0 ≤ v o 5 ∧ v o 5 ≤ 10) : MVe G yX7_undress cX7_undress 3 none 0 0 [vr o, vi s] v (undF v o s (v o 5)) := by
  refine MN.of pn_X7_undress [some (vr o), some (vi s), none] 1 rfl rfl (fun X C hX hn hR => ?_)
  have hN : ∀ i : Nat, i < 3 → i < xn X := fun i h => by rw [hn]; exact h
  refine E.rngk (fun hinv => ?_)
  refine E.loc (fun hloc => ?_)
  have hin_1 : in32 s := hloc _ (List.mem_of_getElem? (i := 1) rfl)
  refine E.iconst C dX7_undress_0 (by decide) ?_
  refine N.ist_2 C dX7_undress_1 (hN 2 (by decide)) rfl ?_
  have lp2 : ∀ (k2 : Nat) (t : Int), (v o 5 - t).toNat = k2 → (0 ≤ t ∧ t ≤ v o 5) → E X G 0 0 1000 (undF v o s t) 2 [some (vr o), some (vi s), some (vi t)] [] := by
    intro k2
    induction k2 using Nat.strongRecOn with
    | ind k2 ih2 =>
      intro t hk2 hI2
      obtain ⟨ht0, ht1⟩ := hI2
      refine E.iload_n C dX7_undress_2 rfl rfl ?_
      refine E.aload_n C dX7_undress_3 rfl rfl ?_
      refine N.getI C fa_X7_34 rfl dX7_undress_4 (kdV ho) (x := v o 5) (undF_out (by omega)) ?_
      refine E.icmp_ge C dX7_undress_7 (tgt := 40) (by decide) (fun h7 => ?_) (fun h7 => ?_)
      · skip
        exact N.vret C hR dX7_undress_40 (fun hi => by rw [show t = v o 5 by omega])
      · skip
        refine E.aload_n C dX7_undress_10 rfl rfl ?_
        refine N.getR C fa_X7_19 rfl dX7_undress_11 (kdV ho) (x := o + 2) (rvV1 ho) (by have := posVk ho; omega) ?_
        refine E.iload_n C dX7_undress_14 rfl rfl ?_
        refine N.aald C (t := 5) (by decide) dX7_undress_15 (kdVt ho) (lnVt ho) (by omega) (x := o + 13 + t) (rvVt ho (by omega)) (by have := posVk ho; omega) ?_
        refine N.getI C fa_X7_88 rfl dX7_undress_16 (kdVT ho (by omega)) (x := v (o + 13 + t) 0) (undF_out (by omega)) ?_
        refine E.iload_n C dX7_undress_19 rfl rfl ?_
        refine E.icmp_ne C dX7_undress_20 (tgt := 34) (by decide) (fun h20 => ?_) (fun h20 => ?_)
        · skip
          refine N.iinc_2 C dX7_undress_34 (hN 2 (by decide)) rfl (by omega) ?_
          refine E.goto C dX7_undress_37 (tgt := 2) (by decide) ?_
          refine E.heq (h' := undF v o s (t + 1)) (by first | exact undF_s (by omega) ht0 | exact undF_n (by omega) ht0) ?_
          exact ih2 _ (by omega) (t + 1) rfl (by omega)
        · skip
          refine E.aload_n C dX7_undress_23 rfl rfl ?_
          refine N.getR C fa_X7_19 rfl dX7_undress_24 (kdV ho) (x := o + 2) (rvV1 ho) (by have := posVk ho; omega) ?_
          refine E.iload_n C dX7_undress_27 rfl rfl ?_
          refine N.aald C (t := 5) (by decide) dX7_undress_28 (kdVt ho) (lnVt ho) (by omega) (x := o + 13 + t) (rvVt ho (by omega)) (by have := posVk ho; omega) ?_
          refine E.bipush C dX7_undress_29 (by decide) ?_
          refine N.putI C fp_X7_91 rfl dX7_undress_31 (kdVT ho (by omega)) ?_
          refine N.iinc_2 C dX7_undress_34 (hN 2 (by decide)) rfl (by omega) ?_
          refine E.goto C dX7_undress_37 (tgt := 2) (by decide) ?_
          refine E.heq (h' := undF v o s (t + 1)) (by first | exact undF_s (by omega) ht0 | exact undF_n (by omega) ht0) ?_
          exact ih2 _ (by omega) (t + 1) rfl (by omega)
  refine E.heq (h' := undF v o s 0) (undF_0) ?_
  exact lp2 _ 0 rfl (by omega)

set_option maxHeartbeats 4000000 in
set_option maxRecDepth 20000 in
theorem ok_X7_passWinter (G : GT) (o : Int) (v : VT) (ho : isV o) (hb : 0 ≤ v o 5 ∧ v o 5 ≤ 10) (hw : ∀ t, 0 ≤ t → t < v o 5 → thOK v (o + 13 + t) ∧ -1000 ≤ v (o + 13 + t) 4 ∧ v (o + 13 + t) 4 ≤ 1000) : MIe G yX7_passWinter cX7_passWinter 3 (some .int) 1 21 [vr o] v (cntN (winP v o) (v o 5).toNat) (winF v o (v o 5)) := by
  refine MN.of pn_X7_passWinter [some (vr o), none, none] 2 rfl rfl (fun X C hX hn hR => ?_)
  have hN : ∀ i : Nat, i < 3 → i < xn X := fun i h => by rw [hn]; exact h
  refine E.rngk (fun hinv => ?_)
  refine E.loc (fun hloc => ?_)
  refine E.iconst C dX7_passWinter_0 (by decide) ?_
  refine N.ist_1 C dX7_passWinter_1 (hN 1 (by decide)) rfl ?_
  refine E.iconst C dX7_passWinter_2 (by decide) ?_
  refine N.ist_2 C dX7_passWinter_3 (hN 2 (by decide)) rfl ?_
  have lp4 : ∀ (k4 : Nat) (x : Int) (t : Int), (v o 5 - t).toNat = k4 → (0 ≤ t ∧ t ≤ v o 5 ∧ x = cntN (winP v o) t.toNat) → E X G 0 0 1000 (winF v o t) 4 [some (vr o), some (vi x), some (vi t)] [] := by
    intro k4
    induction k4 using Nat.strongRecOn with
    | ind k4 ih4 =>
      intro x t hk4 hI4
      obtain ⟨ht0, ht1, hcx⟩ := hI4; have hbd := cnt_bd (winP v o) t.toNat
      refine E.iload_n C dX7_passWinter_4 rfl rfl ?_
      refine E.aload_n C dX7_passWinter_5 rfl rfl ?_
      refine N.getI C fa_X7_34 rfl dX7_passWinter_6 (kdV ho) (x := v o 5) (winF_out (by omega)) ?_
      refine E.icmp_ge C dX7_passWinter_9 (tgt := 73) (by decide) (fun h9 => ?_) (fun h9 => ?_)
      · skip
        refine E.iload_n C dX7_passWinter_73 rfl rfl ?_
        exact N.iret C hR dX7_passWinter_74 (fun hi hx => by exact ⟨by rw [hcx]; congr 1; omega, by congr 1; omega⟩)
      · skip
        have hwt := hw t ht0 (by omega)
        have ho1 := outI_01 (v (o + 13 + t) 1) (v (o + 13 + t) 3) (v (o + 13 + t) 4 + 1)
        refine E.aload_n C dX7_passWinter_12 rfl rfl ?_
        refine N.getR C fa_X7_19 rfl dX7_passWinter_13 (kdV ho) (x := o + 2) (rvV1 ho) (by have := posVk ho; omega) ?_
        refine E.iload_n C dX7_passWinter_16 rfl rfl ?_
        refine N.aald C (t := 5) (by decide) dX7_passWinter_17 (kdVt ho) (lnVt ho) (by omega) (x := o + 13 + t) (rvVt ho (by omega)) (by have := posVk ho; omega) ?_
        refine N.getI C fa_X7_91 rfl dX7_passWinter_18 (kdVT ho (by omega)) (x := v (o + 13 + t) 7) (winF_out (by omega)) ?_
        refine E.bipush C dX7_passWinter_21 (by decide) ?_
        refine E.icmp_eq C dX7_passWinter_23 (tgt := 67) (by decide) (fun h23 => ?_) (fun h23 => ?_)
        · skip
          refine N.iinc_2 C dX7_passWinter_67 (hN 2 (by decide)) rfl (by omega) ?_
          refine E.goto C dX7_passWinter_70 (tgt := 4) (by decide) ?_
          refine E.heq (h' := winF v o (t + 1)) (by first | exact winF_n (by omega) ht0 | exact winF_o (by omega) (by omega) ht0 | exact winF_w (by omega) (by omega) ht0) ?_
          exact ih4 _ (by omega) x (t + 1) rfl (by refine ⟨by omega, by omega, ?_⟩; rw [cnt_step ht0, hcx]; simp [winP, *] <;> omega)
        · skip
          refine E.aload_n C dX7_passWinter_26 rfl rfl ?_
          refine N.getR C fa_X7_19 rfl dX7_passWinter_27 (kdV ho) (x := o + 2) (rvV1 ho) (by have := posVk ho; omega) ?_
          refine E.iload_n C dX7_passWinter_30 rfl rfl ?_
          refine N.aald C (t := 5) (by decide) dX7_passWinter_31 (kdVt ho) (lnVt ho) (by omega) (x := o + 13 + t) (rvVt ho (by omega)) (by have := posVk ho; omega) ?_
          refine E.dupR C dX7_passWinter_32 ?_
          refine N.getI C fa_X7_106 rfl dX7_passWinter_33 (kdVT ho (by omega)) (x := v (o + 13 + t) 4) (winF_out (by omega)) ?_
          refine E.iconst C dX7_passWinter_36 (by decide) ?_
          refine E.iadd C dX7_passWinter_37 (by omega) ?_
          refine N.putI C fp_X7_106 rfl dX7_passWinter_38 (kdVT ho (by omega)) ?_
          refine E.aload_n C dX7_passWinter_41 rfl rfl ?_
          refine N.getR C fa_X7_19 rfl dX7_passWinter_42 (kdV ho) (x := o + 2) (rvV1 ho) (by have := posVk ho; omega) ?_
          refine E.iload_n C dX7_passWinter_45 rfl rfl ?_
          refine N.aald C (t := 5) (by decide) dX7_passWinter_46 (kdVt ho) (lnVt ho) (by omega) (x := o + 13 + t) (rvVt ho (by omega)) (by have := posVk ho; omega) ?_
          refine N.callVp (S := []) (As := []) C hX (ok_X6_isWornOut G (o + 13 + t) (upd2 (winF v o t) (o + 13 + t) 4 ((v (o + 13 + t) 4) + 1)) (kdVT ho (by omega)) (thOK_of ((upd2_ne _ _ _ _ _ _ (Or.inr (by decide))).trans (winF_out (by omega))) ((upd2_ne _ _ _ _ _ _ (Or.inr (by decide))).trans (winF_out (by omega))) hwt.1)) yf_X6_isWornOut yv_X6_isWornOut ml_X7_102 rfl rfl rfl (kdVT ho (by omega)) (by decide) (by decide) (Nat.le_of_ble_eq_true rfl) dX7_passWinter_47 rfl ?_
          refine E.veq (x' := outI (v (o + 13 + t) 1) (v (o + 13 + t) 3) ((v (o + 13 + t) 4) + 1)) (by rw [show (upd2 (winF v o t) (o + 13 + t) 4 ((v (o + 13 + t) 4) + 1)) (o + 13 + t) 1 = v (o + 13 + t) 1 from ((upd2_ne _ _ _ _ _ _ (Or.inr (by decide))).trans (winF_out (by omega))), show (upd2 (winF v o t) (o + 13 + t) 4 ((v (o + 13 + t) 4) + 1)) (o + 13 + t) 3 = v (o + 13 + t) 3 from ((upd2_ne _ _ _ _ _ _ (Or.inr (by decide))).trans (winF_out (by omega))), show (upd2 (winF v o t) (o + 13 + t) 4 ((v (o + 13 + t) 4) + 1)) (o + 13 + t) 4 = (v (o + 13 + t) 4) + 1 from (upd2_same _ _ _ _)]) ?_
          refine E.if_eq C dX7_passWinter_50 (tgt := 67) (by decide) (fun h50 => ?_) (fun h50 => ?_)
          · skip
            refine N.iinc_2 C dX7_passWinter_67 (hN 2 (by decide)) rfl (by omega) ?_
            refine E.goto C dX7_passWinter_70 (tgt := 4) (by decide) ?_
            refine E.heq (h' := winF v o (t + 1)) (by first | exact winF_n (by omega) ht0 | exact winF_o (by omega) (by omega) ht0 | exact winF_w (by omega) (by omega) ht0) ?_
            exact ih4 _ (by omega) x (t + 1) rfl (by refine ⟨by omega, by omega, ?_⟩; rw [cnt_step ht0, hcx]; simp [winP, *] <;> omega)
          · skip
            refine E.aload_n C dX7_passWinter_53 rfl rfl ?_
            refine N.getR C fa_X7_19 rfl dX7_passWinter_54 (kdV ho) (x := o + 2) (rvV1 ho) (by have := posVk ho; omega) ?_
            refine E.iload_n C dX7_passWinter_57 rfl rfl ?_
            refine N.aald C (t := 5) (by decide) dX7_passWinter_58 (kdVt ho) (lnVt ho) (by omega) (x := o + 13 + t) (rvVt ho (by omega)) (by have := posVk ho; omega) ?_
            refine E.bipush C dX7_passWinter_59 (by decide) ?_
            refine N.putI C fp_X7_91 rfl dX7_passWinter_61 (kdVT ho (by omega)) ?_
            refine N.iinc_1 C dX7_passWinter_64 (hN 1 (by decide)) rfl (by omega) ?_
            refine N.iinc_2 C dX7_passWinter_67 (hN 2 (by decide)) rfl (by omega) ?_
            refine E.goto C dX7_passWinter_70 (tgt := 4) (by decide) ?_
            refine E.heq (h' := winF v o (t + 1)) (by first | exact winF_n (by omega) ht0 | exact winF_o (by omega) (by omega) ht0 | exact winF_w (by omega) (by omega) ht0) ?_
            exact ih4 _ (by omega) (x + 1) (t + 1) rfl (by refine ⟨by omega, by omega, ?_⟩; rw [cnt_step ht0, hcx]; simp [winP, *] <;> omega)
  refine E.heq (h' := winF v o 0) (winF_0) ?_
  exact lp4 _ 0 0 rfl (by exact ⟨by omega, by omega, rfl⟩)
