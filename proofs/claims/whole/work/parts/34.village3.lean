set_option maxHeartbeats 4000000 in
set_option maxRecDepth 20000 in
theorem ok_J7_fill_53178 (G : GT) (r x : Int) (m : Nat) (v : VT) (hs : kd r = 11) (hm : ln r = m) (hm2 : m ≤ 1000) : MVe G yJ7_fill_53178 cJ7_fill_53178 4 none 0 0 [vr r, vi x] v (fillF v r x (m : Int)) := by
  refine MN.of pn_J7_fill_53178 [some (vr r), some (vi x), none, none] 2 rfl rfl (fun X C hX hn hR => ?_)
  have hN : ∀ i : Nat, i < 4 → i < xn X := fun i h => by rw [hn]; exact h
  refine E.rngk (fun hinv => ?_)
  refine E.loc (fun hloc => ?_)
  have hin_1 : in32 x := hloc _ (List.mem_of_getElem? (i := 1) rfl)
  refine E.iconst C dJ7_fill_53178_0 (by decide) ?_
  refine N.ist_2 C dJ7_fill_53178_1 (hN 2 (by decide)) rfl ?_
  refine E.aload_n C dJ7_fill_53178_2 rfl rfl ?_
  refine N.alen C dJ7_fill_53178_3 hs hm (by omega) ?_
  refine N.ist_3 C dJ7_fill_53178_4 (hN 3 (by decide)) rfl ?_
  have lp5 : ∀ (k5 : Nat) (t : Int), ((m : Int) - t).toNat = k5 → (0 ≤ t ∧ t ≤ (m : Int)) → E X G 0 0 1000 (fillF v r x t) 5 [some (vr r), some (vi x), some (vi t), some (vi ((m : Int) : Int))] [] := by
    intro k5
    induction k5 using Nat.strongRecOn with
    | ind k5 ih5 =>
      intro t hk5 hI5
      obtain ⟨ht0, ht1⟩ := hI5
      refine E.iload_n C dJ7_fill_53178_5 rfl rfl ?_
      refine E.iload_n C dJ7_fill_53178_6 rfl rfl ?_
      refine E.icmp_ge C dJ7_fill_53178_7 (tgt := 20) (by decide) (fun h7 => ?_) (fun h7 => ?_)
      · skip
        exact N.vret C hR dJ7_fill_53178_20 (fun hi => by rw [show t = (m : Int) by omega])
      · skip
        refine E.aload_n C dJ7_fill_53178_10 rfl rfl ?_
        refine E.iload_n C dJ7_fill_53178_11 rfl rfl ?_
        refine E.iload_n C dJ7_fill_53178_12 rfl rfl ?_
        refine N.iast C dJ7_fill_53178_13 hs hm (by omega) ?_
        refine N.iinc_2 C dJ7_fill_53178_14 (hN 2 (by decide)) rfl (by omega) ?_
        refine E.goto C dJ7_fill_53178_17 (tgt := 5) (by decide) ?_
        refine E.heq (h' := fillF v r x (t + 1)) (fillF_s ht0) ?_
        exact ih5 _ (by omega) (t + 1) rfl (by omega)
  refine E.heq (h' := fillF v r x 0) (fillF_0) ?_
  exact lp5 _ 0 rfl (by omega)

set_option maxHeartbeats 4000000 in
set_option maxRecDepth 20000 in
theorem ok_X7_clear (G : GT) (o : Int) (v : VT) (ho : isV o) : MVe G yX7_clear cX7_clear 1 none 1 23 [vr o] v (fillF (upd2 (upd2 (upd2 v o 4 0) o 5 0) o 6 0) (o + 3) 0 80) := by
  refine MN.of pn_X7_clear [some (vr o)] 0 rfl rfl (fun X C hX hn hR => ?_)
  have hN : ∀ i : Nat, i < 1 → i < xn X := fun i h => by rw [hn]; exact h
  refine E.rngk (fun hinv => ?_)
  refine E.loc (fun hloc => ?_)
  refine E.aload_n C dX7_clear_0 rfl rfl ?_
  refine E.iconst C dX7_clear_1 (by decide) ?_
  refine N.putI C fp_X7_30 rfl dX7_clear_2 (kdV ho) ?_
  refine E.aload_n C dX7_clear_5 rfl rfl ?_
  refine E.iconst C dX7_clear_6 (by decide) ?_
  refine N.putI C fp_X7_34 rfl dX7_clear_7 (kdV ho) ?_
  refine E.aload_n C dX7_clear_10 rfl rfl ?_
  refine E.iconst C dX7_clear_11 (by decide) ?_
  refine N.putI C fp_X7_37 rfl dX7_clear_12 (kdV ho) ?_
  refine E.aload_n C dX7_clear_15 rfl rfl ?_
  refine N.getR C fa_X7_23 rfl dX7_clear_16 (kdV ho) (x := o + 3) (rvV2 ho) (by have := posVk ho; omega) ?_
  refine E.iconst C dX7_clear_19 (by decide) ?_
  refine N.callSe (S := []) (As := [vr (o + 3), vi 0]) C hX (ok_J7_fill_53178 G (o + 3) 0 80 (upd2 (upd2 (upd2 v o 4 0) o 5 0) o 6 0) (kdVl ho) (lnVl ho) (by decide)) yf_J7_fill_53178 yv_J7_fill_53178 ml_X7_42 rfl (by decide) (Nat.le_of_ble_eq_true rfl) dX7_clear_20 rfl ?_
  exact N.vret C hR dX7_clear_23 (fun hi => by rfl)

set_option maxHeartbeats 4000000 in
set_option maxRecDepth 20000 in
theorem ok_X7_putOn (G : GT) (o c t sl : Int) (v : VT) (ho : isV o) (hb : 0 ≤ c ∧ c < 8 ∧ 0 ≤ t ∧ t < 10) (hk : thOK v (o + 13 + t)) (hz : -1000 ≤ v (o + 5 + c) 0 ∧ v (o + 5 + c) 0 ≤ 1000 ∧ -1000 ≤ sl ∧ sl ≤ 1000) : MVe G yX7_putOn cX7_putOn 5 none 2 46 [vr o, vi c, vi t, vi sl] v (putF v (o + 13 + t) c (v (o + 5 + c) 0) sl) := by
  refine MN.of pn_X7_putOn [some (vr o), some (vi c), some (vi t), some (vi sl), none] 1 rfl rfl (fun X C hX hn hR => ?_)
  have hN : ∀ i : Nat, i < 5 → i < xn X := fun i h => by rw [hn]; exact h
  refine E.rngk (fun hinv => ?_)
  refine E.loc (fun hloc => ?_)
  have hin_1 : in32 c := hloc _ (List.mem_of_getElem? (i := 1) rfl)
  have hin_2 : in32 t := hloc _ (List.mem_of_getElem? (i := 2) rfl)
  have hin_3 : in32 sl := hloc _ (List.mem_of_getElem? (i := 3) rfl)
  have hk0 := hk
  obtain ⟨hk1, hk2, hk3, hk4⟩ := hk
  refine E.aload_n C dX7_putOn_0 rfl rfl ?_
  refine N.getR C fa_X7_19 rfl dX7_putOn_1 (kdV ho) (x := o + 2) (rvV1 ho) (by have := posVk ho; omega) ?_
  refine E.iload_n C dX7_putOn_4 rfl rfl ?_
  refine N.aald C (t := 5) (by decide) dX7_putOn_5 (kdVt ho) (lnVt ho) (by omega) (x := o + 13 + t) (rvVt ho (by omega)) (by have := posVk ho; omega) ?_
  refine N.ast_4 C dX7_putOn_6 (hN 4 (by decide)) rfl ?_
  refine E.aload C dX7_putOn_8 rfl ?_
  refine E.iload_n C dX7_putOn_10 rfl rfl ?_
  refine E.aload_n C dX7_putOn_11 rfl rfl ?_
  refine N.getR C fa_X7_11 rfl dX7_putOn_12 (kdV ho) (x := o + 1) (rvV0 ho) (by have := posVk ho; omega) ?_
  refine E.iload_n C dX7_putOn_15 rfl rfl ?_
  refine N.aald C (t := 3) (by decide) dX7_putOn_16 (kdVc ho) (lnVc ho) (by omega) (x := o + 5 + c) (rvVc ho (by omega)) (by have := posVk ho; omega) ?_
  refine N.getI C fa_X7_65 rfl dX7_putOn_17 (kdVC ho (by omega)) (x := v (o + 5 + c) 0) rfl ?_
  refine E.iload_n C dX7_putOn_20 rfl rfl ?_
  refine N.callVp (S := []) (As := [vi c, vi (v (o + 5 + c) 0), vi sl]) C hX (ok_X6_fitFor G (o + 13 + t) c (v (o + 5 + c) 0) sl v (kdVT ho (by omega)) hk0 hz) yf_X6_fitFor yv_X6_fitFor ml_X7_84 rfl rfl rfl (kdVT ho (by omega)) (by decide) (by decide) (Nat.le_of_ble_eq_true rfl) dX7_putOn_21 rfl ?_
  refine E.iconst C dX7_putOn_24 (by decide) ?_
  refine E.icmp_ne C dX7_putOn_25 (tgt := 45) (by decide) (fun h25 => ?_) (fun h25 => ?_)
  · skip
    refine E.aload C dX7_putOn_45 rfl ?_
    refine E.iload_n C dX7_putOn_47 rfl rfl ?_
    refine N.putI C fp_X7_91 rfl dX7_putOn_48 (kdVT ho (by omega)) ?_
    exact N.vret C hR dX7_putOn_51 (fun hi => by unfold putF; first | (rw [if_pos (by omega)]; rfl) | (rw [if_neg (by omega)]; rfl))
  · skip
    refine E.aload C dX7_putOn_28 rfl ?_
    refine E.iconst C dX7_putOn_30 (by decide) ?_
    refine N.putZ C fp_X7_94 rfl dX7_putOn_31 (kdVT ho (by omega)) (by omega) ?_
    refine E.aload C dX7_putOn_34 rfl ?_
    refine E.dupR C dX7_putOn_36 ?_
    refine N.getI C fa_X7_98 rfl dX7_putOn_37 (kdVT ho (by omega)) (x := v (o + 13 + t) 2) (upd2_ne _ _ _ _ _ _ (Or.inr (by decide))) ?_
    refine E.iconst C dX7_putOn_40 (by decide) ?_
    refine E.iadd C dX7_putOn_41 (by omega) ?_
    refine N.putI C fp_X7_98 rfl dX7_putOn_42 (kdVT ho (by omega)) ?_
    refine E.aload C dX7_putOn_45 rfl ?_
    refine E.iload_n C dX7_putOn_47 rfl rfl ?_
    refine N.putI C fp_X7_91 rfl dX7_putOn_48 (kdVT ho (by omega)) ?_
    exact N.vret C hR dX7_putOn_51 (fun hi => by unfold putF; first | (rw [if_pos (by omega)]; rfl) | (rw [if_neg (by omega)]; rfl))

set_option maxHeartbeats 4000000 in
set_option maxRecDepth 20000 in
theorem ok_X7_smallestSize (G : GT) (o : Int) (v : VT) (ho : isV o) (hc : 0 ≤ v o 4 ∧ v o 4 ≤ 8) : MP G yX7_smallestSize cX7_smallestSize 3 (some .int) 1 21 [vr o] v (minN v o (v o 4).toNat) := by
  refine MN.of pn_X7_smallestSize [some (vr o), none, none] 2 rfl rfl (fun X C hX hn hR => ?_)
  have hN : ∀ i : Nat, i < 3 → i < xn X := fun i h => by rw [hn]; exact h
  refine E.rngk (fun hinv => ?_)
  refine E.loc (fun hloc => ?_)
  refine E.bipush C dX7_smallestSize_0 (by decide) ?_
  refine N.ist_1 C dX7_smallestSize_2 (hN 1 (by decide)) rfl ?_
  refine E.iconst C dX7_smallestSize_3 (by decide) ?_
  refine N.ist_2 C dX7_smallestSize_4 (hN 2 (by decide)) rfl ?_
  have lp5 : ∀ (k5 : Nat) (x : Int) (t : Int), (v o 4 - t).toNat = k5 → (0 ≤ t ∧ t ≤ v o 4 ∧ x = minN v o t.toNat) → E X G 0 0 1000 v 5 [some (vr o), some (vi x), some (vi t)] [] := by
    intro k5
    induction k5 using Nat.strongRecOn with
    | ind k5 ih5 =>
      intro x t hk5 hI5
      obtain ⟨ht0, ht1, hcx⟩ := hI5
      refine E.iload_n C dX7_smallestSize_5 rfl rfl ?_
      refine E.aload_n C dX7_smallestSize_6 rfl rfl ?_
      refine N.getI C fa_X7_30 rfl dX7_smallestSize_7 (kdV ho) (x := v o 4) rfl ?_
      refine E.icmp_ge C dX7_smallestSize_10 (tgt := 33) (by decide) (fun h10 => ?_) (fun h10 => ?_)
      · skip
        refine E.iload_n C dX7_smallestSize_33 rfl rfl ?_
        exact N.iret C hR dX7_smallestSize_34 (fun hi hx => by exact ⟨by rw [hcx]; congr 1; omega, rfl⟩)
      · skip
        refine E.iload_n C dX7_smallestSize_13 rfl rfl ?_
        refine E.aload_n C dX7_smallestSize_14 rfl rfl ?_
        refine N.getR C fa_X7_11 rfl dX7_smallestSize_15 (kdV ho) (x := o + 1) (rvV0 ho) (by have := posVk ho; omega) ?_
        refine E.iload_n C dX7_smallestSize_18 rfl rfl ?_
        refine N.aald C (t := 3) (by decide) dX7_smallestSize_19 (kdVc ho) (lnVc ho) (by omega) (x := o + 5 + t) (rvVc ho (by omega)) (by have := posVk ho; omega) ?_
        refine N.getI C fa_X7_65 rfl dX7_smallestSize_20 (kdVC ho (by omega)) (x := v (o + 5 + t) 0) rfl ?_
        refine N.mmin (S := []) C hX mm_X7_78 mminR dX7_smallestSize_23 (by decide) (Nat.le_of_ble_eq_true rfl) ?_
        refine N.ist_1 C dX7_smallestSize_26 (hN 1 (by decide)) rfl ?_
        refine N.iinc_2 C dX7_smallestSize_27 (hN 2 (by decide)) rfl (by omega) ?_
        refine E.goto C dX7_smallestSize_30 (tgt := 5) (by decide) ?_
        exact ih5 _ (by omega) (if (v (o + 5 + t) 0) < x then (v (o + 5 + t) 0) else x) (t + 1) rfl (by refine ⟨by omega, by omega, ?_⟩; rw [minN_step ht0, hcx])
  exact lp5 _ 40 0 rfl (by exact ⟨by omega, by omega, rfl⟩)

set_option maxHeartbeats 4000000 in
set_option maxRecDepth 20000 in
theorem ok_X7_addChild (G : GT) (o a b c : Int) (v : VT) (ho : isV o) (hc : 0 ≤ v o 4 ∧ v o 4 ≤ 8) : MVe G yX7_addChild cX7_addChild 4 none 0 0 [vr o, vi a, vi b, vi c] v (if v o 4 < 8 then upd2 (upd2 (upd2 (upd2 v (o + 5 + v o 4) 0 a) (o + 5 + v o 4) 1 b) (o + 5 + v o 4) 2 c) o 4 (v o 4 + 1) else v) := by
  refine MN.of pn_X7_addChild [some (vr o), some (vi a), some (vi b), some (vi c)] 0 rfl rfl (fun X C hX hn hR => ?_)
  have hN : ∀ i : Nat, i < 4 → i < xn X := fun i h => by rw [hn]; exact h
  refine E.rngk (fun hinv => ?_)
  refine E.loc (fun hloc => ?_)
  have hin_1 : in32 a := hloc _ (List.mem_of_getElem? (i := 1) rfl)
  have hin_2 : in32 b := hloc _ (List.mem_of_getElem? (i := 2) rfl)
  have hin_3 : in32 c := hloc _ (List.mem_of_getElem? (i := 3) rfl)
  refine E.aload_n C dX7_addChild_0 rfl rfl ?_
  refine N.getI C fa_X7_30 rfl dX7_addChild_1 (kdV ho) (x := v o 4) rfl ?_
  refine E.bipush C dX7_addChild_4 (by decide) ?_
  refine E.icmp_ge C dX7_addChild_6 (tgt := 58) (by decide) (fun h6 => ?_) (fun h6 => ?_)
  · skip
    exact N.vret C hR dX7_addChild_58 (fun hi => by first | (rw [if_pos (by omega)]; rfl) | (rw [if_neg (by omega)]))
  · skip
    refine E.aload_n C dX7_addChild_9 rfl rfl ?_
    refine N.getR C fa_X7_11 rfl dX7_addChild_10 (kdV ho) (x := o + 1) (rvV0 ho) (by have := posVk ho; omega) ?_
    refine E.aload_n C dX7_addChild_13 rfl rfl ?_
    refine N.getI C fa_X7_30 rfl dX7_addChild_14 (kdV ho) (x := v o 4) rfl ?_
    refine N.aald C (t := 3) (by decide) dX7_addChild_17 (kdVc ho) (lnVc ho) (by omega) (x := o + 5 + (v o 4)) (rvVc ho (by omega)) (by have := posVk ho; omega) ?_
    refine E.iload_n C dX7_addChild_18 rfl rfl ?_
    refine N.putI C fp_X7_65 rfl dX7_addChild_19 (kdVC ho (by omega)) ?_
    refine E.aload_n C dX7_addChild_22 rfl rfl ?_
    refine N.getR C fa_X7_11 rfl dX7_addChild_23 (kdV ho) (x := o + 1) (rvV0 ho) (by have := posVk ho; omega) ?_
    refine E.aload_n C dX7_addChild_26 rfl rfl ?_
    refine N.getI C fa_X7_30 rfl dX7_addChild_27 (kdV ho) (x := v o 4) (upd2_ne _ _ _ _ _ _ (Or.inr (by decide))) ?_
    refine N.aald C (t := 3) (by decide) dX7_addChild_30 (kdVc ho) (lnVc ho) (by omega) (x := o + 5 + (v o 4)) (rvVc ho (by omega)) (by have := posVk ho; omega) ?_
    refine E.iload_n C dX7_addChild_31 rfl rfl ?_
    refine N.putI C fp_X7_68 rfl dX7_addChild_32 (kdVC ho (by omega)) ?_
    refine E.aload_n C dX7_addChild_35 rfl rfl ?_
    refine N.getR C fa_X7_11 rfl dX7_addChild_36 (kdV ho) (x := o + 1) (rvV0 ho) (by have := posVk ho; omega) ?_
    refine E.aload_n C dX7_addChild_39 rfl rfl ?_
    refine N.getI C fa_X7_30 rfl dX7_addChild_40 (kdV ho) (x := v o 4) ((upd2_ne _ _ _ _ _ _ (Or.inr (by decide))).trans (upd2_ne _ _ _ _ _ _ (Or.inr (by decide)))) ?_
    refine N.aald C (t := 3) (by decide) dX7_addChild_43 (kdVc ho) (lnVc ho) (by omega) (x := o + 5 + (v o 4)) (rvVc ho (by omega)) (by have := posVk ho; omega) ?_
    refine E.iload_n C dX7_addChild_44 rfl rfl ?_
    refine N.putI C fp_X7_71 rfl dX7_addChild_45 (kdVC ho (by omega)) ?_
    refine E.aload_n C dX7_addChild_48 rfl rfl ?_
    refine E.dupR C dX7_addChild_49 ?_
    refine N.getI C fa_X7_30 rfl dX7_addChild_50 (kdV ho) (x := v o 4) ((upd2_ne _ _ _ _ _ _ (Or.inr (by decide))).trans ((upd2_ne _ _ _ _ _ _ (Or.inr (by decide))).trans (upd2_ne _ _ _ _ _ _ (Or.inr (by decide))))) ?_
    refine E.iconst C dX7_addChild_53 (by decide) ?_
    refine E.iadd C dX7_addChild_54 (by omega) ?_
    refine N.putI C fp_X7_30 rfl dX7_addChild_55 (kdV ho) ?_
    exact N.vret C hR dX7_addChild_58 (fun hi => by first | (rw [if_pos (by omega)]; rfl) | (rw [if_neg (by omega)]))

set_option maxHeartbeats 4000000 in
set_option maxRecDepth 20000 in
theorem ok_X7_addPlain (G : GT) (o s z l : Int) (v : VT) (ho : isV o) (hb : 0 ≤ v o 5 ∧ v o 5 ≤ 10) : MIe G yX7_addPlain cX7_addPlain 4 (some .int) 1 23 [vr o, vi s, vi z, vi l] v (if 10 ≤ v o 5 then -3 else v o 5) (if 10 ≤ v o 5 then v else upd2 (plainF v (o + 13 + v o 5) s z l) o 5 (v o 5 + 1)) := by
  refine MN.of pn_X7_addPlain [some (vr o), some (vi s), some (vi z), some (vi l)] 0 rfl rfl (fun X C hX hn hR => ?_)
  have hN : ∀ i : Nat, i < 4 → i < xn X := fun i h => by rw [hn]; exact h
  refine E.rngk (fun hinv => ?_)
  refine E.loc (fun hloc => ?_)
  have hin_1 : in32 s := hloc _ (List.mem_of_getElem? (i := 1) rfl)
  have hin_2 : in32 z := hloc _ (List.mem_of_getElem? (i := 2) rfl)
  have hin_3 : in32 l := hloc _ (List.mem_of_getElem? (i := 3) rfl)
  refine E.aload_n C dX7_addPlain_0 rfl rfl ?_
  refine N.getI C fa_X7_34 rfl dX7_addPlain_1 (kdV ho) (x := v o 5) rfl ?_
  refine E.bipush C dX7_addPlain_4 (by decide) ?_
  refine E.icmp_lt C dX7_addPlain_6 (tgt := 12) (by decide) (fun h6 => ?_) (fun h6 => ?_)
  · skip
    refine E.aload_n C dX7_addPlain_12 rfl rfl ?_
    refine N.getR C fa_X7_19 rfl dX7_addPlain_13 (kdV ho) (x := o + 2) (rvV1 ho) (by have := posVk ho; omega) ?_
    refine E.aload_n C dX7_addPlain_16 rfl rfl ?_
    refine N.getI C fa_X7_34 rfl dX7_addPlain_17 (kdV ho) (x := v o 5) rfl ?_
    refine N.aald C (t := 5) (by decide) dX7_addPlain_20 (kdVt ho) (lnVt ho) (by omega) (x := o + 13 + (v o 5)) (rvVt ho (by omega)) (by have := posVk ho; omega) ?_
    refine E.iload_n C dX7_addPlain_21 rfl rfl ?_
    refine E.iload_n C dX7_addPlain_22 rfl rfl ?_
    refine E.iload_n C dX7_addPlain_23 rfl rfl ?_
    refine N.callVe (S := []) (As := [vi s, vi z, vi l]) C hX (ok_X6_becomePlain G (o + 13 + (v o 5)) s z l v (kdVT ho (by omega))) yf_X6_becomePlain yv_X6_becomePlain ml_X7_74 rfl rfl rfl (kdVT ho (by omega)) (by decide) (by decide) (Nat.le_of_ble_eq_true rfl) dX7_addPlain_24 rfl ?_
    refine E.aload_n C dX7_addPlain_27 rfl rfl ?_
    refine E.dupR C dX7_addPlain_28 ?_
    refine N.getI C fa_X7_34 rfl dX7_addPlain_29 (kdV ho) (x := v o 5) (plainF_ne (kd_ne (kdV ho) (kdVT ho (by omega)) (by decide))) ?_
    refine E.iconst C dX7_addPlain_32 (by decide) ?_
    refine E.iadd C dX7_addPlain_33 (by omega) ?_
    refine N.putI C fp_X7_34 rfl dX7_addPlain_34 (kdV ho) ?_
    refine E.aload_n C dX7_addPlain_37 rfl rfl ?_
    refine N.getI C fa_X7_34 rfl dX7_addPlain_38 (kdV ho) (x := (v o 5) + 1) (upd2_same _ _ _ _) ?_
    refine E.iconst C dX7_addPlain_41 (by decide) ?_
    refine E.isub C dX7_addPlain_42 (by omega) ?_
    exact N.iret C hR dX7_addPlain_43 (fun hi hx => by first | (rw [if_pos (by omega), if_pos (by omega)]; exact ⟨rfl, rfl⟩) | (rw [if_neg (by omega), if_neg (by omega)]; exact ⟨by omega, rfl⟩))
  · skip
    refine E.bipush C dX7_addPlain_9 (by decide) ?_
    exact N.iret C hR dX7_addPlain_11 (fun hi hx => by first | (rw [if_pos (by omega), if_pos (by omega)]; exact ⟨rfl, rfl⟩) | (rw [if_neg (by omega), if_neg (by omega)]; exact ⟨by omega, rfl⟩))

set_option maxHeartbeats 4000000 in
set_option maxRecDepth 20000 in
theorem ok_X7_addMark (G : GT) (o x : Int) (v : VT) (ho : isV o) (hm : 0 ≤ v o 6 ∧ v o 6 ≤ 6) : MVe G yX7_addMark cX7_addMark 2 none 0 0 [vr o, vi x] v (if v o 6 < 6 then upd2 (upd2 v (o + 4) (v o 6) x) o 6 (v o 6 + 1) else v) := by
  refine MN.of pn_X7_addMark [some (vr o), some (vi x)] 0 rfl rfl (fun X C hX hn hR => ?_)
  have hN : ∀ i : Nat, i < 2 → i < xn X := fun i h => by rw [hn]; exact h
  refine E.rngk (fun hinv => ?_)
  refine E.loc (fun hloc => ?_)
  have hin_1 : in32 x := hloc _ (List.mem_of_getElem? (i := 1) rfl)
  refine E.aload_n C dX7_addMark_0 rfl rfl ?_
  refine N.getI C fa_X7_37 rfl dX7_addMark_1 (kdV ho) (x := v o 6) rfl ?_
  refine E.bipush C dX7_addMark_4 (by decide) ?_
  refine E.icmp_ge C dX7_addMark_6 (tgt := 29) (by decide) (fun h6 => ?_) (fun h6 => ?_)
  · skip
    exact N.vret C hR dX7_addMark_29 (fun hi => by first | (rw [if_pos (by omega)]; rfl) | (rw [if_neg (by omega)]))
  · skip
    refine E.aload_n C dX7_addMark_9 rfl rfl ?_
    refine N.getR C fa_X7_27 rfl dX7_addMark_10 (kdV ho) (x := o + 4) (rvV3 ho) (by have := posVk ho; omega) ?_
    refine E.aload_n C dX7_addMark_13 rfl rfl ?_
    refine N.getI C fa_X7_37 rfl dX7_addMark_14 (kdV ho) (x := v o 6) rfl ?_
    refine E.iload_n C dX7_addMark_17 rfl rfl ?_
    refine N.iast C dX7_addMark_18 (kdVm ho) (lnVm ho) (by omega) ?_
    refine E.aload_n C dX7_addMark_19 rfl rfl ?_
    refine E.dupR C dX7_addMark_20 ?_
    refine N.getI C fa_X7_37 rfl dX7_addMark_21 (kdV ho) (x := v o 6) (upd2_ne _ _ _ _ _ _ (Or.inl (kd_ne (kdV ho) (kdVm ho) (by decide)))) ?_
    refine E.iconst C dX7_addMark_24 (by decide) ?_
    refine E.iadd C dX7_addMark_25 (by omega) ?_
    refine N.putI C fp_X7_37 rfl dX7_addMark_26 (kdV ho) ?_
    exact N.vret C hR dX7_addMark_29 (fun hi => by first | (rw [if_pos (by omega)]; rfl) | (rw [if_neg (by omega)]))

set_option maxHeartbeats 4000000 in
set_option maxRecDepth 20000 in
theorem ok_X7_becomeBodies (G : GT) (o o2 : Int) (v : VT) (ho : isV o) (ho2 : isV o2) (hsep : o + 23 ≤ o2 ∨ o2 + 23 ≤ o) (hc : 0 ≤ v o2 4 ∧ v o2 4 ≤ 8) (hb : 0 ≤ v o2 5 ∧ v o2 5 ≤ 10) (hlz : ∀ t, 0 ≤ t → t < v o2 5 → v (o2 + 13 + t) 5 = 0 ∨ v (o2 + 13 + t) 5 = 1) : MVe G yX7_becomeBodies cX7_becomeBodies 3 none 1 21 [vr o, vr o2] v (bodF v o o2 (v o2 4) (v o2 5)) := by
  refine MN.of pn_X7_becomeBodies [some (vr o), some (vr o2), none] 1 rfl rfl (fun X C hX hn hR => ?_)
  have hN : ∀ i : Nat, i < 3 → i < xn X := fun i h => by rw [hn]; exact h
  refine E.rngk (fun hinv => ?_)
  refine E.loc (fun hloc => ?_)
  refine E.aload_n C dX7_becomeBodies_0 rfl rfl ?_
  refine E.aload_n C dX7_becomeBodies_1 rfl rfl ?_
  refine N.getI C fa_X7_30 rfl dX7_becomeBodies_2 (kdV ho2) (x := v o2 4) rfl ?_
  refine N.putI C fp_X7_30 rfl dX7_becomeBodies_5 (kdV ho) ?_
  refine E.aload_n C dX7_becomeBodies_8 rfl rfl ?_
  refine E.aload_n C dX7_becomeBodies_9 rfl rfl ?_
  refine N.getI C fa_X7_34 rfl dX7_becomeBodies_10 (kdV ho2) (x := v o2 5) (upd2_ne _ _ _ _ _ _ (Or.inr (by decide))) ?_
  refine N.putI C fp_X7_34 rfl dX7_becomeBodies_13 (kdV ho) ?_
  refine E.iconst C dX7_becomeBodies_16 (by decide) ?_
  refine N.ist_2 C dX7_becomeBodies_17 (hN 2 (by decide)) rfl ?_
  have lp18 : ∀ (k18 : Nat) (c : Int), (v o2 4 - c).toNat = k18 → (0 ≤ c ∧ c ≤ v o2 4) → E X G 0 0 1000 (bodF v o o2 c 0) 18 [some (vr o), some (vr o2), some (vi c)] [] := by
    intro k18
    induction k18 using Nat.strongRecOn with
    | ind k18 ih18 =>
      intro c hk18 hI18
      obtain ⟨ht0, ht1⟩ := hI18
      refine E.iload_n C dX7_becomeBodies_18 rfl rfl ?_
      refine E.aload_n C dX7_becomeBodies_19 rfl rfl ?_
      refine N.getI C fa_X7_30 rfl dX7_becomeBodies_20 (kdV ho) (x := v o2 4) bodF_4 ?_
      refine E.icmp_ge C dX7_becomeBodies_23 (tgt := 47) (by decide) (fun h23 => ?_) (fun h23 => ?_)
      · skip
        refine E.iconst C dX7_becomeBodies_47 (by decide) ?_
        refine N.ist_2 C dX7_becomeBodies_48 (hN 2 (by decide)) rfl ?_
        have lp49 : ∀ (k49 : Nat) (t : Int), (v o2 5 - t).toNat = k49 → (0 ≤ t ∧ t ≤ v o2 5) → E X G 0 0 1000 (bodF v o o2 (v o2 4) t) 49 [some (vr o), some (vr o2), some (vi t)] [] := by
          intro k49
          induction k49 using Nat.strongRecOn with
          | ind k49 ih49 =>
            intro t hk49 hI49
            obtain ⟨ht2, ht3⟩ := hI49
            refine E.iload_n C dX7_becomeBodies_49 rfl rfl ?_
            refine E.aload_n C dX7_becomeBodies_50 rfl rfl ?_
            refine N.getI C fa_X7_34 rfl dX7_becomeBodies_51 (kdV ho) (x := v o2 5) bodF_5 ?_
            refine E.icmp_ge C dX7_becomeBodies_54 (tgt := 78) (by decide) (fun h54 => ?_) (fun h54 => ?_)
            · skip
              exact N.vret C hR dX7_becomeBodies_78 (fun hi => by rw [show t = v o2 5 by omega])
            · skip
              refine E.aload_n C dX7_becomeBodies_57 rfl rfl ?_
              refine N.getR C fa_X7_19 rfl dX7_becomeBodies_58 (kdV ho) (x := o + 2) (rvV1 ho) (by have := posVk ho; omega) ?_
              refine E.iload_n C dX7_becomeBodies_61 rfl rfl ?_
              refine N.aald C (t := 5) (by decide) dX7_becomeBodies_62 (kdVt ho) (lnVt ho) (by omega) (x := o + 13 + t) (rvVt ho (by omega)) (by have := posVk ho; omega) ?_
              refine E.aload_n C dX7_becomeBodies_63 rfl rfl ?_
              refine N.getR C fa_X7_19 rfl dX7_becomeBodies_64 (kdV ho2) (x := o2 + 2) (rvV1 ho2) (by have := posVk ho2; omega) ?_
              refine E.iload_n C dX7_becomeBodies_67 rfl rfl ?_
              refine N.aald C (t := 5) (by decide) dX7_becomeBodies_68 (kdVt ho2) (lnVt ho2) (by omega) (x := o2 + 13 + t) (rvVt ho2 (by omega)) (by have := posVk ho2; omega) ?_
              refine N.callVe (S := []) (As := [vr (o2 + 13 + t)]) C hX (ok_X6_become G (o + 13 + t) (o2 + 13 + t) (bodF v o o2 (v o2 4) t) (kdVT ho (by omega)) (kdVT ho2 (by omega)) (by rw [bodF_out (by omega) (by omega) (by omega)]; exact hlz t ht2 (by omega))) yf_X6_become yv_X6_become ml_X7_62 rfl rfl rfl (kdVT ho (by omega)) (by decide) (by decide) (Nat.le_of_ble_eq_true rfl) dX7_becomeBodies_69 rfl ?_
              refine N.iinc_2 C dX7_becomeBodies_72 (hN 2 (by decide)) rfl (by omega) ?_
              refine E.goto C dX7_becomeBodies_75 (tgt := 49) (by decide) ?_
              refine E.heq (h' := bodF v o o2 (v o2 4) (t + 1)) (bodF_t (by omega) (by omega) hsep) ?_
              exact ih49 _ (by omega) (t + 1) rfl (by omega)
        refine E.heq (h' := bodF v o o2 (v o2 4) 0) (by rw [show c = v o2 4 by omega]) ?_
        exact lp49 _ 0 rfl (by omega)
      · skip
        refine E.aload_n C dX7_becomeBodies_26 rfl rfl ?_
        refine N.getR C fa_X7_11 rfl dX7_becomeBodies_27 (kdV ho) (x := o + 1) (rvV0 ho) (by have := posVk ho; omega) ?_
        refine E.iload_n C dX7_becomeBodies_30 rfl rfl ?_
        refine N.aald C (t := 3) (by decide) dX7_becomeBodies_31 (kdVc ho) (lnVc ho) (by omega) (x := o + 5 + c) (rvVc ho (by omega)) (by have := posVk ho; omega) ?_
        refine E.aload_n C dX7_becomeBodies_32 rfl rfl ?_
        refine N.getR C fa_X7_11 rfl dX7_becomeBodies_33 (kdV ho2) (x := o2 + 1) (rvV0 ho2) (by have := posVk ho2; omega) ?_
        refine E.iload_n C dX7_becomeBodies_36 rfl rfl ?_
        refine N.aald C (t := 3) (by decide) dX7_becomeBodies_37 (kdVc ho2) (lnVc ho2) (by omega) (x := o2 + 5 + c) (rvVc ho2 (by omega)) (by have := posVk ho2; omega) ?_
        refine N.callVe (S := []) (As := [vr (o2 + 5 + c)]) C hX (ok_X0_become G (o + 5 + c) (o2 + 5 + c) (bodF v o o2 c 0) (kdVC ho (by omega)) (kdVC ho2 (by omega))) yf_X0_become yv_X0_become ml_X7_58 rfl rfl rfl (kdVC ho (by omega)) (by decide) (by decide) (Nat.le_of_ble_eq_true rfl) dX7_becomeBodies_38 rfl ?_
        refine N.iinc_2 C dX7_becomeBodies_41 (hN 2 (by decide)) rfl (by omega) ?_
        refine E.goto C dX7_becomeBodies_44 (tgt := 18) (by decide) ?_
        refine E.heq (h' := bodF v o o2 (c + 1) 0) (bodF_c (by omega) hsep) ?_
        exact ih18 _ (by omega) (c + 1) rfl (by omega)
  refine E.heq (h' := bodF v o o2 0 0) (bodF_0 (by omega)) ?_
  exact lp18 _ 0 rfl (by omega)
