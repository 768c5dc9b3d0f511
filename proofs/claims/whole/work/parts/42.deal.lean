set_option maxHeartbeats 4000000 in
set_option maxRecDepth 20000 in
theorem ok_X1_give (G : GT) (c t : Int) (v : VT) (hx : 0 ≤ c ∧ c < 8 ∧ 0 ≤ t ∧ t < 20) : MVe G yX1_give cX1_give 3 none 0 0 [vr 54, vi c, vi t] v (upd2 (upd2 v 56 c t) 57 t c) := by
  refine MN.of pn_X1_give [some (vr 54), some (vi c), some (vi t)] 0 rfl rfl (fun X C hX hn hR => ?_)
  have hN : ∀ i : Nat, i < 3 → i < xn X := fun i h => by rw [hn]; exact h
  refine E.rngk (fun hinv => ?_)
  refine E.loc (fun hloc => ?_)
  have hin_1 : in32 c := hloc _ (List.mem_of_getElem? (i := 1) rfl)
  have hin_2 : in32 t := hloc _ (List.mem_of_getElem? (i := 2) rfl)
  refine E.aload_n C dX1_give_0 rfl rfl ?_
  refine N.getR C fa_X1_15 rfl dX1_give_1 kd_54 (x := 56) (by decide +kernel) (by decide) ?_
  refine E.iload_n C dX1_give_4 rfl rfl ?_
  refine E.iload_n C dX1_give_5 rfl rfl ?_
  refine N.iast C dX1_give_6 kd_56 ln_56 (by omega) ?_
  refine E.aload_n C dX1_give_7 rfl rfl ?_
  refine N.getR C fa_X1_18 rfl dX1_give_8 kd_54 (x := 57) (by decide +kernel) (by decide) ?_
  refine E.iload_n C dX1_give_11 rfl rfl ?_
  refine E.iload_n C dX1_give_12 rfl rfl ?_
  refine N.iast C dX1_give_13 kd_57 ln_57 (by omega) ?_
  exact N.vret C hR dX1_give_14 (fun hi => by rfl)

set_option maxHeartbeats 4000000 in
set_option maxRecDepth 20000 in
theorem ok_X1_thingOf (G : GT) (c : Int) (v : VT) (hx : 0 ≤ v 54 5 ∧ v 54 5 ≤ 8) : MP G yX1_thingOf cX1_thingOf 2 (some .int) 0 0 [vr 54, vi c] v (if 0 ≤ c ∧ c < v 54 5 then v 56 c else -4) := by
  refine MN.of pn_X1_thingOf [some (vr 54), some (vi c)] 0 rfl rfl (fun X C hX hn hR => ?_)
  have hN : ∀ i : Nat, i < 2 → i < xn X := fun i h => by rw [hn]; exact h
  refine E.rngk (fun hinv => ?_)
  refine E.loc (fun hloc => ?_)
  have hin_1 : in32 c := hloc _ (List.mem_of_getElem? (i := 1) rfl)
  refine E.iload_n C dX1_thingOf_0 rfl rfl ?_
  refine E.if_lt C dX1_thingOf_1 (tgt := 21) (by decide) (fun h1 => ?_) (fun h1 => ?_)
  · skip
    refine E.bipush C dX1_thingOf_21 (by decide) ?_
    exact N.iret C hR dX1_thingOf_23 (fun hi hx => by refine ⟨?_, rfl⟩; split <;> first | rfl | omega)
  · skip
    refine E.iload_n C dX1_thingOf_4 rfl rfl ?_
    refine E.aload_n C dX1_thingOf_5 rfl rfl ?_
    refine N.getI C fa_X1_43 rfl dX1_thingOf_6 kd_54 (x := v 54 5) rfl ?_
    refine E.icmp_ge C dX1_thingOf_9 (tgt := 21) (by decide) (fun h9 => ?_) (fun h9 => ?_)
    · skip
      refine E.bipush C dX1_thingOf_21 (by decide) ?_
      exact N.iret C hR dX1_thingOf_23 (fun hi hx => by refine ⟨?_, rfl⟩; split <;> first | rfl | omega)
    · skip
      refine E.aload_n C dX1_thingOf_12 rfl rfl ?_
      refine N.getR C fa_X1_15 rfl dX1_thingOf_13 kd_54 (x := 56) (by decide +kernel) (by decide) ?_
      refine E.iload_n C dX1_thingOf_16 rfl rfl ?_
      refine N.iald C dX1_thingOf_17 kd_56 ln_56 (by omega) (x := v 56 c) rfl ?_
      refine E.goto C dX1_thingOf_18 (tgt := 23) (by decide) ?_
      exact N.iret C hR dX1_thingOf_23 (fun hi hx => by refine ⟨?_, rfl⟩; split <;> first | rfl | omega)

set_option maxHeartbeats 4000000 in
set_option maxRecDepth 20000 in
theorem ok_X1_begin (G : GT) (o s sl : Int) (v : VT) (ho : isV o) (hc : 0 ≤ v o 4 ∧ v o 4 ≤ 8) (hb : 0 ≤ v o 5 ∧ v o 5 ≤ 10) (hth : ∀ t, 0 ≤ t → t < v o 5 → thOK v (o + 13 + t)) (hfz : ∀ c, 0 ≤ c → c < v o 4 → -1000 ≤ v (o + 5 + c) 0 ∧ v (o + 5 + c) 0 ≤ 1000) (hsl : -1000 ≤ sl ∧ sl ≤ 1000) : MVe G yX1_begin cX1_begin 8 none 2 46 [vr 54, vr o, vi s, vi sl] v (begF v o s sl (v o 4) (v o 4) 0) := by
  refine MN.of pn_X1_begin [some (vr 54), some (vr o), some (vi s), some (vi sl), none, none, none, none] 4 rfl rfl (fun X C hX hn hR => ?_)
  have hN : ∀ i : Nat, i < 8 → i < xn X := fun i h => by rw [hn]; exact h
  refine E.rngk (fun hinv => ?_)
  refine E.loc (fun hloc => ?_)
  have hin_2 : in32 s := hloc _ (List.mem_of_getElem? (i := 2) rfl)
  have hin_3 : in32 sl := hloc _ (List.mem_of_getElem? (i := 3) rfl)
  have hov := ho
  unfold isV at hov
  refine E.aload_n C dX1_begin_0 rfl rfl ?_
  refine E.aload_n C dX1_begin_1 rfl rfl ?_
  refine N.getI C fa_X1_37 rfl dX1_begin_2 (kdV ho) (x := v o 4) rfl ?_
  refine N.putI C fp_X1_43 rfl dX1_begin_5 kd_54 ?_
  refine E.aload_n C dX1_begin_8 rfl rfl ?_
  refine E.aload_n C dX1_begin_9 rfl rfl ?_
  refine N.getI C fa_X1_44 rfl dX1_begin_10 (kdV ho) (x := v o 5) (upd2_ne _ _ _ _ _ _ (Or.inl (kd_ne (kdV ho) kd_54 (by decide)))) ?_
  refine N.putI C fp_X1_47 rfl dX1_begin_13 kd_54 ?_
  refine E.aload_n C dX1_begin_16 rfl rfl ?_
  refine E.iconst C dX1_begin_17 (by decide) ?_
  refine N.putI C fp_X1_48 rfl dX1_begin_18 kd_54 ?_
  refine E.aload_n C dX1_begin_21 rfl rfl ?_
  refine N.getR C fa_X1_18 rfl dX1_begin_22 kd_54 (x := 57) (by decide +kernel) (by decide) ?_
  refine E.bipush C dX1_begin_25 (by decide) ?_
  refine N.callSe (S := []) (As := [vr 57, vi (-4)]) C hX (ok_J7_fill_53178 G 57 (-4) 20 (upd2 (upd2 (upd2 v 54 5 (v o 4)) 54 6 (v o 5)) 54 7 0) kd_57 ln_57 (by decide)) yf_J7_fill_53178 yv_J7_fill_53178 ml_X1_51 rfl (by decide) (Nat.le_of_ble_eq_true rfl) dX1_begin_27 rfl ?_
  refine E.iconst C dX1_begin_30 (by decide) ?_
  refine N.ist_4 C dX1_begin_31 (hN 4 (by decide)) rfl ?_
  have lp33 : ∀ (k33 : Nat) (c : Int), (v o 4 - c).toNat = k33 → (0 ≤ c ∧ c ≤ v o 4) → E X G 0 0 1000 (begF v o s sl c c 0) 33 [some (vr 54), some (vr o), some (vi s), some (vi sl), some (vi c), none, none, none] [] := by
    intro k33
    induction k33 using Nat.strongRecOn with
    | ind k33 ih33 =>
      intro c hk33 hI33
      obtain ⟨ht0, ht1⟩ := hI33
      refine E.iload C dX1_begin_33 rfl ?_
      refine E.aload_n C dX1_begin_35 rfl rfl ?_
      refine N.getI C fa_X1_43 rfl dX1_begin_36 kd_54 (x := v o 4) begF_5 ?_
      refine E.icmp_ge C dX1_begin_39 (tgt := 140) (by decide) (fun h39 => ?_) (fun h39 => ?_)
      · skip
        exact N.vret C hR dX1_begin_140 (fun hi => by rw [show c = v o 4 by omega])
      · skip
        refine E.aload_n C dX1_begin_42 rfl rfl ?_
        refine N.getR C fa_X1_15 rfl dX1_begin_43 kd_54 (x := 56) (by decide +kernel) (by decide) ?_
        refine E.iload C dX1_begin_46 rfl ?_
        refine E.bipush C dX1_begin_48 (by decide) ?_
        refine N.iast C dX1_begin_50 kd_56 ln_56 (by omega) ?_
        refine E.aload_n C dX1_begin_51 rfl rfl ?_
        refine N.getR C fa_X1_9 rfl dX1_begin_52 kd_54 (x := 55) (by decide +kernel) (by decide) ?_
        refine E.iload C dX1_begin_55 rfl ?_
        refine E.iconst C dX1_begin_57 (by decide) ?_
        refine N.iast C dX1_begin_58 kd_55 ln_55 (by omega) ?_
        refine E.aload_n C dX1_begin_59 rfl rfl ?_
        refine N.getR C fa_X1_57 rfl dX1_begin_60 (kdV ho) (x := o + 1) (rvV0 ho) (by have := posVk ho; omega) ?_
        refine E.iload C dX1_begin_63 rfl ?_
        refine N.aald C (t := 3) (by decide) dX1_begin_65 (kdVc ho) (lnVc ho) (by omega) (x := o + 5 + c) (rvVc ho (by omega)) (by have := posVk ho; omega) ?_
        refine N.getI C fa_X1_61 rfl dX1_begin_66 (kdVC ho (by omega)) (x := v (o + 5 + c) 0) ((upd2_ne _ _ _ _ _ _ (Or.inl (kd_ne (kdVC ho (by omega)) kd_55 (by decide)))).trans ((upd2_ne _ _ _ _ _ _ (Or.inl (kd_ne (kdVC ho (by omega)) kd_56 (by decide)))).trans (begF_out (by omega)))) ?_
        refine N.ist_5 C dX1_begin_69 (hN 5 (by decide)) rfl ?_
        refine E.iconst C dX1_begin_71 (by decide) ?_
        refine N.ist_6 C dX1_begin_72 (hN 6 (by decide)) rfl ?_
        have lp74 : ∀ (k74 : Nat) (t : Int), (v o 5 - t).toNat = k74 → (0 ≤ t ∧ t ≤ v o 5) → E X G 0 0 1000 (begF v o s sl c (c + 1) t) 74 [some (vr 54), some (vr o), some (vi s), some (vi sl), some (vi c), some (vi (v (o + 5 + c) 0)), some (vi t), none] [] := by
          intro k74
          induction k74 using Nat.strongRecOn with
          | ind k74 ih74 =>
            intro t hk74 hI74
            obtain ⟨ht2, ht3⟩ := hI74
            refine E.iload C dX1_begin_74 rfl ?_
            refine E.aload_n C dX1_begin_76 rfl rfl ?_
            refine N.getI C fa_X1_47 rfl dX1_begin_77 kd_54 (x := v o 5) begF_6 ?_
            refine E.icmp_ge C dX1_begin_80 (tgt := 134) (by decide) (fun h80 => ?_) (fun h80 => ?_)
            · skip
              refine N.iinc_4 C dX1_begin_134 (hN 4 (by decide)) rfl (by omega) ?_
              refine E.goto C dX1_begin_137 (tgt := 33) (by decide) ?_
              refine E.heq (h' := begF v o s sl (c + 1) (c + 1) 0) (begF_e (by omega)) ?_
              refine E.drop (i := 5) ?_
              refine E.drop (i := 6) ?_
              exact ih33 _ (by omega) (c + 1) rfl (by omega)
            · skip
              have hmp : mayP v o s sl c t = true ↔ (v (o + 13 + t) 0 = s ∧ ¬ fitI (v (o + 13 + t) 1) (v (o + 13 + t) 2) (v (o + 13 + t) 3) (v (o + 13 + t) 4) (v (o + 13 + t) 5) (v (o + 13 + t) 6) c (v (o + 5 + c) 0) sl = 0) := by unfold mayP fitV; simp only [Bool.and_eq_true, decide_eq_true_eq]
              refine E.aload_n C dX1_begin_83 rfl rfl ?_
              refine N.getR C fa_X1_66 rfl dX1_begin_84 (kdV ho) (x := o + 2) (rvV1 ho) (by have := posVk ho; omega) ?_
              refine E.iload C dX1_begin_87 rfl ?_
              refine N.aald C (t := 5) (by decide) dX1_begin_89 (kdVt ho) (lnVt ho) (by omega) (x := o + 13 + t) (rvVt ho (by omega)) (by have := posVk ho; omega) ?_
              refine N.ast_7 C dX1_begin_90 (hN 7 (by decide)) rfl ?_
              refine E.aload C dX1_begin_92 rfl ?_
              refine N.getI C fa_X1_70 rfl dX1_begin_94 (kdVT ho (by omega)) (x := v (o + 13 + t) 0) (begF_out (by omega)) ?_
              refine E.iload_n C dX1_begin_97 rfl rfl ?_
              refine E.icmp_ne C dX1_begin_98 (tgt := 128) (by decide) (fun h98 => ?_) (fun h98 => ?_)
              · skip
                refine N.iinc_6 C dX1_begin_128 (hN 6 (by decide)) rfl (by omega) ?_
                refine E.goto C dX1_begin_131 (tgt := 74) (by decide) ?_
                refine E.heq (h' := begF v o s sl c (c + 1) (t + 1)) (by first | exact begF_t ht0 ht2 (hmp.mpr (by omega)) | exact begF_n ht2 (Bool.eq_false_iff.mpr (fun hq => by have := hmp.mp hq; omega))) ?_
                refine E.drop (i := 7) ?_
                exact ih74 _ (by omega) (t + 1) rfl (by omega)
              · skip
                refine E.aload C dX1_begin_101 rfl ?_
                refine E.iload C dX1_begin_103 rfl ?_
                refine E.iload C dX1_begin_105 rfl ?_
                refine E.iload_n C dX1_begin_107 rfl rfl ?_
                refine N.callVp (S := []) (As := [vi c, vi (v (o + 5 + c) 0), vi sl]) C hX (ok_X6_fitFor G (o + 13 + t) c (v (o + 5 + c) 0) sl (begF v o s sl c (c + 1) t) (kdVT ho (by omega)) (thOK_of (begF_out (by omega)) (begF_out (by omega)) (hth t ht2 (by omega))) ⟨(hfz c ht0 (by omega)).1, (hfz c ht0 (by omega)).2, hsl.1, hsl.2⟩) yf_X6_fitFor yv_X6_fitFor ml_X1_75 rfl rfl rfl (kdVT ho (by omega)) (by decide) (by decide) (Nat.le_of_ble_eq_true rfl) dX1_begin_108 rfl ?_
                refine E.veq (x' := fitI (v (o + 13 + t) 1) (v (o + 13 + t) 2) (v (o + 13 + t) 3) (v (o + 13 + t) 4) (v (o + 13 + t) 5) (v (o + 13 + t) 6) c (v (o + 5 + c) 0) sl) (by rw [show (begF v o s sl c (c + 1) t) (o + 13 + t) 1 = v (o + 13 + t) 1 from (begF_out (by omega)), show (begF v o s sl c (c + 1) t) (o + 13 + t) 2 = v (o + 13 + t) 2 from (begF_out (by omega)), show (begF v o s sl c (c + 1) t) (o + 13 + t) 3 = v (o + 13 + t) 3 from (begF_out (by omega)), show (begF v o s sl c (c + 1) t) (o + 13 + t) 4 = v (o + 13 + t) 4 from (begF_out (by omega)), show (begF v o s sl c (c + 1) t) (o + 13 + t) 5 = v (o + 13 + t) 5 from (begF_out (by omega)), show (begF v o s sl c (c + 1) t) (o + 13 + t) 6 = v (o + 13 + t) 6 from (begF_out (by omega))]) ?_
                refine E.if_eq C dX1_begin_111 (tgt := 128) (by decide) (fun h111 => ?_) (fun h111 => ?_)
                · skip
                  refine N.iinc_6 C dX1_begin_128 (hN 6 (by decide)) rfl (by omega) ?_
                  refine E.goto C dX1_begin_131 (tgt := 74) (by decide) ?_
                  refine E.heq (h' := begF v o s sl c (c + 1) (t + 1)) (by first | exact begF_t ht0 ht2 (hmp.mpr (by omega)) | exact begF_n ht2 (Bool.eq_false_iff.mpr (fun hq => by have := hmp.mp hq; omega))) ?_
                  refine E.drop (i := 7) ?_
                  exact ih74 _ (by omega) (t + 1) rfl (by omega)
                · skip
                  refine E.aload_n C dX1_begin_114 rfl rfl ?_
                  refine N.getR C fa_X1_9 rfl dX1_begin_115 kd_54 (x := 55) (by decide +kernel) (by decide) ?_
                  refine E.iload C dX1_begin_118 rfl ?_
                  refine E.dup2 C dX1_begin_120 ?_
                  refine N.iald C dX1_begin_121 kd_55 ln_55 (by omega) (x := orN (mayP v o s sl c) t.toNat) (begF_m (by omega)) ?_
                  refine E.iconst C dX1_begin_122 (by decide) ?_
                  refine E.iload C dX1_begin_123 rfl ?_
                  refine E.ishl C dX1_begin_125 ?_
                  refine E.ior C dX1_begin_126 ?_
                  refine N.iast C dX1_begin_127 kd_55 ln_55 (by omega) ?_
                  refine N.iinc_6 C dX1_begin_128 (hN 6 (by decide)) rfl (by omega) ?_
                  refine E.goto C dX1_begin_131 (tgt := 74) (by decide) ?_
                  refine E.heq (h' := begF v o s sl c (c + 1) (t + 1)) (by first | exact begF_t ht0 ht2 (hmp.mpr (by omega)) | exact begF_n ht2 (Bool.eq_false_iff.mpr (fun hq => by have := hmp.mp hq; omega))) ?_
                  refine E.drop (i := 7) ?_
                  exact ih74 _ (by omega) (t + 1) rfl (by omega)
        refine E.heq (h' := begF v o s sl c (c + 1) 0) (begF_c ht0) ?_
        exact lp74 _ 0 rfl (by omega)
  refine E.heq (h' := begF v o s sl 0 0 0) (begF_0 (by omega)) ?_
  exact lp33 _ 0 rfl (by omega)

set_option maxHeartbeats 4000000 in
set_option maxRecDepth 20000 in
theorem ok_X1_leftOf (G : GT) (o s q : Int) (v : VT) (ho : isV o) (hb : 0 ≤ v o 5 ∧ v o 5 ≤ 10) (hth : ∀ t, 0 ≤ t → t < v o 5 → thOK v (o + 13 + t)) : MP G yX1_leftOf cX1_leftOf 7 (some .int) 1 21 [vr 54, vr o, vi s, vi q] v (orN (leftB v o s q) (v o 5).toNat) := by
  refine MN.of pn_X1_leftOf [some (vr 54), some (vr o), some (vi s), some (vi q), none, none, none] 3 rfl rfl (fun X C hX hn hR => ?_)
  have hN : ∀ i : Nat, i < 7 → i < xn X := fun i h => by rw [hn]; exact h
  refine E.rngk (fun hinv => ?_)
  refine E.loc (fun hloc => ?_)
  have hin_2 : in32 s := hloc _ (List.mem_of_getElem? (i := 2) rfl)
  have hin_3 : in32 q := hloc _ (List.mem_of_getElem? (i := 3) rfl)
  refine E.iconst C dX1_leftOf_0 (by decide) ?_
  refine N.ist_4 C dX1_leftOf_1 (hN 4 (by decide)) rfl ?_
  refine E.iconst C dX1_leftOf_3 (by decide) ?_
  refine N.ist_5 C dX1_leftOf_4 (hN 5 (by decide)) rfl ?_
  have lp6 : ∀ (k6 : Nat) (x : Int) (t : Int), (v o 5 - t).toNat = k6 → (0 ≤ t ∧ t ≤ v o 5 ∧ x = orN (leftB v o s q) t.toNat) → E X G 0 0 1000 v 6 [some (vr 54), some (vr o), some (vi s), some (vi q), some (vi x), some (vi t), none] [] := by
    intro k6
    induction k6 using Nat.strongRecOn with
    | ind k6 ih6 =>
      intro x t hk6 hI6
      obtain ⟨ht0, ht1, hcx⟩ := hI6
      refine E.iload C dX1_leftOf_6 rfl ?_
      refine E.aload_n C dX1_leftOf_8 rfl rfl ?_
      refine N.getI C fa_X1_44 rfl dX1_leftOf_9 (kdV ho) (x := v o 5) rfl ?_
      refine E.icmp_ge C dX1_leftOf_12 (tgt := 81) (by decide) (fun h12 => ?_) (fun h12 => ?_)
      · skip
        refine E.iload C dX1_leftOf_81 rfl ?_
        exact N.iret C hR dX1_leftOf_83 (fun hi hx => by exact ⟨by rw [hcx]; congr 1; omega, rfl⟩)
      · skip
        have ho1 := outI_01 (v (o + 13 + t) 1) (v (o + 13 + t) 3) (v (o + 13 + t) 4)
        refine E.aload_n C dX1_leftOf_15 rfl rfl ?_
        refine N.getR C fa_X1_66 rfl dX1_leftOf_16 (kdV ho) (x := o + 2) (rvV1 ho) (by have := posVk ho; omega) ?_
        refine E.iload C dX1_leftOf_19 rfl ?_
        refine N.aald C (t := 5) (by decide) dX1_leftOf_21 (kdVt ho) (lnVt ho) (by omega) (x := o + 13 + t) (rvVt ho (by omega)) (by have := posVk ho; omega) ?_
        refine N.ast_6 C dX1_leftOf_22 (hN 6 (by decide)) rfl ?_
        refine E.aload C dX1_leftOf_24 rfl ?_
        refine N.getI C fa_X1_70 rfl dX1_leftOf_26 (kdVT ho (by omega)) (x := v (o + 13 + t) 0) rfl ?_
        refine E.iload_n C dX1_leftOf_29 rfl rfl ?_
        refine E.icmp_ne C dX1_leftOf_30 (tgt := 75) (by decide) (fun h30 => ?_) (fun h30 => ?_)
        · skip
          refine N.iinc_5 C dX1_leftOf_75 (hN 5 (by decide)) rfl (by omega) ?_
          refine E.goto C dX1_leftOf_78 (tgt := 6) (by decide) ?_
          refine E.drop (i := 6) ?_
          exact ih6 _ (by omega) x (t + 1) rfl (by refine ⟨by omega, by omega, ?_⟩; rw [orN_step ht0]; first | (rw [if_pos (leftB_iff.mpr (by omega)), hcx]) | (rw [if_neg (fun hq => by have := leftB_iff.mp hq; omega)]; exact hcx))
        · skip
          refine E.aload_n C dX1_leftOf_33 rfl rfl ?_
          refine N.getR C fa_X1_18 rfl dX1_leftOf_34 kd_54 (x := 57) (by decide +kernel) (by decide) ?_
          refine E.iload C dX1_leftOf_37 rfl ?_
          refine N.iald C dX1_leftOf_39 kd_57 ln_57 (by omega) (x := v 57 t) rfl ?_
          refine E.bipush C dX1_leftOf_40 (by decide) ?_
          refine E.icmp_ne C dX1_leftOf_42 (tgt := 75) (by decide) (fun h42 => ?_) (fun h42 => ?_)
          · skip
            refine N.iinc_5 C dX1_leftOf_75 (hN 5 (by decide)) rfl (by omega) ?_
            refine E.goto C dX1_leftOf_78 (tgt := 6) (by decide) ?_
            refine E.drop (i := 6) ?_
            exact ih6 _ (by omega) x (t + 1) rfl (by refine ⟨by omega, by omega, ?_⟩; rw [orN_step ht0]; first | (rw [if_pos (leftB_iff.mpr (by omega)), hcx]) | (rw [if_neg (fun hq => by have := leftB_iff.mp hq; omega)]; exact hcx))
          · skip
            refine E.aload C dX1_leftOf_45 rfl ?_
            refine N.callVp (S := []) (As := []) C hX (ok_X6_isWornOut G (o + 13 + t) v (kdVT ho (by omega)) (hth t ht0 (by omega))) yf_X6_isWornOut yv_X6_isWornOut ml_X1_87 rfl rfl rfl (kdVT ho (by omega)) (by decide) (by decide) (Nat.le_of_ble_eq_true rfl) dX1_leftOf_47 rfl ?_
            refine E.if_ne C dX1_leftOf_50 (tgt := 75) (by decide) (fun h50 => ?_) (fun h50 => ?_)
            · skip
              refine N.iinc_5 C dX1_leftOf_75 (hN 5 (by decide)) rfl (by omega) ?_
              refine E.goto C dX1_leftOf_78 (tgt := 6) (by decide) ?_
              refine E.drop (i := 6) ?_
              exact ih6 _ (by omega) x (t + 1) rfl (by refine ⟨by omega, by omega, ?_⟩; rw [orN_step ht0]; first | (rw [if_pos (leftB_iff.mpr (by omega)), hcx]) | (rw [if_neg (fun hq => by have := leftB_iff.mp hq; omega)]; exact hcx))
            · skip
              refine E.iload_n C dX1_leftOf_53 rfl rfl ?_
              refine E.if_ne C dX1_leftOf_54 (tgt := 66) (by decide) (fun h54 => ?_) (fun h54 => ?_)
              · skip
                refine E.iload C dX1_leftOf_66 rfl ?_
                refine E.iconst C dX1_leftOf_68 (by decide) ?_
                refine E.iload C dX1_leftOf_69 rfl ?_
                refine E.ishl C dX1_leftOf_71 ?_
                refine E.ior C dX1_leftOf_72 ?_
                refine N.ist_4 C dX1_leftOf_73 (hN 4 (by decide)) rfl ?_
                refine N.iinc_5 C dX1_leftOf_75 (hN 5 (by decide)) rfl (by omega) ?_
                refine E.goto C dX1_leftOf_78 (tgt := 6) (by decide) ?_
                refine E.drop (i := 6) ?_
                exact ih6 _ (by omega) (jor x (jshl 1 t)) (t + 1) rfl (by refine ⟨by omega, by omega, ?_⟩; rw [orN_step ht0]; first | (rw [if_pos (leftB_iff.mpr (by omega)), hcx]) | (rw [if_neg (fun hq => by have := leftB_iff.mp hq; omega)]; exact hcx))
              · skip
                refine E.aload C dX1_leftOf_57 rfl ?_
                refine N.getI C fa_X1_91 rfl dX1_leftOf_59 (kdVT ho (by omega)) (x := v (o + 13 + t) 1) rfl ?_
                refine E.iconst C dX1_leftOf_62 (by decide) ?_
                refine E.icmp_eq C dX1_leftOf_63 (tgt := 75) (by decide) (fun h63 => ?_) (fun h63 => ?_)
                · skip
                  refine N.iinc_5 C dX1_leftOf_75 (hN 5 (by decide)) rfl (by omega) ?_
                  refine E.goto C dX1_leftOf_78 (tgt := 6) (by decide) ?_
                  refine E.drop (i := 6) ?_
                  exact ih6 _ (by omega) x (t + 1) rfl (by refine ⟨by omega, by omega, ?_⟩; rw [orN_step ht0]; first | (rw [if_pos (leftB_iff.mpr (by omega)), hcx]) | (rw [if_neg (fun hq => by have := leftB_iff.mp hq; omega)]; exact hcx))
                · skip
                  refine E.iload C dX1_leftOf_66 rfl ?_
                  refine E.iconst C dX1_leftOf_68 (by decide) ?_
                  refine E.iload C dX1_leftOf_69 rfl ?_
                  refine E.ishl C dX1_leftOf_71 ?_
                  refine E.ior C dX1_leftOf_72 ?_
                  refine N.ist_4 C dX1_leftOf_73 (hN 4 (by decide)) rfl ?_
                  refine N.iinc_5 C dX1_leftOf_75 (hN 5 (by decide)) rfl (by omega) ?_
                  refine E.goto C dX1_leftOf_78 (tgt := 6) (by decide) ?_
                  refine E.drop (i := 6) ?_
                  exact ih6 _ (by omega) (jor x (jshl 1 t)) (t + 1) rfl (by refine ⟨by omega, by omega, ?_⟩; rw [orN_step ht0]; first | (rw [if_pos (leftB_iff.mpr (by omega)), hcx]) | (rw [if_neg (fun hq => by have := leftB_iff.mp hq; omega)]; exact hcx))
  exact lp6 _ 0 0 rfl (by exact ⟨by omega, by omega, rfl⟩)
