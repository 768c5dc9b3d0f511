set_option maxHeartbeats 4000000 in
set_option maxRecDepth 20000 in
theorem ok_X8_odds (G : GT) (s what sl : Int) (v : VT) (hW : WFV v 4) (hal : v 1 10 = sl) (hsl : 0 ≤ sl ∧ sl ≤ 4) : MNl G yX8_odds cX8_odds 6 (some .long) 3 73 [vr 1, vi s, vi what] v (fun x w => (∀ a j, (a < 27 ∨ 49 < a) → (a < 54 ∨ 59 < a) → w a j = v a j) ∧ ((¬ ((0 ≤ s ∧ s ≤ 1) ∧ (0 ≤ what ∧ what ≤ 1)) ∧ x = -1) ∨ (((0 ≤ s ∧ s ≤ 1) ∧ (0 ≤ what ∧ what ≤ 1)) ∧ x = oddA v 4 s sl what))) := by
  refine MN.of pn_X8_odds [some (vr 1), some (vi s), some (vi what), none, none, none] 3 rfl rfl (fun X C hX hn hR => ?_)
  have hN : ∀ i : Nat, i < 6 → i < xn X := fun i h => by rw [hn]; exact h
  refine E.rngk (fun hinv => ?_)
  refine E.loc (fun hloc => ?_)
  have hin_1 : in32 s := hloc _ (List.mem_of_getElem? (i := 1) rfl)
  have hin_2 : in32 what := hloc _ (List.mem_of_getElem? (i := 2) rfl)
  have hW1 := hW.1
  have hW2 := hW.2.1
  have hob := odd_bd (A := v) (o := 4) (s := s) (sl := sl)
  refine E.iload_n C dX8_odds_0 rfl rfl ?_
  refine N.callSp (S := []) (As := [vi s]) C hX (ok_X8_isSlot G s v) yf_X8_isSlot yv_X8_isSlot ml_X8_175 rfl (by decide) (Nat.le_of_ble_eq_true rfl) dX8_odds_1 rfl ?_
  refine E.if_eq C dX8_odds_4 (tgt := 14) (by decide) (fun h4 => ?_) (fun h4 => ?_)
  · have h4 := b0.mp h4
    refine E.ldc2 C ct_X8_258 (x := -1) (by decide) dX8_odds_14 ?_
    exact N.lret C hR dX8_odds_17 (fun hi hx => by exact ⟨fun a j _ _ => rfl, Or.inl ⟨by omega, rfl⟩⟩)
  · have h4 := b0n.mp h4
    refine E.iload_n C dX8_odds_7 rfl rfl ?_
    refine N.callSp (S := []) (As := [vi what]) C hX (ok_X8_isZeroOrOne G what v) yf_X8_isZeroOrOne yv_X8_isZeroOrOne ml_X8_182 rfl (by decide) (Nat.le_of_ble_eq_true rfl) dX8_odds_8 rfl ?_
    refine E.if_ne C dX8_odds_11 (tgt := 18) (by decide) (fun h11 => ?_) (fun h11 => ?_)
    · have h11 := b0n.mp h11
      refine E.iconst C dX8_odds_18 (by decide) ?_
      refine E.aload_n C dX8_odds_19 rfl rfl ?_
      refine N.getR C fa_X8_19 rfl dX8_odds_20 kd_1 (x := 4) (by decide +kernel) (by decide) ?_
      refine N.getI C fa_X8_192 rfl dX8_odds_23 (kdV hv4) (x := v 4 4) rfl ?_
      refine E.ishl C dX8_odds_26 ?_
      obtain ⟨ways, hways⟩ : ∃ zqv, zqv = (jshl 1 (v 4 4)) := ⟨_, rfl⟩
      refine E.veq hways.symm ?_
      have hw8 := pw_8 hW1
      have hwy : ways = pwI (v 4 4).toNat := hways.trans hw8.1
      refine N.ist_3 C dX8_odds_27 (hN 3 (by decide)) rfl ?_
      refine E.iconst C dX8_odds_28 (by decide) ?_
      refine N.ist_4 C dX8_odds_29 (hN 4 (by decide)) rfl ?_
      refine E.iconst C dX8_odds_31 (by decide) ?_
      refine N.ist_5 C dX8_odds_32 (hN 5 (by decide)) rfl ?_
      have lp34 : ∀ (k34 : Nat) (good : Int) (x : Int) (w : VT), (ways - x).toNat = k34 → (0 ≤ x ∧ x ≤ ways ∧ good = oddN v 4 s sl x.toNat ∧ (∀ a j, (a < 27 ∨ 49 < a) → (a < 54 ∨ 59 < a) → w a j = v a j)) → E X G 0 0 1000 w 34 [some (vr 1), some (vi s), some (vi what), some (vi ways), some (vi good), some (vi x)] [] := by
        intro k34
        induction k34 using Nat.strongRecOn with
        | ind k34 ih34 =>
          intro good x w hk34 hI34
          obtain ⟨hx0, hx1, hgd, hfr⟩ := hI34; have sw : Sm w 4 v 4 := sm_of (fun a j g1 g2 => hfr a j (by omega) (by omega)) hW1.2 hW2.2; have Ww := sw.wfv hW; have Ww1 := Ww.1; have Ww2 := Ww.2.1; have Ww3 := Ww.lz; have hox := hob x.toNat
          refine E.iload C dX8_odds_34 rfl ?_
          refine E.iload_n C dX8_odds_36 rfl rfl ?_
          refine E.icmp_ge C dX8_odds_37 (tgt := 109) (by decide) (fun h37 => ?_) (fun h37 => ?_)
          · skip
            have lp109 : ∀ (k109 : Nat) (m : Nat) (g : Int) (wy : Int), (wy).toNat = k109 → (wy = pwI m ∧ wy ≤ 256 ∧ 0 ≤ g ∧ g ≤ 256 ∧ redN m g = redN (v 4 4).toNat (oddN v 4 s sl (pwI (v 4 4).toNat).toNat)) → E X G 0 0 1000 w 109 [some (vr 1), some (vi s), some (vi what), some (vi wy), some (vi g), some (vi x)] [] := by
              intro k109
              induction k109 using Nat.strongRecOn with
              | ind k109 ih109 =>
                intro m g wy hk109 hI109
                obtain ⟨hm0, hm1, hg0, hg1, hrr⟩ := hI109; have hpm := pw_pos m
                refine E.iload_n C dX8_odds_109 rfl rfl ?_
                refine E.iconst C dX8_odds_110 (by decide) ?_
                refine E.icmp_le C dX8_odds_111 (tgt := 134) (by decide) (fun h111 => ?_) (fun h111 => ?_)
                · skip
                  refine E.iload_n C dX8_odds_134 rfl rfl ?_
                  refine E.if_ne C dX8_odds_135 (tgt := 144) (by decide) (fun h135 => ?_) (fun h135 => ?_)
                  · skip
                    refine E.iload_n C dX8_odds_144 rfl rfl ?_
                    refine E.i2l C dX8_odds_145 ?_
                    exact N.lret C hR dX8_odds_146 (fun hi hx => by refine ⟨hfr, Or.inr ⟨by omega, ?_⟩⟩; have hrd := red_end (m := m) (g := g) (by omega); unfold oddA; rw [← hrr, hrd]; first | rw [if_pos (by omega)] | (rw [if_neg (by omega)]; exact hm0))
                  · skip
                    refine E.iload C dX8_odds_138 rfl ?_
                    refine E.i2l C dX8_odds_140 ?_
                    refine E.goto C dX8_odds_141 (tgt := 146) (by decide) ?_
                    exact N.lret C hR dX8_odds_146 (fun hi hx => by refine ⟨hfr, Or.inr ⟨by omega, ?_⟩⟩; have hrd := red_end (m := m) (g := g) (by omega); unfold oddA; rw [← hrr, hrd]; first | rw [if_pos (by omega)] | (rw [if_neg (by omega)]; exact hm0))
                · skip
                  refine E.iload C dX8_odds_114 rfl ?_
                  refine E.iconst C dX8_odds_116 (by decide) ?_
                  refine E.irem C dX8_odds_117 (by omega) (by omega) ?_
                  refine E.if_ne C dX8_odds_118 (tgt := 134) (by decide) (fun h118 => ?_) (fun h118 => ?_)
                  · skip
                    refine E.iload_n C dX8_odds_134 rfl rfl ?_
                    refine E.if_ne C dX8_odds_135 (tgt := 144) (by decide) (fun h135 => ?_) (fun h135 => ?_)
                    · skip
                      refine E.iload_n C dX8_odds_144 rfl rfl ?_
                      refine E.i2l C dX8_odds_145 ?_
                      exact N.lret C hR dX8_odds_146 (fun hi hx => by refine ⟨hfr, Or.inr ⟨by omega, ?_⟩⟩; have hrd := red_end (m := m) (g := g) (by omega); unfold oddA; rw [← hrr, hrd]; first | rw [if_pos (by omega)] | (rw [if_neg (by omega)]; exact hm0))
                    · skip
                      refine E.iload C dX8_odds_138 rfl ?_
                      refine E.i2l C dX8_odds_140 ?_
                      refine E.goto C dX8_odds_141 (tgt := 146) (by decide) ?_
                      exact N.lret C hR dX8_odds_146 (fun hi hx => by refine ⟨hfr, Or.inr ⟨by omega, ?_⟩⟩; have hrd := red_end (m := m) (g := g) (by omega); unfold oddA; rw [← hrr, hrd]; first | rw [if_pos (by omega)] | (rw [if_neg (by omega)]; exact hm0))
                  · skip
                    refine E.iload C dX8_odds_121 rfl ?_
                    refine E.iconst C dX8_odds_123 (by decide) ?_
                    refine E.idiv C dX8_odds_124 (by omega) (by omega) ?_
                    refine N.ist_4 C dX8_odds_125 (hN 4 (by decide)) rfl ?_
                    refine E.iload_n C dX8_odds_127 rfl rfl ?_
                    refine E.iconst C dX8_odds_128 (by decide) ?_
                    refine E.idiv C dX8_odds_129 (by omega) (by omega) ?_
                    refine N.ist_3 C dX8_odds_130 (hN 3 (by decide)) rfl ?_
                    refine E.goto C dX8_odds_131 (tgt := 109) (by decide) ?_
                    exact ih109 _ (by omega) (m - 1) (g / 2) (wy / 2) rfl (by (have hrs := red_step (m := m) (g := g) (by omega) (by omega); exact ⟨by rw [hm0]; exact hrs.1, by omega, by omega, by omega, hrs.2.symm.trans hrr⟩))
            exact lp109 _ ((v 4 4).toNat) good ways rfl (by (have e : x = pwI (v 4 4).toNat := (by omega); exact ⟨hwy, by omega, by omega, by omega, by rw [hgd, e]⟩))
          · skip
            refine E.aload_n C dX8_odds_40 rfl rfl ?_
            refine N.getR C fa_X8_23 rfl dX8_odds_41 kd_1 (x := 27) (by decide +kernel) (by decide) ?_
            refine E.aload_n C dX8_odds_44 rfl rfl ?_
            refine N.getR C fa_X8_19 rfl dX8_odds_45 kd_1 (x := 4) (by decide +kernel) (by decide) ?_
            refine N.callVe (S := []) (As := [vr 4]) C hX (ok_X7_becomeBodies G 27 4 w hv27 hv4 (Or.inr (by decide)) Ww1 Ww2 Ww3) yf_X7_becomeBodies yv_X7_becomeBodies ml_X8_216 rfl rfl rfl (kdV hv27) (by decide) (by decide) (Nat.le_of_ble_eq_true rfl) dX8_odds_48 rfl ?_
            refine E.aload_n C dX8_odds_51 rfl rfl ?_
            refine N.getR C fa_X8_23 rfl dX8_odds_52 kd_1 (x := 27) (by decide +kernel) (by decide) ?_
            refine E.iload C dX8_odds_55 rfl ?_
            have b48 : Sm (bodF w 27 4 (w 4 4) (w 4 5)) 27 v 4 := (sm_bod Ww1 Ww2).tr sw
            have b48W := b48.wfv hW
            refine N.callVe (S := []) (As := [vi x]) C hX (ok_X7_growEach G 27 x (bodF w 27 4 (w 4 4) (w 4 5)) hv27 b48W.1 b48W.ch) yf_X7_growEach yv_X7_growEach ml_X8_260 rfl rfl rfl (kdV hv27) (by decide) (by decide) (Nat.le_of_ble_eq_true rfl) dX8_odds_57 rfl ?_
            obtain ⟨w60, hw60⟩ : ∃ zqv, zqv = (geF (bodF w 27 4 (w 4 4) (w 4 5)) 27 x ((bodF w 27 4 (w 4 4) (w 4 5)) 27 4)) := ⟨_, rfl⟩
            refine E.heq hw60.symm ?_
            have s60 : Sm w60 27 (geF v 4 x (v 4 4)) 4 := by rw [hw60]; exact b48.gef hW1.2
            have W60 := s60.wfv hW.gef
            have f60 : (∀ a j, (a < 27 ∨ 49 < a) → (a < 54 ∨ 59 < a) → w60 a j = v a j) := fun a j g1 g2 => by rw [hw60, geF_out (by have := b48W.1; omega), bodF_out (by omega) (by omega) (by omega)]; exact hfr a j g1 g2
            refine E.aload_n C dX8_odds_60 rfl rfl ?_
            refine N.getR C fa_X8_52 rfl dX8_odds_61 kd_1 (x := 54) (by decide +kernel) (by decide) ?_
            refine E.aload_n C dX8_odds_64 rfl rfl ?_
            refine N.getR C fa_X8_23 rfl dX8_odds_65 kd_1 (x := 27) (by decide +kernel) (by decide) ?_
            refine E.iload_n C dX8_odds_68 rfl rfl ?_
            refine E.aload_n C dX8_odds_69 rfl rfl ?_
            refine N.getI C fa_X8_67 rfl dX8_odds_70 kd_1 (x := v 1 10) (f60 _ _ (by omega) (by omega)) ?_
            refine E.veq (x' := sl) (hal) ?_
            refine N.callVe (S := []) (As := [vr 27, vi s, vi sl]) C hX (ok_X1_begin G 27 s sl w60 hv27 W60.1 W60.2.1 W60.th W60.fz ⟨by omega, by omega⟩) yf_X1_begin yv_X1_begin ml_X8_264 rfl rfl rfl kd_54 (by decide) (by decide) (Nat.le_of_ble_eq_true rfl) dX8_odds_73 rfl ?_
            obtain ⟨w76, hw76⟩ : ∃ zqv, zqv = (begF w60 27 s sl (w60 27 4) (w60 27 4) 0) := ⟨_, rfl⟩
            refine E.heq hw76.symm ?_
            have hbq := beg_all (s := s) (sl := sl) W60.1 W60.2.1
            rw [← hw76] at hbq
            obtain ⟨b5, b6, b7, b8, b9, b10, b11, -, -, hf76o⟩ := id hbq
            have hf76 : ∀ a j, (a < 54 ∨ 57 < a) → w76 a j = w60 a j := hf76o
            refine E.aload_n C dX8_odds_76 rfl rfl ?_
            refine N.getR C fa_X8_52 rfl dX8_odds_77 kd_1 (x := 54) (by decide +kernel) (by decide) ?_
            refine N.callVv (S := []) (As := []) C hX (ok_X1_warmAll G w76 (by rw [b5]; exact W60.1) (by rw [b6]; have := W60.2.1; omega) (by rw [b5, b6]; exact b7) (by rw [b5]; exact b8) (by rw [b5]; exact b9) (by rw [b5, b6]; exact b10)) yf_X1_warmAll yv_X1_warmAll ml_X8_267 rfl rfl rfl kd_54 (by decide) (by decide) (Nat.le_of_ble_eq_true rfl) dX8_odds_80 rfl (fun w80 hp80 => ?_)
            have hmx := hp80.2.2
            rw [b5, b6] at hmx
            have e80 : w80 54 7 = warmV (geF v 4 x (v 4 4)) 4 s sl := (warm_max W60.1.1 (max_may b11 hmx)).trans s60.warm
            refine E.aload_n C dX8_odds_83 rfl rfl ?_
            refine N.getR C fa_X8_52 rfl dX8_odds_84 kd_1 (x := 54) (by decide +kernel) (by decide) ?_
            refine N.getI C fa_X8_189 rfl dX8_odds_87 kd_54 (x := w80 54 7) rfl ?_
            refine E.aload_n C dX8_odds_90 rfl rfl ?_
            refine N.getR C fa_X8_19 rfl dX8_odds_91 kd_1 (x := 4) (by decide +kernel) (by decide) ?_
            refine N.getI C fa_X8_192 rfl dX8_odds_94 (kdV hv4) (x := w80 4 4) rfl ?_
            refine E.veq (x' := v 4 4) ((hp80.1 _ _ (Or.inl (by decide)) (by decide)).trans ((hf76 _ _ (by decide)).trans (f60 _ _ (by decide) (by decide)))) ?_
            refine E.icmp_ne C dX8_odds_97 (tgt := 103) (by decide) (fun h97 => ?_) (fun h97 => ?_)
            · skip
              refine N.iinc_5 C dX8_odds_103 (hN 5 (by decide)) rfl (by omega) ?_
              refine E.goto C dX8_odds_106 (tgt := 34) (by decide) ?_
              exact ih34 _ (by omega) good (x + 1) w80 rfl (by refine ⟨by omega, by omega, ?_, fun a j g1 g2 => (hp80.1 a j (Or.inl (by omega)) (by omega)).trans ((hf76 a j (by omega)).trans (f60 a j g1 g2))⟩; rw [odd_step hx0, ← hgd]; unfold oddI; rw [← e80]; first | (rw [if_pos (by omega)]) | (rw [if_neg (by omega)]; omega))
            · skip
              refine N.iinc_4 C dX8_odds_100 (hN 4 (by decide)) rfl (by omega) ?_
              refine N.iinc_5 C dX8_odds_103 (hN 5 (by decide)) rfl (by omega) ?_
              refine E.goto C dX8_odds_106 (tgt := 34) (by decide) ?_
              exact ih34 _ (by omega) (good + 1) (x + 1) w80 rfl (by refine ⟨by omega, by omega, ?_, fun a j g1 g2 => (hp80.1 a j (Or.inl (by omega)) (by omega)).trans ((hf76 a j (by omega)).trans (f60 a j g1 g2))⟩; rw [odd_step hx0, ← hgd]; unfold oddI; rw [← e80]; first | (rw [if_pos (by omega)]) | (rw [if_neg (by omega)]; omega))
      exact lp34 _ 0 0 v rfl (by exact ⟨by omega, by omega, rfl, fun a j _ _ => rfl⟩)
    · have h11 := b0.mp h11
      refine E.ldc2 C ct_X8_258 (x := -1) (by decide) dX8_odds_14 ?_
      exact N.lret C hR dX8_odds_17 (fun hi hx => by exact ⟨fun a j _ _ => rfl, Or.inl ⟨by omega, rfl⟩⟩)

set_option maxHeartbeats 4000000 in
set_option maxRecDepth 20000 in
theorem ok_X9_odds (G : GT) (s what sl : Int) (A v : VT) (hA : WFV A 0) (hM : MR A (v 120)) (hal : v 119 2 = sl) (hsl : 0 ≤ sl ∧ sl ≤ 4) : MNl G yX9_odds cX9_odds 10 (some .long) 4 95 [vr 119, vi s, vi what] v (fun x w => (∀ a j, (¬ a = 119 ∨ ¬ j = 16) → ¬ a = 120 → (a < 124 ∨ 128 < a) → w a j = v a j) ∧ (∀ j, j < 597 → w 120 j = v 120 j) ∧ ((¬ ((0 ≤ s ∧ s ≤ 1) ∧ (0 ≤ what ∧ what ≤ 1)) ∧ x = -1) ∨ (((0 ≤ s ∧ s ≤ 1) ∧ (0 ≤ what ∧ what ≤ 1)) ∧ x = oddA A 0 s sl what))) := by
  refine MN.of pn_X9_odds [some (vr 119), some (vi s), some (vi what), none, none, none, none, none, none, none] 7 rfl rfl (fun X C hX hn hR => ?_)
  have hN : ∀ i : Nat, i < 10 → i < xn X := fun i h => by rw [hn]; exact h
  refine E.rngk (fun hinv => ?_)
  refine E.loc (fun hloc => ?_)
  have hin_1 : in32 s := hloc _ (List.mem_of_getElem? (i := 1) rfl)
  have hin_2 : in32 what := hloc _ (List.mem_of_getElem? (i := 2) rfl)
  have hc := hM.1
  have hb := hM.2.1
  have hA1 := hA.1
  have hA2 := hA.2.1
  have hob := odd_bd (A := A) (o := 0) (s := s) (sl := sl)
  refine E.iload_n C dX9_odds_0 rfl rfl ?_
  refine N.callSp (S := []) (As := [vi s]) C hX (ok_X9_isSlot G s v) yf_X9_isSlot yv_X9_isSlot ml_X9_216 rfl (by decide) (Nat.le_of_ble_eq_true rfl) dX9_odds_1 rfl ?_
  refine E.if_eq C dX9_odds_4 (tgt := 17) (by decide) (fun h4 => ?_) (fun h4 => ?_)
  · have h4 := b0.mp h4
    refine E.ldc2 C ct_X9_303 (x := -1) (by decide) dX9_odds_17 ?_
    exact N.lret C hR dX9_odds_20 (fun hi hx => by exact ⟨fun a j _ _ _ => rfl, fun j _ => rfl, Or.inl ⟨by omega, rfl⟩⟩)
  · have h4 := b0n.mp h4
    refine E.iload_n C dX9_odds_7 rfl rfl ?_
    refine E.i2l C dX9_odds_8 ?_
    refine E.lconst C dX9_odds_9 (x := 0) rfl ?_
    refine E.lconst C dX9_odds_10 (x := 1) rfl ?_
    refine N.callSp (S := []) (As := [vl what, vl 0, vl 1]) C hX (ok_X9_in G what 0 1 v) yf_X9_in yv_X9_in ml_X9_93 rfl (by decide) (Nat.le_of_ble_eq_true rfl) dX9_odds_11 rfl ?_
    refine E.if_ne C dX9_odds_14 (tgt := 21) (by decide) (fun h14 => ?_) (fun h14 => ?_)
    · have h14 := b0n.mp h14
      refine E.aload_n C dX9_odds_21 rfl rfl ?_
      refine N.getR C fa_X9_7 rfl dX9_odds_22 kd_119 (x := 120) (by decide +kernel) (by decide) ?_
      refine E.iconst C dX9_odds_25 (by decide) ?_
      refine N.iald C dX9_odds_26 kd_120 ln_120 (by omega) (x := v 120 0) rfl ?_
      refine E.veq (x' := A 0 4) (hM.1) ?_
      refine N.ist_3 C dX9_odds_27 (hN 3 (by decide)) rfl ?_
      refine E.lconst C dX9_odds_28 (x := 0) rfl ?_
      refine N.lst_4 C dX9_odds_29 (hN 5 (by decide)) rfl ?_
      refine E.lconst C dX9_odds_31 (x := 1) rfl ?_
      refine E.iload_n C dX9_odds_32 rfl rfl ?_
      refine E.lshl C dX9_odds_33 ?_
      obtain ⟨ws, hws⟩ : ∃ zqv, zqv = (jlshl 1 (A 0 4)) := ⟨_, rfl⟩
      refine E.veqL hws.symm ?_
      have hw8 := pw_8 hA1
      have hwy : ws = pwI (A 0 4).toNat := hws.trans hw8.2.1
      refine N.lst_6 C dX9_odds_34 (hN 7 (by decide)) rfl ?_
      refine E.aload_n C dX9_odds_36 rfl rfl ?_
      refine E.sipush C dX9_odds_37 (by decide) ?_
      refine E.iconst C dX9_odds_40 (by decide) ?_
      refine N.callVe (S := []) (As := [vi 597, vi 0]) C hX (ok_X9_copies G 597 0 v (by omega) (by omega)) yf_X9_copies yv_X9_copies ml_X9_267 rfl rfl rfl kd_119 (by decide) (by decide) (Nat.le_of_ble_eq_true rfl) dX9_odds_41 rfl ?_
      obtain ⟨w44, hw44⟩ : ∃ zqv, zqv = (cpsF v 597 0 199) := ⟨_, rfl⟩
      refine E.heq hw44.symm ?_
      have g44 : ∀ a j, (¬ a = 120 ∨ j < 597) → w44 a j = v a j := fun a j g => by rw [hw44, cpsF_out (by omega)]
      have s44 : (∀ k, 0 ≤ k → k < 199 → w44 120 (597 + k) = v 120 k) := fun k g1 g2 => by rw [hw44]; unfold cpsF; rw [if_pos ⟨rfl, by omega, by omega⟩]; congr 1; omega
      refine E.iconst C dX9_odds_44 (by decide) ?_
      refine N.ist_8 C dX9_odds_45 (hN 8 (by decide)) rfl ?_
      have lp47 : ∀ (k47 : Nat) (good : Int) (x : Int) (w : VT), (ws - x).toNat = k47 → (0 ≤ x ∧ x ≤ ws ∧ good = oddN A 0 s sl x.toNat ∧ (∀ a j, (¬ a = 119 ∨ ¬ j = 16) → ¬ a = 120 → (a < 124 ∨ 128 < a) → w a j = v a j) ∧ (∀ j, j < 597 → (∀ d, 0 ≤ d → d < A 0 4 → ¬ j = 1 + 5 * d) → w 120 j = v 120 j) ∧ (∀ k, 0 ≤ k → k < 199 → w 120 (597 + k) = v 120 k)) → E X G 0 0 1000 w 47 [some (vr 119), some (vi s), some (vi what), some (vi (A 0 4)), some (vl good), none, some (vl ws), none, some (vi x), none] [] := by
        intro k47
        induction k47 using Nat.strongRecOn with
        | ind k47 ih47 =>
          intro good x w hk47 hI47
          obtain ⟨hx0, hx1, hgd, hfr, hst, hcy⟩ := hI47; have hox := hob x.toNat
          refine E.iload C dX9_odds_47 rfl ?_
          refine E.iconst C dX9_odds_49 (by decide) ?_
          refine E.iload_n C dX9_odds_50 rfl rfl ?_
          refine E.ishl C dX9_odds_51 ?_
          refine E.veq (x' := ws) ((pw_8 hA1).1.trans hwy.symm) ?_
          refine E.icmp_ge C dX9_odds_52 (tgt := 149) (by decide) (fun h52 => ?_) (fun h52 => ?_)
          · skip
            refine E.aload_n C dX9_odds_149 rfl rfl ?_
            refine E.iconst C dX9_odds_150 (by decide) ?_
            refine E.sipush C dX9_odds_151 (by decide) ?_
            refine N.callVe (S := []) (As := [vi 0, vi 597]) C hX (ok_X9_copies G 0 597 w (by omega) (by omega)) yf_X9_copies yv_X9_copies ml_X9_267 rfl rfl rfl kd_119 (by decide) (by decide) (Nat.le_of_ble_eq_true rfl) dX9_odds_154 rfl ?_
            have lp157 : ∀ (k157 : Nat) (m : Nat) (g : Int) (wy : Int) (z : VT), (wy).toNat = k157 → (wy = pwI m ∧ wy ≤ 256 ∧ 0 ≤ g ∧ g ≤ 256 ∧ redN m g = redN (A 0 4).toNat (oddN A 0 s sl (pwI (A 0 4).toNat).toNat) ∧ (∀ a j, (¬ a = 119 ∨ ¬ j = 16) → ¬ a = 120 → (a < 124 ∨ 128 < a) → z a j = v a j) ∧ (∀ j, j < 597 → z 120 j = v 120 j)) → E X G 0 0 1000 z 157 [some (vr 119), some (vi s), some (vi what), some (vi (A 0 4)), some (vl g), none, some (vl wy), none, some (vi x), none] [] := by
              intro k157
              induction k157 using Nat.strongRecOn with
              | ind k157 ih157 =>
                intro m g wy z hk157 hI157
                obtain ⟨hm0, hm1, hg0, hg1, hrr, hzf, hzs⟩ := hI157; have hpm := pw_pos m
                refine E.lload C dX9_odds_157 rfl ?_
                refine E.lconst C dX9_odds_159 (x := 0) rfl ?_
                refine E.lcmp C dX9_odds_160 ?_
                refine E.if_le C dX9_odds_161 (tgt := 205) (by decide) (fun h161 => ?_) (fun h161 => ?_)
                · have h161 := lcmpv_le.mp h161
                  have hrm := red_md (m := m) (g := g) (by omega)
                  refine E.iload_n C dX9_odds_205 rfl rfl ?_
                  refine E.if_ne C dX9_odds_206 (tgt := 214) (by decide) (fun h206 => ?_) (fun h206 => ?_)
                  · skip
                    refine E.lload C dX9_odds_214 rfl ?_
                    refine E.lconst C dX9_odds_216 (x := 0) rfl ?_
                    refine E.lcmp C dX9_odds_217 ?_
                    refine E.if_ne C dX9_odds_218 (tgt := 225) (by decide) (fun h218 => ?_) (fun h218 => ?_)
                    · have h218 := mt lcmpv_eq.mpr h218
                      refine E.lload C dX9_odds_225 rfl ?_
                      exact N.lret C hR dX9_odds_227 (fun hi hx => by refine ⟨hzf, hzs, Or.inr ⟨by omega, ?_⟩⟩; unfold oddA; rw [← hrr, hrm]; first | exact (if_pos (by omega)).symm | exact ((if_neg (by omega)).trans (if_pos (by omega))).symm | exact hm0.trans ((if_neg (by omega)).trans (if_neg (by omega))).symm)
                    · have h218 := lcmpv_eq.mp h218
                      refine E.lconst C dX9_odds_221 (x := 1) rfl ?_
                      refine E.goto C dX9_odds_222 (tgt := 227) (by decide) ?_
                      exact N.lret C hR dX9_odds_227 (fun hi hx => by refine ⟨hzf, hzs, Or.inr ⟨by omega, ?_⟩⟩; unfold oddA; rw [← hrr, hrm]; first | exact (if_pos (by omega)).symm | exact ((if_neg (by omega)).trans (if_pos (by omega))).symm | exact hm0.trans ((if_neg (by omega)).trans (if_neg (by omega))).symm)
                  · skip
                    refine E.lload C dX9_odds_209 rfl ?_
                    refine E.goto C dX9_odds_211 (tgt := 227) (by decide) ?_
                    exact N.lret C hR dX9_odds_227 (fun hi hx => by refine ⟨hzf, hzs, Or.inr ⟨by omega, ?_⟩⟩; unfold oddA; rw [← hrr, hrm]; first | exact (if_pos (by omega)).symm | exact ((if_neg (by omega)).trans (if_pos (by omega))).symm | exact hm0.trans ((if_neg (by omega)).trans (if_neg (by omega))).symm)
                · have h161 := mt lcmpv_le.mpr h161
                  refine E.lload C dX9_odds_164 rfl ?_
                  refine E.ldc2 C ct_X9_182 (x := 2) (by decide) dX9_odds_166 ?_
                  refine E.lrem C dX9_odds_169 (by omega) (by omega) ?_
                  refine E.lconst C dX9_odds_170 (x := 0) rfl ?_
                  refine E.lcmp C dX9_odds_171 ?_
                  refine E.if_ne C dX9_odds_172 (tgt := 205) (by decide) (fun h172 => ?_) (fun h172 => ?_)
                  · have h172 := mt lcmpv_eq.mpr h172
                    have hrm := red_md (m := m) (g := g) (by omega)
                    refine E.iload_n C dX9_odds_205 rfl rfl ?_
                    refine E.if_ne C dX9_odds_206 (tgt := 214) (by decide) (fun h206 => ?_) (fun h206 => ?_)
                    · skip
                      refine E.lload C dX9_odds_214 rfl ?_
                      refine E.lconst C dX9_odds_216 (x := 0) rfl ?_
                      refine E.lcmp C dX9_odds_217 ?_
                      refine E.if_ne C dX9_odds_218 (tgt := 225) (by decide) (fun h218 => ?_) (fun h218 => ?_)
                      · have h218 := mt lcmpv_eq.mpr h218
                        refine E.lload C dX9_odds_225 rfl ?_
                        exact N.lret C hR dX9_odds_227 (fun hi hx => by refine ⟨hzf, hzs, Or.inr ⟨by omega, ?_⟩⟩; unfold oddA; rw [← hrr, hrm]; first | exact (if_pos (by omega)).symm | exact ((if_neg (by omega)).trans (if_pos (by omega))).symm | exact hm0.trans ((if_neg (by omega)).trans (if_neg (by omega))).symm)
                      · have h218 := lcmpv_eq.mp h218
                        refine E.lconst C dX9_odds_221 (x := 1) rfl ?_
                        refine E.goto C dX9_odds_222 (tgt := 227) (by decide) ?_
                        exact N.lret C hR dX9_odds_227 (fun hi hx => by refine ⟨hzf, hzs, Or.inr ⟨by omega, ?_⟩⟩; unfold oddA; rw [← hrr, hrm]; first | exact (if_pos (by omega)).symm | exact ((if_neg (by omega)).trans (if_pos (by omega))).symm | exact hm0.trans ((if_neg (by omega)).trans (if_neg (by omega))).symm)
                    · skip
                      refine E.lload C dX9_odds_209 rfl ?_
                      refine E.goto C dX9_odds_211 (tgt := 227) (by decide) ?_
                      exact N.lret C hR dX9_odds_227 (fun hi hx => by refine ⟨hzf, hzs, Or.inr ⟨by omega, ?_⟩⟩; unfold oddA; rw [← hrr, hrm]; first | exact (if_pos (by omega)).symm | exact ((if_neg (by omega)).trans (if_pos (by omega))).symm | exact hm0.trans ((if_neg (by omega)).trans (if_neg (by omega))).symm)
                  · have h172 := lcmpv_eq.mp h172
                    refine E.lload C dX9_odds_175 rfl ?_
                    refine E.ldc2 C ct_X9_182 (x := 2) (by decide) dX9_odds_177 ?_
                    refine E.lrem C dX9_odds_180 (by omega) (by omega) ?_
                    refine E.lconst C dX9_odds_181 (x := 0) rfl ?_
                    refine E.lcmp C dX9_odds_182 ?_
                    refine E.if_ne C dX9_odds_183 (tgt := 205) (by decide) (fun h183 => ?_) (fun h183 => ?_)
                    · have h183 := mt lcmpv_eq.mpr h183
                      have hrm := red_md (m := m) (g := g) (by omega)
                      refine E.iload_n C dX9_odds_205 rfl rfl ?_
                      refine E.if_ne C dX9_odds_206 (tgt := 214) (by decide) (fun h206 => ?_) (fun h206 => ?_)
                      · skip
                        refine E.lload C dX9_odds_214 rfl ?_
                        refine E.lconst C dX9_odds_216 (x := 0) rfl ?_
                        refine E.lcmp C dX9_odds_217 ?_
                        refine E.if_ne C dX9_odds_218 (tgt := 225) (by decide) (fun h218 => ?_) (fun h218 => ?_)
                        · have h218 := mt lcmpv_eq.mpr h218
                          refine E.lload C dX9_odds_225 rfl ?_
                          exact N.lret C hR dX9_odds_227 (fun hi hx => by refine ⟨hzf, hzs, Or.inr ⟨by omega, ?_⟩⟩; unfold oddA; rw [← hrr, hrm]; first | exact (if_pos (by omega)).symm | exact ((if_neg (by omega)).trans (if_pos (by omega))).symm | exact hm0.trans ((if_neg (by omega)).trans (if_neg (by omega))).symm)
                        · have h218 := lcmpv_eq.mp h218
                          refine E.lconst C dX9_odds_221 (x := 1) rfl ?_
                          refine E.goto C dX9_odds_222 (tgt := 227) (by decide) ?_
                          exact N.lret C hR dX9_odds_227 (fun hi hx => by refine ⟨hzf, hzs, Or.inr ⟨by omega, ?_⟩⟩; unfold oddA; rw [← hrr, hrm]; first | exact (if_pos (by omega)).symm | exact ((if_neg (by omega)).trans (if_pos (by omega))).symm | exact hm0.trans ((if_neg (by omega)).trans (if_neg (by omega))).symm)
                      · skip
                        refine E.lload C dX9_odds_209 rfl ?_
                        refine E.goto C dX9_odds_211 (tgt := 227) (by decide) ?_
                        exact N.lret C hR dX9_odds_227 (fun hi hx => by refine ⟨hzf, hzs, Or.inr ⟨by omega, ?_⟩⟩; unfold oddA; rw [← hrr, hrm]; first | exact (if_pos (by omega)).symm | exact ((if_neg (by omega)).trans (if_pos (by omega))).symm | exact hm0.trans ((if_neg (by omega)).trans (if_neg (by omega))).symm)
                    · have h183 := lcmpv_eq.mp h183
                      refine E.lload C dX9_odds_186 rfl ?_
                      refine E.ldc2 C ct_X9_182 (x := 2) (by decide) dX9_odds_188 ?_
                      refine E.ldiv C dX9_odds_191 (by omega) (by omega) ?_
                      refine N.lst_4 C dX9_odds_192 (hN 5 (by decide)) rfl ?_
                      refine E.lload C dX9_odds_194 rfl ?_
                      refine E.ldc2 C ct_X9_182 (x := 2) (by decide) dX9_odds_196 ?_
                      refine E.ldiv C dX9_odds_199 (by omega) (by omega) ?_
                      refine N.lst_6 C dX9_odds_200 (hN 7 (by decide)) rfl ?_
                      refine E.goto C dX9_odds_202 (tgt := 157) (by decide) ?_
                      exact ih157 _ (by omega) (m - 1) (g / 2) (wy / 2) z rfl (by (have hrs := red_step (m := m) (g := g) (by omega) (by omega); exact ⟨by rw [hm0]; exact hrs.1, by omega, by omega, by omega, hrs.2.symm.trans hrr, hzf, hzs⟩))
            exact lp157 _ ((A 0 4).toNat) good ws (cpsF w 0 597 199) rfl (by (have e : x = pwI (A 0 4).toNat := (by omega); refine ⟨hwy, by omega, by omega, by omega, by rw [hgd, e], fun a j g1 g2 g3 => (cpsF_out (Or.inl g2)).trans (hfr a j g1 g2 g3), fun j g => ?_⟩; by_cases h1 : 0 ≤ j ∧ j < 199; (unfold cpsF; rw [if_pos ⟨rfl, by omega, by omega⟩]; exact (congrArg (w 120) (by omega)).trans (hcy j h1.1 h1.2)); (rw [cpsF_out (by omega)]; exact hst j g (fun d g1 g2 => by omega))))
          · skip
            refine E.iconst C dX9_odds_55 (by decide) ?_
            refine N.ist_9 C dX9_odds_56 (hN 9 (by decide)) rfl ?_
            have lp58 : ∀ (k58 : Nat) (c : Int) (y : VT), (A 0 4 - c).toNat = k58 → (0 ≤ c ∧ c ≤ A 0 4 ∧ (∀ a j, (¬ a = 119 ∨ ¬ j = 16) → ¬ a = 120 → (a < 124 ∨ 128 < a) → y a j = v a j) ∧ (∀ j, j < 597 → (∀ d, 0 ≤ d → d < A 0 4 → ¬ j = 1 + 5 * d) → y 120 j = v 120 j) ∧ (∀ k, 0 ≤ k → k < 199 → y 120 (597 + k) = v 120 k) ∧ (∀ d, 0 ≤ d → d < c → y 120 (1 + 5 * d) = geV A x (5 + d) d)) → E X G 0 0 1000 y 58 [some (vr 119), some (vi s), some (vi what), some (vi (A 0 4)), some (vl good), none, some (vl ws), none, some (vi x), some (vi c)] [] := by
              intro k58
              induction k58 using Nat.strongRecOn with
              | ind k58 ih58 =>
                intro c y hk58 hI58
                obtain ⟨hc0, hc1, hyf, hys, hyc, hyd⟩ := hI58
                refine E.iload C dX9_odds_58 rfl ?_
                refine E.iload_n C dX9_odds_60 rfl rfl ?_
                refine E.icmp_ge C dX9_odds_61 (tgt := 116) (by decide) (fun h61 => ?_) (fun h61 => ?_)
                · skip
                  have ec : c = A 0 4 := by omega
                  have hMg : MR (geF A 0 x (A 0 4)) (y 120) := hM.gef hA (fun d g1 g2 => hyd d g1 (by omega)) (fun j g1 g2 g3 => hys j (by omega) g3)
                  have hWg : WFV (geF A 0 x (A 0 4)) 0 := hA.gef
                  have g04 : (geF A 0 x (A 0 4)) 0 4 = A 0 4 := geF_out (by omega)
                  have hy0 := hMg.1
                  have hy41 := hMg.2.1
                  have hWg1 := hWg.1
                  have hWg2 := hWg.2.1
                  have hyal : y 119 2 = sl := (hyf _ _ (Or.inr (by decide)) (by decide) (by decide)).trans hal
                  refine E.aload_n C dX9_odds_116 rfl rfl ?_
                  refine E.iload_n C dX9_odds_117 rfl rfl ?_
                  refine N.callVe (S := []) (As := [vi s]) C hX (ok_X9_findCanHave G s y (by rw [hy0]; exact hWg1) (by rw [hy41]; exact hWg2) (hMg.th hWg) (hMg.fz hWg) (by omega)) yf_X9_findCanHave yv_X9_findCanHave ml_X9_238 rfl rfl rfl kd_119 (by decide) (by decide) (Nat.le_of_ble_eq_true rfl) dX9_odds_118 rfl ?_
                  obtain ⟨w121, hw121⟩ : ∃ zqv, zqv = (canF y s (y 120 0) (y 120 0) 0) := ⟨_, rfl⟩
                  refine E.heq hw121.symm ?_
                  have hcq := can_all (s := s) hWg hMg hyal
                  rw [← hw121] at hcq
                  obtain ⟨hq1, hq2, hq3, -⟩ := id hcq
                  refine E.lload C dX9_odds_121 rfl ?_
                  refine E.aload_n C dX9_odds_123 rfl rfl ?_
                  refine N.callVi (S := [vl good]) (As := []) C hX (ok_X9_findMost G w121 (by rw [hq1]; exact hWg1)) yf_X9_findMost yv_X9_findMost ml_X9_241 rfl rfl rfl kd_119 (by decide) (by decide) (Nat.le_of_ble_eq_true rfl) dX9_odds_124 rfl (fun t124 w124 hb124 hp124 => ?_)
                  have hmx := hp124.2.2
                  rw [hq1] at hmx
                  have e124 : t124 = warmV (geF A 0 x (A 0 4)) 0 s sl := warm_max hWg1.1 (max_may hq3 hmx)
                  refine E.iload_n C dX9_odds_127 rfl rfl ?_
                  refine E.icmp_ne C dX9_odds_128 (tgt := 135) (by decide) (fun h128 => ?_) (fun h128 => ?_)
                  · skip
                    refine E.iconst C dX9_odds_135 (by decide) ?_
                    refine N.callSp (S := [vl good]) (As := [vi 0]) C hX (ok_X9_flag G 0 w124 (by first | omega | exact bdec)) yf_X9_flag yv_X9_flag ml_X9_219 rfl (by decide) (Nat.le_of_ble_eq_true rfl) dX9_odds_136 rfl ?_
                    refine E.i2l C dX9_odds_139 ?_
                    refine E.ladd C dX9_odds_140 (by unfold in64; omega) ?_
                    refine N.lst_4 C dX9_odds_141 (hN 5 (by decide)) rfl ?_
                    refine N.iinc_8 C dX9_odds_143 (hN 8 (by decide)) rfl (by omega) ?_
                    refine E.goto C dX9_odds_146 (tgt := 47) (by decide) ?_
                    refine E.drop (i := 9) ?_
                    exact ih47 _ (by omega) (good + 0) (x + 1) w124 rfl (by refine ⟨by omega, by omega, ?_, fun a j g1 g2 g3 => (hp124.1 a j (by omega)).trans ((hq2 a j g1 (by omega)).trans (hyf a j g1 g2 g3)), fun j g1 g2 => (hp124.1 _ _ (by decide)).trans ((hq2 _ _ (Or.inl (by decide)) (by decide)).trans (hys j g1 g2)), fun k g1 g2 => (hp124.1 _ _ (by decide)).trans ((hq2 _ _ (Or.inl (by decide)) (by decide)).trans (hyc k g1 g2))⟩; rw [odd_step hx0, ← hgd]; unfold oddI; rw [← e124]; first | (rw [if_pos (by omega)]) | (rw [if_neg (by omega)]))
                  · skip
                    refine E.iconst C dX9_odds_131 (by decide) ?_
                    refine E.goto C dX9_odds_132 (tgt := 136) (by decide) ?_
                    refine N.callSp (S := [vl good]) (As := [vi 1]) C hX (ok_X9_flag G 1 w124 (by first | omega | exact bdec)) yf_X9_flag yv_X9_flag ml_X9_219 rfl (by decide) (Nat.le_of_ble_eq_true rfl) dX9_odds_136 rfl ?_
                    refine E.i2l C dX9_odds_139 ?_
                    refine E.ladd C dX9_odds_140 (by unfold in64; omega) ?_
                    refine N.lst_4 C dX9_odds_141 (hN 5 (by decide)) rfl ?_
                    refine N.iinc_8 C dX9_odds_143 (hN 8 (by decide)) rfl (by omega) ?_
                    refine E.goto C dX9_odds_146 (tgt := 47) (by decide) ?_
                    refine E.drop (i := 9) ?_
                    exact ih47 _ (by omega) (good + 1) (x + 1) w124 rfl (by refine ⟨by omega, by omega, ?_, fun a j g1 g2 g3 => (hp124.1 a j (by omega)).trans ((hq2 a j g1 (by omega)).trans (hyf a j g1 g2 g3)), fun j g1 g2 => (hp124.1 _ _ (by decide)).trans ((hq2 _ _ (Or.inl (by decide)) (by decide)).trans (hys j g1 g2)), fun k g1 g2 => (hp124.1 _ _ (by decide)).trans ((hq2 _ _ (Or.inl (by decide)) (by decide)).trans (hyc k g1 g2))⟩; rw [odd_step hx0, ← hgd]; unfold oddI; rw [← e124]; first | (rw [if_pos (by omega)]) | (rw [if_neg (by omega)]))
                · skip
                  refine E.aload_n C dX9_odds_64 rfl rfl ?_
                  refine N.getR C fa_X9_7 rfl dX9_odds_65 kd_119 (x := 120) (by decide +kernel) (by decide) ?_
                  refine E.iconst C dX9_odds_68 (by decide) ?_
                  refine E.iconst C dX9_odds_69 (by decide) ?_
                  refine E.iload C dX9_odds_70 rfl ?_
                  refine E.imul C dX9_odds_72 (by omega) ?_
                  refine E.iadd C dX9_odds_73 (by omega) ?_
                  refine E.aload_n C dX9_odds_74 rfl rfl ?_
                  refine N.getR C fa_X9_7 rfl dX9_odds_75 kd_119 (x := 120) (by decide +kernel) (by decide) ?_
                  refine E.sipush C dX9_odds_78 (by decide) ?_
                  refine E.iconst C dX9_odds_81 (by decide) ?_
                  refine E.iload C dX9_odds_82 rfl ?_
                  refine E.imul C dX9_odds_84 (by omega) ?_
                  refine E.iadd C dX9_odds_85 (by omega) ?_
                  refine N.iald C dX9_odds_86 kd_120 ln_120 (by omega) (x := y 120 (598 + (5 * c))) rfl ?_
                  refine E.veq (x' := A (5 + c) 0) (by rw [show (598 : Int) + 5 * c = 597 + (1 + 5 * c) by omega, hyc _ (by omega) (by omega), hM.c0 ⟨hc0, by omega⟩, Int.zero_add]) ?_
                  refine N.iast C dX9_odds_87 kd_120 ln_120 (by omega) ?_
                  have hch := hA.2.2.1 c hc0 (by omega)
                  unfold chOK at hch
                  rw [Int.zero_add] at hch
                  have hch1 : y 120 (1 + 5 * c + 1) = A (5 + c) 1 := by rw [hys _ (by omega) (fun d _ _ => by omega), hM.2.2.1 c 1 hc0 (by omega) (by decide) (by decide), Int.zero_add]
                  have hch2 : y 120 (1 + 5 * c + 2) = A (5 + c) 2 := by rw [hys _ (by omega) (fun d _ _ => by omega), hM.2.2.1 c 2 hc0 (by omega) (by decide) (by decide), Int.zero_add]
                  refine E.aload_n C dX9_odds_88 rfl rfl ?_
                  refine E.iload C dX9_odds_89 rfl ?_
                  refine E.iload C dX9_odds_91 rfl ?_
                  refine E.iload C dX9_odds_93 rfl ?_
                  refine E.ishr C dX9_odds_95 ?_
                  refine E.iconst C dX9_odds_96 (by decide) ?_
                  refine E.iand C dX9_odds_97 ?_
                  refine E.iconst C dX9_odds_98 (by decide) ?_
                  refine E.icmp_ne C dX9_odds_99 (tgt := 106) (by decide) (fun h99 => ?_) (fun h99 => ?_)
                  · skip
                    refine E.iconst C dX9_odds_106 (by decide) ?_
                    refine N.callVe (S := []) (As := [vi c, vi 0]) C hX (ok_X9_grows G c 0 (upd2 y 120 (1 + (5 * c)) (A (5 + c) 0)) ⟨by omega, by omega⟩ (by rw [upd2_same, u_ne (Or.inr (by omega)), u_ne (Or.inr (by omega)), hch1, hch2]; omega)) yf_X9_grows yv_X9_grows ml_X9_260 rfl rfl rfl kd_119 (by decide) (by decide) (Nat.le_of_ble_eq_true rfl) dX9_odds_107 rfl ?_
                    obtain ⟨w110, hw110⟩ : ∃ zqv, zqv = (upd2 (upd2 y 120 (1 + (5 * c)) (A (5 + c) 0)) 120 (1 + 5 * c) (growI ((upd2 y 120 (1 + (5 * c)) (A (5 + c) 0)) 120 (1 + 5 * c)) (if 0 = 0 then (upd2 y 120 (1 + (5 * c)) (A (5 + c) 0)) 120 (1 + 5 * c + 1) else (upd2 y 120 (1 + (5 * c)) (A (5 + c) 0)) 120 (1 + 5 * c + 2)))) := ⟨_, rfl⟩
                    refine E.heq hw110.symm ?_
                    have g110 : ∀ a j, (¬ a = 120 ∨ ¬ j = 1 + 5 * c) → w110 a j = y a j := fun a j g => by rw [hw110, u_ne (by omega), u_ne (by omega)]
                    have v110 : w110 120 (1 + 5 * c) = geV A x (5 + c) c := by
                      rw [hw110, upd2_same, upd2_same, u_ne (Or.inr (by omega)), u_ne (Or.inr (by omega)), hch1, hch2]
                      unfold geV bitI
                      first | rw [if_pos (show jand (jshr x c) 1 = 1 by omega), if_neg (by decide)] | rw [if_neg (show ¬ jand (jshr x c) 1 = 1 by omega), if_pos (by decide)]
                    refine N.iinc_9 C dX9_odds_110 (hN 9 (by decide)) rfl (by omega) ?_
                    refine E.goto C dX9_odds_113 (tgt := 58) (by decide) ?_
                    exact ih58 _ (by omega) (c + 1) w110 rfl (by exact ⟨by omega, by omega, fun a j g1 g2 g3 => (g110 a j (Or.inl g2)).trans (hyf a j g1 g2 g3), fun j g1 g2 => (g110 120 j (Or.inr (g2 c hc0 (by omega)))).trans (hys j g1 g2), fun k g1 g2 => (g110 120 _ (Or.inr (by omega))).trans (hyc k g1 g2), fun d g1 g2 => by by_cases hd : d = c; (rw [hd]; exact v110); (exact (g110 120 _ (Or.inr (by omega))).trans (hyd d g1 (by omega)))⟩)
                  · skip
                    refine E.iconst C dX9_odds_102 (by decide) ?_
                    refine E.goto C dX9_odds_103 (tgt := 107) (by decide) ?_
                    refine N.callVe (S := []) (As := [vi c, vi 1]) C hX (ok_X9_grows G c 1 (upd2 y 120 (1 + (5 * c)) (A (5 + c) 0)) ⟨by omega, by omega⟩ (by rw [upd2_same, u_ne (Or.inr (by omega)), u_ne (Or.inr (by omega)), hch1, hch2]; omega)) yf_X9_grows yv_X9_grows ml_X9_260 rfl rfl rfl kd_119 (by decide) (by decide) (Nat.le_of_ble_eq_true rfl) dX9_odds_107 rfl ?_
                    obtain ⟨w110, hw110⟩ : ∃ zqv, zqv = (upd2 (upd2 y 120 (1 + (5 * c)) (A (5 + c) 0)) 120 (1 + 5 * c) (growI ((upd2 y 120 (1 + (5 * c)) (A (5 + c) 0)) 120 (1 + 5 * c)) (if 1 = 0 then (upd2 y 120 (1 + (5 * c)) (A (5 + c) 0)) 120 (1 + 5 * c + 1) else (upd2 y 120 (1 + (5 * c)) (A (5 + c) 0)) 120 (1 + 5 * c + 2)))) := ⟨_, rfl⟩
                    refine E.heq hw110.symm ?_
                    have g110 : ∀ a j, (¬ a = 120 ∨ ¬ j = 1 + 5 * c) → w110 a j = y a j := fun a j g => by rw [hw110, u_ne (by omega), u_ne (by omega)]
                    have v110 : w110 120 (1 + 5 * c) = geV A x (5 + c) c := by
                      rw [hw110, upd2_same, upd2_same, u_ne (Or.inr (by omega)), u_ne (Or.inr (by omega)), hch1, hch2]
                      unfold geV bitI
                      first | rw [if_pos (show jand (jshr x c) 1 = 1 by omega), if_neg (by decide)] | rw [if_neg (show ¬ jand (jshr x c) 1 = 1 by omega), if_pos (by decide)]
                    refine N.iinc_9 C dX9_odds_110 (hN 9 (by decide)) rfl (by omega) ?_
                    refine E.goto C dX9_odds_113 (tgt := 58) (by decide) ?_
                    exact ih58 _ (by omega) (c + 1) w110 rfl (by exact ⟨by omega, by omega, fun a j g1 g2 g3 => (g110 a j (Or.inl g2)).trans (hyf a j g1 g2 g3), fun j g1 g2 => (g110 120 j (Or.inr (g2 c hc0 (by omega)))).trans (hys j g1 g2), fun k g1 g2 => (g110 120 _ (Or.inr (by omega))).trans (hyc k g1 g2), fun d g1 g2 => by by_cases hd : d = c; (rw [hd]; exact v110); (exact (g110 120 _ (Or.inr (by omega))).trans (hyd d g1 (by omega)))⟩)
            exact lp58 _ 0 w rfl (by exact ⟨by omega, by omega, hfr, hst, hcy, fun d g1 g2 => by omega⟩)
      exact lp47 _ 0 0 w44 rfl (by exact ⟨by omega, by omega, rfl, fun a j _ g2 _ => g44 a j (Or.inl g2), fun j g1 _ => g44 120 j (Or.inr g1), s44⟩)
    · have h14 := b0.mp h14
      refine E.ldc2 C ct_X9_303 (x := -1) (by decide) dX9_odds_17 ?_
      exact N.lret C hR dX9_odds_20 (fun hi hx => by exact ⟨fun a j _ _ _ => rfl, fun j _ => rfl, Or.inl ⟨by omega, rfl⟩⟩)
