set_option maxHeartbeats 4000000 in
set_option maxRecDepth 20000 in
theorem ok_X8_odds (G : GT) (s what sl : Int) (v : VT) (hW : WFV v 4) (hal : v 1 10 = sl) (hsl : 0 ≤ sl ∧ sl ≤ 4) : MNl G yX8_odds cX8_odds 6 (some .long) 3 73 [vr 1, vi s, vi what] v (fun x w => (∀ a j, (a < 27 ∨ 49 < a) → (a < 54 ∨ 59 < a) → w a j = v a j) ∧ ((¬ ((0 ≤ s ∧ s ≤ 1) ∧ (0 ≤ what ∧ what ≤ 1)) ∧ x = -1) ∨ (((0 ≤ s ∧ s ≤ 1) ∧ (0 ≤ what ∧ what ≤ 1)) ∧ x = oddA v 4 s sl what))) := by
  refine MN.of pn_X8_odds [some (vr 1), some (vi s), some (vi what), none, none, none] 3 rfl rfl (fun X C hX hn hR => ?_)
  have hN : ∀ i : Nat, i < 6 → i < xn X := fun i h => by rw [hn]; exact h
  refine E.rngk (fun hinv => ?_)
  refine E.loc (fun hloc => ?_)
  have hin_1 : in32 s := hloc _ (List.mem_of_getElem? (i := 1) rfl)
  have hin_2 : in32 what := hloc _ (List.mem_of_getElem? (i := 2) rfl)
  have hW1 := hW.1
  have hW2 := hW.2.1
  have hob := odd_bd (A := v) (o := 4) (s := s) (sl := sl)
  refine E.iload_n C dX8_odds_0 rfl rfl ?_
  refine N.callSp (S := []) (As := [vi s]) C hX (ok_X8_isSlot G s v) yf_X8_isSlot yv_X8_isSlot ml_X8_175 rfl (by decide) (Nat.le_of_ble_eq_true rfl) dX8_odds_1 rfl ?_
  refine E.if_eq C dX8_odds_4 (tgt := 14) (by decide) (fun h4 => ?_) (fun h4 => ?_)
  · have h4 := b0.mp h4
    refine E.ldc2 C ct_X8_258 (x := -1) (by decide) dX8_odds_14 ?_
    exact N.lret C hR dX8_odds_17 (fun hi hx => by exact ⟨fun a j _ _ => rfl, Or.inl ⟨by omega, rfl⟩⟩)
  · have h4 := b0n.mp h4
    refine E.iload_n C dX8_odds_7 rfl rfl ?_
    refine N.callSp (S := []) (As := [vi what]) C hX (ok_X8_isZeroOrOne G what v) yf_X8_isZeroOrOne yv_X8_isZeroOrOne ml_X8_182 rfl (by decide) (Nat.le_of_ble_eq_true rfl) dX8_odds_8 rfl ?_
    refine E.if_ne C dX8_odds_11 (tgt := 18) (by decide) (fun h11 => ?_) (fun h11 => ?_)
    · have h11 := b0n.mp h11
      refine E.iconst C dX8_odds_18 (by decide) ?_
      refine E.aload_n C dX8_odds_19 rfl rfl ?_
      refine N.getR C fa_X8_19 rfl dX8_odds_20 kd_1 (x := 4) (by decide +kernel) (by decide) ?_
      refine N.getI C fa_X8_192 rfl dX8_odds_23 (kdV hv4) (x := v 4 4) rfl ?_
      refine E.ishl C dX8_odds_26 ?_
      obtain ⟨ways, hways⟩ : ∃ zqv, zqv = (jshl 1 (v 4 4)) := ⟨_, rfl⟩
      refine E.veq hways.symm ?_
      have hw8 := pw_8 hW1
      have hwy : ways = pwI (v 4 4).toNat := hways.trans hw8.1
      refine N.ist_3 C dX8_odds_27 (hN 3 (by decide)) rfl ?_
      refine E.iconst C dX8_odds_28 (by decide) ?_
      refine N.ist_4 C dX8_odds_29 (hN 4 (by decide)) rfl ?_
      refine E.iconst C dX8_odds_31 (by decide) ?_
      refine N.ist_5 C dX8_odds_32 (hN 5 (by decide)) rfl ?_
      have lp34 : ∀ (k34 : Nat) (good : Int) (x : Int) (w : VT), (ways - x).toNat = k34 → (0 ≤ x ∧ x ≤ ways ∧ good = oddN v 4 s sl x.toNat ∧ (∀ a j, (a < 27 ∨ 49 < a) → (a < 54 ∨ 59 < a) → w a j = v a j)) → E X G 0 0 1000 w 34 [some (vr 1), some (vi s), some (vi what), some (vi ways), some (vi good), some (vi x)] [] := by
        intro k34
        induction k34 using Nat.strongRecOn with
        | ind k34 ih34 =>
          intro good x w hk34 hI34
          obtain ⟨hx0, hx1, hgd, hfr⟩ := hI34; have sw : Sm w 4 v 4 := sm_of (fun a j g1 g2 => hfr a j (by omega) (by omega)) hW1.2 hW2.2; have Ww := sw.wfv hW; have Ww1 := Ww.1; have Ww2 := Ww.2.1; have Ww3 := Ww.lz; have hox := hob x.toNat
          refine E.iload C dX8_odds_34 rfl ?_
          refine E.iload_n C dX8_odds_36 rfl rfl ?_
          refine E.icmp_ge C dX8_odds_37 (tgt := 109) (by decide) (fun h37 => ?_) (fun h37 => ?_)
          · skip
            have lp109 : ∀ (k109 : Nat) (m : Nat) (g : Int) (wy : Int), (wy).toNat = k109 → (wy = pwI m ∧ wy ≤ 256 ∧ 0 ≤ g ∧ g ≤ 256 ∧ redN m g = redN (v 4 4).toNat (oddN v 4 s sl (pwI (v 4 4).toNat).toNat)) → E X G 0 0 1000 w 109 [some (vr 1), some (vi s), some (vi what), some (vi wy), some (vi g), some (vi x)] [] := by
              intro k109
              induction k109 using Nat.strongRecOn with
              | ind k109 ih109 =>
                intro m g wy hk109 hI109
                obtain ⟨hm0, hm1, hg0, hg1, hrr⟩ := hI109; have hpm := pw_pos m
                refine E.iload_n C dX8_odds_109 rfl rfl ?_
                refine E.iconst C dX8_odds_110 (by decide) ?_
                refine E.icmp_le C dX8_odds_111 (tgt := 134) (by decide) (fun h111 => ?_) (fun h111 => ?_)
                · skip
                  refine E.iload_n C dX8_odds_134 rfl rfl ?_
                  refine E.if_ne C dX8_odds_135 (tgt := 144) (by decide) (fun h135 => ?_) (fun h135 => ?_)
                  · skip
                    refine E.iload_n C dX8_odds_144 rfl rfl ?_
                    refine E.i2l C dX8_odds_145 ?_
                    exact N.lret C hR dX8_odds_146 (fun hi hx => by refine ⟨hfr, Or.inr ⟨by omega, ?_⟩⟩; have hrd := red_end (m := m) (g := g) (by omega); unfold oddA; rw [← hrr, hrd]; first | rw [if_pos (by omega)] | (rw [if_neg (by omega)]; exact hm0))
                  · skip
                    refine E.iload C dX8_odds_138 rfl ?_
                    refine E.i2l C dX8_odds_140 ?_
                    refine E.goto C dX8_odds_141 (tgt := 146) (by decide) ?_
                    exact N.lret C hR dX8_odds_146 (fun hi hx => by refine ⟨hfr, Or.inr ⟨by omega, ?_⟩⟩; have hrd := red_end (m := m) (g := g) (by omega); unfold oddA; rw [← hrr, hrd]; first | rw [if_pos (by omega)] | (rw [if_neg (by omega)]; exact hm0))
                · skip
                  refine E.iload C dX8_odds_114 rfl ?_
                  refine E.iconst C dX8_odds_116 (by decide) ?_
                  refine E.irem C dX8_odds_117 (by omega) (by omega) ?_
                  refine E.if_ne C dX8_odds_118 (tgt := 134) (by decide) (fun h118 => ?_) (fun h118 => ?_)
                  · skip
                    refine E.iload_n C dX8_odds_134 rfl rfl ?_
                    refine E.if_ne C dX8_odds_135 (tgt := 144) (by decide) (fun h135 => ?_) (fun h135 => ?_)
                    · skip
                      refine E.iload_n C dX8_odds_144 rfl rfl ?_
                      refine E.i2l C dX8_odds_145 ?_
                      exact N.lret C hR dX8_odds_146 (fun hi hx => by refine ⟨hfr, Or.inr ⟨by omega, ?_⟩⟩; have hrd := red_end (m := m) (g := g) (by omega); unfold oddA; rw [← hrr, hrd]; first | rw [if_pos (by omega)] | (rw [if_neg (by omega)]; exact hm0))
                    · skip
                      refine E.iload C dX8_odds_138 rfl ?_
                      refine E.i2l C dX8_odds_140 ?_
                      refine E.goto C dX8_odds_141 (tgt := 146) (by decide) ?_
                      exact N.lret C hR dX8_odds_146 (fun hi hx => by refine ⟨hfr, Or.inr ⟨by omega, ?_⟩⟩; have hrd := red_end (m := m) (g := g) (by omega); unfold oddA; rw [← hrr, hrd]; first | rw [if_pos (by omega)] | (rw [if_neg (by omega)]; exact hm0))
                  · skip
                    refine E.iload C dX8_odds_121 rfl ?_
                    refine E.iconst C dX8_odds_123 (by decide) ?_
                    refine E.idiv C dX8_odds_124 (by omega) (by omega) ?_
                    refine N.ist_4 C dX8_odds_125 (hN 4 (by decide)) rfl ?_
                    refine E.iload_n C dX8_odds_127 rfl rfl ?_
                    refine E.iconst C dX8_odds_128 (by decide) ?_
                    refine E.idiv C dX8_odds_129 (by omega) (by omega) ?_
                    refine N.ist_3 C dX8_odds_130 (hN 3 (by decide)) rfl ?_
                    refine E.goto C dX8_odds_131 (tgt := 109) (by decide) ?_
                    exact ih109 _ (by omega) (m - 1) (g / 2) (wy / 2) rfl (by (have hrs := red_step (m := m) (g := g) (by omega) (by omega); exact ⟨by rw [hm0]; exact hrs.1, by omega, by omega, by omega, hrs.2.symm.trans hrr⟩))
            exact lp109 _ ((v 4 4).toNat) good ways rfl (by (have e : x = pwI (v 4 4).toNat := (by omega); exact ⟨hwy, by omega, by omega, by omega, by rw [hgd, e]⟩))
          · skip
            refine E.aload_n C dX8_odds_40 rfl rfl ?_
            refine N.getR C fa_X8_23 rfl dX8_odds_41 kd_1 (x := 27) (by decide +kernel) (by decide) ?_
            refine E.aload_n C dX8_odds_44 rfl rfl ?_
            refine N.getR C fa_X8_19 rfl dX8_odds_45 kd_1 (x := 4) (by decide +kernel) (by decide) ?_
            refine N.callVe (S := []) (As := [vr 4]) C hX (ok_X7_becomeBodies G 27 4 w hv27 hv4 (Or.inr (by decide)) Ww1 Ww2 Ww3) yf_X7_becomeBodies yv_X7_becomeBodies ml_X8_216 rfl rfl rfl (kdV hv27) (by decide) (by decide) (Nat.le_of_ble_eq_true rfl) dX8_odds_48 rfl ?_
            refine E.aload_n C dX8_odds_51 rfl rfl ?_
            refine N.getR C fa_X8_23 rfl dX8_odds_52 kd_1 (x := 27) (by decide +kernel) (by decide) ?_
            refine E.iload C dX8_odds_55 rfl ?_
            have b48 : Sm (bodF w 27 4 (w 4 4) (w 4 5)) 27 v 4 := (sm_bod Ww1 Ww2).tr sw
            have b48W := b48.wfv hW
            refine N.callVe (S := []) (As := [vi x]) C hX (ok_X7_growEach G 27 x (bodF w 27 4 (w 4 4) (w 4 5)) hv27 b48W.1 b48W.ch) yf_X7_growEach yv_X7_growEach ml_X8_260 rfl rfl rfl (kdV hv27) (by decide) (by decide) (Nat.le_of_ble_eq_true rfl) dX8_odds_57 rfl ?_
            obtain ⟨w60, hw60⟩ : ∃ zqv, zqv = (geF (bodF w 27 4 (w 4 4) (w 4 5)) 27 x ((bodF w 27 4 (w 4 4) (w 4 5)) 27 4)) := ⟨_, rfl⟩
            refine E.heq hw60.symm ?_
            have s60 : Sm w60 27 (geF v 4 x (v 4 4)) 4 := by rw [hw60]; exact b48.gef hW1.2
            have W60 := s60.wfv hW.gef
            have f60 : (∀ a j, (a < 27 ∨ 49 < a) → (a < 54 ∨ 59 < a) → w60 a j = v a j) := fun a j g1 g2 => by rw [hw60, geF_out (by have := b48W.1; omega), bodF_out (by omega) (by omega) (by omega)]; exact hfr a j g1 g2
            refine E.aload_n C dX8_odds_60 rfl rfl ?_
            refine N.getR C fa_X8_52 rfl dX8_odds_61 kd_1 (x := 54) (by decide +kernel) (by decide) ?_
            refine E.aload_n C dX8_odds_64 rfl rfl ?_
            refine N.getR C fa_X8_23 rfl dX8_odds_65 kd_1 (x := 27) (by decide +kernel) (by decide) ?_
            refine E.iload_n C dX8_odds_68 rfl rfl ?_
            refine E.aload_n C dX8_odds_69 rfl rfl ?_
            refine N.getI C fa_X8_67 rfl dX8_odds_70 kd_1 (x := v 1 10) (f60 _ _ (by omega) (by omega)) ?_
            refine E.veq (x' := sl) (hal) ?_
            refine N.callVe (S := []) (As := [vr 27, vi s, vi sl]) C hX (ok_X1_begin G 27 s sl w60 hv27 W60.1 W60.2.1 W60.th W60.fz ⟨by omega, by omega⟩) yf_X1_begin yv_X1_begin ml_X8_264 rfl rfl rfl kd_54 (by decide) (by decide) (Nat.le_of_ble_eq_true rfl) dX8_odds_73 rfl ?_
            obtain ⟨w76, hw76⟩ : ∃ zqv, zqv = (begF w60 27 s sl (w60 27 4) (w60 27 4) 0) := ⟨_, rfl⟩
            refine E.heq hw76.symm ?_
            have hbq := beg_all (s := s) (sl := sl) W60.1 W60.2.1
            rw [← hw76] at hbq
            obtain ⟨b5, b6, b7, b8, b9, b10, b11, -, -, hf76o⟩ := id hbq
            have hf76 : ∀ a j, (a < 54 ∨ 57 < a) → w76 a j = w60 a j := hf76o
            refine E.aload_n C dX8_odds_76 rfl rfl ?_
            refine N.getR C fa_X8_52 rfl dX8_odds_77 kd_1 (x := 54) (by decide +kernel) (by decide) ?_
            refine N.callVv (S := []) (As := []) C hX (ok_X1_warmAll G w76 (by rw [b5]; exact W60.1) (by rw [b6]; have := W60.2.1; omega) (by rw [b5, b6]; exact b7) (by rw [b5]; exact b8) (by rw [b5]; exact b9) (by rw [b5, b6]; exact b10)) yf_X1_warmAll yv_X1_warmAll ml_X8_267 rfl rfl rfl kd_54 (by decide) (by decide) (Nat.le_of_ble_eq_true rfl) dX8_odds_80 rfl (fun w80 hp80 => ?_)
            have hmx := hp80.2.2
            rw [b5, b6] at hmx
            have e80 : w80 54 7 = warmV (geF v 4 x (v 4 4)) 4 s sl := (warm_max W60.1.1 (max_may b11 hmx)).trans s60.warm
            refine E.aload_n C dX8_odds_83 rfl rfl ?_
            refine N.getR C fa_X8_52 rfl dX8_odds_84 kd_1 (x := 54) (by decide +kernel) (by decide) ?_
            refine N.getI C fa_X8_189 rfl dX8_odds_87 kd_54 (x := w80 54 7) rfl ?_
            refine E.aload_n C dX8_odds_90 rfl rfl ?_
            refine N.getR C fa_X8_19 rfl dX8_odds_91 kd_1 (x := 4) (by decide +kernel) (by decide) ?_
            refine N.getI C fa_X8_192 rfl dX8_odds_94 (kdV hv4) (x := w80 4 4) rfl ?_
            refine E.veq (x' := v 4 4) ((hp80.1 _ _ (Or.inl (by decide)) (by decide)).trans ((hf76 _ _ (by decide)).trans (f60 _ _ (by decide) (by decide)))) ?_
            refine E.icmp_ne C dX8_odds_97 (tgt := 103) (by decide) (fun h97 => ?_) (fun h97 => ?_)
            · skip
              refine N.iinc_5 C dX8_odds_103 (hN 5 (by decide)) rfl (by omega) ?_
              refine E.goto C dX8_odds_106 (tgt := 34) (by decide) ?_
              exact ih34 _ (by omega) good (x + 1) w80 rfl (by refine ⟨by omega, by omega, ?_, fun a j g1 g2 => (hp80.1 a j (Or.inl (by omega)) (by omega)).trans ((hf76 a j (by omega)).trans (f60 a j g1 g2))⟩; rw [odd_step hx0, ← hgd]; unfold oddI; rw [← e80]; first | (rw [if_pos (by omega)]) | (rw [if_neg (by omega)]; omega))
            · skip
              refine N.iinc_4 C dX8_odds_100 (hN 4 (by decide)) rfl (by omega) ?_
              refine N.iinc_5 C dX8_odds_103 (hN 5 (by decide)) rfl (by omega) ?_
              refine E.goto C dX8_odds_106 (tgt := 34) (by decide) ?_
              exact ih34 _ (by omega) (good + 1) (x + 1) w80 rfl (by refine ⟨by omega, by omega, ?_, fun a j g1 g2 => (hp80.1 a j (Or.inl (by omega)) (by omega)).trans ((hf76 a j (by omega)).trans (f60 a j g1 g2))⟩; rw [odd_step hx0, ← hgd]; unfold oddI; rw [← e80]; first | (rw [if_pos (by omega)]) | (rw [if_neg (by omega)]; omega))
      exact lp34 _ 0 0 v rfl (by exact ⟨by omega, by omega, rfl, fun a j _ _ => rfl⟩)
    · have h11 := b0.mp h11
      refine E.ldc2 C ct_X8_258 (x := -1) (by decide) dX8_odds_14 ?_
      exact N.lret C hR dX8_odds_17 (fun hi hx => by exact ⟨fun a j _ _ => rfl, Or.inl ⟨by omega, rfl⟩⟩)
