set_option maxHeartbeats 4000000 in
set_option maxRecDepth 20000 in
theorem ok_X9_givesOn (G : GT) (who r b : Int) (D : Int → Prop) (rk : Int → Int) (v : VT) (hc : 0 ≤ v 119 16 ∧ v 119 16 ≤ 8) (hcon : Con (v 125) (v 126) (v 119 16) 20) (hway : Way (v 125) (v 124) (v 127) (v 119 16) 20 who b D rk) (hroot : ∀ x, D x → v 125 (v 127 x) = -4 → v 127 x = who) (hD : D r) (hfree : v 126 r = -4) (hwc : v 125 who = -4) : MNv G yX9_givesOn cX9_givesOn 7 none 0 0 [vr 119, vi who, vi r] v (fun w => (∀ a j, ¬ a = 125 → ¬ a = 126 → w a j = v a j) ∧ Flip (v 125) (v 126) (v 124) (v 119 16) 20 who b (w 125) (w 126) ∧ ¬ w 125 who = -4) := by
  refine MN.of pn_X9_givesOn [some (vr 119), some (vi who), some (vi r), none, none, none, none] 4 rfl rfl (fun X C hX hn hR => ?_)
  have hN : ∀ i : Nat, i < 7 → i < xn X := fun i h => by rw [hn]; exact h
  refine E.rngk (fun hinv => ?_)
  refine E.loc (fun hloc => ?_)
  have hin_1 : in32 who := hloc _ (List.mem_of_getElem? (i := 1) rfl)
  have hin_2 : in32 r := hloc _ (List.mem_of_getElem? (i := 2) rfl)
  have hwr := hway r hD
  refine E.iload_n C dX9_givesOn_0 rfl rfl ?_
  refine N.ist_3 C dX9_givesOn_1 (hN 3 (by decide)) rfl ?_
  refine E.iconst C dX9_givesOn_2 (by decide) ?_
  refine N.ist_4 C dX9_givesOn_3 (hN 4 (by decide)) rfl ?_
  have lp5 : ∀ (k5 : Nat) (t : Int) (on_ : Int) (st : Int) (w : VT), (on_ * 100 + (8 - st)).toNat = k5 → (0 ≤ st ∧ (∀ a j, ¬ a = 125 → ¬ a = 126 → w a j = v a j) ∧ ((on_ = 0 ∧ Flip (v 125) (v 126) (v 124) (v 119 16) 20 who b (w 125) (w 126) ∧ ¬ w 125 who = -4) ∨ (on_ = 1 ∧ PI (v 125) (v 126) (v 124) (v 127) (v 119 16) 20 b D rk (w 125) (w 126) t st))) → E X G 0 0 1000 w 5 [some (vr 119), some (vi who), some (vi r), some (vi t), some (vi on_), none, none] [] := by
    intro k5
    induction k5 using Nat.strongRecOn with
    | ind k5 ih5 =>
      intro t on_ st w hk5 hI5
      obtain ⟨hs0, hfr, hst⟩ := hI5
      refine E.iload C dX9_givesOn_5 rfl ?_
      refine E.if_eq C dX9_givesOn_7 (tgt := 62) (by decide) (fun h7 => ?_) (fun h7 => ?_)
      · skip
        exact N.vret C hR dX9_givesOn_62 (fun hi => by exact ⟨hfr, (hst.resolve_right (fun hq => by have := hq.1; omega)).2⟩)
      · skip
        have hpx : on_ = 1 ∧ PI (v 125) (v 126) (v 124) (v 127) (v 119 16) 20 b D rk (w 125) (w 126) t st := by
          rcases hst with hst | hst
          · exact absurd hst.1 h7
          · exact hst
        obtain ⟨hon1, hpi⟩ := hpx
        have hwt := hway t hpi.1
        have hpr := hpi.2.1
        have hpe : w 125 (v 127 t) = v 125 (v 127 t) := hpi.2.2.2.2.1 _ (Int.le_refl _)
        refine E.aload_n C dX9_givesOn_10 rfl rfl ?_
        refine N.getR C fa_X9_32 rfl dX9_givesOn_11 kd_119 (x := 127) (by decide +kernel) (by decide) ?_
        refine E.iload_n C dX9_givesOn_14 rfl rfl ?_
        refine N.iald C dX9_givesOn_15 kd_127 ln_127 (by omega) (x := v 127 t) (hfr _ _ (by decide) (by decide)) ?_
        refine N.ist_5 C dX9_givesOn_16 (hN 5 (by decide)) rfl ?_
        refine E.aload_n C dX9_givesOn_18 rfl rfl ?_
        refine N.getR C fa_X9_26 rfl dX9_givesOn_19 kd_119 (x := 125) (by decide +kernel) (by decide) ?_
        refine E.iload C dX9_givesOn_22 rfl ?_
        refine N.iald C dX9_givesOn_24 kd_125 ln_125 (by omega) (x := w 125 (v 127 t)) rfl ?_
        refine N.ist_6 C dX9_givesOn_25 (hN 6 (by decide)) rfl ?_
        refine E.aload_n C dX9_givesOn_27 rfl rfl ?_
        refine N.getR C fa_X9_26 rfl dX9_givesOn_28 kd_119 (x := 125) (by decide +kernel) (by decide) ?_
        refine E.iload C dX9_givesOn_31 rfl ?_
        refine E.iload_n C dX9_givesOn_33 rfl rfl ?_
        refine N.iast C dX9_givesOn_34 kd_125 ln_125 (by omega) ?_
        refine E.aload_n C dX9_givesOn_35 rfl rfl ?_
        refine N.getR C fa_X9_29 rfl dX9_givesOn_36 kd_119 (x := 126) (by decide +kernel) (by decide) ?_
        refine E.iload_n C dX9_givesOn_39 rfl rfl ?_
        refine E.iload C dX9_givesOn_40 rfl ?_
        refine N.iast C dX9_givesOn_42 kd_126 ln_126 (by omega) ?_
        refine E.iload C dX9_givesOn_43 rfl ?_
        refine E.iload_n C dX9_givesOn_45 rfl rfl ?_
        refine E.icmp_eq C dX9_givesOn_46 (tgt := 53) (by decide) (fun h46 => ?_) (fun h46 => ?_)
        · skip
          refine E.iconst C dX9_givesOn_53 (by decide) ?_
          refine N.ist_4 C dX9_givesOn_54 (hN 4 (by decide)) rfl ?_
          refine E.iload C dX9_givesOn_56 rfl ?_
          refine N.ist_3 C dX9_givesOn_58 (hN 3 (by decide)) rfl ?_
          refine E.goto C dX9_givesOn_59 (tgt := 5) (by decide) ?_
          refine E.drop (i := 5) ?_
          refine E.drop (i := 6) ?_
          exact ih5 _ (by omega) (w 125 (v 127 t)) 0 (st + 1) (upd2 (upd2 w 125 (v 127 t) t) 126 t (v 127 t)) rfl (by refine ⟨by omega, fun a j g1 g2 => (upd2_ne _ _ _ _ _ _ (Or.inl g2)).trans ((upd2_ne _ _ _ _ _ _ (Or.inl g1)).trans (hfr a j g1 g2)), ?_⟩; first | (refine Or.inl ⟨rfl, PI_cold hway hpi (by rw [hpe, h46]; exact hwc) ((upd2_rowne (by decide)).trans (upd2_row _ _ _ _)) (by rw [upd2_row, upd2_rowne (by decide)]), ?_⟩; rw [upd2_rowne (by decide), h46, upd2_same]; omega) | exact Or.inr ⟨rfl, PI_next hway hpi (by rw [hpe]; exact fun z => h46 (hroot t hpi.1 z)) ((upd2_rowne (by decide)).trans (upd2_row _ _ _ _)) (by rw [upd2_row, upd2_rowne (by decide)])⟩)
        · skip
          refine E.iconst C dX9_givesOn_49 (by decide) ?_
          refine E.goto C dX9_givesOn_50 (tgt := 54) (by decide) ?_
          refine N.ist_4 C dX9_givesOn_54 (hN 4 (by decide)) rfl ?_
          refine E.iload C dX9_givesOn_56 rfl ?_
          refine N.ist_3 C dX9_givesOn_58 (hN 3 (by decide)) rfl ?_
          refine E.goto C dX9_givesOn_59 (tgt := 5) (by decide) ?_
          refine E.drop (i := 5) ?_
          refine E.drop (i := 6) ?_
          exact ih5 _ (by omega) (w 125 (v 127 t)) 1 (st + 1) (upd2 (upd2 w 125 (v 127 t) t) 126 t (v 127 t)) rfl (by refine ⟨by omega, fun a j g1 g2 => (upd2_ne _ _ _ _ _ _ (Or.inl g2)).trans ((upd2_ne _ _ _ _ _ _ (Or.inl g1)).trans (hfr a j g1 g2)), ?_⟩; first | (refine Or.inl ⟨rfl, PI_cold hway hpi (by rw [hpe, h46]; exact hwc) ((upd2_rowne (by decide)).trans (upd2_row _ _ _ _)) (by rw [upd2_row, upd2_rowne (by decide)]), ?_⟩; rw [upd2_rowne (by decide), h46, upd2_same]; omega) | exact Or.inr ⟨rfl, PI_next hway hpi (by rw [hpe]; exact fun z => h46 (hroot t hpi.1 z)) ((upd2_rowne (by decide)).trans (upd2_row _ _ _ _)) (by rw [upd2_row, upd2_rowne (by decide)])⟩)
  exact lp5 _ r 1 0 v rfl (by exact ⟨by omega, fun a j _ _ => rfl, Or.inr ⟨rfl, PI_0 hcon hway hD hfree⟩⟩)

set_option maxHeartbeats 4000000 in
set_option maxRecDepth 20000 in
theorem ok_X9_getsOne (G : GT) (who b : Int) (R0 : Int → Prop) (v : VT) (hc : 0 ≤ v 119 16 ∧ v 119 16 ≤ 8) (hcon : Con (v 125) (v 126) (v 119 16) 20) (hwho : 0 ≤ who ∧ who < v 119 16) (hwc : v 125 who = -4) (hR0 : ClosedR (v 126) (v 124) 20 b R0) (hR1 : ∀ d, R0 d → ¬ d = who) : MNi G yX9_getsOne cX9_getsOne 8 (some .boolean) 1 26 [vr 119, vi who, vi b] v (fun r w => (∀ a j, (a < 125 ∨ 128 < a) → w a j = v a j) ∧ ((r = 0 ∧ w 125 = v 125 ∧ w 126 = v 126 ∧ Fail1 (v 125) (v 126) (v 124) (v 119 16) 20 who b) ∨ (r = 1 ∧ Flip (v 125) (v 126) (v 124) (v 119 16) 20 who b (w 125) (w 126) ∧ ¬ w 125 who = -4 ∧ ∀ d, R0 d → w 125 d = v 125 d))) := by
  refine MN.of pn_X9_getsOne [some (vr 119), some (vi who), some (vi b), none, none, none, none, none] 5 rfl rfl (fun X C hX hn hR => ?_)
  have hN : ∀ i : Nat, i < 8 → i < xn X := fun i h => by rw [hn]; exact h
  refine E.rngk (fun hinv => ?_)
  refine E.loc (fun hloc => ?_)
  have hin_1 : in32 who := hloc _ (List.mem_of_getElem? (i := 1) rfl)
  have hin_2 : in32 b := hloc _ (List.mem_of_getElem? (i := 2) rfl)
  refine E.iload_n C dX9_getsOne_0 rfl rfl ?_
  refine N.ist_3 C dX9_getsOne_1 (hN 3 (by decide)) rfl ?_
  refine E.iconst C dX9_getsOne_2 (by decide) ?_
  refine N.ist_4 C dX9_getsOne_3 (hN 4 (by decide)) rfl ?_
  refine E.aload_n C dX9_getsOne_5 rfl rfl ?_
  refine N.getR C fa_X9_35 rfl dX9_getsOne_6 kd_119 (x := 128) (by decide +kernel) (by decide) ?_
  refine E.iconst C dX9_getsOne_9 (by decide) ?_
  refine E.iload_n C dX9_getsOne_10 rfl rfl ?_
  refine N.iast C dX9_getsOne_11 kd_128 ln_128 (by omega) ?_
  refine E.iconst C dX9_getsOne_12 (by decide) ?_
  refine N.ist_5 C dX9_getsOne_13 (hN 5 (by decide)) rfl ?_
  have lp15 : ∀ (k15 : Nat) (wt : Int) (nx : Int) (sn : Int) (w : VT), (100 + v 119 16 - nx).toNat = k15 → (0 ≤ nx ∧ nx ≤ wt ∧ (∀ a j, ¬ a = 127 → ¬ a = 128 → w a j = v a j) ∧ SI (oneP (v 125) who) (v 126) (v 124) (w 127) (w 128) (v 119 16) 20 0 b sn 0 0 wt nx ∧ (∀ i, 0 ≤ i → i < nx → ∀ x, 0 ≤ x → x < 20 → bt (v 124 (w 128 i)) x = true → bt b x = false → bt sn x = true)) → E X G 0 0 1000 w 15 [some (vr 119), some (vi who), some (vi b), some (vi sn), some (vi wt), some (vi nx), none, none] [] := by
    intro k15
    induction k15 using Nat.strongRecOn with
    | ind k15 ih15 =>
      intro wt nx sn w hk15 hI15
      obtain ⟨hn0, hn1, hfr, hsi, hJ⟩ := hI15; have hle := SI_le hsi (by omega) hc.1
      refine E.iload C dX9_getsOne_15 rfl ?_
      refine E.iload C dX9_getsOne_17 rfl ?_
      refine E.icmp_ge C dX9_getsOne_19 (tgt := 127) (by decide) (fun h19 => ?_) (fun h19 => ?_)
      · skip
        refine E.iconst C dX9_getsOne_127 (by decide) ?_
        exact N.zret C hR dX9_getsOne_128 (by omega) (fun hi => by refine ⟨fun a j g => hfr a j (by omega) (by omega), Or.inl ⟨rfl, funext (fun j => hfr _ _ (by decide) (by decide)), funext (fun j => hfr _ _ (by decide) (by decide)), ?_⟩⟩; have e : nx = wt := (by omega); subst e; exact fail1 hwho (SI_fail hsi hJ))
      · skip
        have hq1 := hsi.1 nx hn0 (by omega)
        refine E.aload_n C dX9_getsOne_22 rfl rfl ?_
        refine N.getR C fa_X9_35 rfl dX9_getsOne_23 kd_119 (x := 128) (by decide +kernel) (by decide) ?_
        refine E.iload C dX9_getsOne_26 rfl ?_
        refine N.iald C dX9_getsOne_28 kd_128 ln_128 (by omega) (x := w 128 nx) rfl ?_
        refine N.ist_6 C dX9_getsOne_29 (hN 6 (by decide)) rfl ?_
        refine E.iconst C dX9_getsOne_31 (by decide) ?_
        refine N.ist_7 C dX9_getsOne_32 (hN 7 (by decide)) rfl ?_
        have lp34 : ∀ (k34 : Nat) (wt3 : Int) (sm : Int) (t : Int) (w3 : VT), (20 - t).toNat = k34 → (0 ≤ t ∧ t ≤ 20 ∧ nx < wt3 ∧ (∀ a j, ¬ a = 127 → ¬ a = 128 → w3 a j = v a j) ∧ SI (oneP (v 125) who) (v 126) (v 124) (w3 127) (w3 128) (v 119 16) 20 0 b sm 0 0 wt3 (nx + 1) ∧ (∀ i, 0 ≤ i → i ≤ nx → w3 128 i = w 128 i) ∧ (∀ x, bt sn x = true → bt sm x = true) ∧ (∀ x, 0 ≤ x → x < t → bt (v 124 (w 128 nx)) x = true → bt sm x = true)) → E X G 0 0 1000 w3 34 [some (vr 119), some (vi who), some (vi b), some (vi sm), some (vi wt3), some (vi nx), some (vi (w 128 nx)), some (vi t)] [] := by
          intro k34
          induction k34 using Nat.strongRecOn with
          | ind k34 ih34 =>
            intro wt3 sm t w3 hk34 hI34
            obtain ⟨ht0, ht1, hnw, hfr3, hsi3, hqs, hmn, hK⟩ := hI34; have hle3 := SI_le hsi3 (by omega) hc.1; have hqn := hqs nx hn0 (Int.le_refl _)
            refine E.iload C dX9_getsOne_34 rfl ?_
            refine E.bipush C dX9_getsOne_36 (by decide) ?_
            refine E.icmp_ge C dX9_getsOne_38 (tgt := 121) (by decide) (fun h38 => ?_) (fun h38 => ?_)
            · skip
              refine N.iinc_5 C dX9_getsOne_121 (hN 5 (by decide)) rfl (by omega) ?_
              refine E.goto C dX9_getsOne_124 (tgt := 15) (by decide) ?_
              refine E.drop (i := 6) ?_
              refine E.drop (i := 7) ?_
              exact ih15 _ (by omega) wt3 (nx + 1) sm w3 rfl (by refine ⟨by omega, by omega, hfr3, hsi3, fun i g1 g2 x g3 g4 g5 g6 => ?_⟩; rw [hqs i g1 (by omega)] at g5; by_cases hi : i = nx; (rw [hi] at g5; exact hK x g3 (by omega) g5); exact hmn x (hJ i g1 (by omega) x g3 g4 g5 g6))
            · skip
              refine E.aload_n C dX9_getsOne_41 rfl rfl ?_
              refine N.getR C fa_X9_23 rfl dX9_getsOne_42 kd_119 (x := 124) (by decide +kernel) (by decide) ?_
              refine E.iload C dX9_getsOne_45 rfl ?_
              refine N.iald C dX9_getsOne_47 kd_124 ln_124 (by omega) (x := v 124 (w 128 nx)) (hfr3 _ _ (by decide) (by decide)) ?_
              refine E.iload_n C dX9_getsOne_48 rfl rfl ?_
              refine E.iconst C dX9_getsOne_49 (by decide) ?_
              refine E.ixor C dX9_getsOne_50 ?_
              refine E.iand C dX9_getsOne_51 ?_
              refine E.iload C dX9_getsOne_52 rfl ?_
              refine E.ishr C dX9_getsOne_54 ?_
              refine E.iconst C dX9_getsOne_55 (by decide) ?_
              refine E.iand C dX9_getsOne_56 ?_
              refine E.iconst C dX9_getsOne_57 (by decide) ?_
              refine E.icmp_ne C dX9_getsOne_58 (tgt := 115) (by decide) (fun h58 => ?_) (fun h58 => ?_)
              · skip
                refine N.iinc_7 C dX9_getsOne_115 (hN 7 (by decide)) rfl (by omega) ?_
                refine E.goto C dX9_getsOne_118 (tgt := 34) (by decide) ?_
                exact ih34 _ (by omega) wt3 sm (t + 1) w3 rfl (by first | (refine ⟨by omega, by omega, hnw, hfr3, hsi3, hqs, hmn, fun x g1 g2 g3 => ?_⟩; by_cases hx : x = t; (rw [hx] at g3 ⊢; cases e : bt sm t with | true => rfl | false => exact absurd ((bitI_1 ⟨ht0, by omega⟩).mpr ((bt_open (by omega) ht0).mpr ⟨g3, e⟩)) h58); exact hK x g1 (by omega) g3) | (refine ⟨by omega, by omega, by omega, fun a j g1 g2 => (upd2_ne _ _ _ _ _ _ (Or.inl g2)).trans ((upd2_ne _ _ _ _ _ _ (Or.inl g1)).trans (hfr3 a j g1 g2)), by rw [upd2_rowne (by decide), upd2_row, upd2_row, upd2_rowne (by decide)]; exact hpu, fun i g1 g2 => (upd2_ne _ _ _ _ _ _ (Or.inr (by omega))).trans ((upd2_ne _ _ _ _ _ _ (Or.inl (by decide))).trans (hqs i g1 g2)), fun x hx => by rw [bt_or, hmn x hx]; rfl, fun x g1 g2 g3 => ?_⟩; by_cases hx : x = t; (rw [bt_or, bt_shl ⟨ht0, by omega⟩ ⟨g1, by omega⟩, hx]; simp); (rw [bt_or, hK x g1 (by omega) g3]; rfl)))
              · skip
                have hotb := (bitI_1 ⟨ht0, by omega⟩).mp h58
                have hot := (bt_open (by omega) ht0).mp hotb
                have hq3 := hsi3.1 nx hn0 hnw
                refine E.iload_n C dX9_getsOne_61 rfl rfl ?_
                refine E.iconst C dX9_getsOne_62 (by decide) ?_
                refine E.iload C dX9_getsOne_63 rfl ?_
                refine E.ishl C dX9_getsOne_65 ?_
                refine E.ior C dX9_getsOne_66 ?_
                refine N.ist_3 C dX9_getsOne_67 (hN 3 (by decide)) rfl ?_
                refine E.aload_n C dX9_getsOne_68 rfl rfl ?_
                refine N.getR C fa_X9_32 rfl dX9_getsOne_69 kd_119 (x := 127) (by decide +kernel) (by decide) ?_
                refine E.iload C dX9_getsOne_72 rfl ?_
                refine E.iload C dX9_getsOne_74 rfl ?_
                refine N.iast C dX9_getsOne_76 kd_127 ln_127 (by omega) ?_
                refine E.aload_n C dX9_getsOne_77 rfl rfl ?_
                refine N.getR C fa_X9_29 rfl dX9_getsOne_78 kd_119 (x := 126) (by decide +kernel) (by decide) ?_
                refine E.iload C dX9_getsOne_81 rfl ?_
                refine N.iald C dX9_getsOne_83 kd_126 ln_126 (by omega) (x := v 126 t) ((upd2_ne _ _ _ _ _ _ (Or.inl (by decide))).trans (hfr3 _ _ (by decide) (by decide))) ?_
                refine E.bipush C dX9_getsOne_84 (by decide) ?_
                refine E.icmp_ne C dX9_getsOne_86 (tgt := 98) (by decide) (fun h86 => ?_) (fun h86 => ?_)
                · skip
                  have hown := one_own hcon hwc ⟨ht0, by omega⟩ h86
                  have hpu := SI1_push hsi3 ⟨hn0, hnw⟩ ⟨ht0, by omega⟩ (by omega) hot.2 (by rw [hqn]; exact hot.1) h86 hown (sk1 := fun j => if j = t then w 128 nx else w3 127 j) (q1 := fun j => if j = wt3 then v 126 t else w3 128 j) (by rw [hqn]) rfl
                  have hle4 := SI_le hpu (by omega) hc.1
                  refine E.aload_n C dX9_getsOne_98 rfl rfl ?_
                  refine N.getR C fa_X9_35 rfl dX9_getsOne_99 kd_119 (x := 128) (by decide +kernel) (by decide) ?_
                  refine E.iload C dX9_getsOne_102 rfl ?_
                  refine E.aload_n C dX9_getsOne_104 rfl rfl ?_
                  refine N.getR C fa_X9_29 rfl dX9_getsOne_105 kd_119 (x := 126) (by decide +kernel) (by decide) ?_
                  refine E.iload C dX9_getsOne_108 rfl ?_
                  refine N.iald C dX9_getsOne_110 kd_126 ln_126 (by omega) (x := v 126 t) ((upd2_ne _ _ _ _ _ _ (Or.inl (by decide))).trans (hfr3 _ _ (by decide) (by decide))) ?_
                  refine N.iast C dX9_getsOne_111 kd_128 ln_128 (by omega) ?_
                  refine N.iinc_4 C dX9_getsOne_112 (hN 4 (by decide)) rfl (by omega) ?_
                  refine N.iinc_7 C dX9_getsOne_115 (hN 7 (by decide)) rfl (by omega) ?_
                  refine E.goto C dX9_getsOne_118 (tgt := 34) (by decide) ?_
                  exact ih34 _ (by omega) (wt3 + 1) (jor sm (jshl 1 t)) (t + 1) (upd2 (upd2 w3 127 t (w 128 nx)) 128 wt3 (v 126 t)) rfl (by first | (refine ⟨by omega, by omega, hnw, hfr3, hsi3, hqs, hmn, fun x g1 g2 g3 => ?_⟩; by_cases hx : x = t; (rw [hx] at g3 ⊢; cases e : bt sm t with | true => rfl | false => exact absurd ((bitI_1 ⟨ht0, by omega⟩).mpr ((bt_open (by omega) ht0).mpr ⟨g3, e⟩)) h58); exact hK x g1 (by omega) g3) | (refine ⟨by omega, by omega, by omega, fun a j g1 g2 => (upd2_ne _ _ _ _ _ _ (Or.inl g2)).trans ((upd2_ne _ _ _ _ _ _ (Or.inl g1)).trans (hfr3 a j g1 g2)), by rw [upd2_rowne (by decide), upd2_row, upd2_row, upd2_rowne (by decide)]; exact hpu, fun i g1 g2 => (upd2_ne _ _ _ _ _ _ (Or.inr (by omega))).trans ((upd2_ne _ _ _ _ _ _ (Or.inl (by decide))).trans (hqs i g1 g2)), fun x hx => by rw [bt_or, hmn x hx]; rfl, fun x g1 g2 g3 => ?_⟩; by_cases hx : x = t; (rw [bt_or, bt_shl ⟨ht0, by omega⟩ ⟨g1, by omega⟩, hx]; simp); (rw [bt_or, hK x g1 (by omega) g3]; rfl)))
                · skip
                  have hsq := SI_found (SI1_pre hsi3 (t := t) ⟨ht0, by omega⟩) (by omega) ⟨hn0, hnw⟩ ⟨ht0, by omega⟩ hot.2 (by rw [hqn]; exact hot.1) (by omega) (sk1 := fun j => if j = t then w 128 nx else w3 127 j) (by rw [hqn])
                  obtain ⟨-, hfz, bar2, D, rk, hDt, hway, hroot, hb1, hb2⟩ := found1 (by omega) hcon hwho hwc ht0 hsq hR0
                  refine E.aload_n C dX9_getsOne_89 rfl rfl ?_
                  refine E.iload_n C dX9_getsOne_90 rfl rfl ?_
                  refine E.iload C dX9_getsOne_91 rfl ?_
                  have g125 : (upd2 w3 127 t (w 128 nx)) 125 = v 125 := (upd2_rowne (by decide)).trans (funext (fun j => hfr3 _ _ (by decide) (by decide)))
                  have g126 : (upd2 w3 127 t (w 128 nx)) 126 = v 126 := (upd2_rowne (by decide)).trans (funext (fun j => hfr3 _ _ (by decide) (by decide)))
                  have g124 : (upd2 w3 127 t (w 128 nx)) 124 = v 124 := (upd2_rowne (by decide)).trans (funext (fun j => hfr3 _ _ (by decide) (by decide)))
                  have g127 : (upd2 w3 127 t (w 128 nx)) 127 = (fun j => if j = t then w 128 nx else w3 127 j) := upd2_row _ _ _ _
                  refine N.callVv (S := []) (As := [vi who, vi t]) C hX (ok_X9_givesOn G who t bar2 D rk (upd2 w3 127 t (w 128 nx)) (by rw [upd2_ne _ _ _ _ _ _ (Or.inl (by decide)), hfr3 _ _ (by decide) (by decide)]; exact hc) (by rw [g125, g126, upd2_ne _ _ _ _ _ _ (Or.inl (by decide)), hfr3 _ _ (by decide) (by decide)]; exact hcon) (by rw [g125, g124, g127, upd2_ne _ _ _ _ _ _ (Or.inl (by decide)), hfr3 _ _ (by decide) (by decide)]; exact hway) (by rw [g125, g127]; exact hroot) hDt (by rw [g126]; exact hfz) (by rw [g125]; exact hwc)) yf_X9_givesOn yv_X9_givesOn ml_X9_226 rfl rfl rfl kd_119 (by decide) (by decide) (Nat.le_of_ble_eq_true rfl) dX9_getsOne_93 rfl (fun w93 hp93 => ?_)
                  obtain ⟨hgf, hgF, hgw⟩ := hp93
                  rw [g125, g126, g124, upd2_ne _ _ _ _ _ _ (Or.inl (by decide)), hfr3 _ _ (by decide) (by decide)] at hgF
                  refine E.iconst C dX9_getsOne_96 (by decide) ?_
                  exact N.zret C hR dX9_getsOne_97 (by omega) (fun hi => by refine ⟨fun a j g => by rw [hgf _ _ (by omega) (by omega), upd2_ne _ _ _ _ _ _ (Or.inl (by omega))]; exact hfr3 a j (by omega) (by omega), Or.inr ⟨rfl, flip_mono (by omega) hcon (Int.le_refl _) hb1 hgF, hgw, flip_keep hcon hR1 hgw hwc hb2 hgF⟩⟩)
        exact lp34 _ wt sn 0 w rfl (by exact ⟨by omega, by omega, by omega, hfr, SI_mono hsi (fun x => Iff.rfl) (fun x hx => hx) (by omega), fun i _ _ => rfl, fun x hx => hx, fun x g1 g2 => by omega⟩)
  exact lp15 _ 1 0 b (upd2 v 128 0 who) rfl (by exact ⟨by omega, by omega, fun a j g1 g2 => upd2_ne _ _ _ _ _ _ (Or.inl g2), SI1_0 hwho (upd2_same _ _ _ _), fun i g1 g2 => by omega⟩)
