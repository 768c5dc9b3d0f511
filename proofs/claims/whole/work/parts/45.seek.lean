set_option maxHeartbeats 4000000 in
set_option maxRecDepth 20000 in
theorem ok_X1_seekFree (G : GT) (fm b : Int) (v : VT) (hc : 0 ≤ v 54 5 ∧ v 54 5 ≤ 8) (hT : 0 ≤ v 54 6 ∧ v 54 6 ≤ 20) (hf : 0 ≤ fm ∧ fm ≤ v 54 5) (hown : ∀ x, 0 ≤ x → x < v 54 6 → v 57 x = -4 ∨ (0 ≤ v 57 x ∧ v 57 x < v 54 5 ∧ v 56 (v 57 x) = x)) (hmb : ∀ c, 0 ≤ c → c < v 54 5 → ∀ x, v 54 6 ≤ x → x < 32 → bt (v 55 c) x = false) : MNi G yX1_seekFree cX1_seekFree 8 (some .int) 0 0 [vr 54, vi fm, vi b] v (fun r w => (∀ a j, ¬ a = 58 → ¬ a = 59 → w a j = v a j) ∧ SeekQ (v 56) (v 57) (v 55) (w 58) (v 54 5) (v 54 6) fm b r) := by
  refine MN.of pn_X1_seekFree [some (vr 54), some (vi fm), some (vi b), none, none, none, none, none] 5 rfl rfl (fun X C hX hn hR => ?_)
  have hN : ∀ i : Nat, i < 8 → i < xn X := fun i h => by rw [hn]; exact h
  refine E.rngk (fun hinv => ?_)
  refine E.loc (fun hloc => ?_)
  have hin_1 : in32 fm := hloc _ (List.mem_of_getElem? (i := 1) rfl)
  have hin_2 : in32 b := hloc _ (List.mem_of_getElem? (i := 2) rfl)
  refine E.iconst C dX1_seekFree_0 (by decide) ?_
  refine N.ist_3 C dX1_seekFree_1 (hN 3 (by decide)) rfl ?_
  refine E.iload_n C dX1_seekFree_2 rfl rfl ?_
  refine N.ist_4 C dX1_seekFree_3 (hN 4 (by decide)) rfl ?_
  have lp5 : ∀ (k5 : Nat) (wt : Int) (c : Int) (w : VT), (v 54 5 - c).toNat = k5 → (fm ≤ c ∧ c ≤ v 54 5 ∧ (∀ a j, ¬ a = 58 → ¬ a = 59 → w a j = v a j) ∧ Q1 (v 56) (w 59) fm c wt) → E X G 0 0 1000 w 5 [some (vr 54), some (vi fm), some (vi b), some (vi wt), some (vi c), none, none, none] [] := by
    intro k5
    induction k5 using Nat.strongRecOn with
    | ind k5 ih5 =>
      intro wt c w hk5 hI5
      obtain ⟨hc0, hc1, hfr, hq⟩ := hI5; have hq0 := hq.1; have hq2 := hq.2.1
      refine E.iload C dX1_seekFree_5 rfl ?_
      refine E.aload_n C dX1_seekFree_7 rfl rfl ?_
      refine N.getI C fa_X1_43 rfl dX1_seekFree_8 kd_54 (x := v 54 5) (hfr _ _ (by decide) (by decide)) ?_
      refine E.icmp_ge C dX1_seekFree_11 (tgt := 43) (by decide) (fun h11 => ?_) (fun h11 => ?_)
      · skip
        refine E.iload_n C dX1_seekFree_43 rfl rfl ?_
        refine N.ist_4 C dX1_seekFree_44 (hN 4 (by decide)) rfl ?_
        refine E.iconst C dX1_seekFree_46 (by decide) ?_
        refine N.ist_5 C dX1_seekFree_47 (hN 5 (by decide)) rfl ?_
        have lp49 : ∀ (k49 : Nat) (wt2 : Int) (sn : Int) (nx : Int) (w2 : VT), (100 + v 54 5 - nx).toNat = k49 → (0 ≤ nx ∧ nx ≤ wt2 ∧ (∀ a j, ¬ a = 58 → ¬ a = 59 → w2 a j = v a j) ∧ SI (v 56) (v 57) (v 55) (w2 58) (w2 59) (v 54 5) (v 54 6) fm b sn 0 0 wt2 nx ∧ (∀ i, 0 ≤ i → i < nx → ∀ x, 0 ≤ x → x < v 54 6 → bt (v 55 (w2 59 i)) x = true → bt b x = false → bt sn x = true)) → E X G 0 0 1000 w2 49 [some (vr 54), some (vi fm), some (vi b), some (vi wt2), some (vi sn), some (vi nx), none, none] [] := by
          intro k49
          induction k49 using Nat.strongRecOn with
          | ind k49 ih49 =>
            intro wt2 sn nx w2 hk49 hI49
            obtain ⟨hn0, hn1, hfr2, hsi, hJ⟩ := hI49; have hle := SI_le hsi (by omega) hc.1
            refine E.iload C dX1_seekFree_49 rfl ?_
            refine E.iload_n C dX1_seekFree_51 rfl rfl ?_
            refine E.icmp_ge C dX1_seekFree_52 (tgt := 167) (by decide) (fun h52 => ?_) (fun h52 => ?_)
            · skip
              refine E.bipush C dX1_seekFree_167 (by decide) ?_
              exact N.iret C hR dX1_seekFree_169 (fun hi hx => by have e : nx = wt2 := (by omega); subst e; exact ⟨hfr2, SI_fail hsi hJ⟩)
            · skip
              have hq1 := hsi.1 nx hn0 (by omega)
              have hop : ∀ y, bt (jand (v 55 (w2 59 nx)) (jxor sn (-1))) y = true → y < v 54 6 := by
                intro y hy
                by_cases hy2 : y < v 54 6
                · exact hy2
                · exfalso
                  by_cases hy3 : y < 32
                  · have := ((bt_open hy3 (by omega)).mp hy).1
                    rw [hmb _ hq1.1 hq1.2 y (by omega) hy3] at this
                    exact absurd this (by decide)
                  · rw [bt_big (by omega)] at hy
                    exact absurd hy (by decide)
              refine E.aload_n C dX1_seekFree_55 rfl rfl ?_
              refine N.getR C fa_X1_9 rfl dX1_seekFree_56 kd_54 (x := 55) (by decide +kernel) (by decide) ?_
              refine E.aload_n C dX1_seekFree_59 rfl rfl ?_
              refine N.getR C fa_X1_24 rfl dX1_seekFree_60 kd_54 (x := 59) (by decide +kernel) (by decide) ?_
              refine E.iload C dX1_seekFree_63 rfl ?_
              refine N.iald C dX1_seekFree_65 kd_59 ln_59 (by omega) (x := w2 59 nx) rfl ?_
              refine N.iald C dX1_seekFree_66 kd_55 ln_55 (by omega) (x := v 55 (w2 59 nx)) (hfr2 _ _ (by decide) (by decide)) ?_
              refine E.iload C dX1_seekFree_67 rfl ?_
              refine E.iconst C dX1_seekFree_69 (by decide) ?_
              refine E.ixor C dX1_seekFree_70 ?_
              refine E.iand C dX1_seekFree_71 ?_
              refine N.ist_6 C dX1_seekFree_72 (hN 6 (by decide)) rfl ?_
              refine E.iload C dX1_seekFree_74 rfl ?_
              refine E.iload C dX1_seekFree_76 rfl ?_
              refine E.ior C dX1_seekFree_78 ?_
              refine N.ist_4 C dX1_seekFree_79 (hN 4 (by decide)) rfl ?_
              refine E.iconst C dX1_seekFree_81 (by decide) ?_
              refine N.ist_7 C dX1_seekFree_82 (hN 7 (by decide)) rfl ?_
              have lp84 : ∀ (k84 : Nat) (wt3 : Int) (t : Int) (w3 : VT), (v 54 6 - t).toNat = k84 → (0 ≤ t ∧ t ≤ v 54 6 ∧ nx < wt3 ∧ (∀ a j, ¬ a = 58 → ¬ a = 59 → w3 a j = v a j) ∧ SI (v 56) (v 57) (v 55) (w3 58) (w3 59) (v 54 5) (v 54 6) fm b sn (jand (v 55 (w2 59 nx)) (jxor sn (-1))) t wt3 (nx + 1) ∧ (∀ i, 0 ≤ i → i ≤ nx → w3 59 i = w2 59 i)) → E X G 0 0 1000 w3 84 [some (vr 54), some (vi fm), some (vi b), some (vi wt3), some (vi (jor sn (jand (v 55 (w2 59 nx)) (jxor sn (-1))))), some (vi nx), some (vi (jand (v 55 (w2 59 nx)) (jxor sn (-1)))), some (vi t)] [] := by
                intro k84
                induction k84 using Nat.strongRecOn with
                | ind k84 ih84 =>
                  intro wt3 t w3 hk84 hI84
                  obtain ⟨ht0, ht1, hnw, hfr3, hsi3, hqs⟩ := hI84; have hle3 := SI_le hsi3 (by omega) hc.1; have hqn := hqs nx hn0 (Int.le_refl _)
                  refine E.iload C dX1_seekFree_84 rfl ?_
                  refine E.aload_n C dX1_seekFree_86 rfl rfl ?_
                  refine N.getI C fa_X1_47 rfl dX1_seekFree_87 kd_54 (x := v 54 6) (hfr3 _ _ (by decide) (by decide)) ?_
                  refine E.icmp_ge C dX1_seekFree_90 (tgt := 161) (by decide) (fun h90 => ?_) (fun h90 => ?_)
                  · skip
                    refine N.iinc_5 C dX1_seekFree_161 (hN 5 (by decide)) rfl (by omega) ?_
                    refine E.goto C dX1_seekFree_164 (tgt := 49) (by decide) ?_
                    refine E.drop (i := 6) ?_
                    refine E.drop (i := 7) ?_
                    exact ih49 _ (by omega) wt3 (jor sn (jand (v 55 (w2 59 nx)) (jxor sn (-1)))) (nx + 1) w3 rfl (by refine ⟨by omega, by omega, hfr3, SI_mono hsi3 (fun x => Dp_end (fun y hy => by have := hop y hy; omega)) (fun x hx => by rw [bt_or, hx]; rfl) (by omega), fun i g1 g2 x g3 g4 g5 g6 => ?_⟩; rw [hqs i g1 (by omega)] at g5; by_cases hi : i = nx; (subst hi; cases hsx : bt sn x with | true => (rw [bt_or, hsx]; rfl) | false => (rw [bt_or, (bt_open (by omega) g3).mpr ⟨g5, hsx⟩]; simp)); (rw [bt_or, hJ i g1 (by omega) x g3 g4 g5 g6]; rfl))
                  · skip
                    refine E.iload C dX1_seekFree_93 rfl ?_
                    refine E.iload C dX1_seekFree_95 rfl ?_
                    refine E.ishr C dX1_seekFree_97 ?_
                    refine E.iconst C dX1_seekFree_98 (by decide) ?_
                    refine E.iand C dX1_seekFree_99 ?_
                    refine E.iconst C dX1_seekFree_100 (by decide) ?_
                    refine E.icmp_ne C dX1_seekFree_101 (tgt := 155) (by decide) (fun h101 => ?_) (fun h101 => ?_)
                    · skip
                      refine N.iinc_7 C dX1_seekFree_155 (hN 7 (by decide)) rfl (by omega) ?_
                      refine E.goto C dX1_seekFree_158 (tgt := 84) (by decide) ?_
                      exact ih84 _ (by omega) wt3 (t + 1) w3 rfl (by first | exact ⟨by omega, by omega, hnw, hfr3, SI_mono hsi3 (fun x => Dp_skip (by cases e : bt (jand (v 55 (w2 59 nx)) (jxor sn (-1))) t with | false => rfl | true => exact absurd ((bitI_1 ⟨ht0, by omega⟩).mpr e) h101)) (fun x hx => hx) (Int.le_refl _), hqs⟩ | exact ⟨by omega, by omega, by omega, fun a j g1 g2 => (upd2_ne _ _ _ _ _ _ (Or.inl g2)).trans ((upd2_ne _ _ _ _ _ _ (Or.inl g1)).trans (hfr3 a j g1 g2)), SI_push hsi3 ⟨hn0, hnw⟩ ⟨ht0, by omega⟩ hot.2 hotb (by rw [hqn]; exact hot.1) h127 (by omega) ((upd2_rowne (by decide)).trans (upd2_row _ _ _ _)) (by rw [upd2_row, upd2_rowne (by decide)]), fun i g1 g2 => (upd2_ne _ _ _ _ _ _ (Or.inr (by omega))).trans ((upd2_ne _ _ _ _ _ _ (Or.inl (by decide))).trans (hqs i g1 g2))⟩)
                    · skip
                      have hotb := (bitI_1 ⟨ht0, by omega⟩).mp h101
                      have hot := (bt_open (by omega) ht0).mp hotb
                      have hq3 := hsi3.1 nx hn0 hnw
                      have hwt := hown t ht0 (by omega)
                      refine E.aload_n C dX1_seekFree_104 rfl rfl ?_
                      refine N.getR C fa_X1_21 rfl dX1_seekFree_105 kd_54 (x := 58) (by decide +kernel) (by decide) ?_
                      refine E.iload C dX1_seekFree_108 rfl ?_
                      refine E.aload_n C dX1_seekFree_110 rfl rfl ?_
                      refine N.getR C fa_X1_24 rfl dX1_seekFree_111 kd_54 (x := 59) (by decide +kernel) (by decide) ?_
                      refine E.iload C dX1_seekFree_114 rfl ?_
                      refine N.iald C dX1_seekFree_116 kd_59 ln_59 (by omega) (x := w3 59 nx) rfl ?_
                      refine N.iast C dX1_seekFree_117 kd_58 ln_58 (by omega) ?_
                      refine E.aload_n C dX1_seekFree_118 rfl rfl ?_
                      refine N.getR C fa_X1_18 rfl dX1_seekFree_119 kd_54 (x := 57) (by decide +kernel) (by decide) ?_
                      refine E.iload C dX1_seekFree_122 rfl ?_
                      refine N.iald C dX1_seekFree_124 kd_57 ln_57 (by omega) (x := v 57 t) ((upd2_ne _ _ _ _ _ _ (Or.inl (by decide))).trans (hfr3 _ _ (by decide) (by decide))) ?_
                      refine E.bipush C dX1_seekFree_125 (by decide) ?_
                      refine E.icmp_ne C dX1_seekFree_127 (tgt := 133) (by decide) (fun h127 => ?_) (fun h127 => ?_)
                      · skip
                        refine E.iload_n C dX1_seekFree_133 rfl rfl ?_
                        refine E.bipush C dX1_seekFree_134 (by decide) ?_
                        refine E.icmp_ge C dX1_seekFree_136 (tgt := 155) (by decide) (fun h136 => by exfalso; have hpz := SI_le (SI_push hsi3 ⟨hn0, hnw⟩ ⟨ht0, by omega⟩ hot.2 hotb (by rw [hqn]; exact hot.1) h127 (by omega) (sk1 := fun j => if j = t then w3 59 nx else w3 58 j) rfl rfl) (by omega) hc.1; omega) (fun h136 => ?_)
                        refine E.aload_n C dX1_seekFree_139 rfl rfl ?_
                        refine N.getR C fa_X1_24 rfl dX1_seekFree_140 kd_54 (x := 59) (by decide +kernel) (by decide) ?_
                        refine E.iload_n C dX1_seekFree_143 rfl rfl ?_
                        refine E.aload_n C dX1_seekFree_144 rfl rfl ?_
                        refine N.getR C fa_X1_18 rfl dX1_seekFree_145 kd_54 (x := 57) (by decide +kernel) (by decide) ?_
                        refine E.iload C dX1_seekFree_148 rfl ?_
                        refine N.iald C dX1_seekFree_150 kd_57 ln_57 (by omega) (x := v 57 t) ((upd2_ne _ _ _ _ _ _ (Or.inl (by decide))).trans (hfr3 _ _ (by decide) (by decide))) ?_
                        refine N.iast C dX1_seekFree_151 kd_59 ln_59 (by omega) ?_
                        refine N.iinc_3 C dX1_seekFree_152 (hN 3 (by decide)) rfl (by omega) ?_
                        refine N.iinc_7 C dX1_seekFree_155 (hN 7 (by decide)) rfl (by omega) ?_
                        refine E.goto C dX1_seekFree_158 (tgt := 84) (by decide) ?_
                        exact ih84 _ (by omega) (wt3 + 1) (t + 1) (upd2 (upd2 w3 58 t (w3 59 nx)) 59 wt3 (v 57 t)) rfl (by first | exact ⟨by omega, by omega, hnw, hfr3, SI_mono hsi3 (fun x => Dp_skip (by cases e : bt (jand (v 55 (w2 59 nx)) (jxor sn (-1))) t with | false => rfl | true => exact absurd ((bitI_1 ⟨ht0, by omega⟩).mpr e) h101)) (fun x hx => hx) (Int.le_refl _), hqs⟩ | exact ⟨by omega, by omega, by omega, fun a j g1 g2 => (upd2_ne _ _ _ _ _ _ (Or.inl g2)).trans ((upd2_ne _ _ _ _ _ _ (Or.inl g1)).trans (hfr3 a j g1 g2)), SI_push hsi3 ⟨hn0, hnw⟩ ⟨ht0, by omega⟩ hot.2 hotb (by rw [hqn]; exact hot.1) h127 (by omega) ((upd2_rowne (by decide)).trans (upd2_row _ _ _ _)) (by rw [upd2_row, upd2_rowne (by decide)]), fun i g1 g2 => (upd2_ne _ _ _ _ _ _ (Or.inr (by omega))).trans ((upd2_ne _ _ _ _ _ _ (Or.inl (by decide))).trans (hqs i g1 g2))⟩)
                      · skip
                        refine E.iload C dX1_seekFree_130 rfl ?_
                        exact N.iret C hR dX1_seekFree_132 (fun hi hx => by refine ⟨fun a j g1 g2 => (upd2_ne _ _ _ _ _ _ (Or.inl g1)).trans (hfr3 a j g1 g2), SI_found hsi3 (by omega) ⟨hn0, hnw⟩ ⟨ht0, by omega⟩ hot.2 (by rw [hqn]; exact hot.1) (by omega) (upd2_row _ _ _ _)⟩)
              exact lp84 _ wt2 0 w2 rfl (by exact ⟨by omega, by omega, by omega, hfr2, SI_mono hsi (fun x => Dp_00) (fun x hx => hx) (by omega), fun i _ _ => rfl⟩)
        exact lp49 _ wt b 0 w rfl (by refine ⟨by omega, by omega, hfr, ?_, fun i g1 g2 => by omega⟩; have e : c = v 54 5 := (by omega); rw [e] at hq; exact Q1_SI hf.1 hq)
      · skip
        refine E.aload_n C dX1_seekFree_14 rfl rfl ?_
        refine N.getR C fa_X1_15 rfl dX1_seekFree_15 kd_54 (x := 56) (by decide +kernel) (by decide) ?_
        refine E.iload C dX1_seekFree_18 rfl ?_
        refine N.iald C dX1_seekFree_20 kd_56 ln_56 (by omega) (x := v 56 c) (hfr _ _ (by decide) (by decide)) ?_
        refine E.bipush C dX1_seekFree_21 (by decide) ?_
        refine E.icmp_ne C dX1_seekFree_23 (tgt := 37) (by decide) (fun h23 => ?_) (fun h23 => ?_)
        · skip
          refine N.iinc_4 C dX1_seekFree_37 (hN 4 (by decide)) rfl (by omega) ?_
          refine E.goto C dX1_seekFree_40 (tgt := 5) (by decide) ?_
          exact ih5 _ (by omega) wt (c + 1) w rfl (by first | exact ⟨by omega, by omega, hfr, Q1_n hq h23⟩ | exact ⟨by omega, by omega, fun a j g1 g2 => (upd2_ne _ _ _ _ _ _ (Or.inl g2)).trans (hfr a j g1 g2), Q1_s hq hc0 h23 (upd2_row _ _ _ _)⟩)
        · skip
          refine E.aload_n C dX1_seekFree_26 rfl rfl ?_
          refine N.getR C fa_X1_24 rfl dX1_seekFree_27 kd_54 (x := 59) (by decide +kernel) (by decide) ?_
          refine E.iload_n C dX1_seekFree_30 rfl rfl ?_
          refine E.iload C dX1_seekFree_31 rfl ?_
          refine N.iast C dX1_seekFree_33 kd_59 ln_59 (by omega) ?_
          refine N.iinc_3 C dX1_seekFree_34 (hN 3 (by decide)) rfl (by omega) ?_
          refine N.iinc_4 C dX1_seekFree_37 (hN 4 (by decide)) rfl (by omega) ?_
          refine E.goto C dX1_seekFree_40 (tgt := 5) (by decide) ?_
          exact ih5 _ (by omega) (wt + 1) (c + 1) (upd2 w 59 wt c) rfl (by first | exact ⟨by omega, by omega, hfr, Q1_n hq h23⟩ | exact ⟨by omega, by omega, fun a j g1 g2 => (upd2_ne _ _ _ _ _ _ (Or.inl g2)).trans (hfr a j g1 g2), Q1_s hq hc0 h23 (upd2_row _ _ _ _)⟩)
  exact lp5 _ 0 fm v rfl (by exact ⟨by omega, by omega, fun a j _ _ => rfl, Q1_0⟩)
