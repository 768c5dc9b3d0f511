set_option maxHeartbeats 4000000 in
set_option maxRecDepth 20000 in
theorem ok_X9_strong (G : GT) (s y q sl : Int) (A v : VT) (hA : WFV A 0) (hM : MR A (v 120)) (hal : v 119 2 = sl) (hsl : 0 ≤ sl ∧ sl ≤ 4) : MNi G yX9_strong cX9_strong 7 (some .int) 7 169 [vr 119, vi s, vi y, vi q] v (fun x w => (∀ a j, (¬ a = 119 ∨ ¬ j = 16) → ¬ a = 120 → (a < 124 ∨ 132 < a) → w a j = v a j) ∧ (∀ j, j < 597 → w 120 j = v 120 j) ∧ ((¬ ((0 ≤ s ∧ s ≤ 1) ∧ (1 ≤ y ∧ y ≤ 4)) ∧ x = -1) ∨ (((0 ≤ s ∧ s ≤ 1) ∧ (1 ≤ y ∧ y ≤ 4)) ∧ ((1 ≤ x ∧ x ≤ 9 ∧ ahdS (strF A 0 s x (A 0 5)) 0 s q sl y.toNat = 0 ∧ ∀ l, 1 ≤ l → l < x → ¬ ahdS (strF A 0 s l (A 0 5)) 0 s q sl y.toNat = 0) ∨ (x = -4 ∧ ∀ l, 1 ≤ l → l ≤ 9 → ¬ ahdS (strF A 0 s l (A 0 5)) 0 s q sl y.toNat = 0))))) := by
  refine MN.of pn_X9_strong [some (vr 119), some (vi s), some (vi y), some (vi q), none, none, none] 3 rfl rfl (fun X C hX hn hR => ?_)
  have hN : ∀ i : Nat, i < 7 → i < xn X := fun i h => by rw [hn]; exact h
  refine E.rngk (fun hinv => ?_)
  refine E.loc (fun hloc => ?_)
  have hin_1 : in32 s := hloc _ (List.mem_of_getElem? (i := 1) rfl)
  have hin_2 : in32 y := hloc _ (List.mem_of_getElem? (i := 2) rfl)
  have hin_3 : in32 q := hloc _ (List.mem_of_getElem? (i := 3) rfl)
  have hc := hM.1
  have hb := hM.2.1
  have hA1 := hA.1
  have hA2 := hA.2.1
  refine E.iload_n C dX9_strong_0 rfl rfl ?_
  refine N.callSp (S := []) (As := [vi s]) C hX (ok_X9_isSlot G s v) yf_X9_isSlot yv_X9_isSlot ml_X9_216 rfl (by decide) (Nat.le_of_ble_eq_true rfl) dX9_strong_1 rfl ?_
  refine E.if_eq C dX9_strong_4 (tgt := 14) (by decide) (fun h4 => ?_) (fun h4 => ?_)
  · have h4 := b0.mp h4
    refine E.iconst C dX9_strong_14 (by decide) ?_
    exact N.iret C hR dX9_strong_15 (fun hi hx => by exact ⟨fun a j _ _ _ => rfl, fun j _ => rfl, Or.inl ⟨by omega, rfl⟩⟩)
  · have h4 := b0n.mp h4
    refine E.iload_n C dX9_strong_7 rfl rfl ?_
    refine N.callSp (S := []) (As := [vi y]) C hX (ok_X9_areYears G y v) yf_X9_areYears yv_X9_areYears ml_X9_270 rfl (by decide) (Nat.le_of_ble_eq_true rfl) dX9_strong_8 rfl ?_
    refine E.if_ne C dX9_strong_11 (tgt := 16) (by decide) (fun h11 => ?_) (fun h11 => ?_)
    · have h11 := b0n.mp h11
      refine E.iconst C dX9_strong_16 (by decide) ?_
      refine N.ist_4 C dX9_strong_17 (hN 4 (by decide)) rfl ?_
      have lp19 : ∀ (k19 : Nat) (t : Int) (w : VT), (A 0 5 - t).toNat = k19 → (0 ≤ t ∧ t ≤ A 0 5 ∧ (∀ a j, ¬ a = 132 → w a j = v a j) ∧ (∀ i, 0 ≤ i → i < t → w 132 i = A (0 + 13 + i) 3)) → E X G 0 0 1000 w 19 [some (vr 119), some (vi s), some (vi y), some (vi q), some (vi t), none, none] [] := by
        intro k19
        induction k19 using Nat.strongRecOn with
        | ind k19 ih19 =>
          intro t w hk19 hI19
          obtain ⟨ht0, ht1, hfr, hla⟩ := hI19
          refine E.iload C dX9_strong_19 rfl ?_
          refine E.aload_n C dX9_strong_21 rfl rfl ?_
          refine N.getR C fa_X9_7 rfl dX9_strong_22 kd_119 (x := 120) (by decide +kernel) (by decide) ?_
          refine E.bipush C dX9_strong_25 (by decide) ?_
          refine N.iald C dX9_strong_27 kd_120 ln_120 (by omega) (x := v 120 41) (hfr _ _ (by decide)) ?_
          refine E.icmp_ge C dX9_strong_28 (tgt := 51) (by decide) (fun h28 => ?_) (fun h28 => ?_)
          · skip
            refine E.bipush C dX9_strong_51 (by decide) ?_
            refine N.ist_4 C dX9_strong_53 (hN 4 (by decide)) rfl ?_
            refine E.iconst C dX9_strong_55 (by decide) ?_
            refine N.ist_5 C dX9_strong_56 (hN 5 (by decide)) rfl ?_
            have lp58 : ∀ (k58 : Nat) (found : Int) (l : Int) (w2 : VT), (10 - l).toNat = k58 → (1 ≤ l ∧ l ≤ 10 ∧ (∀ a j, (¬ a = 119 ∨ ¬ j = 16) → ¬ a = 120 → (a < 124 ∨ 132 < a) → w2 a j = v a j) ∧ (∀ i, 0 ≤ i → i < A 0 5 → w2 132 i = A (0 + 13 + i) 3) ∧ (∀ j, j < 597 → (∀ i, 0 ≤ i → i < A 0 5 → ¬ j = 42 + 7 * i + 3) → w2 120 j = v 120 j) ∧ ((found = -4 ∧ ∀ i, 1 ≤ i → i < l → ¬ ahdS (strF A 0 s i (A 0 5)) 0 s q sl y.toNat = 0) ∨ (1 ≤ found ∧ found = l - 1 ∧ ahdS (strF A 0 s found (A 0 5)) 0 s q sl y.toNat = 0 ∧ ∀ i, 1 ≤ i → i < found → ¬ ahdS (strF A 0 s i (A 0 5)) 0 s q sl y.toNat = 0))) → E X G 0 0 1000 w2 58 [some (vr 119), some (vi s), some (vi y), some (vi q), some (vi found), some (vi l), none] [] := by
              intro k58
              induction k58 using Nat.strongRecOn with
              | ind k58 ih58 =>
                intro found l w2 hk58 hI58
                obtain ⟨hl0, hl1, hfr2, hla2, hst2, hq⟩ := hI58
                refine E.iload C dX9_strong_58 rfl ?_
                refine E.bipush C dX9_strong_60 (by decide) ?_
                refine E.icmp_ge C dX9_strong_62 (tgt := 168) (by decide) (fun h62 => ?_) (fun h62 => ?_)
                · skip
                  refine E.iconst C dX9_strong_168 (by decide) ?_
                  refine N.ist_5 C dX9_strong_169 (hN 5 (by decide)) rfl ?_
                  have lp171 : ∀ (k171 : Nat) (t4 : Int) (w4 : VT), (A 0 5 - t4).toNat = k171 → (0 ≤ t4 ∧ t4 ≤ A 0 5 ∧ (∀ a j, (¬ a = 119 ∨ ¬ j = 16) → ¬ a = 120 → (a < 124 ∨ 132 < a) → w4 a j = v a j) ∧ (∀ i, 0 ≤ i → i < A 0 5 → w4 132 i = A (0 + 13 + i) 3) ∧ (∀ j, j < 597 → (∀ i, 0 ≤ i → i < A 0 5 → ¬ j = 42 + 7 * i + 3) → w4 120 j = v 120 j) ∧ (∀ i, 0 ≤ i → i < t4 → w4 120 (42 + 7 * i + 3) = A (0 + 13 + i) 3)) → E X G 0 0 1000 w4 171 [some (vr 119), some (vi s), some (vi y), some (vi q), some (vi found), some (vi t4), none] [] := by
                    intro k171
                    induction k171 using Nat.strongRecOn with
                    | ind k171 ih171 =>
                      intro t4 w4 hk171 hI171
                      obtain ⟨hv0, hv1, hfr4, hla4, hst4, hds4⟩ := hI171
                      refine E.iload C dX9_strong_171 rfl ?_
                      refine E.aload_n C dX9_strong_173 rfl rfl ?_
                      refine N.getR C fa_X9_7 rfl dX9_strong_174 kd_119 (x := 120) (by decide +kernel) (by decide) ?_
                      refine E.bipush C dX9_strong_177 (by decide) ?_
                      refine N.iald C dX9_strong_179 kd_120 ln_120 (by omega) (x := v 120 41) (hst4 _ (by decide) (fun q _ _ => by omega)) ?_
                      refine E.icmp_ge C dX9_strong_180 (tgt := 211) (by decide) (fun h180 => ?_) (fun h180 => ?_)
                      · skip
                        refine E.iload C dX9_strong_211 rfl ?_
                        exact N.iret C hR dX9_strong_213 (fun hi hx => by have et4 : t4 = A 0 5 := (by omega); subst et4; refine ⟨hfr4, fun j g => ?_, Or.inr ⟨by omega, ?_⟩⟩; (by_cases hz : ∃ i, 0 ≤ i ∧ i < A 0 5 ∧ j = 42 + 7 * i + 3; (obtain ⟨i, i1, i2, i3⟩ := hz; rw [i3, hds4 i i1 i2]; exact (hM.2.2.2.1 i 3 i1 i2 (by omega) (by omega)).symm); exact hst4 j g (fun i i1 i2 i3 => hz ⟨i, i1, i2, i3⟩)); (rcases hq with ⟨k1, k2⟩ | ⟨k1, k2, k3, k4⟩; (exact Or.inr ⟨k1, fun i g1 g2 => k2 i g1 (by omega)⟩); exact Or.inl ⟨k1, by omega, k3, k4⟩))
                      · skip
                        refine E.aload_n C dX9_strong_183 rfl rfl ?_
                        refine N.getR C fa_X9_7 rfl dX9_strong_184 kd_119 (x := 120) (by decide +kernel) (by decide) ?_
                        refine E.bipush C dX9_strong_187 (by decide) ?_
                        refine E.bipush C dX9_strong_189 (by decide) ?_
                        refine E.iload C dX9_strong_191 rfl ?_
                        refine E.imul C dX9_strong_193 (by omega) ?_
                        refine E.iadd C dX9_strong_194 (by omega) ?_
                        refine E.iconst C dX9_strong_195 (by decide) ?_
                        refine E.iadd C dX9_strong_196 (by omega) ?_
                        refine E.aload_n C dX9_strong_197 rfl rfl ?_
                        refine N.getR C fa_X9_47 rfl dX9_strong_198 kd_119 (x := 132) (by decide +kernel) (by decide) ?_
                        refine E.iload C dX9_strong_201 rfl ?_
                        refine N.iald C dX9_strong_203 kd_132 ln_132 (by omega) (x := w4 132 t4) rfl ?_
                        refine E.veq (x' := A (0 + 13 + t4) 3) (hla4 t4 hv0 (by omega)) ?_
                        refine N.iast C dX9_strong_204 kd_120 ln_120 (by omega) ?_
                        refine N.iinc_5 C dX9_strong_205 (hN 5 (by decide)) rfl (by omega) ?_
                        refine E.goto C dX9_strong_208 (tgt := 171) (by decide) ?_
                        exact ih171 _ (by omega) (t4 + 1) (upd2 w4 120 ((42 + (7 * t4)) + 3) (A (0 + 13 + t4) 3)) rfl (by refine ⟨by omega, by omega, fun a j g1 g2 g3 => (u_ne (Or.inl g2)).trans (hfr4 a j g1 g2 g3), fun i g1 g2 => (u_ne (Or.inl (by decide))).trans (hla4 i g1 g2), fun j g1 g2 => (u_ne (Or.inr (g2 t4 hv0 (by omega)))).trans (hst4 j g1 g2), fun i g1 g2 => ?_⟩; by_cases hi : i = t4; (rw [hi, upd2_same]); (rw [u_ne (Or.inr (by omega))]; exact hds4 i g1 (by omega)))
                  exact lp171 _ 0 w2 rfl (by exact ⟨by omega, by omega, hfr2, hla2, hst2, fun i h1 h2 => by omega⟩)
                · skip
                  refine E.iload C dX9_strong_65 rfl ?_
                  refine E.bipush C dX9_strong_67 (by decide) ?_
                  refine E.icmp_ne C dX9_strong_69 (tgt := 168) (by decide) (fun h69 => ?_) (fun h69 => ?_)
                  · skip
                    refine E.iconst C dX9_strong_168 (by decide) ?_
                    refine N.ist_5 C dX9_strong_169 (hN 5 (by decide)) rfl ?_
                    have lp171 : ∀ (k171 : Nat) (t4 : Int) (w4 : VT), (A 0 5 - t4).toNat = k171 → (0 ≤ t4 ∧ t4 ≤ A 0 5 ∧ (∀ a j, (¬ a = 119 ∨ ¬ j = 16) → ¬ a = 120 → (a < 124 ∨ 132 < a) → w4 a j = v a j) ∧ (∀ i, 0 ≤ i → i < A 0 5 → w4 132 i = A (0 + 13 + i) 3) ∧ (∀ j, j < 597 → (∀ i, 0 ≤ i → i < A 0 5 → ¬ j = 42 + 7 * i + 3) → w4 120 j = v 120 j) ∧ (∀ i, 0 ≤ i → i < t4 → w4 120 (42 + 7 * i + 3) = A (0 + 13 + i) 3)) → E X G 0 0 1000 w4 171 [some (vr 119), some (vi s), some (vi y), some (vi q), some (vi found), some (vi t4), none] [] := by
                      intro k171
                      induction k171 using Nat.strongRecOn with
                      | ind k171 ih171 =>
                        intro t4 w4 hk171 hI171
                        obtain ⟨hv0, hv1, hfr4, hla4, hst4, hds4⟩ := hI171
                        refine E.iload C dX9_strong_171 rfl ?_
                        refine E.aload_n C dX9_strong_173 rfl rfl ?_
                        refine N.getR C fa_X9_7 rfl dX9_strong_174 kd_119 (x := 120) (by decide +kernel) (by decide) ?_
                        refine E.bipush C dX9_strong_177 (by decide) ?_
                        refine N.iald C dX9_strong_179 kd_120 ln_120 (by omega) (x := v 120 41) (hst4 _ (by decide) (fun q _ _ => by omega)) ?_
                        refine E.icmp_ge C dX9_strong_180 (tgt := 211) (by decide) (fun h180 => ?_) (fun h180 => ?_)
                        · skip
                          refine E.iload C dX9_strong_211 rfl ?_
                          exact N.iret C hR dX9_strong_213 (fun hi hx => by have et4 : t4 = A 0 5 := (by omega); subst et4; refine ⟨hfr4, fun j g => ?_, Or.inr ⟨by omega, ?_⟩⟩; (by_cases hz : ∃ i, 0 ≤ i ∧ i < A 0 5 ∧ j = 42 + 7 * i + 3; (obtain ⟨i, i1, i2, i3⟩ := hz; rw [i3, hds4 i i1 i2]; exact (hM.2.2.2.1 i 3 i1 i2 (by omega) (by omega)).symm); exact hst4 j g (fun i i1 i2 i3 => hz ⟨i, i1, i2, i3⟩)); (rcases hq with ⟨k1, k2⟩ | ⟨k1, k2, k3, k4⟩; (exact Or.inr ⟨k1, fun i g1 g2 => k2 i g1 (by omega)⟩); exact Or.inl ⟨k1, by omega, k3, k4⟩))
                        · skip
                          refine E.aload_n C dX9_strong_183 rfl rfl ?_
                          refine N.getR C fa_X9_7 rfl dX9_strong_184 kd_119 (x := 120) (by decide +kernel) (by decide) ?_
                          refine E.bipush C dX9_strong_187 (by decide) ?_
                          refine E.bipush C dX9_strong_189 (by decide) ?_
                          refine E.iload C dX9_strong_191 rfl ?_
                          refine E.imul C dX9_strong_193 (by omega) ?_
                          refine E.iadd C dX9_strong_194 (by omega) ?_
                          refine E.iconst C dX9_strong_195 (by decide) ?_
                          refine E.iadd C dX9_strong_196 (by omega) ?_
                          refine E.aload_n C dX9_strong_197 rfl rfl ?_
                          refine N.getR C fa_X9_47 rfl dX9_strong_198 kd_119 (x := 132) (by decide +kernel) (by decide) ?_
                          refine E.iload C dX9_strong_201 rfl ?_
                          refine N.iald C dX9_strong_203 kd_132 ln_132 (by omega) (x := w4 132 t4) rfl ?_
                          refine E.veq (x' := A (0 + 13 + t4) 3) (hla4 t4 hv0 (by omega)) ?_
                          refine N.iast C dX9_strong_204 kd_120 ln_120 (by omega) ?_
                          refine N.iinc_5 C dX9_strong_205 (hN 5 (by decide)) rfl (by omega) ?_
                          refine E.goto C dX9_strong_208 (tgt := 171) (by decide) ?_
                          exact ih171 _ (by omega) (t4 + 1) (upd2 w4 120 ((42 + (7 * t4)) + 3) (A (0 + 13 + t4) 3)) rfl (by refine ⟨by omega, by omega, fun a j g1 g2 g3 => (u_ne (Or.inl g2)).trans (hfr4 a j g1 g2 g3), fun i g1 g2 => (u_ne (Or.inl (by decide))).trans (hla4 i g1 g2), fun j g1 g2 => (u_ne (Or.inr (g2 t4 hv0 (by omega)))).trans (hst4 j g1 g2), fun i g1 g2 => ?_⟩; by_cases hi : i = t4; (rw [hi, upd2_same]); (rw [u_ne (Or.inr (by omega))]; exact hds4 i g1 (by omega)))
                    exact lp171 _ 0 w2 rfl (by exact ⟨by omega, by omega, hfr2, hla2, hst2, fun i h1 h2 => by omega⟩)
                  · skip
                    refine E.iconst C dX9_strong_72 (by decide) ?_
                    refine N.ist_6 C dX9_strong_73 (hN 6 (by decide)) rfl ?_
                    have lp75 : ∀ (k75 : Nat) (t3 : Int) (w3 : VT), (A 0 5 - t3).toNat = k75 → (0 ≤ t3 ∧ t3 ≤ A 0 5 ∧ (∀ a j, (¬ a = 119 ∨ ¬ j = 16) → ¬ a = 120 → (a < 124 ∨ 132 < a) → w3 a j = v a j) ∧ (∀ i, 0 ≤ i → i < A 0 5 → w3 132 i = A (0 + 13 + i) 3) ∧ (∀ j, j < 597 → (∀ i, 0 ≤ i → i < A 0 5 → ¬ j = 42 + 7 * i + 3) → w3 120 j = v 120 j) ∧ (∀ i, 0 ≤ i → i < t3 → w3 120 (42 + 7 * i + 3) = strF A 0 s l (A 0 5) (0 + 13 + i) 3)) → E X G 0 0 1000 w3 75 [some (vr 119), some (vi s), some (vi y), some (vi q), some (vi found), some (vi l), some (vi t3)] [] := by
                      intro k75
                      induction k75 using Nat.strongRecOn with
                      | ind k75 ih75 =>
                        intro t3 w3 hk75 hI75
                        obtain ⟨hu0, hu1, hfr3, hla3, hst3, hds3⟩ := hI75; have hse : t3 < A 0 5 → strF A 0 s l (A 0 5) (0 + 13 + t3) 3 = (if A (0 + 13 + t3) 0 = s ∧ A (0 + 13 + t3) 3 < l then l else A (0 + 13 + t3) 3) := strF_at hu0
                        refine E.iload C dX9_strong_75 rfl ?_
                        refine E.aload_n C dX9_strong_77 rfl rfl ?_
                        refine N.getR C fa_X9_7 rfl dX9_strong_78 kd_119 (x := 120) (by decide +kernel) (by decide) ?_
                        refine E.bipush C dX9_strong_81 (by decide) ?_
                        refine N.iald C dX9_strong_83 kd_120 ln_120 (by omega) (x := v 120 41) (hst3 _ (by decide) (fun q _ _ => by omega)) ?_
                        refine E.icmp_ge C dX9_strong_84 (tgt := 143) (by decide) (fun h84 => ?_) (fun h84 => ?_)
                        · skip
                          have et3 : t3 = A 0 5 := (by omega)
                          subst et3
                          have hM3 : MR (strF A 0 s l (A 0 5)) (w3 120) := hM.str hA hds3 (fun j _ g2 g3 => hst3 j (by omega) g3)
                          refine E.aload_n C dX9_strong_143 rfl rfl ?_
                          refine E.iload_n C dX9_strong_144 rfl rfl ?_
                          refine E.iload_n C dX9_strong_145 rfl rfl ?_
                          refine E.iload_n C dX9_strong_146 rfl rfl ?_
                          refine N.callVi (S := []) (As := [vi s, vi y, vi q]) C hX (ok_X9_aheadBy G s y q sl (strF A 0 s l (A 0 5)) w3 (hA.str (by omega)) hM3 ((hfr3 _ _ (Or.inr (by decide)) (by decide) (by decide)).trans hal) hsl (by omega) (by omega)) yf_X9_aheadBy yv_X9_aheadBy ml_X9_273 rfl rfl rfl kd_119 (by decide) (by decide) (Nat.le_of_ble_eq_true rfl) dX9_strong_147 rfl (fun t147 w147 hb147 hp147 => ?_)
                          obtain ⟨n1, n2, n3, -⟩ := id hp147
                          refine E.if_ne C dX9_strong_150 (tgt := 158) (by decide) (fun h150 => ?_) (fun h150 => ?_)
                          · skip
                            refine E.iload C dX9_strong_158 rfl ?_
                            refine N.ist_4 C dX9_strong_160 (hN 4 (by decide)) rfl ?_
                            refine N.iinc_5 C dX9_strong_162 (hN 5 (by decide)) rfl (by omega) ?_
                            refine E.goto C dX9_strong_165 (tgt := 58) (by decide) ?_
                            refine E.drop (i := 6) ?_
                            exact ih58 _ (by omega) found (l + 1) w147 rfl (by have hq2 := hq.resolve_right (fun z => by omega); first | exact ⟨by omega, by omega, fun a j g1 g2 g3 => (n1 a j g1 g2 (by omega)).trans (hfr3 a j g1 g2 g3), fun i g1 g2 => (n1 _ _ (Or.inl (by decide)) (by decide) (by decide)).trans (hla3 i g1 g2), fun j g1 g2 => (n2 j g1).trans (hst3 j g1 g2), Or.inr ⟨by omega, by omega, by rw [← n3]; exact h150, fun i g1 g2 => hq2.2 i g1 g2⟩⟩ | (refine ⟨by omega, by omega, fun a j g1 g2 g3 => (n1 a j g1 g2 (by omega)).trans (hfr3 a j g1 g2 g3), fun i g1 g2 => (n1 _ _ (Or.inl (by decide)) (by decide) (by decide)).trans (hla3 i g1 g2), fun j g1 g2 => (n2 j g1).trans (hst3 j g1 g2), Or.inl ⟨hq2.1, fun i g1 g2 => ?_⟩⟩; by_cases hi : i = l; (rw [hi, ← n3]; exact h150); exact hq2.2 i g1 (by omega)))
                          · skip
                            refine E.iload C dX9_strong_153 rfl ?_
                            refine E.goto C dX9_strong_155 (tgt := 160) (by decide) ?_
                            refine N.ist_4 C dX9_strong_160 (hN 4 (by decide)) rfl ?_
                            refine N.iinc_5 C dX9_strong_162 (hN 5 (by decide)) rfl (by omega) ?_
                            refine E.goto C dX9_strong_165 (tgt := 58) (by decide) ?_
                            refine E.drop (i := 6) ?_
                            exact ih58 _ (by omega) l (l + 1) w147 rfl (by have hq2 := hq.resolve_right (fun z => by omega); first | exact ⟨by omega, by omega, fun a j g1 g2 g3 => (n1 a j g1 g2 (by omega)).trans (hfr3 a j g1 g2 g3), fun i g1 g2 => (n1 _ _ (Or.inl (by decide)) (by decide) (by decide)).trans (hla3 i g1 g2), fun j g1 g2 => (n2 j g1).trans (hst3 j g1 g2), Or.inr ⟨by omega, by omega, by rw [← n3]; exact h150, fun i g1 g2 => hq2.2 i g1 g2⟩⟩ | (refine ⟨by omega, by omega, fun a j g1 g2 g3 => (n1 a j g1 g2 (by omega)).trans (hfr3 a j g1 g2 g3), fun i g1 g2 => (n1 _ _ (Or.inl (by decide)) (by decide) (by decide)).trans (hla3 i g1 g2), fun j g1 g2 => (n2 j g1).trans (hst3 j g1 g2), Or.inl ⟨hq2.1, fun i g1 g2 => ?_⟩⟩; by_cases hi : i = l; (rw [hi, ← n3]; exact h150); exact hq2.2 i g1 (by omega)))
                        · skip
                          refine E.aload_n C dX9_strong_87 rfl rfl ?_
                          refine N.getR C fa_X9_7 rfl dX9_strong_88 kd_119 (x := 120) (by decide +kernel) (by decide) ?_
                          refine E.bipush C dX9_strong_91 (by decide) ?_
                          refine E.bipush C dX9_strong_93 (by decide) ?_
                          refine E.iload C dX9_strong_95 rfl ?_
                          refine E.imul C dX9_strong_97 (by omega) ?_
                          refine E.iadd C dX9_strong_98 (by omega) ?_
                          refine E.iconst C dX9_strong_99 (by decide) ?_
                          refine E.iadd C dX9_strong_100 (by omega) ?_
                          refine E.aload_n C dX9_strong_101 rfl rfl ?_
                          refine E.iload C dX9_strong_102 rfl ?_
                          refine E.iconst C dX9_strong_104 (by decide) ?_
                          refine N.callVp (S := [vi ((42 + (7 * t3)) + 3), vr 120]) (As := [vi t3, vi 0]) C hX (ok_X9_of G t3 0 w3 (by omega)) yf_X9_of yv_X9_of ml_X9_172 rfl rfl rfl kd_119 (by decide) (by decide) (Nat.le_of_ble_eq_true rfl) dX9_strong_105 rfl ?_
                          refine E.veq (x' := A (0 + 13 + t3) 0) (by rw [hst3 _ (by omega) (fun q _ _ => by omega)]; exact hM.2.2.2.1 t3 0 hu0 (by omega) (by omega) (by omega)) ?_
                          refine E.iload_n C dX9_strong_108 rfl rfl ?_
                          refine E.icmp_ne C dX9_strong_109 (tgt := 129) (by decide) (fun h109 => ?_) (fun h109 => ?_)
                          · skip
                            refine E.aload_n C dX9_strong_129 rfl rfl ?_
                            refine N.getR C fa_X9_47 rfl dX9_strong_130 kd_119 (x := 132) (by decide +kernel) (by decide) ?_
                            refine E.iload C dX9_strong_133 rfl ?_
                            refine N.iald C dX9_strong_135 kd_132 ln_132 (by omega) (x := w3 132 t3) rfl ?_
                            refine N.iast C dX9_strong_136 kd_120 ln_120 (by omega) ?_
                            refine N.iinc_6 C dX9_strong_137 (hN 6 (by decide)) rfl (by omega) ?_
                            refine E.goto C dX9_strong_140 (tgt := 75) (by decide) ?_
                            exact ih75 _ (by omega) (t3 + 1) (upd2 w3 120 ((42 + (7 * t3)) + 3) (w3 132 t3)) rfl (by refine ⟨by omega, by omega, fun a j g1 g2 g3 => (u_ne (Or.inl g2)).trans (hfr3 a j g1 g2 g3), fun i g1 g2 => (u_ne (Or.inl (by decide))).trans (hla3 i g1 g2), fun j g1 g2 => (u_ne (Or.inr (g2 t3 hu0 (by omega)))).trans (hst3 j g1 g2), fun i g1 g2 => ?_⟩; by_cases hi : i = t3; (rw [hi, upd2_same, hse (by omega)]; split <;> first | rfl | exact hla3 t3 hu0 (by omega) | (exfalso; omega) | (exfalso; simp_all; omega)); (rw [u_ne (Or.inr (by omega))]; exact hds3 i g1 (by omega)))
                          · skip
                            refine E.aload_n C dX9_strong_112 rfl rfl ?_
                            refine N.getR C fa_X9_47 rfl dX9_strong_113 kd_119 (x := 132) (by decide +kernel) (by decide) ?_
                            refine E.iload C dX9_strong_116 rfl ?_
                            refine N.iald C dX9_strong_118 kd_132 ln_132 (by omega) (x := w3 132 t3) rfl ?_
                            refine E.veq (x' := A (0 + 13 + t3) 3) (hla3 t3 hu0 (by omega)) ?_
                            refine E.iload C dX9_strong_119 rfl ?_
                            refine E.icmp_ge C dX9_strong_121 (tgt := 129) (by decide) (fun h121 => ?_) (fun h121 => ?_)
                            · skip
                              refine E.aload_n C dX9_strong_129 rfl rfl ?_
                              refine N.getR C fa_X9_47 rfl dX9_strong_130 kd_119 (x := 132) (by decide +kernel) (by decide) ?_
                              refine E.iload C dX9_strong_133 rfl ?_
                              refine N.iald C dX9_strong_135 kd_132 ln_132 (by omega) (x := w3 132 t3) rfl ?_
                              refine N.iast C dX9_strong_136 kd_120 ln_120 (by omega) ?_
                              refine N.iinc_6 C dX9_strong_137 (hN 6 (by decide)) rfl (by omega) ?_
                              refine E.goto C dX9_strong_140 (tgt := 75) (by decide) ?_
                              exact ih75 _ (by omega) (t3 + 1) (upd2 w3 120 ((42 + (7 * t3)) + 3) (w3 132 t3)) rfl (by refine ⟨by omega, by omega, fun a j g1 g2 g3 => (u_ne (Or.inl g2)).trans (hfr3 a j g1 g2 g3), fun i g1 g2 => (u_ne (Or.inl (by decide))).trans (hla3 i g1 g2), fun j g1 g2 => (u_ne (Or.inr (g2 t3 hu0 (by omega)))).trans (hst3 j g1 g2), fun i g1 g2 => ?_⟩; by_cases hi : i = t3; (rw [hi, upd2_same, hse (by omega)]; split <;> first | rfl | exact hla3 t3 hu0 (by omega) | (exfalso; omega) | (exfalso; simp_all; omega)); (rw [u_ne (Or.inr (by omega))]; exact hds3 i g1 (by omega)))
                            · skip
                              refine E.iload C dX9_strong_124 rfl ?_
                              refine E.goto C dX9_strong_126 (tgt := 136) (by decide) ?_
                              refine N.iast C dX9_strong_136 kd_120 ln_120 (by omega) ?_
                              refine N.iinc_6 C dX9_strong_137 (hN 6 (by decide)) rfl (by omega) ?_
                              refine E.goto C dX9_strong_140 (tgt := 75) (by decide) ?_
                              exact ih75 _ (by omega) (t3 + 1) (upd2 w3 120 ((42 + (7 * t3)) + 3) l) rfl (by refine ⟨by omega, by omega, fun a j g1 g2 g3 => (u_ne (Or.inl g2)).trans (hfr3 a j g1 g2 g3), fun i g1 g2 => (u_ne (Or.inl (by decide))).trans (hla3 i g1 g2), fun j g1 g2 => (u_ne (Or.inr (g2 t3 hu0 (by omega)))).trans (hst3 j g1 g2), fun i g1 g2 => ?_⟩; by_cases hi : i = t3; (rw [hi, upd2_same, hse (by omega)]; split <;> first | rfl | exact hla3 t3 hu0 (by omega) | (exfalso; omega) | (exfalso; simp_all; omega)); (rw [u_ne (Or.inr (by omega))]; exact hds3 i g1 (by omega)))
                    exact lp75 _ 0 w2 rfl (by exact ⟨by omega, by omega, hfr2, hla2, hst2, fun i h1 h2 => by omega⟩)
            exact lp58 _ (-4) 1 w rfl (by have et : t = A 0 5 := (by omega); subst et; exact ⟨by omega, by omega, fun a j _ _ g => hfr a j (by omega), hla, fun j _ _ => hfr _ _ (by decide), Or.inl ⟨rfl, fun i h1 h2 => by omega⟩⟩)
          · skip
            refine E.aload_n C dX9_strong_31 rfl rfl ?_
            refine N.getR C fa_X9_47 rfl dX9_strong_32 kd_119 (x := 132) (by decide +kernel) (by decide) ?_
            refine E.iload C dX9_strong_35 rfl ?_
            refine E.aload_n C dX9_strong_37 rfl rfl ?_
            refine E.iload C dX9_strong_38 rfl ?_
            refine E.iconst C dX9_strong_40 (by decide) ?_
            refine N.callVp (S := [vi t, vr 132]) (As := [vi t, vi 3]) C hX (ok_X9_of G t 3 w (by omega)) yf_X9_of yv_X9_of ml_X9_172 rfl rfl rfl kd_119 (by decide) (by decide) (Nat.le_of_ble_eq_true rfl) dX9_strong_41 rfl ?_
            refine E.veq (x' := (v 120 (42 + 7 * t + 3))) (by rw [show w 120 (42 + 7 * t + 3) = v 120 (42 + 7 * t + 3) from (hfr _ _ (by decide))]) ?_
            refine E.veq (x' := A (0 + 13 + t) 3) (by first | exact hM.2.2.2.1 t 3 ht0 (by omega) (by omega) (by omega) | (rw [hfr _ _ (by decide)]; exact hM.2.2.2.1 t 3 ht0 (by omega) (by omega) (by omega))) ?_
            refine N.iast C dX9_strong_44 kd_132 ln_132 (by omega) ?_
            refine N.iinc_4 C dX9_strong_45 (hN 4 (by decide)) rfl (by omega) ?_
            refine E.goto C dX9_strong_48 (tgt := 19) (by decide) ?_
            exact ih19 _ (by omega) (t + 1) (upd2 w 132 t (A (0 + 13 + t) 3)) rfl (by refine ⟨by omega, by omega, fun a j g => (u_ne (Or.inl g)).trans (hfr a j g), fun i h1 h2 => ?_⟩; by_cases hi : i = t; (rw [hi, upd2_same]); (rw [u_ne (Or.inr hi)]; exact hla i h1 (by omega)))
      exact lp19 _ 0 v rfl (by exact ⟨by omega, by omega, fun a j _ => rfl, fun i h1 h2 => by omega⟩)
    · have h11 := b0.mp h11
      refine E.iconst C dX9_strong_14 (by decide) ?_
      exact N.iret C hR dX9_strong_15 (fun hi hx => by exact ⟨fun a j _ _ _ => rfl, fun j _ => rfl, Or.inl ⟨by omega, rfl⟩⟩)

set_option maxHeartbeats 4000000 in
set_option maxRecDepth 20000 in
theorem ok_X9_cut (G : GT) (t z : Int) (A v : VT) (hA : WFV A 0) (hM : MR A (v 120)) : MNi G yX9_cut cX9_cut 4 (some .int) 2 46 [vr 119, vi t, vi z] v (fun x w => (∀ a j, ¬ a = 120 → w a j = v a j) ∧ (∀ j, (j < 1 ∨ j = 41 ∨ 112 ≤ j) → w 120 j = v 120 j) ∧ ((¬ (0 ≤ t ∧ t < A 0 5 ∧ 1 ≤ z ∧ z ≤ A (0 + 13 + t) 2 - 1) ∧ x = -1 ∧ w = v) ∨ ((0 ≤ t ∧ t < A 0 5 ∧ 1 ≤ z ∧ z ≤ A (0 + 13 + t) 2 - 1) ∧ ¬ A (0 + 13 + t) 7 = -4 ∧ x = -2 ∧ w = v) ∨ ((0 ≤ t ∧ t < A 0 5 ∧ 1 ≤ z ∧ z ≤ A (0 + 13 + t) 2 - 1) ∧ A (0 + 13 + t) 7 = -4 ∧ x = A (0 + 13 + t) 2 ∧ MR (cutV A 0 t z) (w 120)))) := by
  refine MN.of pn_X9_cut [some (vr 119), some (vi t), some (vi z), none] 1 rfl rfl (fun X C hX hn hR => ?_)
  have hN : ∀ i : Nat, i < 4 → i < xn X := fun i h => by rw [hn]; exact h
  refine E.rngk (fun hinv => ?_)
  refine E.loc (fun hloc => ?_)
  have hin_1 : in32 t := hloc _ (List.mem_of_getElem? (i := 1) rfl)
  have hin_2 : in32 z := hloc _ (List.mem_of_getElem? (i := 2) rfl)
  have hc := hM.1
  have hb := hM.2.1
  have hA1 := hA.1
  have hA2 := hA.2.1
  refine E.aload_n C dX9_cut_0 rfl rfl ?_
  refine E.iload_n C dX9_cut_1 rfl rfl ?_
  refine N.callVp (S := []) (As := [vi t]) C hX (ok_X9_isThing G t v (by omega)) yf_X9_isThing yv_X9_isThing ml_X9_188 rfl rfl rfl kd_119 (by decide) (by decide) (Nat.le_of_ble_eq_true rfl) dX9_cut_2 rfl ?_
  refine E.if_eq C dX9_cut_5 (tgt := 26) (by decide) (fun h5 => ?_) (fun h5 => ?_)
  · have h5 := b0.mp h5
    refine E.iconst C dX9_cut_26 (by decide) ?_
    exact N.iret C hR dX9_cut_27 (fun hi hx => by first | exact ⟨fun a j _ => rfl, fun j _ => rfl, Or.inl ⟨by omega, rfl, rfl⟩⟩ | exact ⟨fun a j _ => rfl, fun j _ => rfl, Or.inr (Or.inl ⟨by omega, by omega, rfl, rfl⟩)⟩ | exact ⟨fun a j g => u_ne (Or.inl g), fun j g => u_ne (Or.inr (by omega)), Or.inr (Or.inr ⟨by omega, by omega, rfl, by rw [upd2_row]; exact hM.set hA (by omega) (by omega)⟩)⟩)
  · have h5 := b0n.mp h5
    have hth := (hA.2.2.2.1 t (by omega) (by omega)).2.2.1
    refine E.iload_n C dX9_cut_8 rfl rfl ?_
    refine E.i2l C dX9_cut_9 ?_
    refine E.lconst C dX9_cut_10 (x := 1) rfl ?_
    refine E.aload_n C dX9_cut_11 rfl rfl ?_
    refine E.iload_n C dX9_cut_12 rfl rfl ?_
    refine E.iconst C dX9_cut_13 (by decide) ?_
    refine N.callVp (S := [vl 1, vl z]) (As := [vi t, vi 2]) C hX (ok_X9_of G t 2 v (by omega)) yf_X9_of yv_X9_of ml_X9_172 rfl rfl rfl kd_119 (by decide) (by decide) (Nat.le_of_ble_eq_true rfl) dX9_cut_14 rfl ?_
    refine E.veq (x' := A (0 + 13 + t) 2) (hM.2.2.2.1 t 2 (by omega) (by omega) (by omega) (by omega)) ?_
    refine E.iconst C dX9_cut_17 (by decide) ?_
    refine E.isub C dX9_cut_18 (by omega) ?_
    refine E.i2l C dX9_cut_19 ?_
    refine N.callSp (S := []) (As := [vl z, vl 1, vl ((A (0 + 13 + t) 2) - 1)]) C hX (ok_X9_in G z 1 ((A (0 + 13 + t) 2) - 1) v) yf_X9_in yv_X9_in ml_X9_93 rfl (by decide) (Nat.le_of_ble_eq_true rfl) dX9_cut_20 rfl ?_
    refine E.if_ne C dX9_cut_23 (tgt := 28) (by decide) (fun h23 => ?_) (fun h23 => ?_)
    · have h23 := b0n.mp h23
      refine E.aload_n C dX9_cut_28 rfl rfl ?_
      refine E.iload_n C dX9_cut_29 rfl rfl ?_
      refine N.callVp (S := []) (As := [vi t]) C hX (ok_X9_whoWears G t v (by omega) (by omega) (by rw [hM.2.2.2.1 _ 0 (by omega) (by omega) (by omega) (by omega)]; have := (hA.2.2.2.1 t (by omega) (by omega)).1; omega)) yf_X9_whoWears yv_X9_whoWears ml_X9_193 rfl rfl rfl kd_119 (by decide) (by decide) (Nat.le_of_ble_eq_true rfl) dX9_cut_30 rfl ?_
      refine E.veq (x' := A (0 + 13 + t) 7) (hM.who hA (by omega)) ?_
      refine E.bipush C dX9_cut_33 (by decide) ?_
      refine E.icmp_eq C dX9_cut_35 (tgt := 41) (by decide) (fun h35 => ?_) (fun h35 => ?_)
      · skip
        refine E.aload_n C dX9_cut_41 rfl rfl ?_
        refine E.iload_n C dX9_cut_42 rfl rfl ?_
        refine E.iconst C dX9_cut_43 (by decide) ?_
        refine N.callVp (S := []) (As := [vi t, vi 2]) C hX (ok_X9_of G t 2 v (by omega)) yf_X9_of yv_X9_of ml_X9_172 rfl rfl rfl kd_119 (by decide) (by decide) (Nat.le_of_ble_eq_true rfl) dX9_cut_44 rfl ?_
        refine E.veq (x' := A (0 + 13 + t) 2) (hM.2.2.2.1 t 2 (by omega) (by omega) (by omega) (by omega)) ?_
        refine N.ist_3 C dX9_cut_47 (hN 3 (by decide)) rfl ?_
        refine E.aload_n C dX9_cut_48 rfl rfl ?_
        refine N.getR C fa_X9_7 rfl dX9_cut_49 kd_119 (x := 120) (by decide +kernel) (by decide) ?_
        refine E.bipush C dX9_cut_52 (by decide) ?_
        refine E.bipush C dX9_cut_54 (by decide) ?_
        refine E.iload_n C dX9_cut_56 rfl rfl ?_
        refine E.imul C dX9_cut_57 (by omega) ?_
        refine E.iadd C dX9_cut_58 (by omega) ?_
        refine E.iconst C dX9_cut_59 (by decide) ?_
        refine E.iadd C dX9_cut_60 (by omega) ?_
        refine E.iload_n C dX9_cut_61 rfl rfl ?_
        refine N.iast C dX9_cut_62 kd_120 ln_120 (by omega) ?_
        refine E.iload_n C dX9_cut_63 rfl rfl ?_
        exact N.iret C hR dX9_cut_64 (fun hi hx => by first | exact ⟨fun a j _ => rfl, fun j _ => rfl, Or.inl ⟨by omega, rfl, rfl⟩⟩ | exact ⟨fun a j _ => rfl, fun j _ => rfl, Or.inr (Or.inl ⟨by omega, by omega, rfl, rfl⟩)⟩ | exact ⟨fun a j g => u_ne (Or.inl g), fun j g => u_ne (Or.inr (by omega)), Or.inr (Or.inr ⟨by omega, by omega, rfl, by rw [upd2_row]; exact hM.set hA (by omega) (by omega)⟩)⟩)
      · skip
        refine E.bipush C dX9_cut_38 (by decide) ?_
        exact N.iret C hR dX9_cut_40 (fun hi hx => by first | exact ⟨fun a j _ => rfl, fun j _ => rfl, Or.inl ⟨by omega, rfl, rfl⟩⟩ | exact ⟨fun a j _ => rfl, fun j _ => rfl, Or.inr (Or.inl ⟨by omega, by omega, rfl, rfl⟩)⟩ | exact ⟨fun a j g => u_ne (Or.inl g), fun j g => u_ne (Or.inr (by omega)), Or.inr (Or.inr ⟨by omega, by omega, rfl, by rw [upd2_row]; exact hM.set hA (by omega) (by omega)⟩)⟩)
    · have h23 := b0.mp h23
      refine E.iconst C dX9_cut_26 (by decide) ?_
      exact N.iret C hR dX9_cut_27 (fun hi hx => by first | exact ⟨fun a j _ => rfl, fun j _ => rfl, Or.inl ⟨by omega, rfl, rfl⟩⟩ | exact ⟨fun a j _ => rfl, fun j _ => rfl, Or.inr (Or.inl ⟨by omega, by omega, rfl, rfl⟩)⟩ | exact ⟨fun a j g => u_ne (Or.inl g), fun j g => u_ne (Or.inr (by omega)), Or.inr (Or.inr ⟨by omega, by omega, rfl, by rw [upd2_row]; exact hM.set hA (by omega) (by omega)⟩)⟩)

set_option maxHeartbeats 4000000 in
set_option maxRecDepth 20000 in
theorem ok_X9_findCut (G : GT) (t y q b0 sl : Int) (A v : VT) (hA : WFV A 0) (hM : MR A (v 120)) (hal : v 119 2 = sl) (hsl : 0 ≤ sl ∧ sl ≤ 4) (hy : 1 ≤ y ∧ y ≤ 4) (ht : 0 ≤ t ∧ t < A 0 5) (h7 : A (0 + 13 + t) 7 = -4) : MNv G yX9_findCut cX9_findCut 8 none 7 169 [vr 119, vi t, vi y, vi q, vi b0] v (fun w => (∀ a j, (¬ a = 119 ∨ (¬ j = 16 ∧ ¬ j = 26 ∧ ¬ j = 27)) → ¬ a = 120 → (a < 124 ∨ 131 < a) → w a j = v a j) ∧ (∀ j, j < 597 → w 120 j = v 120 j) ∧ ∃ th, CutQ (cutA A 0 t (A (0 + 13 + t) 0) q sl y.toNat) (A (0 + 13 + t) 2) b0 t (-4) (-4) 0 (w 119 27) th (w 119 26)) := by
  refine MN.of pn_X9_findCut [some (vr 119), some (vi t), some (vi y), some (vi q), some (vi b0), none, none, none] 3 rfl rfl (fun X C hX hn hR => ?_)
  have hN : ∀ i : Nat, i < 8 → i < xn X := fun i h => by rw [hn]; exact h
  refine E.rngk (fun hinv => ?_)
  refine E.loc (fun hloc => ?_)
  have hin_1 : in32 t := hloc _ (List.mem_of_getElem? (i := 1) rfl)
  have hin_2 : in32 y := hloc _ (List.mem_of_getElem? (i := 2) rfl)
  have hin_3 : in32 q := hloc _ (List.mem_of_getElem? (i := 3) rfl)
  have hin_4 : in32 b0 := hloc _ (List.mem_of_getElem? (i := 4) rfl)
  have hc := hM.1
  have hb := hM.2.1
  have hA1 := hA.1
  have hA2 := hA.2.1
  have hth := hA.2.2.2.1 t ht.1 ht.2
  have hz1 := hth.2.2.1
  have e2 := hM.2.2.2.1 t 2 ht.1 ht.2 (by omega) (by omega)
  have e0 := hM.2.2.2.1 t 0 ht.1 ht.2 (by omega) (by omega)
  refine E.aload_n C dX9_findCut_0 rfl rfl ?_
  refine E.iload_n C dX9_findCut_1 rfl rfl ?_
  refine E.iconst C dX9_findCut_2 (by decide) ?_
  refine N.callVp (S := []) (As := [vi t, vi 2]) C hX (ok_X9_of G t 2 v (by omega)) yf_X9_of yv_X9_of ml_X9_172 rfl rfl rfl kd_119 (by decide) (by decide) (Nat.le_of_ble_eq_true rfl) dX9_findCut_3 rfl ?_
  refine E.veq (x' := A (0 + 13 + t) 2) (e2) ?_
  refine N.ist_5 C dX9_findCut_6 (hN 5 (by decide)) rfl ?_
  refine E.aload_n C dX9_findCut_8 rfl rfl ?_
  refine E.bipush C dX9_findCut_9 (by decide) ?_
  refine N.putI C fp_X9_277 rfl dX9_findCut_11 kd_119 ?_
  refine E.aload_n C dX9_findCut_14 rfl rfl ?_
  refine E.iload C dX9_findCut_15 rfl ?_
  refine N.putI C fp_X9_280 rfl dX9_findCut_17 kd_119 ?_
  refine E.iload C dX9_findCut_20 rfl ?_
  refine E.iconst C dX9_findCut_22 (by decide) ?_
  refine E.isub C dX9_findCut_23 (by omega) ?_
  refine N.ist_6 C dX9_findCut_24 (hN 6 (by decide)) rfl ?_
  have lp26 : ∀ (k26 : Nat) (z : Int) (w : VT), (z).toNat = k26 → (0 ≤ z ∧ z < A (0 + 13 + t) 2 ∧ (∀ a j, (¬ a = 119 ∨ (¬ j = 16 ∧ ¬ j = 26 ∧ ¬ j = 27)) → ¬ a = 120 → (a < 124 ∨ 131 < a) → w a j = v a j) ∧ (∀ j, j < 597 → ¬ j = 42 + 7 * t + 2 → w 120 j = v 120 j) ∧ ∃ th, CutQ (cutA A 0 t (A (0 + 13 + t) 0) q sl y.toNat) (A (0 + 13 + t) 2) b0 t (-4) (-4) z (w 119 27) th (w 119 26)) → E X G 0 0 1000 w 26 [some (vr 119), some (vi t), some (vi y), some (vi q), some (vi b0), some (vi (A (0 + 13 + t) 2)), some (vi z), none] [] := by
    intro k26
    induction k26 using Nat.strongRecOn with
    | ind k26 ih26 =>
      intro z w hk26 hI26
      obtain ⟨hz2, hz3, hfr, hst, th, hq⟩ := hI26
      refine E.iload C dX9_findCut_26 rfl ?_
      refine E.if_le C dX9_findCut_28 (tgt := 111) (by decide) (fun h28 => ?_) (fun h28 => ?_)
      · skip
        refine E.aload_n C dX9_findCut_111 rfl rfl ?_
        refine N.getR C fa_X9_7 rfl dX9_findCut_112 kd_119 (x := 120) (by decide +kernel) (by decide) ?_
        refine E.bipush C dX9_findCut_115 (by decide) ?_
        refine E.bipush C dX9_findCut_117 (by decide) ?_
        refine E.iload_n C dX9_findCut_119 rfl rfl ?_
        refine E.imul C dX9_findCut_120 (by omega) ?_
        refine E.iadd C dX9_findCut_121 (by omega) ?_
        refine E.iconst C dX9_findCut_122 (by decide) ?_
        refine E.iadd C dX9_findCut_123 (by omega) ?_
        refine E.iload C dX9_findCut_124 rfl ?_
        refine N.iast C dX9_findCut_126 kd_120 ln_120 (by omega) ?_
        exact N.vret C hR dX9_findCut_127 (fun hi => by have ez : z = 0 := (by omega); rw [ez] at hq; refine ⟨fun a j g1 g2 g3 => (u_ne (Or.inl g2)).trans (hfr a j g1 g2 g3), fun j g => ?_, th, ?_⟩; (by_cases hj : j = 42 + 7 * t + 2; (rw [hj, upd2_same]; exact e2.symm); (rw [u_ne (Or.inr hj)]; exact hst j g hj)); (rw [u_ne (Or.inl (by decide)), u_ne (Or.inl (by decide))]; exact hq))
      · skip
        refine E.aload_n C dX9_findCut_31 rfl rfl ?_
        refine N.getR C fa_X9_7 rfl dX9_findCut_32 kd_119 (x := 120) (by decide +kernel) (by decide) ?_
        refine E.bipush C dX9_findCut_35 (by decide) ?_
        refine E.bipush C dX9_findCut_37 (by decide) ?_
        refine E.iload_n C dX9_findCut_39 rfl rfl ?_
        refine E.imul C dX9_findCut_40 (by omega) ?_
        refine E.iadd C dX9_findCut_41 (by omega) ?_
        refine E.iconst C dX9_findCut_42 (by decide) ?_
        refine E.iadd C dX9_findCut_43 (by omega) ?_
        refine E.iload C dX9_findCut_44 rfl ?_
        refine N.iast C dX9_findCut_46 kd_120 ln_120 (by omega) ?_
        have hMc : MR (cutV A 0 t z) (((upd2 w 120 ((42 + (7 * t)) + 2) z)) 120) := by
          have k := hM.set (t := t) (k := 2) (x := z) hA ht (by omega)
          refine k.st (hA.cut ht (by omega)) (fun j g1 g2 => ?_)
          by_cases hj : j = 42 + 7 * t + 2
          · rw [if_pos hj, hj, upd2_same]
          · rw [if_neg hj, u_ne (Or.inr hj)]; exact hst j (by omega) hj
        refine E.aload_n C dX9_findCut_47 rfl rfl ?_
        refine E.aload_n C dX9_findCut_48 rfl rfl ?_
        refine E.iload_n C dX9_findCut_49 rfl rfl ?_
        refine E.iconst C dX9_findCut_50 (by decide) ?_
        refine N.callVp (S := [vr 119]) (As := [vi t, vi 0]) C hX (ok_X9_of G t 0 (upd2 w 120 ((42 + (7 * t)) + 2) z) (by omega)) yf_X9_of yv_X9_of ml_X9_172 rfl rfl rfl kd_119 (by decide) (by decide) (Nat.le_of_ble_eq_true rfl) dX9_findCut_51 rfl ?_
        refine E.veq (x' := (w 120 (42 + 7 * t + 0))) (by rw [show (upd2 w 120 ((42 + (7 * t)) + 2) z) 120 (42 + 7 * t + 0) = w 120 (42 + 7 * t + 0) from (upd2_ne _ _ _ _ _ _ (Or.inr (by omega)))]) ?_
        refine E.veq (x' := A (0 + 13 + t) 0) (by first | (rw [hst _ (by omega) (by omega)]; exact e0) | (rw [u_ne (by omega), hst _ (by omega) (by omega)]; exact e0)) ?_
        refine E.iload_n C dX9_findCut_54 rfl rfl ?_
        refine E.iload_n C dX9_findCut_55 rfl rfl ?_
        refine N.callVi (S := []) (As := [vi (A (0 + 13 + t) 0), vi y, vi q]) C hX (ok_X9_aheadBy G (A (0 + 13 + t) 0) y q sl (cutV A 0 t z) (upd2 w 120 ((42 + (7 * t)) + 2) z) (hA.cut ht (by omega)) hMc ((u_ne (Or.inl (by decide))).trans ((hfr _ _ (Or.inr (by decide)) (by decide) (by decide)).trans hal)) hsl (by have := hth.1; omega) hy) yf_X9_aheadBy yv_X9_aheadBy ml_X9_273 rfl rfl rfl kd_119 (by decide) (by decide) (Nat.le_of_ble_eq_true rfl) dX9_findCut_56 rfl (fun t56 w56 hb56 hp56 => ?_)
        obtain ⟨n1, n2, n3, -⟩ := id hp56
        have n3 : t56 = (cutA A 0 t (A (0 + 13 + t) 0) q sl y.toNat) z := n3
        have m26 : w56 119 26 = w 119 26 := (n1 _ _ (Or.inr (by decide)) (by decide) (by decide)).trans (u_ne (Or.inl (by decide)))
        have m27 : w56 119 27 = w 119 27 := (n1 _ _ (Or.inr (by decide)) (by decide) (by decide)).trans (u_ne (Or.inl (by decide)))
        refine N.ist_7 C dX9_findCut_59 (hN 7 (by decide)) rfl ?_
        refine E.aload_n C dX9_findCut_61 rfl rfl ?_
        refine E.iload C dX9_findCut_62 rfl ?_
        refine E.aload_n C dX9_findCut_64 rfl rfl ?_
        refine N.getI C fa_X9_280 rfl dX9_findCut_65 kd_119 (x := w 119 27) ((hp56.1 _ _ (Or.inr (by decide)) (by decide) (by decide)).trans (upd2_ne _ _ _ _ _ _ (Or.inl (by decide)))) ?_
        refine E.icmp_ge C dX9_findCut_68 (tgt := 76) (by decide) (fun h68 => ?_) (fun h68 => ?_)
        · skip
          refine E.aload_n C dX9_findCut_76 rfl rfl ?_
          refine N.getI C fa_X9_277 rfl dX9_findCut_77 kd_119 (x := w 119 26) ((hp56.1 _ _ (Or.inr (by decide)) (by decide) (by decide)).trans (upd2_ne _ _ _ _ _ _ (Or.inl (by decide)))) ?_
          refine N.putI C fp_X9_277 rfl dX9_findCut_80 kd_119 ?_
          refine E.aload_n C dX9_findCut_83 rfl rfl ?_
          refine E.iload C dX9_findCut_84 rfl ?_
          refine E.aload_n C dX9_findCut_86 rfl rfl ?_
          refine N.getI C fa_X9_280 rfl dX9_findCut_87 kd_119 (x := w 119 27) ((upd2_ne _ _ _ _ _ _ (Or.inr (by decide))).trans ((hp56.1 _ _ (Or.inr (by decide)) (by decide) (by decide)).trans (upd2_ne _ _ _ _ _ _ (Or.inl (by decide))))) ?_
          refine E.icmp_ge C dX9_findCut_90 (tgt := 98) (by decide) (fun h90 => ?_) (fun h90 => ?_)
          · skip
            refine E.aload_n C dX9_findCut_98 rfl rfl ?_
            refine N.getI C fa_X9_280 rfl dX9_findCut_99 kd_119 (x := w 119 27) ((upd2_ne _ _ _ _ _ _ (Or.inr (by decide))).trans ((hp56.1 _ _ (Or.inr (by decide)) (by decide) (by decide)).trans (upd2_ne _ _ _ _ _ _ (Or.inl (by decide))))) ?_
            refine N.putI C fp_X9_280 rfl dX9_findCut_102 kd_119 ?_
            refine N.iinc_6 C dX9_findCut_105 (hN 6 (by decide)) rfl (by omega) ?_
            refine E.goto C dX9_findCut_108 (tgt := 26) (by decide) ?_
            refine E.drop (i := 7) ?_
            exact ih26 _ (by omega) (z + (-1)) (upd2 (upd2 w56 119 26 (w 119 26)) 119 27 (w 119 27)) rfl (by refine ⟨by omega, by omega, fun a j g1 g2 g3 => by rw [u_ne (by omega), u_ne (by omega), n1 a j (by omega) g2 g3, u_ne (Or.inl g2)]; exact hfr a j g1 g2 g3, fun j g1 g2 => by rw [u_ne (by omega), u_ne (by omega), n2 j g1, u_ne (Or.inr g2)]; exact hst j g1 g2, ?_⟩; first | (exfalso; omega) | (refine ⟨th, ?_⟩; rw [u_at (by decide), u_ne (by decide), u_at (by decide)]; exact hq.no (by omega)) | (refine ⟨t, ?_⟩; rw [u_at (by decide), u_ne (by decide), u_at (by decide), n3]; exact hq.yes hz3 (by omega)))
          · skip
            refine E.iload C dX9_findCut_93 rfl ?_
            refine E.goto C dX9_findCut_95 (tgt := 102) (by decide) ?_
            refine N.putI C fp_X9_280 rfl dX9_findCut_102 kd_119 ?_
            refine N.iinc_6 C dX9_findCut_105 (hN 6 (by decide)) rfl (by omega) ?_
            refine E.goto C dX9_findCut_108 (tgt := 26) (by decide) ?_
            refine E.drop (i := 7) ?_
            exact ih26 _ (by omega) (z + (-1)) (upd2 (upd2 w56 119 26 (w 119 26)) 119 27 t56) rfl (by refine ⟨by omega, by omega, fun a j g1 g2 g3 => by rw [u_ne (by omega), u_ne (by omega), n1 a j (by omega) g2 g3, u_ne (Or.inl g2)]; exact hfr a j g1 g2 g3, fun j g1 g2 => by rw [u_ne (by omega), u_ne (by omega), n2 j g1, u_ne (Or.inr g2)]; exact hst j g1 g2, ?_⟩; first | (exfalso; omega) | (refine ⟨th, ?_⟩; rw [u_at (by decide), u_ne (by decide), u_at (by decide)]; exact hq.no (by omega)) | (refine ⟨t, ?_⟩; rw [u_at (by decide), u_ne (by decide), u_at (by decide), n3]; exact hq.yes hz3 (by omega)))
        · skip
          refine E.iload C dX9_findCut_71 rfl ?_
          refine E.goto C dX9_findCut_73 (tgt := 80) (by decide) ?_
          refine N.putI C fp_X9_277 rfl dX9_findCut_80 kd_119 ?_
          refine E.aload_n C dX9_findCut_83 rfl rfl ?_
          refine E.iload C dX9_findCut_84 rfl ?_
          refine E.aload_n C dX9_findCut_86 rfl rfl ?_
          refine N.getI C fa_X9_280 rfl dX9_findCut_87 kd_119 (x := w 119 27) ((upd2_ne _ _ _ _ _ _ (Or.inr (by decide))).trans ((hp56.1 _ _ (Or.inr (by decide)) (by decide) (by decide)).trans (upd2_ne _ _ _ _ _ _ (Or.inl (by decide))))) ?_
          refine E.icmp_ge C dX9_findCut_90 (tgt := 98) (by decide) (fun h90 => ?_) (fun h90 => ?_)
          · skip
            refine E.aload_n C dX9_findCut_98 rfl rfl ?_
            refine N.getI C fa_X9_280 rfl dX9_findCut_99 kd_119 (x := w 119 27) ((upd2_ne _ _ _ _ _ _ (Or.inr (by decide))).trans ((hp56.1 _ _ (Or.inr (by decide)) (by decide) (by decide)).trans (upd2_ne _ _ _ _ _ _ (Or.inl (by decide))))) ?_
            refine N.putI C fp_X9_280 rfl dX9_findCut_102 kd_119 ?_
            refine N.iinc_6 C dX9_findCut_105 (hN 6 (by decide)) rfl (by omega) ?_
            refine E.goto C dX9_findCut_108 (tgt := 26) (by decide) ?_
            refine E.drop (i := 7) ?_
            exact ih26 _ (by omega) (z + (-1)) (upd2 (upd2 w56 119 26 z) 119 27 (w 119 27)) rfl (by refine ⟨by omega, by omega, fun a j g1 g2 g3 => by rw [u_ne (by omega), u_ne (by omega), n1 a j (by omega) g2 g3, u_ne (Or.inl g2)]; exact hfr a j g1 g2 g3, fun j g1 g2 => by rw [u_ne (by omega), u_ne (by omega), n2 j g1, u_ne (Or.inr g2)]; exact hst j g1 g2, ?_⟩; first | (exfalso; omega) | (refine ⟨th, ?_⟩; rw [u_at (by decide), u_ne (by decide), u_at (by decide)]; exact hq.no (by omega)) | (refine ⟨t, ?_⟩; rw [u_at (by decide), u_ne (by decide), u_at (by decide), n3]; exact hq.yes hz3 (by omega)))
          · skip
            refine E.iload C dX9_findCut_93 rfl ?_
            refine E.goto C dX9_findCut_95 (tgt := 102) (by decide) ?_
            refine N.putI C fp_X9_280 rfl dX9_findCut_102 kd_119 ?_
            refine N.iinc_6 C dX9_findCut_105 (hN 6 (by decide)) rfl (by omega) ?_
            refine E.goto C dX9_findCut_108 (tgt := 26) (by decide) ?_
            refine E.drop (i := 7) ?_
            exact ih26 _ (by omega) (z + (-1)) (upd2 (upd2 w56 119 26 z) 119 27 t56) rfl (by refine ⟨by omega, by omega, fun a j g1 g2 g3 => by rw [u_ne (by omega), u_ne (by omega), n1 a j (by omega) g2 g3, u_ne (Or.inl g2)]; exact hfr a j g1 g2 g3, fun j g1 g2 => by rw [u_ne (by omega), u_ne (by omega), n2 j g1, u_ne (Or.inr g2)]; exact hst j g1 g2, ?_⟩; first | (exfalso; omega) | (refine ⟨th, ?_⟩; rw [u_at (by decide), u_ne (by decide), u_at (by decide)]; exact hq.no (by omega)) | (refine ⟨t, ?_⟩; rw [u_at (by decide), u_ne (by decide), u_at (by decide), n3]; exact hq.yes hz3 (by omega)))
  exact lp26 _ ((A (0 + 13 + t) 2) - 1) (upd2 (upd2 v 119 26 (-4)) 119 27 b0) rfl (by exact ⟨by omega, by omega, fun a j g1 g2 g3 => by rw [u_ne (by omega), u_ne (by omega)], fun j _ _ => by rw [u_ne (by omega), u_ne (by omega)], -4, Or.inr ⟨fun i g1 g2 => by omega, u_at (by decide), rfl, (u_ne (by decide)).trans (u_at (by decide))⟩⟩)

set_option maxHeartbeats 4000000 in
set_option maxRecDepth 20000 in
theorem ok_X9_pays (G : GT) (t y q k sl : Int) (A v : VT) (hA : WFV A 0) (hM : MR A (v 120)) (hal : v 119 2 = sl) (hsl : 0 ≤ sl ∧ sl ≤ 4) : MNi G yX9_pays cX9_pays 5 (some .int) 8 196 [vr 119, vi t, vi y, vi q, vi k] v (fun x w => (∀ a j, (¬ a = 119 ∨ (¬ j = 16 ∧ ¬ j = 26 ∧ ¬ j = 27)) → ¬ a = 120 → (a < 124 ∨ 131 < a) → w a j = v a j) ∧ (∀ j, j < 597 → w 120 j = v 120 j) ∧ ((¬ (0 ≤ t ∧ t < A 0 5 ∧ (1 ≤ y ∧ y ≤ 4) ∧ (k = 0 ∨ k = 1)) ∧ x = -1) ∨ ((0 ≤ t ∧ t < A 0 5 ∧ (1 ≤ y ∧ y ≤ 4) ∧ (k = 0 ∨ k = 1)) ∧ ¬ A (0 + 13 + t) 7 = -4 ∧ x = -2) ∨ ((0 ≤ t ∧ t < A 0 5 ∧ (1 ≤ y ∧ y ≤ 4) ∧ (k = 0 ∨ k = 1)) ∧ A (0 + 13 + t) 7 = -4 ∧ ∃ n th zz, CutQ (cutA A 0 t (A (0 + 13 + t) 0) q sl y.toNat) (A (0 + 13 + t) 2) (ahdS A 0 (A (0 + 13 + t) 0) q sl y.toNat) t (-4) (-4) 0 n th zz ∧ x = if th = -4 then -4 else if k = 0 then zz else n))) := by
  refine MN.of pn_X9_pays [some (vr 119), some (vi t), some (vi y), some (vi q), some (vi k)] 0 rfl rfl (fun X C hX hn hR => ?_)
  have hN : ∀ i : Nat, i < 5 → i < xn X := fun i h => by rw [hn]; exact h
  refine E.rngk (fun hinv => ?_)
  refine E.loc (fun hloc => ?_)
  have hin_1 : in32 t := hloc _ (List.mem_of_getElem? (i := 1) rfl)
  have hin_2 : in32 y := hloc _ (List.mem_of_getElem? (i := 2) rfl)
  have hin_3 : in32 q := hloc _ (List.mem_of_getElem? (i := 3) rfl)
  have hin_4 : in32 k := hloc _ (List.mem_of_getElem? (i := 4) rfl)
  have hc := hM.1
  have hb := hM.2.1
  have hA1 := hA.1
  have hA2 := hA.2.1
  refine E.aload_n C dX9_pays_0 rfl rfl ?_
  refine E.iload_n C dX9_pays_1 rfl rfl ?_
  refine N.callVp (S := []) (As := [vi t]) C hX (ok_X9_isThing G t v (by omega)) yf_X9_isThing yv_X9_isThing ml_X9_188 rfl rfl rfl kd_119 (by decide) (by decide) (Nat.le_of_ble_eq_true rfl) dX9_pays_2 rfl ?_
  refine E.if_eq C dX9_pays_5 (tgt := 26) (by decide) (fun h5 => ?_) (fun h5 => ?_)
  · have h5 := b0.mp h5
    refine E.iconst C dX9_pays_26 (by decide) ?_
    exact N.iret C hR dX9_pays_27 (fun hi hx => by first | exact ⟨fun a j _ _ _ => rfl, fun j _ => rfl, Or.inl ⟨by omega, rfl⟩⟩ | exact ⟨fun a j _ _ _ => rfl, fun j _ => rfl, Or.inr (Or.inl ⟨by omega, by omega, rfl⟩)⟩ | exact ⟨fun a j g1 g2 g3 => (c1 a j g1 g2 g3).trans (n1 a j (by omega) g2 g3), fun j g => (c2 j g).trans (n2 j g), Or.inr (Or.inr ⟨by omega, by omega, _, _, _, c3, by first | (rw [if_pos (by omega)]; done) | (rw [if_neg (by omega), if_pos (by omega)]; done) | (rw [if_neg (by omega), if_neg (by omega)])⟩)⟩)
  · have h5 := b0n.mp h5
    refine E.iload_n C dX9_pays_8 rfl rfl ?_
    refine N.callSp (S := []) (As := [vi y]) C hX (ok_X9_areYears G y v) yf_X9_areYears yv_X9_areYears ml_X9_270 rfl (by decide) (Nat.le_of_ble_eq_true rfl) dX9_pays_9 rfl ?_
    refine E.if_eq C dX9_pays_12 (tgt := 26) (by decide) (fun h12 => ?_) (fun h12 => ?_)
    · have h12 := b0.mp h12
      refine E.iconst C dX9_pays_26 (by decide) ?_
      exact N.iret C hR dX9_pays_27 (fun hi hx => by first | exact ⟨fun a j _ _ _ => rfl, fun j _ => rfl, Or.inl ⟨by omega, rfl⟩⟩ | exact ⟨fun a j _ _ _ => rfl, fun j _ => rfl, Or.inr (Or.inl ⟨by omega, by omega, rfl⟩)⟩ | exact ⟨fun a j g1 g2 g3 => (c1 a j g1 g2 g3).trans (n1 a j (by omega) g2 g3), fun j g => (c2 j g).trans (n2 j g), Or.inr (Or.inr ⟨by omega, by omega, _, _, _, c3, by first | (rw [if_pos (by omega)]; done) | (rw [if_neg (by omega), if_pos (by omega)]; done) | (rw [if_neg (by omega), if_neg (by omega)])⟩)⟩)
    · have h12 := b0n.mp h12
      refine E.iload C dX9_pays_15 rfl ?_
      refine E.i2l C dX9_pays_17 ?_
      refine E.lconst C dX9_pays_18 (x := 0) rfl ?_
      refine E.lconst C dX9_pays_19 (x := 1) rfl ?_
      refine N.callSp (S := []) (As := [vl k, vl 0, vl 1]) C hX (ok_X9_in G k 0 1 v) yf_X9_in yv_X9_in ml_X9_93 rfl (by decide) (Nat.le_of_ble_eq_true rfl) dX9_pays_20 rfl ?_
      refine E.if_ne C dX9_pays_23 (tgt := 28) (by decide) (fun h23 => ?_) (fun h23 => ?_)
      · have h23 := b0n.mp h23
        refine E.aload_n C dX9_pays_28 rfl rfl ?_
        refine E.iload_n C dX9_pays_29 rfl rfl ?_
        refine N.callVp (S := []) (As := [vi t]) C hX (ok_X9_whoWears G t v (by omega) (by omega) (by rw [hM.2.2.2.1 _ 0 (by omega) (by omega) (by omega) (by omega)]; have := (hA.2.2.2.1 t (by omega) (by omega)).1; omega)) yf_X9_whoWears yv_X9_whoWears ml_X9_193 rfl rfl rfl kd_119 (by decide) (by decide) (Nat.le_of_ble_eq_true rfl) dX9_pays_30 rfl ?_
        refine E.veq (x' := A (0 + 13 + t) 7) (hM.who hA (by omega)) ?_
        refine E.bipush C dX9_pays_33 (by decide) ?_
        refine E.icmp_eq C dX9_pays_35 (tgt := 41) (by decide) (fun h35 => ?_) (fun h35 => ?_)
        · skip
          refine E.aload_n C dX9_pays_41 rfl rfl ?_
          refine E.iload_n C dX9_pays_42 rfl rfl ?_
          refine E.iload_n C dX9_pays_43 rfl rfl ?_
          refine E.iload_n C dX9_pays_44 rfl rfl ?_
          refine E.aload_n C dX9_pays_45 rfl rfl ?_
          refine E.aload_n C dX9_pays_46 rfl rfl ?_
          refine E.iload_n C dX9_pays_47 rfl rfl ?_
          refine E.iconst C dX9_pays_48 (by decide) ?_
          refine N.callVp (S := [vr 119, vi q, vi y, vi t, vr 119]) (As := [vi t, vi 0]) C hX (ok_X9_of G t 0 v (by omega)) yf_X9_of yv_X9_of ml_X9_172 rfl rfl rfl kd_119 (by decide) (by decide) (Nat.le_of_ble_eq_true rfl) dX9_pays_49 rfl ?_
          refine E.veq (x' := A (0 + 13 + t) 0) (hM.2.2.2.1 t 0 (by omega) (by omega) (by omega) (by omega)) ?_
          refine E.iload_n C dX9_pays_52 rfl rfl ?_
          refine E.iload_n C dX9_pays_53 rfl rfl ?_
          refine N.callVi (S := [vi q, vi y, vi t, vr 119]) (As := [vi (A (0 + 13 + t) 0), vi y, vi q]) C hX (ok_X9_aheadBy G (A (0 + 13 + t) 0) y q sl A v hA hM hal hsl (by have := (hA.2.2.2.1 t (by omega) (by omega)).1; omega) (by omega)) yf_X9_aheadBy yv_X9_aheadBy ml_X9_273 rfl rfl rfl kd_119 (by decide) (by decide) (Nat.le_of_ble_eq_true rfl) dX9_pays_54 rfl (fun t54 w54 hb54 hp54 => ?_)
          obtain ⟨n1, n2, n3, -⟩ := id hp54
          refine N.callVv (S := []) (As := [vi t, vi y, vi q, vi t54]) C hX (ok_X9_findCut G t y q t54 sl A w54 hA (hM.st hA (fun j _ g => n2 j (by omega))) ((n1 _ _ (Or.inr (by decide)) (by decide) (by decide)).trans hal) hsl (by omega) (by omega) (by omega)) yf_X9_findCut yv_X9_findCut ml_X9_283 rfl rfl rfl kd_119 (by decide) (by decide) (Nat.le_of_ble_eq_true rfl) dX9_pays_57 rfl (fun w57 hp57 => ?_)
          obtain ⟨c1, c2, th, c3⟩ := id hp57
          rw [n3] at c3
          have cz := c3.zz (by omega)
          refine E.aload_n C dX9_pays_60 rfl rfl ?_
          refine N.getI C fa_X9_277 rfl dX9_pays_61 kd_119 (x := w57 119 26) rfl ?_
          refine E.bipush C dX9_pays_64 (by decide) ?_
          refine E.icmp_ne C dX9_pays_66 (tgt := 74) (by decide) (fun h66 => ?_) (fun h66 => ?_)
          · skip
            refine E.iload C dX9_pays_74 rfl ?_
            refine E.if_ne C dX9_pays_76 (tgt := 86) (by decide) (fun h76 => ?_) (fun h76 => ?_)
            · skip
              refine E.aload_n C dX9_pays_86 rfl rfl ?_
              refine N.getI C fa_X9_280 rfl dX9_pays_87 kd_119 (x := w57 119 27) rfl ?_
              exact N.iret C hR dX9_pays_90 (fun hi hx => by first | exact ⟨fun a j _ _ _ => rfl, fun j _ => rfl, Or.inl ⟨by omega, rfl⟩⟩ | exact ⟨fun a j _ _ _ => rfl, fun j _ => rfl, Or.inr (Or.inl ⟨by omega, by omega, rfl⟩)⟩ | exact ⟨fun a j g1 g2 g3 => (c1 a j g1 g2 g3).trans (n1 a j (by omega) g2 g3), fun j g => (c2 j g).trans (n2 j g), Or.inr (Or.inr ⟨by omega, by omega, _, _, _, c3, by first | (rw [if_pos (by omega)]; done) | (rw [if_neg (by omega), if_pos (by omega)]; done) | (rw [if_neg (by omega), if_neg (by omega)])⟩)⟩)
            · skip
              refine E.aload_n C dX9_pays_79 rfl rfl ?_
              refine N.getI C fa_X9_277 rfl dX9_pays_80 kd_119 (x := w57 119 26) rfl ?_
              refine E.goto C dX9_pays_83 (tgt := 90) (by decide) ?_
              exact N.iret C hR dX9_pays_90 (fun hi hx => by first | exact ⟨fun a j _ _ _ => rfl, fun j _ => rfl, Or.inl ⟨by omega, rfl⟩⟩ | exact ⟨fun a j _ _ _ => rfl, fun j _ => rfl, Or.inr (Or.inl ⟨by omega, by omega, rfl⟩)⟩ | exact ⟨fun a j g1 g2 g3 => (c1 a j g1 g2 g3).trans (n1 a j (by omega) g2 g3), fun j g => (c2 j g).trans (n2 j g), Or.inr (Or.inr ⟨by omega, by omega, _, _, _, c3, by first | (rw [if_pos (by omega)]; done) | (rw [if_neg (by omega), if_pos (by omega)]; done) | (rw [if_neg (by omega), if_neg (by omega)])⟩)⟩)
          · skip
            refine E.bipush C dX9_pays_69 (by decide) ?_
            refine E.goto C dX9_pays_71 (tgt := 90) (by decide) ?_
            exact N.iret C hR dX9_pays_90 (fun hi hx => by first | exact ⟨fun a j _ _ _ => rfl, fun j _ => rfl, Or.inl ⟨by omega, rfl⟩⟩ | exact ⟨fun a j _ _ _ => rfl, fun j _ => rfl, Or.inr (Or.inl ⟨by omega, by omega, rfl⟩)⟩ | exact ⟨fun a j g1 g2 g3 => (c1 a j g1 g2 g3).trans (n1 a j (by omega) g2 g3), fun j g => (c2 j g).trans (n2 j g), Or.inr (Or.inr ⟨by omega, by omega, _, _, _, c3, by first | (rw [if_pos (by omega)]; done) | (rw [if_neg (by omega), if_pos (by omega)]; done) | (rw [if_neg (by omega), if_neg (by omega)])⟩)⟩)
        · skip
          refine E.bipush C dX9_pays_38 (by decide) ?_
          exact N.iret C hR dX9_pays_40 (fun hi hx => by first | exact ⟨fun a j _ _ _ => rfl, fun j _ => rfl, Or.inl ⟨by omega, rfl⟩⟩ | exact ⟨fun a j _ _ _ => rfl, fun j _ => rfl, Or.inr (Or.inl ⟨by omega, by omega, rfl⟩)⟩ | exact ⟨fun a j g1 g2 g3 => (c1 a j g1 g2 g3).trans (n1 a j (by omega) g2 g3), fun j g => (c2 j g).trans (n2 j g), Or.inr (Or.inr ⟨by omega, by omega, _, _, _, c3, by first | (rw [if_pos (by omega)]; done) | (rw [if_neg (by omega), if_pos (by omega)]; done) | (rw [if_neg (by omega), if_neg (by omega)])⟩)⟩)
      · have h23 := b0.mp h23
        refine E.iconst C dX9_pays_26 (by decide) ?_
        exact N.iret C hR dX9_pays_27 (fun hi hx => by first | exact ⟨fun a j _ _ _ => rfl, fun j _ => rfl, Or.inl ⟨by omega, rfl⟩⟩ | exact ⟨fun a j _ _ _ => rfl, fun j _ => rfl, Or.inr (Or.inl ⟨by omega, by omega, rfl⟩)⟩ | exact ⟨fun a j g1 g2 g3 => (c1 a j g1 g2 g3).trans (n1 a j (by omega) g2 g3), fun j g => (c2 j g).trans (n2 j g), Or.inr (Or.inr ⟨by omega, by omega, _, _, _, c3, by first | (rw [if_pos (by omega)]; done) | (rw [if_neg (by omega), if_pos (by omega)]; done) | (rw [if_neg (by omega), if_neg (by omega)])⟩)⟩)
