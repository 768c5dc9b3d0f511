set_option maxHeartbeats 4000000 in
set_option maxRecDepth 20000 in
theorem ok_X9_best (G : GT) (s y q k sl : Int) (A v : VT) (hA : WFV A 0) (hM : MR A (v 120)) (hal : v 119 2 = sl) (hsl : 0 ≤ sl ∧ sl ≤ 4) : MNi G yX9_best cX9_best 8 (some .int) 8 196 [vr 119, vi s, vi y, vi q, vi k] v (fun x w => (∀ a j, (¬ a = 119 ∨ (¬ j = 16 ∧ ¬ j = 26 ∧ ¬ j = 27)) → ¬ a = 120 → (a < 124 ∨ 131 < a) → w a j = v a j) ∧ (∀ j, j < 597 → w 120 j = v 120 j) ∧ ((¬ ((0 ≤ s ∧ s ≤ 1) ∧ (1 ≤ y ∧ y ≤ 4) ∧ (k = 0 ∨ k = 1)) ∧ x = -1) ∨ (((0 ≤ s ∧ s ≤ 1) ∧ (1 ≤ y ∧ y ≤ 4) ∧ (k = 0 ∨ k = 1)) ∧ ∃ n th zz, BestQ (fun t => cutA A 0 t s q sl y.toNat) (fun t => A (0 + 13 + t) 2) (fun t => A (0 + 13 + t) 0 = s ∧ A (0 + 13 + t) 7 = -4) (ahdS A 0 s q sl y.toNat) (A 0 5) n th zz ∧ x = if th = -4 then -4 else if k = 0 then 100 * th + zz else n))) := by
  refine MN.of pn_X9_best [some (vr 119), some (vi s), some (vi y), some (vi q), some (vi k), none, none, none] 3 rfl rfl (fun X C hX hn hR => ?_)
  have hN : ∀ i : Nat, i < 8 → i < xn X := fun i h => by rw [hn]; exact h
  refine E.rngk (fun hinv => ?_)
  refine E.loc (fun hloc => ?_)
  have hin_1 : in32 s := hloc _ (List.mem_of_getElem? (i := 1) rfl)
  have hin_2 : in32 y := hloc _ (List.mem_of_getElem? (i := 2) rfl)
  have hin_3 : in32 q := hloc _ (List.mem_of_getElem? (i := 3) rfl)
  have hin_4 : in32 k := hloc _ (List.mem_of_getElem? (i := 4) rfl)
  have hc := hM.1
  have hb := hM.2.1
  have hA1 := hA.1
  have hA2 := hA.2.1
  refine E.iload_n C dX9_best_0 rfl rfl ?_
  refine N.callSp (S := []) (As := [vi s]) C hX (ok_X9_isSlot G s v) yf_X9_isSlot yv_X9_isSlot ml_X9_216 rfl (by decide) (Nat.le_of_ble_eq_true rfl) dX9_best_1 rfl ?_
  refine E.if_eq C dX9_best_4 (tgt := 25) (by decide) (fun h4 => ?_) (fun h4 => ?_)
  · have h4 := b0.mp h4
    refine E.iconst C dX9_best_25 (by decide) ?_
    exact N.iret C hR dX9_best_26 (fun hi hx => by first | exact ⟨fun a j _ _ _ => rfl, fun j _ => rfl, Or.inl ⟨by omega, rfl⟩⟩ | (have et : t = A 0 5 := (by omega); subst et; refine ⟨n1, n2, Or.inr ⟨by omega, _, _, _, hq, ?_⟩⟩; rcases htz with hz | hz; (rw [if_pos hz] at hbs; first | exact (if_pos hz).symm | (exfalso; omega)); (have hn9 : ¬ th = -4 := (by omega); rw [if_neg hn9] at hbs; rw [if_neg hn9]; first | (exfalso; omega) | (rw [if_pos (by omega)]; exact hbs) | (rw [if_neg (by omega)]))))
  · have h4 := b0n.mp h4
    refine E.iload_n C dX9_best_7 rfl rfl ?_
    refine N.callSp (S := []) (As := [vi y]) C hX (ok_X9_areYears G y v) yf_X9_areYears yv_X9_areYears ml_X9_270 rfl (by decide) (Nat.le_of_ble_eq_true rfl) dX9_best_8 rfl ?_
    refine E.if_eq C dX9_best_11 (tgt := 25) (by decide) (fun h11 => ?_) (fun h11 => ?_)
    · have h11 := b0.mp h11
      refine E.iconst C dX9_best_25 (by decide) ?_
      exact N.iret C hR dX9_best_26 (fun hi hx => by first | exact ⟨fun a j _ _ _ => rfl, fun j _ => rfl, Or.inl ⟨by omega, rfl⟩⟩ | (have et : t = A 0 5 := (by omega); subst et; refine ⟨n1, n2, Or.inr ⟨by omega, _, _, _, hq, ?_⟩⟩; rcases htz with hz | hz; (rw [if_pos hz] at hbs; first | exact (if_pos hz).symm | (exfalso; omega)); (have hn9 : ¬ th = -4 := (by omega); rw [if_neg hn9] at hbs; rw [if_neg hn9]; first | (exfalso; omega) | (rw [if_pos (by omega)]; exact hbs) | (rw [if_neg (by omega)]))))
    · have h11 := b0n.mp h11
      refine E.iload C dX9_best_14 rfl ?_
      refine E.i2l C dX9_best_16 ?_
      refine E.lconst C dX9_best_17 (x := 0) rfl ?_
      refine E.lconst C dX9_best_18 (x := 1) rfl ?_
      refine N.callSp (S := []) (As := [vl k, vl 0, vl 1]) C hX (ok_X9_in G k 0 1 v) yf_X9_in yv_X9_in ml_X9_93 rfl (by decide) (Nat.le_of_ble_eq_true rfl) dX9_best_19 rfl ?_
      refine E.if_ne C dX9_best_22 (tgt := 27) (by decide) (fun h22 => ?_) (fun h22 => ?_)
      · have h22 := b0n.mp h22
        refine E.aload_n C dX9_best_27 rfl rfl ?_
        refine E.iload_n C dX9_best_28 rfl rfl ?_
        refine E.iload_n C dX9_best_29 rfl rfl ?_
        refine E.iload_n C dX9_best_30 rfl rfl ?_
        refine N.callVi (S := []) (As := [vi s, vi y, vi q]) C hX (ok_X9_aheadBy G s y q sl A v hA hM hal hsl (by omega) (by omega)) yf_X9_aheadBy yv_X9_aheadBy ml_X9_273 rfl rfl rfl kd_119 (by decide) (by decide) (Nat.le_of_ble_eq_true rfl) dX9_best_31 rfl (fun t31 w31 hb31 hp31 => ?_)
        refine N.ist_5 C dX9_best_34 (hN 5 (by decide)) rfl ?_
        refine E.bipush C dX9_best_36 (by decide) ?_
        refine N.ist_6 C dX9_best_38 (hN 6 (by decide)) rfl ?_
        refine E.iconst C dX9_best_40 (by decide) ?_
        refine N.ist_7 C dX9_best_41 (hN 7 (by decide)) rfl ?_
        have lp43 : ∀ (k43 : Nat) (ls : Int) (bs : Int) (t : Int) (w : VT), (A 0 5 - t).toNat = k43 → (0 ≤ t ∧ t ≤ A 0 5 ∧ (∀ a j, (¬ a = 119 ∨ (¬ j = 16 ∧ ¬ j = 26 ∧ ¬ j = 27)) → ¬ a = 120 → (a < 124 ∨ 131 < a) → w a j = v a j) ∧ (∀ j, j < 597 → w 120 j = v 120 j) ∧ ∃ th zz, BestQ (fun t => cutA A 0 t s q sl y.toNat) (fun t => A (0 + 13 + t) 2) (fun t => A (0 + 13 + t) 0 = s ∧ A (0 + 13 + t) 7 = -4) (ahdS A 0 s q sl y.toNat) t ls th zz ∧ bs = (if th = -4 then -4 else 100 * th + zz) ∧ (th = -4 ∨ (0 ≤ th ∧ th < 10 ∧ 0 < zz ∧ zz < 50))) → E X G 0 0 1000 w 43 [some (vr 119), some (vi s), some (vi y), some (vi q), some (vi k), some (vi ls), some (vi bs), some (vi t)] [] := by
          intro k43
          induction k43 using Nat.strongRecOn with
          | ind k43 ih43 =>
            intro ls bs t w hk43 hI43
            obtain ⟨ht0, ht1, n1, n2, th, zz, hq, hbs, htz⟩ := hI43; have hMw : MR A (w 120) := hM.st hA (fun j _ g => n2 j (by omega))
            refine E.iload C dX9_best_43 rfl ?_
            refine E.aload_n C dX9_best_45 rfl rfl ?_
            refine N.getR C fa_X9_7 rfl dX9_best_46 kd_119 (x := 120) (by decide +kernel) (by decide) ?_
            refine E.bipush C dX9_best_49 (by decide) ?_
            refine N.iald C dX9_best_51 kd_120 ln_120 (by omega) (x := v 120 41) (n2 _ (by decide)) ?_
            refine E.icmp_ge C dX9_best_52 (tgt := 125) (by decide) (fun h52 => ?_) (fun h52 => ?_)
            · skip
              refine E.iload C dX9_best_125 rfl ?_
              refine E.bipush C dX9_best_127 (by decide) ?_
              refine E.icmp_ne C dX9_best_129 (tgt := 137) (by decide) (fun h129 => ?_) (fun h129 => ?_)
              · skip
                refine E.iload C dX9_best_137 rfl ?_
                refine E.if_ne C dX9_best_139 (tgt := 147) (by decide) (fun h139 => ?_) (fun h139 => ?_)
                · skip
                  refine E.iload C dX9_best_147 rfl ?_
                  exact N.iret C hR dX9_best_149 (fun hi hx => by first | exact ⟨fun a j _ _ _ => rfl, fun j _ => rfl, Or.inl ⟨by omega, rfl⟩⟩ | (have et : t = A 0 5 := (by omega); subst et; refine ⟨n1, n2, Or.inr ⟨by omega, _, _, _, hq, ?_⟩⟩; rcases htz with hz | hz; (rw [if_pos hz] at hbs; first | exact (if_pos hz).symm | (exfalso; omega)); (have hn9 : ¬ th = -4 := (by omega); rw [if_neg hn9] at hbs; rw [if_neg hn9]; first | (exfalso; omega) | (rw [if_pos (by omega)]; exact hbs) | (rw [if_neg (by omega)]))))
                · skip
                  refine E.iload C dX9_best_142 rfl ?_
                  refine E.goto C dX9_best_144 (tgt := 149) (by decide) ?_
                  exact N.iret C hR dX9_best_149 (fun hi hx => by first | exact ⟨fun a j _ _ _ => rfl, fun j _ => rfl, Or.inl ⟨by omega, rfl⟩⟩ | (have et : t = A 0 5 := (by omega); subst et; refine ⟨n1, n2, Or.inr ⟨by omega, _, _, _, hq, ?_⟩⟩; rcases htz with hz | hz; (rw [if_pos hz] at hbs; first | exact (if_pos hz).symm | (exfalso; omega)); (have hn9 : ¬ th = -4 := (by omega); rw [if_neg hn9] at hbs; rw [if_neg hn9]; first | (exfalso; omega) | (rw [if_pos (by omega)]; exact hbs) | (rw [if_neg (by omega)]))))
              · skip
                refine E.bipush C dX9_best_132 (by decide) ?_
                refine E.goto C dX9_best_134 (tgt := 149) (by decide) ?_
                exact N.iret C hR dX9_best_149 (fun hi hx => by first | exact ⟨fun a j _ _ _ => rfl, fun j _ => rfl, Or.inl ⟨by omega, rfl⟩⟩ | (have et : t = A 0 5 := (by omega); subst et; refine ⟨n1, n2, Or.inr ⟨by omega, _, _, _, hq, ?_⟩⟩; rcases htz with hz | hz; (rw [if_pos hz] at hbs; first | exact (if_pos hz).symm | (exfalso; omega)); (have hn9 : ¬ th = -4 := (by omega); rw [if_neg hn9] at hbs; rw [if_neg hn9]; first | (exfalso; omega) | (rw [if_pos (by omega)]; exact hbs) | (rw [if_neg (by omega)]))))
            · skip
              refine E.aload_n C dX9_best_55 rfl rfl ?_
              refine E.iload C dX9_best_56 rfl ?_
              refine E.iconst C dX9_best_58 (by decide) ?_
              refine N.callVp (S := []) (As := [vi t, vi 0]) C hX (ok_X9_of G t 0 w (by omega)) yf_X9_of yv_X9_of ml_X9_172 rfl rfl rfl kd_119 (by decide) (by decide) (Nat.le_of_ble_eq_true rfl) dX9_best_59 rfl ?_
              refine E.veq (x' := A (0 + 13 + t) 0) (by first | exact hM.2.2.2.1 t 0 ht0 (by omega) (by omega) (by omega) | exact hMw.2.2.2.1 t 0 ht0 (by omega) (by omega) (by omega)) ?_
              refine E.iload_n C dX9_best_62 rfl rfl ?_
              refine E.icmp_ne C dX9_best_63 (tgt := 119) (by decide) (fun h63 => ?_) (fun h63 => ?_)
              · skip
                refine N.iinc_7 C dX9_best_119 (hN 7 (by decide)) rfl (by omega) ?_
                refine E.goto C dX9_best_122 (tgt := 43) (by decide) ?_
                exact ih43 _ (by omega) ls bs (t + 1) w rfl (by first | exact ⟨by omega, by omega, n1, n2, th, zz, hq.skip (fun z => by omega), hbs, htz⟩ | (have hsz := (hA.2.2.2.1 t ht0 (by omega)).2.2.1; refine ⟨by omega, by omega, fun a j g1 g2 g3 => (c1 a j g1 g2 g3).trans (n1 a j g1 g2 g3), fun j g => (c2 j g).trans (n2 j g), ?_⟩; rcases c3.re (th0 := th) (z0 := zz) ht0 with ⟨r1, r2⟩ | ⟨r1, r2, r3⟩; (first | (exfalso; omega) | exact ⟨th, zz, hq.step ht0 ⟨by omega, by omega⟩ r2, hbs, htz⟩); (first | (exfalso; omega) | exact ⟨t, w84 119 26, hq.step ht0 ⟨by omega, by omega⟩ (by rw [r2] at r3; exact r3), by rw [if_neg (show ¬ t = -4 by omega)], Or.inr ⟨by omega, by omega, r1, by have := (c3.zz ht0).2; omega⟩⟩)))
              · skip
                refine E.aload_n C dX9_best_66 rfl rfl ?_
                refine E.iload C dX9_best_67 rfl ?_
                refine N.callVp (S := []) (As := [vi t]) C hX (ok_X9_whoWears G t w (by rw [n2 _ (by decide)]; omega) (by omega) (by rw [n2 _ (by omega), hM.2.2.2.1 _ 0 (by omega) (by omega) (by omega) (by omega)]; have := (hA.2.2.2.1 t (by omega) (by omega)).1; omega)) yf_X9_whoWears yv_X9_whoWears ml_X9_193 rfl rfl rfl kd_119 (by decide) (by decide) (Nat.le_of_ble_eq_true rfl) dX9_best_69 rfl ?_
                refine E.veq (x' := A (0 + 13 + t) 7) (hMw.who hA (by omega)) ?_
                refine E.bipush C dX9_best_72 (by decide) ?_
                refine E.icmp_ne C dX9_best_74 (tgt := 119) (by decide) (fun h74 => ?_) (fun h74 => ?_)
                · skip
                  refine N.iinc_7 C dX9_best_119 (hN 7 (by decide)) rfl (by omega) ?_
                  refine E.goto C dX9_best_122 (tgt := 43) (by decide) ?_
                  exact ih43 _ (by omega) ls bs (t + 1) w rfl (by first | exact ⟨by omega, by omega, n1, n2, th, zz, hq.skip (fun z => by omega), hbs, htz⟩ | (have hsz := (hA.2.2.2.1 t ht0 (by omega)).2.2.1; refine ⟨by omega, by omega, fun a j g1 g2 g3 => (c1 a j g1 g2 g3).trans (n1 a j g1 g2 g3), fun j g => (c2 j g).trans (n2 j g), ?_⟩; rcases c3.re (th0 := th) (z0 := zz) ht0 with ⟨r1, r2⟩ | ⟨r1, r2, r3⟩; (first | (exfalso; omega) | exact ⟨th, zz, hq.step ht0 ⟨by omega, by omega⟩ r2, hbs, htz⟩); (first | (exfalso; omega) | exact ⟨t, w84 119 26, hq.step ht0 ⟨by omega, by omega⟩ (by rw [r2] at r3; exact r3), by rw [if_neg (show ¬ t = -4 by omega)], Or.inr ⟨by omega, by omega, r1, by have := (c3.zz ht0).2; omega⟩⟩)))
                · skip
                  refine E.aload_n C dX9_best_77 rfl rfl ?_
                  refine E.iload C dX9_best_78 rfl ?_
                  refine E.iload_n C dX9_best_80 rfl rfl ?_
                  refine E.iload_n C dX9_best_81 rfl rfl ?_
                  refine E.iload C dX9_best_82 rfl ?_
                  refine N.callVv (S := []) (As := [vi t, vi y, vi q, vi ls]) C hX (ok_X9_findCut G t y q ls sl A w hA hMw ((n1 _ _ (Or.inr (by decide)) (by decide) (by decide)).trans hal) hsl (by omega) (by omega) (by omega)) yf_X9_findCut yv_X9_findCut ml_X9_283 rfl rfl rfl kd_119 (by decide) (by decide) (Nat.le_of_ble_eq_true rfl) dX9_best_84 rfl (fun w84 hp84 => ?_)
                  obtain ⟨c1, c2, thc, c3⟩ := id hp84
                  rw [h63] at c3
                  have c26 := (c3.zz ht0).2
                  have hszz := (hA.2.2.2.1 t ht0 (by omega)).2.2.1
                  refine E.aload_n C dX9_best_87 rfl rfl ?_
                  refine N.getI C fa_X9_277 rfl dX9_best_88 kd_119 (x := w84 119 26) rfl ?_
                  refine E.bipush C dX9_best_91 (by decide) ?_
                  refine E.icmp_ne C dX9_best_93 (tgt := 101) (by decide) (fun h93 => ?_) (fun h93 => ?_)
                  · skip
                    refine E.bipush C dX9_best_101 (by decide) ?_
                    refine E.iload C dX9_best_103 rfl ?_
                    refine E.imul C dX9_best_105 (by omega) ?_
                    refine E.aload_n C dX9_best_106 rfl rfl ?_
                    refine N.getI C fa_X9_277 rfl dX9_best_107 kd_119 (x := w84 119 26) rfl ?_
                    refine E.iadd C dX9_best_110 (by omega) ?_
                    refine N.ist_6 C dX9_best_111 (hN 6 (by decide)) rfl ?_
                    refine E.aload_n C dX9_best_113 rfl rfl ?_
                    refine N.getI C fa_X9_280 rfl dX9_best_114 kd_119 (x := w84 119 27) rfl ?_
                    refine N.ist_5 C dX9_best_117 (hN 5 (by decide)) rfl ?_
                    refine N.iinc_7 C dX9_best_119 (hN 7 (by decide)) rfl (by omega) ?_
                    refine E.goto C dX9_best_122 (tgt := 43) (by decide) ?_
                    exact ih43 _ (by omega) (w84 119 27) ((100 * t) + (w84 119 26)) (t + 1) w84 rfl (by first | exact ⟨by omega, by omega, n1, n2, th, zz, hq.skip (fun z => by omega), hbs, htz⟩ | (have hsz := (hA.2.2.2.1 t ht0 (by omega)).2.2.1; refine ⟨by omega, by omega, fun a j g1 g2 g3 => (c1 a j g1 g2 g3).trans (n1 a j g1 g2 g3), fun j g => (c2 j g).trans (n2 j g), ?_⟩; rcases c3.re (th0 := th) (z0 := zz) ht0 with ⟨r1, r2⟩ | ⟨r1, r2, r3⟩; (first | (exfalso; omega) | exact ⟨th, zz, hq.step ht0 ⟨by omega, by omega⟩ r2, hbs, htz⟩); (first | (exfalso; omega) | exact ⟨t, w84 119 26, hq.step ht0 ⟨by omega, by omega⟩ (by rw [r2] at r3; exact r3), by rw [if_neg (show ¬ t = -4 by omega)], Or.inr ⟨by omega, by omega, r1, by have := (c3.zz ht0).2; omega⟩⟩)))
                  · skip
                    refine E.iload C dX9_best_96 rfl ?_
                    refine E.goto C dX9_best_98 (tgt := 111) (by decide) ?_
                    refine N.ist_6 C dX9_best_111 (hN 6 (by decide)) rfl ?_
                    refine E.aload_n C dX9_best_113 rfl rfl ?_
                    refine N.getI C fa_X9_280 rfl dX9_best_114 kd_119 (x := w84 119 27) rfl ?_
                    refine N.ist_5 C dX9_best_117 (hN 5 (by decide)) rfl ?_
                    refine N.iinc_7 C dX9_best_119 (hN 7 (by decide)) rfl (by omega) ?_
                    refine E.goto C dX9_best_122 (tgt := 43) (by decide) ?_
                    exact ih43 _ (by omega) (w84 119 27) bs (t + 1) w84 rfl (by first | exact ⟨by omega, by omega, n1, n2, th, zz, hq.skip (fun z => by omega), hbs, htz⟩ | (have hsz := (hA.2.2.2.1 t ht0 (by omega)).2.2.1; refine ⟨by omega, by omega, fun a j g1 g2 g3 => (c1 a j g1 g2 g3).trans (n1 a j g1 g2 g3), fun j g => (c2 j g).trans (n2 j g), ?_⟩; rcases c3.re (th0 := th) (z0 := zz) ht0 with ⟨r1, r2⟩ | ⟨r1, r2, r3⟩; (first | (exfalso; omega) | exact ⟨th, zz, hq.step ht0 ⟨by omega, by omega⟩ r2, hbs, htz⟩); (first | (exfalso; omega) | exact ⟨t, w84 119 26, hq.step ht0 ⟨by omega, by omega⟩ (by rw [r2] at r3; exact r3), by rw [if_neg (show ¬ t = -4 by omega)], Or.inr ⟨by omega, by omega, r1, by have := (c3.zz ht0).2; omega⟩⟩)))
        exact lp43 _ t31 (-4) 0 w31 rfl (by exact ⟨by omega, by omega, fun a j g1 g2 g3 => hp31.1 a j (by omega) g2 g3, hp31.2.1, -4, 0, by rw [hp31.2.2.1]; exact BestQ.none, by rw [if_pos rfl], Or.inl rfl⟩)
      · have h22 := b0.mp h22
        refine E.iconst C dX9_best_25 (by decide) ?_
        exact N.iret C hR dX9_best_26 (fun hi hx => by first | exact ⟨fun a j _ _ _ => rfl, fun j _ => rfl, Or.inl ⟨by omega, rfl⟩⟩ | (have et : t = A 0 5 := (by omega); subst et; refine ⟨n1, n2, Or.inr ⟨by omega, _, _, _, hq, ?_⟩⟩; rcases htz with hz | hz; (rw [if_pos hz] at hbs; first | exact (if_pos hz).symm | (exfalso; omega)); (have hn9 : ¬ th = -4 := (by omega); rw [if_neg hn9] at hbs; rw [if_neg hn9]; first | (exfalso; omega) | (rw [if_pos (by omega)]; exact hbs) | (rw [if_neg (by omega)]))))

set_option maxHeartbeats 4000000 in
set_option maxRecDepth 20000 in
theorem ok_X9_sews (G : GT) (s z l : Int) (v : VT) (hb : 0 ≤ v 120 41 ∧ v 120 41 < 10) : MNv G yX9_sews cX9_sews 6 none 0 0 [vr 119, vi s, vi z, vi l] v (fun w => SewQ v s z l (v 120 41) w) := by
  refine MN.of pn_X9_sews [some (vr 119), some (vi s), some (vi z), some (vi l), none, none] 2 rfl rfl (fun X C hX hn hR => ?_)
  have hN : ∀ i : Nat, i < 6 → i < xn X := fun i h => by rw [hn]; exact h
  refine E.rngk (fun hinv => ?_)
  refine E.loc (fun hloc => ?_)
  have hin_1 : in32 s := hloc _ (List.mem_of_getElem? (i := 1) rfl)
  have hin_2 : in32 z := hloc _ (List.mem_of_getElem? (i := 2) rfl)
  have hin_3 : in32 l := hloc _ (List.mem_of_getElem? (i := 3) rfl)
  refine E.bipush C dX9_sews_0 (by decide) ?_
  refine E.bipush C dX9_sews_2 (by decide) ?_
  refine E.aload_n C dX9_sews_4 rfl rfl ?_
  refine N.getR C fa_X9_7 rfl dX9_sews_5 kd_119 (x := 120) (by decide +kernel) (by decide) ?_
  refine E.bipush C dX9_sews_8 (by decide) ?_
  refine N.iald C dX9_sews_10 kd_120 ln_120 (by omega) (x := v 120 41) rfl ?_
  refine E.imul C dX9_sews_11 (by omega) ?_
  refine E.iadd C dX9_sews_12 (by omega) ?_
  refine N.ist_4 C dX9_sews_13 (hN 4 (by decide)) rfl ?_
  refine E.aload_n C dX9_sews_15 rfl rfl ?_
  refine N.getR C fa_X9_7 rfl dX9_sews_16 kd_119 (x := 120) (by decide +kernel) (by decide) ?_
  refine E.iload C dX9_sews_19 rfl ?_
  refine E.iconst C dX9_sews_21 (by decide) ?_
  refine E.iadd C dX9_sews_22 (by omega) ?_
  refine E.iload_n C dX9_sews_23 rfl rfl ?_
  refine N.iast C dX9_sews_24 kd_120 ln_120 (by omega) ?_
  refine E.aload_n C dX9_sews_25 rfl rfl ?_
  refine N.getR C fa_X9_7 rfl dX9_sews_26 kd_119 (x := 120) (by decide +kernel) (by decide) ?_
  refine E.iload C dX9_sews_29 rfl ?_
  refine E.iconst C dX9_sews_31 (by decide) ?_
  refine E.iadd C dX9_sews_32 (by omega) ?_
  refine E.iconst C dX9_sews_33 (by decide) ?_
  refine N.iast C dX9_sews_34 kd_120 ln_120 (by omega) ?_
  refine E.aload_n C dX9_sews_35 rfl rfl ?_
  refine N.getR C fa_X9_7 rfl dX9_sews_36 kd_119 (x := 120) (by decide +kernel) (by decide) ?_
  refine E.iload C dX9_sews_39 rfl ?_
  refine E.iconst C dX9_sews_41 (by decide) ?_
  refine E.iadd C dX9_sews_42 (by omega) ?_
  refine E.iload_n C dX9_sews_43 rfl rfl ?_
  refine N.iast C dX9_sews_44 kd_120 ln_120 (by omega) ?_
  refine E.aload_n C dX9_sews_45 rfl rfl ?_
  refine N.getR C fa_X9_7 rfl dX9_sews_46 kd_119 (x := 120) (by decide +kernel) (by decide) ?_
  refine E.iload C dX9_sews_49 rfl ?_
  refine E.iconst C dX9_sews_51 (by decide) ?_
  refine E.iadd C dX9_sews_52 (by omega) ?_
  refine E.iload_n C dX9_sews_53 rfl rfl ?_
  refine N.iast C dX9_sews_54 kd_120 ln_120 (by omega) ?_
  refine E.aload_n C dX9_sews_55 rfl rfl ?_
  refine N.getR C fa_X9_7 rfl dX9_sews_56 kd_119 (x := 120) (by decide +kernel) (by decide) ?_
  refine E.iload C dX9_sews_59 rfl ?_
  refine E.iconst C dX9_sews_61 (by decide) ?_
  refine E.iadd C dX9_sews_62 (by omega) ?_
  refine E.iconst C dX9_sews_63 (by decide) ?_
  refine N.iast C dX9_sews_64 kd_120 ln_120 (by omega) ?_
  refine E.aload_n C dX9_sews_65 rfl rfl ?_
  refine N.getR C fa_X9_7 rfl dX9_sews_66 kd_119 (x := 120) (by decide +kernel) (by decide) ?_
  refine E.iload C dX9_sews_69 rfl ?_
  refine E.iconst C dX9_sews_71 (by decide) ?_
  refine E.iadd C dX9_sews_72 (by omega) ?_
  refine E.iconst C dX9_sews_73 (by decide) ?_
  refine N.iast C dX9_sews_74 kd_120 ln_120 (by omega) ?_
  refine E.aload_n C dX9_sews_75 rfl rfl ?_
  refine N.getR C fa_X9_7 rfl dX9_sews_76 kd_119 (x := 120) (by decide +kernel) (by decide) ?_
  refine E.iload C dX9_sews_79 rfl ?_
  refine E.bipush C dX9_sews_81 (by decide) ?_
  refine E.iadd C dX9_sews_83 (by omega) ?_
  refine E.bipush C dX9_sews_84 (by decide) ?_
  refine N.iast C dX9_sews_86 kd_120 ln_120 (by omega) ?_
  obtain ⟨w87, hw87⟩ : ∃ zqv, zqv = (upd2 (upd2 (upd2 (upd2 (upd2 (upd2 (upd2 v 120 ((42 + (7 * (v 120 41))) + 0) s) 120 ((42 + (7 * (v 120 41))) + 1) 0) 120 ((42 + (7 * (v 120 41))) + 2) z) 120 ((42 + (7 * (v 120 41))) + 3) l) 120 ((42 + (7 * (v 120 41))) + 4) 0) 120 ((42 + (7 * (v 120 41))) + 5) 0) 120 ((42 + (7 * (v 120 41))) + 6) (-4)) := ⟨_, rfl⟩
  refine E.heq hw87.symm ?_
  have e87 : ∀ a j, ¬ a = 120 → w87 a j = v a j := fun a j g => by rw [hw87, u_ne (Or.inl g), u_ne (Or.inl g), u_ne (Or.inl g), u_ne (Or.inl g), u_ne (Or.inl g), u_ne (Or.inl g), u_ne (Or.inl g)]
  have o87 : ∀ j, (j < 42 + 7 * v 120 41 ∨ 49 + 7 * v 120 41 ≤ j) → w87 120 j = v 120 j := fun j g => by rw [hw87, u_ne (by omega), u_ne (by omega), u_ne (by omega), u_ne (by omega), u_ne (by omega), u_ne (by omega), u_ne (by omega)]
  have k6 : w87 120 (42 + 7 * v 120 41 + 6) = -4 := by rw [hw87, upd2_same]
  have k5 : w87 120 (42 + 7 * v 120 41 + 5) = 0 := by rw [hw87, u_ne (by omega), upd2_same]
  have k4 : w87 120 (42 + 7 * v 120 41 + 4) = 0 := by rw [hw87, u_ne (by omega), u_ne (by omega), upd2_same]
  have k3 : w87 120 (42 + 7 * v 120 41 + 3) = l := by rw [hw87, u_ne (by omega), u_ne (by omega), u_ne (by omega), upd2_same]
  have k2 : w87 120 (42 + 7 * v 120 41 + 2) = z := by rw [hw87, u_ne (by omega), u_ne (by omega), u_ne (by omega), u_ne (by omega), upd2_same]
  have k1 : w87 120 (42 + 7 * v 120 41 + 1) = 0 := by rw [hw87, u_ne (by omega), u_ne (by omega), u_ne (by omega), u_ne (by omega), u_ne (by omega), upd2_same]
  have k0 : w87 120 (42 + 7 * v 120 41 + 0) = s := by rw [hw87, u_ne (by omega), u_ne (by omega), u_ne (by omega), u_ne (by omega), u_ne (by omega), u_ne (by omega), upd2_same]
  refine E.iconst C dX9_sews_87 (by decide) ?_
  refine N.ist_5 C dX9_sews_88 (hN 5 (by decide)) rfl ?_
  have lp90 : ∀ (k90 : Nat) (c : Int) (w : VT), (8 - c).toNat = k90 → (0 ≤ c ∧ c ≤ 8 ∧ (∀ a j, ¬ a = 120 → w a j = v a j) ∧ (∀ d, 0 ≤ d → d < c → w 120 (119 + 10 * d + v 120 41) = 0) ∧ (∀ j, (∀ d, 0 ≤ d → d < c → ¬ j = 119 + 10 * d + v 120 41) → w 120 j = w87 120 j)) → E X G 0 0 1000 w 90 [some (vr 119), some (vi s), some (vi z), some (vi l), some (vi (42 + (7 * (v 120 41)))), some (vi c)] [] := by
    intro k90
    induction k90 using Nat.strongRecOn with
    | ind k90 ih90 =>
      intro c w hk90 hI90
      obtain ⟨hc0, hc1, hfr, hz0, hst⟩ := hI90; have h41w : w 120 41 = v 120 41 := (hst 41 (fun d _ _ => by omega)).trans (o87 _ (by omega))
      refine E.iload C dX9_sews_90 rfl ?_
      refine E.bipush C dX9_sews_92 (by decide) ?_
      refine E.icmp_ge C dX9_sews_94 (tgt := 125) (by decide) (fun h94 => ?_) (fun h94 => ?_)
      · skip
        refine E.aload_n C dX9_sews_125 rfl rfl ?_
        refine N.getR C fa_X9_7 rfl dX9_sews_126 kd_119 (x := 120) (by decide +kernel) (by decide) ?_
        refine E.bipush C dX9_sews_129 (by decide) ?_
        refine E.dup2 C dX9_sews_131 ?_
        refine N.iald C dX9_sews_132 kd_120 ln_120 (by omega) (x := v 120 41) h41w ?_
        refine E.iconst C dX9_sews_133 (by decide) ?_
        refine E.iadd C dX9_sews_134 (by omega) ?_
        refine N.iast C dX9_sews_135 kd_120 ln_120 (by omega) ?_
        exact N.vret C hR dX9_sews_136 (fun hi => by have ec : c = 8 := (by omega); subst ec; have q : ∀ j, 42 + 7 * v 120 41 ≤ j → j < 49 + 7 * v 120 41 → w 120 j = w87 120 j := (fun j g1 g2 => hst j (fun d _ _ => by omega)); refine ⟨fun a j g => (u_ne (Or.inl g)).trans (hfr a j g), u_at rfl, ?_, fun c g1 g2 => (u_ne (Or.inr (by omega))).trans (hz0 c g1 g2), fun j g1 g2 g3 => (u_ne (Or.inr g1)).trans ((hst j g3).trans (o87 j g2))⟩; rw [u_ne (by omega), u_ne (by omega), u_ne (by omega), u_ne (by omega), u_ne (by omega), u_ne (by omega), u_ne (by omega), q _ (by omega) (by omega), q _ (by omega) (by omega), q _ (by omega) (by omega), q _ (by omega) (by omega), q _ (by omega) (by omega), q _ (by omega) (by omega), q _ (by omega) (by omega)]; exact ⟨k0, k1, k2, k3, k4, k5, k6⟩)
      · skip
        refine E.aload_n C dX9_sews_97 rfl rfl ?_
        refine N.getR C fa_X9_7 rfl dX9_sews_98 kd_119 (x := 120) (by decide +kernel) (by decide) ?_
        refine E.bipush C dX9_sews_101 (by decide) ?_
        refine E.bipush C dX9_sews_103 (by decide) ?_
        refine E.iload C dX9_sews_105 rfl ?_
        refine E.imul C dX9_sews_107 (by omega) ?_
        refine E.iadd C dX9_sews_108 (by omega) ?_
        refine E.aload_n C dX9_sews_109 rfl rfl ?_
        refine N.getR C fa_X9_7 rfl dX9_sews_110 kd_119 (x := 120) (by decide +kernel) (by decide) ?_
        refine E.bipush C dX9_sews_113 (by decide) ?_
        refine N.iald C dX9_sews_115 kd_120 ln_120 (by omega) (x := v 120 41) h41w ?_
        refine E.iadd C dX9_sews_116 (by omega) ?_
        refine E.iconst C dX9_sews_117 (by decide) ?_
        refine N.iast C dX9_sews_118 kd_120 ln_120 (by omega) ?_
        refine N.iinc_5 C dX9_sews_119 (hN 5 (by decide)) rfl (by omega) ?_
        refine E.goto C dX9_sews_122 (tgt := 90) (by decide) ?_
        exact ih90 _ (by omega) (c + 1) (upd2 w 120 ((119 + (10 * c)) + (v 120 41)) 0) rfl (by refine ⟨by omega, by omega, fun a j g => (u_ne (Or.inl g)).trans (hfr a j g), fun d g1 g2 => ?_, fun j g => (u_ne (Or.inr (g c hc0 (by omega)))).trans (hst j (fun d a b => g d a (by omega)))⟩; by_cases hd : d = c; (rw [hd, upd2_same]); (rw [u_ne (Or.inr (by omega))]; exact hz0 d g1 (by omega)))
  exact lp90 _ 0 w87 rfl (by exact ⟨by omega, by omega, e87, fun d h1 h2 => by omega, fun j _ => rfl⟩)

set_option maxHeartbeats 4000000 in
set_option maxRecDepth 20000 in
theorem ok_X9_sew (G : GT) (s z : Int) (A v : VT) (hA : WFV A 0) (hM : MR A (v 120)) : MNi G yX9_sew cX9_sew 3 (some .int) 2 45 [vr 119, vi s, vi z] v (fun x w => (¬ ((0 ≤ s ∧ s ≤ 1) ∧ (1 ≤ z ∧ z ≤ 40)) ∧ x = -1 ∧ w = v) ∨ (((0 ≤ s ∧ s ≤ 1) ∧ (1 ≤ z ∧ z ≤ 40)) ∧ 10 ≤ A 0 5 ∧ x = -3 ∧ w = v) ∨ (((0 ≤ s ∧ s ≤ 1) ∧ (1 ≤ z ∧ z ≤ 40)) ∧ A 0 5 < 10 ∧ x = A 0 5 ∧ SewQ v s z 3 (A 0 5) w)) := by
  refine MN.of pn_X9_sew [some (vr 119), some (vi s), some (vi z)] 0 rfl rfl (fun X C hX hn hR => ?_)
  have hN : ∀ i : Nat, i < 3 → i < xn X := fun i h => by rw [hn]; exact h
  refine E.rngk (fun hinv => ?_)
  refine E.loc (fun hloc => ?_)
  have hin_1 : in32 s := hloc _ (List.mem_of_getElem? (i := 1) rfl)
  have hin_2 : in32 z := hloc _ (List.mem_of_getElem? (i := 2) rfl)
  have hc := hM.1
  have hb := hM.2.1
  have hA1 := hA.1
  have hA2 := hA.2.1
  refine E.iload_n C dX9_sew_0 rfl rfl ?_
  refine N.callSp (S := []) (As := [vi s]) C hX (ok_X9_isSlot G s v) yf_X9_isSlot yv_X9_isSlot ml_X9_216 rfl (by decide) (Nat.le_of_ble_eq_true rfl) dX9_sew_1 rfl ?_
  refine E.if_eq C dX9_sew_4 (tgt := 19) (by decide) (fun h4 => ?_) (fun h4 => ?_)
  · have h4 := b0.mp h4
    refine E.iconst C dX9_sew_19 (by decide) ?_
    exact N.iret C hR dX9_sew_20 (fun hi hx => by first | exact Or.inl ⟨by omega, rfl, rfl⟩ | exact Or.inr (Or.inl ⟨by omega, by omega, rfl, rfl⟩) | exact Or.inr (Or.inr ⟨by omega, by omega, by omega, hq40⟩))
  · have h4 := b0n.mp h4
    refine E.iload_n C dX9_sew_7 rfl rfl ?_
    refine E.i2l C dX9_sew_8 ?_
    refine E.lconst C dX9_sew_9 (x := 1) rfl ?_
    refine E.ldc2 C ct_X9_287 (x := 40) (by decide) dX9_sew_10 ?_
    refine N.callSp (S := []) (As := [vl z, vl 1, vl 40]) C hX (ok_X9_in G z 1 40 v) yf_X9_in yv_X9_in ml_X9_93 rfl (by decide) (Nat.le_of_ble_eq_true rfl) dX9_sew_13 rfl ?_
    refine E.if_ne C dX9_sew_16 (tgt := 21) (by decide) (fun h16 => ?_) (fun h16 => ?_)
    · have h16 := b0n.mp h16
      refine E.aload_n C dX9_sew_21 rfl rfl ?_
      refine N.getR C fa_X9_7 rfl dX9_sew_22 kd_119 (x := 120) (by decide +kernel) (by decide) ?_
      refine E.bipush C dX9_sew_25 (by decide) ?_
      refine N.iald C dX9_sew_27 kd_120 ln_120 (by omega) (x := v 120 41) rfl ?_
      refine E.bipush C dX9_sew_28 (by decide) ?_
      refine E.icmp_ne C dX9_sew_30 (tgt := 36) (by decide) (fun h30 => ?_) (fun h30 => ?_)
      · skip
        refine E.aload_n C dX9_sew_36 rfl rfl ?_
        refine E.iload_n C dX9_sew_37 rfl rfl ?_
        refine E.iload_n C dX9_sew_38 rfl rfl ?_
        refine E.iconst C dX9_sew_39 (by decide) ?_
        refine N.callVv (S := []) (As := [vi s, vi z, vi 3]) C hX (ok_X9_sews G s z 3 v (by omega)) yf_X9_sews yv_X9_sews ml_X9_289 rfl rfl rfl kd_119 (by decide) (by decide) (Nat.le_of_ble_eq_true rfl) dX9_sew_40 rfl (fun w40 hp40 => ?_)
        have hq40 := hp40
        rw [hb] at hq40
        have e41 := hq40.2.1
        refine E.aload_n C dX9_sew_43 rfl rfl ?_
        refine N.getR C fa_X9_7 rfl dX9_sew_44 kd_119 (x := 120) (by decide +kernel) (by decide) ?_
        refine E.bipush C dX9_sew_47 (by decide) ?_
        refine N.iald C dX9_sew_49 kd_120 ln_120 (by omega) (x := w40 120 41) rfl ?_
        refine E.iconst C dX9_sew_50 (by decide) ?_
        refine E.isub C dX9_sew_51 (by omega) ?_
        exact N.iret C hR dX9_sew_52 (fun hi hx => by first | exact Or.inl ⟨by omega, rfl, rfl⟩ | exact Or.inr (Or.inl ⟨by omega, by omega, rfl, rfl⟩) | exact Or.inr (Or.inr ⟨by omega, by omega, by omega, hq40⟩))
      · skip
        refine E.bipush C dX9_sew_33 (by decide) ?_
        exact N.iret C hR dX9_sew_35 (fun hi hx => by first | exact Or.inl ⟨by omega, rfl, rfl⟩ | exact Or.inr (Or.inl ⟨by omega, by omega, rfl, rfl⟩) | exact Or.inr (Or.inr ⟨by omega, by omega, by omega, hq40⟩))
    · have h16 := b0.mp h16
      refine E.iconst C dX9_sew_19 (by decide) ?_
      exact N.iret C hR dX9_sew_20 (fun hi hx => by first | exact Or.inl ⟨by omega, rfl, rfl⟩ | exact Or.inr (Or.inl ⟨by omega, by omega, rfl, rfl⟩) | exact Or.inr (Or.inr ⟨by omega, by omega, by omega, hq40⟩))

set_option maxHeartbeats 4000000 in
set_option maxRecDepth 20000 in
theorem ok_X9_wish (G : GT) (s y q k sl : Int) (A v : VT) (hA : WFV A 0) (hM : MR A (v 120)) (hal : v 119 2 = sl) (hsl : 0 ≤ sl ∧ sl ≤ 4) (hlz : A 0 5 < 10 → ∀ c, 0 ≤ c → c < 8 → v 120 (119 + 10 * c + A 0 5) = 0) : MNi G yX9_wish cX9_wish 9 (some .int) 7 169 [vr 119, vi s, vi y, vi q, vi k] v (fun x w => (∀ a j, (¬ a = 119 ∨ ¬ j = 16) → ¬ a = 120 → (a < 124 ∨ 131 < a) → w a j = v a j) ∧ (∀ j, j < 597 → (10 ≤ A 0 5 ∨ j < 42 + 7 * A 0 5 ∨ 49 + 7 * A 0 5 ≤ j) → w 120 j = v 120 j) ∧ ((¬ ((0 ≤ s ∧ s ≤ 1) ∧ (1 ≤ y ∧ y ≤ 4) ∧ (k = 0 ∨ k = 1)) ∧ x = -1) ∨ (((0 ≤ s ∧ s ≤ 1) ∧ (1 ≤ y ∧ y ≤ 4) ∧ (k = 0 ∨ k = 1)) ∧ 10 ≤ A 0 5 ∧ x = -3) ∨ (((0 ≤ s ∧ s ≤ 1) ∧ (1 ≤ y ∧ y ≤ 4) ∧ (k = 0 ∨ k = 1)) ∧ A 0 5 < 10 ∧ ∃ z n, LeastQ (wishA A 0 s q sl y.toNat) 40 z n ∧ x = if k = 0 then z else n))) := by
  refine MN.of pn_X9_wish [some (vr 119), some (vi s), some (vi y), some (vi q), some (vi k), none, none, none, none] 4 rfl rfl (fun X C hX hn hR => ?_)
  have hN : ∀ i : Nat, i < 9 → i < xn X := fun i h => by rw [hn]; exact h
  refine E.rngk (fun hinv => ?_)
  refine E.loc (fun hloc => ?_)
  have hin_1 : in32 s := hloc _ (List.mem_of_getElem? (i := 1) rfl)
  have hin_2 : in32 y := hloc _ (List.mem_of_getElem? (i := 2) rfl)
  have hin_3 : in32 q := hloc _ (List.mem_of_getElem? (i := 3) rfl)
  have hin_4 : in32 k := hloc _ (List.mem_of_getElem? (i := 4) rfl)
  have hc := hM.1
  have hb := hM.2.1
  have hA1 := hA.1
  have hA2 := hA.2.1
  refine E.iload_n C dX9_wish_0 rfl rfl ?_
  refine N.callSp (S := []) (As := [vi s]) C hX (ok_X9_isSlot G s v) yf_X9_isSlot yv_X9_isSlot ml_X9_216 rfl (by decide) (Nat.le_of_ble_eq_true rfl) dX9_wish_1 rfl ?_
  refine E.if_eq C dX9_wish_4 (tgt := 25) (by decide) (fun h4 => ?_) (fun h4 => ?_)
  · have h4 := b0.mp h4
    refine E.iconst C dX9_wish_25 (by decide) ?_
    exact N.iret C hR dX9_wish_26 (fun hi hx => by exact ⟨fun a j _ _ _ => rfl, fun j _ _ => rfl, Or.inl ⟨by omega, rfl⟩⟩)
  · have h4 := b0n.mp h4
    refine E.iload_n C dX9_wish_7 rfl rfl ?_
    refine N.callSp (S := []) (As := [vi y]) C hX (ok_X9_areYears G y v) yf_X9_areYears yv_X9_areYears ml_X9_270 rfl (by decide) (Nat.le_of_ble_eq_true rfl) dX9_wish_8 rfl ?_
    refine E.if_eq C dX9_wish_11 (tgt := 25) (by decide) (fun h11 => ?_) (fun h11 => ?_)
    · have h11 := b0.mp h11
      refine E.iconst C dX9_wish_25 (by decide) ?_
      exact N.iret C hR dX9_wish_26 (fun hi hx => by exact ⟨fun a j _ _ _ => rfl, fun j _ _ => rfl, Or.inl ⟨by omega, rfl⟩⟩)
    · have h11 := b0n.mp h11
      refine E.iload C dX9_wish_14 rfl ?_
      refine E.i2l C dX9_wish_16 ?_
      refine E.lconst C dX9_wish_17 (x := 0) rfl ?_
      refine E.lconst C dX9_wish_18 (x := 1) rfl ?_
      refine N.callSp (S := []) (As := [vl k, vl 0, vl 1]) C hX (ok_X9_in G k 0 1 v) yf_X9_in yv_X9_in ml_X9_93 rfl (by decide) (Nat.le_of_ble_eq_true rfl) dX9_wish_19 rfl ?_
      refine E.if_ne C dX9_wish_22 (tgt := 27) (by decide) (fun h22 => ?_) (fun h22 => ?_)
      · have h22 := b0n.mp h22
        refine E.aload_n C dX9_wish_27 rfl rfl ?_
        refine N.getR C fa_X9_7 rfl dX9_wish_28 kd_119 (x := 120) (by decide +kernel) (by decide) ?_
        refine E.bipush C dX9_wish_31 (by decide) ?_
        refine N.iald C dX9_wish_33 kd_120 ln_120 (by omega) (x := v 120 41) rfl ?_
        refine E.bipush C dX9_wish_34 (by decide) ?_
        refine E.icmp_ne C dX9_wish_36 (tgt := 42) (by decide) (fun h36 => ?_) (fun h36 => ?_)
        · skip
          refine E.bipush C dX9_wish_42 (by decide) ?_
          refine N.ist_5 C dX9_wish_44 (hN 5 (by decide)) rfl ?_
          refine E.ldc_w C ct_X9_293 (x := 99999) (by decide) dX9_wish_46 ?_
          refine N.ist_6 C dX9_wish_49 (hN 6 (by decide)) rfl ?_
          refine E.iconst C dX9_wish_51 (by decide) ?_
          refine N.ist_7 C dX9_wish_52 (hN 7 (by decide)) rfl ?_
          have lp54 : ∀ (k54 : Nat) (wz : Int) (wn : Int) (z : Int) (w : VT), (41 - z).toNat = k54 → (1 ≤ z ∧ z ≤ 41 ∧ (∀ a j, (¬ a = 119 ∨ ¬ j = 16) → ¬ a = 120 → (a < 124 ∨ 131 < a) → w a j = v a j) ∧ (∀ j, j < 597 → (j < 42 + 7 * A 0 5 ∨ 49 + 7 * A 0 5 ≤ j) → w 120 j = v 120 j) ∧ ((z = 1 ∧ wn = 99999) ∨ (1 < z ∧ LeastQ (wishA A 0 s q sl y.toNat) (z - 1) wz wn))) → E X G 0 0 1000 w 54 [some (vr 119), some (vi s), some (vi y), some (vi q), some (vi k), some (vi wz), some (vi wn), some (vi z), none] [] := by
            intro k54
            induction k54 using Nat.strongRecOn with
            | ind k54 ih54 =>
              intro wz wn z w hk54 hI54
              obtain ⟨hz0, hz1, hfr, hst, hq⟩ := hI54; have e41 : w 120 41 = A 0 5 := (hst 41 (by decide) (by omega)).trans hb; have hMw : MR A (w 120) := ⟨(hst 0 (by decide) (by omega)).trans hM.1, e41, fun c k a b d e => (hst _ (by omega) (by omega)).trans (hM.2.2.1 c k a b d e), fun t k a b d e => (hst _ (by omega) (by omega)).trans (hM.2.2.2.1 t k a b d e), fun c r a b d e => (hst _ (by omega) (by omega)).trans (hM.2.2.2.2 c r a b d e)⟩
              refine E.iload C dX9_wish_54 rfl ?_
              refine E.bipush C dX9_wish_56 (by decide) ?_
              refine E.icmp_gt C dX9_wish_58 (tgt := 128) (by decide) (fun h58 => ?_) (fun h58 => ?_)
              · skip
                refine E.iload C dX9_wish_128 rfl ?_
                refine E.if_ne C dX9_wish_130 (tgt := 138) (by decide) (fun h130 => ?_) (fun h130 => ?_)
                · skip
                  refine E.iload C dX9_wish_138 rfl ?_
                  exact N.iret C hR dX9_wish_140 (fun hi hx => by have e : z - 1 = 40 := (by omega); have hq2 := (hq.resolve_left (fun z => by omega)).2; rw [e] at hq2; first | exact ⟨hfr, fun j g1 g2 => hst j g1 (by omega), Or.inr (Or.inr ⟨by omega, by omega, _, _, hq2, by rw [if_pos (by omega)]⟩)⟩ | exact ⟨hfr, fun j g1 g2 => hst j g1 (by omega), Or.inr (Or.inr ⟨by omega, by omega, _, _, hq2, by rw [if_neg (by omega)]⟩)⟩)
                · skip
                  refine E.iload C dX9_wish_133 rfl ?_
                  refine E.goto C dX9_wish_135 (tgt := 140) (by decide) ?_
                  exact N.iret C hR dX9_wish_140 (fun hi hx => by have e : z - 1 = 40 := (by omega); have hq2 := (hq.resolve_left (fun z => by omega)).2; rw [e] at hq2; first | exact ⟨hfr, fun j g1 g2 => hst j g1 (by omega), Or.inr (Or.inr ⟨by omega, by omega, _, _, hq2, by rw [if_pos (by omega)]⟩)⟩ | exact ⟨hfr, fun j g1 g2 => hst j g1 (by omega), Or.inr (Or.inr ⟨by omega, by omega, _, _, hq2, by rw [if_neg (by omega)]⟩)⟩)
              · skip
                refine E.aload_n C dX9_wish_61 rfl rfl ?_
                refine E.iload_n C dX9_wish_62 rfl rfl ?_
                refine E.iload C dX9_wish_63 rfl ?_
                refine E.bipush C dX9_wish_65 (by decide) ?_
                refine N.callVv (S := []) (As := [vi s, vi z, vi 9]) C hX (ok_X9_sews G s z 9 w (by omega)) yf_X9_sews yv_X9_sews ml_X9_289 rfl rfl rfl kd_119 (by decide) (by decide) (Nat.le_of_ble_eq_true rfl) dX9_wish_67 rfl (fun w67 hp67 => ?_)
                have hq67 := hp67
                rw [e41] at hq67
                obtain ⟨hs1, hs2, hs3, hs4, hs5⟩ := id hq67
                have hMs := hMw.sew hA (by omega) (by omega) (by omega) (by omega) hq67
                refine E.aload_n C dX9_wish_70 rfl rfl ?_
                refine E.iload_n C dX9_wish_71 rfl rfl ?_
                refine E.iload_n C dX9_wish_72 rfl rfl ?_
                refine E.iload_n C dX9_wish_73 rfl rfl ?_
                refine N.callVi (S := []) (As := [vi s, vi y, vi q]) C hX (ok_X9_aheadBy G s y q sl (sewV A 0 s z 9) w67 hMs.2 hMs.1 ((hs1 _ _ (by decide)).trans ((hfr _ _ (Or.inr (by decide)) (by decide) (by decide)).trans hal)) hsl (by omega) (by omega)) yf_X9_aheadBy yv_X9_aheadBy ml_X9_273 rfl rfl rfl kd_119 (by decide) (by decide) (Nat.le_of_ble_eq_true rfl) dX9_wish_74 rfl (fun t74 w74 hb74 hp74 => ?_)
                obtain ⟨n1, n2, n3, -⟩ := id hp74
                have n3 : t74 = wishA A 0 s q sl y.toNat z := n3
                have n41 : w74 120 41 = A 0 5 + 1 := (n2 _ (by decide)).trans hs2
                have npos := (ahs_bd (v := sewV A 0 s z 9) (o := 0) (s := s) (q := q) (sl := sl) hMs.2.1 y.toNat)
                have n3b : 0 ≤ t74 ∧ t74 < 99999 := by
                  rw [n3]
                  unfold wishA
                  omega
                refine N.ist_8 C dX9_wish_77 (hN 8 (by decide)) rfl ?_
                refine E.aload_n C dX9_wish_79 rfl rfl ?_
                refine N.getR C fa_X9_7 rfl dX9_wish_80 kd_119 (x := 120) (by decide +kernel) (by decide) ?_
                refine E.bipush C dX9_wish_83 (by decide) ?_
                refine E.dup2 C dX9_wish_85 ?_
                refine N.iald C dX9_wish_86 kd_120 ln_120 (by omega) (x := w67 120 41) (hp74.2.1 _ (by decide)) ?_
                refine E.iconst C dX9_wish_87 (by decide) ?_
                refine E.isub C dX9_wish_88 (by omega) ?_
                refine N.iast C dX9_wish_89 kd_120 ln_120 (by omega) ?_
                refine E.iload C dX9_wish_90 rfl ?_
                refine E.iload C dX9_wish_92 rfl ?_
                refine E.icmp_ge C dX9_wish_94 (tgt := 102) (by decide) (fun h94 => ?_) (fun h94 => ?_)
                · skip
                  refine E.iload C dX9_wish_102 rfl ?_
                  refine N.ist_5 C dX9_wish_104 (hN 5 (by decide)) rfl ?_
                  refine E.iload C dX9_wish_106 rfl ?_
                  refine E.iload C dX9_wish_108 rfl ?_
                  refine E.icmp_ge C dX9_wish_110 (tgt := 118) (by decide) (fun h110 => ?_) (fun h110 => ?_)
                  · skip
                    refine E.iload C dX9_wish_118 rfl ?_
                    refine N.ist_6 C dX9_wish_120 (hN 6 (by decide)) rfl ?_
                    refine N.iinc_7 C dX9_wish_122 (hN 7 (by decide)) rfl (by omega) ?_
                    refine E.goto C dX9_wish_125 (tgt := 54) (by decide) ?_
                    refine E.drop (i := 8) ?_
                    exact ih54 _ (by omega) wz wn (z + 1) (upd2 w74 120 41 ((w67 120 41) - 1)) rfl (by refine ⟨by omega, by omega, fun a j g1 g2 g3 => (u_ne (Or.inl g2)).trans ((n1 a j g1 g2 g3).trans ((hs1 a j g2).trans (hfr a j g1 g2 g3))), fun j g1 g2 => ?_, Or.inr ⟨by omega, ?_⟩⟩; (by_cases h41 : j = 41; (rw [h41, u_at rfl]; omega); (rw [u_ne (Or.inr h41), n2 j g1]; by_cases hl : ∃ c, 0 ≤ c ∧ c < 8 ∧ j = 119 + 10 * c + A 0 5; (obtain ⟨c, c1, c2, c3⟩ := hl; rw [c3, hs4 c c1 c2]; exact (hlz (by omega) c c1 c2).symm); (rw [hs5 j h41 g2 (fun c c1 c2 c3 => hl ⟨c, c1, c2, c3⟩)]; exact hst j g1 g2))); (rcases hq with ⟨q1, q2⟩ | ⟨q1, q2⟩; (first | (exfalso; omega) | (rw [n3, q1]; exact LeastQ.one)); (have e : z - 1 + 1 = z := (by omega); have e2 : z + 1 - 1 = z - 1 + 1 := (by omega); rw [e2]; first | (exfalso; omega) | (have q3 := q2.next (by rw [e]; omega); rw [e] at q3 ⊢; rw [n3]; exact q3) | exact q2.keep (by rw [e]; omega))))
                  · skip
                    refine E.iload C dX9_wish_113 rfl ?_
                    refine E.goto C dX9_wish_115 (tgt := 120) (by decide) ?_
                    refine N.ist_6 C dX9_wish_120 (hN 6 (by decide)) rfl ?_
                    refine N.iinc_7 C dX9_wish_122 (hN 7 (by decide)) rfl (by omega) ?_
                    refine E.goto C dX9_wish_125 (tgt := 54) (by decide) ?_
                    refine E.drop (i := 8) ?_
                    exact ih54 _ (by omega) wz t74 (z + 1) (upd2 w74 120 41 ((w67 120 41) - 1)) rfl (by refine ⟨by omega, by omega, fun a j g1 g2 g3 => (u_ne (Or.inl g2)).trans ((n1 a j g1 g2 g3).trans ((hs1 a j g2).trans (hfr a j g1 g2 g3))), fun j g1 g2 => ?_, Or.inr ⟨by omega, ?_⟩⟩; (by_cases h41 : j = 41; (rw [h41, u_at rfl]; omega); (rw [u_ne (Or.inr h41), n2 j g1]; by_cases hl : ∃ c, 0 ≤ c ∧ c < 8 ∧ j = 119 + 10 * c + A 0 5; (obtain ⟨c, c1, c2, c3⟩ := hl; rw [c3, hs4 c c1 c2]; exact (hlz (by omega) c c1 c2).symm); (rw [hs5 j h41 g2 (fun c c1 c2 c3 => hl ⟨c, c1, c2, c3⟩)]; exact hst j g1 g2))); (rcases hq with ⟨q1, q2⟩ | ⟨q1, q2⟩; (first | (exfalso; omega) | (rw [n3, q1]; exact LeastQ.one)); (have e : z - 1 + 1 = z := (by omega); have e2 : z + 1 - 1 = z - 1 + 1 := (by omega); rw [e2]; first | (exfalso; omega) | (have q3 := q2.next (by rw [e]; omega); rw [e] at q3 ⊢; rw [n3]; exact q3) | exact q2.keep (by rw [e]; omega))))
                · skip
                  refine E.iload C dX9_wish_97 rfl ?_
                  refine E.goto C dX9_wish_99 (tgt := 104) (by decide) ?_
                  refine N.ist_5 C dX9_wish_104 (hN 5 (by decide)) rfl ?_
                  refine E.iload C dX9_wish_106 rfl ?_
                  refine E.iload C dX9_wish_108 rfl ?_
                  refine E.icmp_ge C dX9_wish_110 (tgt := 118) (by decide) (fun h110 => ?_) (fun h110 => ?_)
                  · skip
                    refine E.iload C dX9_wish_118 rfl ?_
                    refine N.ist_6 C dX9_wish_120 (hN 6 (by decide)) rfl ?_
                    refine N.iinc_7 C dX9_wish_122 (hN 7 (by decide)) rfl (by omega) ?_
                    refine E.goto C dX9_wish_125 (tgt := 54) (by decide) ?_
                    refine E.drop (i := 8) ?_
                    exact ih54 _ (by omega) z wn (z + 1) (upd2 w74 120 41 ((w67 120 41) - 1)) rfl (by refine ⟨by omega, by omega, fun a j g1 g2 g3 => (u_ne (Or.inl g2)).trans ((n1 a j g1 g2 g3).trans ((hs1 a j g2).trans (hfr a j g1 g2 g3))), fun j g1 g2 => ?_, Or.inr ⟨by omega, ?_⟩⟩; (by_cases h41 : j = 41; (rw [h41, u_at rfl]; omega); (rw [u_ne (Or.inr h41), n2 j g1]; by_cases hl : ∃ c, 0 ≤ c ∧ c < 8 ∧ j = 119 + 10 * c + A 0 5; (obtain ⟨c, c1, c2, c3⟩ := hl; rw [c3, hs4 c c1 c2]; exact (hlz (by omega) c c1 c2).symm); (rw [hs5 j h41 g2 (fun c c1 c2 c3 => hl ⟨c, c1, c2, c3⟩)]; exact hst j g1 g2))); (rcases hq with ⟨q1, q2⟩ | ⟨q1, q2⟩; (first | (exfalso; omega) | (rw [n3, q1]; exact LeastQ.one)); (have e : z - 1 + 1 = z := (by omega); have e2 : z + 1 - 1 = z - 1 + 1 := (by omega); rw [e2]; first | (exfalso; omega) | (have q3 := q2.next (by rw [e]; omega); rw [e] at q3 ⊢; rw [n3]; exact q3) | exact q2.keep (by rw [e]; omega))))
                  · skip
                    refine E.iload C dX9_wish_113 rfl ?_
                    refine E.goto C dX9_wish_115 (tgt := 120) (by decide) ?_
                    refine N.ist_6 C dX9_wish_120 (hN 6 (by decide)) rfl ?_
                    refine N.iinc_7 C dX9_wish_122 (hN 7 (by decide)) rfl (by omega) ?_
                    refine E.goto C dX9_wish_125 (tgt := 54) (by decide) ?_
                    refine E.drop (i := 8) ?_
                    exact ih54 _ (by omega) z t74 (z + 1) (upd2 w74 120 41 ((w67 120 41) - 1)) rfl (by refine ⟨by omega, by omega, fun a j g1 g2 g3 => (u_ne (Or.inl g2)).trans ((n1 a j g1 g2 g3).trans ((hs1 a j g2).trans (hfr a j g1 g2 g3))), fun j g1 g2 => ?_, Or.inr ⟨by omega, ?_⟩⟩; (by_cases h41 : j = 41; (rw [h41, u_at rfl]; omega); (rw [u_ne (Or.inr h41), n2 j g1]; by_cases hl : ∃ c, 0 ≤ c ∧ c < 8 ∧ j = 119 + 10 * c + A 0 5; (obtain ⟨c, c1, c2, c3⟩ := hl; rw [c3, hs4 c c1 c2]; exact (hlz (by omega) c c1 c2).symm); (rw [hs5 j h41 g2 (fun c c1 c2 c3 => hl ⟨c, c1, c2, c3⟩)]; exact hst j g1 g2))); (rcases hq with ⟨q1, q2⟩ | ⟨q1, q2⟩; (first | (exfalso; omega) | (rw [n3, q1]; exact LeastQ.one)); (have e : z - 1 + 1 = z := (by omega); have e2 : z + 1 - 1 = z - 1 + 1 := (by omega); rw [e2]; first | (exfalso; omega) | (have q3 := q2.next (by rw [e]; omega); rw [e] at q3 ⊢; rw [n3]; exact q3) | exact q2.keep (by rw [e]; omega))))
          exact lp54 _ (-4) 99999 1 v rfl (by exact ⟨by omega, by omega, fun a j _ _ _ => rfl, fun j _ _ => rfl, Or.inl ⟨rfl, rfl⟩⟩)
        · skip
          refine E.bipush C dX9_wish_39 (by decide) ?_
          exact N.iret C hR dX9_wish_41 (fun hi hx => by exact ⟨fun a j _ _ _ => rfl, fun j _ _ => rfl, Or.inr (Or.inl ⟨by omega, by omega, rfl⟩)⟩)
      · have h22 := b0.mp h22
        refine E.iconst C dX9_wish_25 (by decide) ?_
        exact N.iret C hR dX9_wish_26 (fun hi hx => by exact ⟨fun a j _ _ _ => rfl, fun j _ _ => rfl, Or.inl ⟨by omega, rfl⟩⟩)
