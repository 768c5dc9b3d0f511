set_option maxHeartbeats 4000000 in
set_option maxRecDepth 20000 in
theorem ok_X9_springs (G : GT) (q sl : Int) (A v : VT) (hA : WFV A 0) (hM : MR A (v 120)) (hal : v 119 2 = sl) (hsl : 0 ≤ sl ∧ sl ≤ 4) : MNi G yX9_springs cX9_springs 6 (some .int) 3 72 [vr 119, vi q] v (fun x w => (∀ a j, ¬ a = 120 → w a j = v a j) ∧ (∀ j, (j < 1 ∨ j = 41 ∨ 112 ≤ j) → w 120 j = v 120 j) ∧ x = cntN (offB (grwF A 0 q (A 0 4)) 0 (A 0 4) sl) (A 0 5).toNat ∧ MR (sprV A 0 q sl) (w 120)) := by
  refine MN.of pn_X9_springs [some (vr 119), some (vi q), none, none, none, none] 4 rfl rfl (fun X C hX hn hR => ?_)
  have hN : ∀ i : Nat, i < 6 → i < xn X := fun i h => by rw [hn]; exact h
  refine E.rngk (fun hinv => ?_)
  refine E.loc (fun hloc => ?_)
  have hin_1 : in32 q := hloc _ (List.mem_of_getElem? (i := 1) rfl)
  have hc := hM.1
  have hb := hM.2.1
  have hA1 := hA.1
  have hA2 := hA.2.1
  refine E.iconst C dX9_springs_0 (by decide) ?_
  refine N.ist_2 C dX9_springs_1 (hN 2 (by decide)) rfl ?_
  refine E.iconst C dX9_springs_2 (by decide) ?_
  refine N.ist_3 C dX9_springs_3 (hN 3 (by decide)) rfl ?_
  have lp4 : ∀ (k4 : Nat) (x : Int) (c : Int) (w : VT), (A 0 4 - c).toNat = k4 → (0 ≤ c ∧ c ≤ A 0 4 ∧ (∀ a j, ¬ a = 120 → w a j = v a j) ∧ (∀ j, (j < 1 ∨ j = 41 ∨ 112 ≤ j) → w 120 j = v 120 j) ∧ x = cntN (smB A q sl c 0) (A 0 5).toNat ∧ MR (sprM A q sl c c 0) (w 120)) → E X G 0 0 1000 w 4 [some (vr 119), some (vi q), some (vi x), some (vi c), none, none] [] := by
    intro k4
    induction k4 using Nat.strongRecOn with
    | ind k4 ih4 =>
      intro x c w hk4 hI4
      obtain ⟨hc0, hc1, hfr, hst, hx, hMw⟩ := hI4
      refine E.iload_n C dX9_springs_4 rfl rfl ?_
      refine E.aload_n C dX9_springs_5 rfl rfl ?_
      refine N.getR C fa_X9_7 rfl dX9_springs_6 kd_119 (x := 120) (by decide +kernel) (by decide) ?_
      refine E.iconst C dX9_springs_9 (by decide) ?_
      refine N.iald C dX9_springs_10 kd_120 ln_120 (by omega) (x := v 120 0) (hst _ (by decide)) ?_
      refine E.icmp_ge C dX9_springs_11 (tgt := 78) (by decide) (fun h11 => ?_) (fun h11 => ?_)
      · skip
        refine E.iload_n C dX9_springs_78 rfl rfl ?_
        exact N.iret C hR dX9_springs_79 (fun hi hx => by have ec : c = A 0 4 := (by omega); subst ec; exact ⟨hfr, hst, by rw [hx]; exact sm_end hA, by rw [← sprM_end hA]; exact hMw⟩)
      · skip
        have m14 : sprM A q sl c c 0 0 4 = A 0 4 := sprM_45
        have k0 := hMw.c0 (c := c) ⟨hc0, by rw [m14]; omega⟩
        have k1 := hMw.2.2.1 c 1 hc0 (by rw [m14]; omega) (by omega) (by omega)
        have k2 := hMw.2.2.1 c 2 hc0 (by rw [m14]; omega) (by omega) (by omega)
        rw [sprM_o (by omega), grwF_out (by omega)] at k0 k1 k2
        have hch := hA.ch c hc0 (by omega)
        have hWm0 := sprM_wf (q := q) (sl := sl) (c0 := c) (c := c) (s := 0) hA (by omega)
        refine E.aload_n C dX9_springs_14 rfl rfl ?_
        refine E.iload_n C dX9_springs_15 rfl rfl ?_
        refine E.iload_n C dX9_springs_16 rfl rfl ?_
        refine N.callVe (S := []) (As := [vi c, vi q]) C hX (ok_X9_grows G c q w (by omega) (by rw [k0, k1, k2]; omega)) yf_X9_grows yv_X9_grows ml_X9_260 rfl rfl rfl kd_119 (by decide) (by decide) (Nat.le_of_ble_eq_true rfl) dX9_springs_17 rfl ?_
        obtain ⟨w20, hw20⟩ : ∃ z, z = (upd2 w 120 (1 + 5 * c) (growI (w 120 (1 + 5 * c)) (if q = 0 then w 120 (1 + 5 * c + 1) else w 120 (1 + 5 * c + 2)))) := ⟨_, rfl⟩
        refine E.heq hw20.symm ?_
        have f20 : (∀ a j, ¬ a = 120 → w20 a j = v a j) := fun a j g => by rw [hw20, u_ne (Or.inl g)]; exact hfr a j g
        have s20 : (∀ j, (j < 1 ∨ j = 41 ∨ 112 ≤ j) → w20 120 j = v 120 j) := fun j g => by rw [hw20, u_ne (Or.inr (by omega))]; exact hst j g
        have hM20 : MR (sprM A q sl (c + 1) c 0) (w20 120) := by
          have z := (hMw.chd (x := grwV A q (0 + 5 + c)) hWm0 ⟨hc0, by rw [m14]; omega⟩).sm (sprM_grow ⟨hc0, by omega⟩ hA1.2) (by rw [u_ne (by omega), sprM_45]; exact hA2.1)
          rw [hw20, upd2_row, k0, k1, k2]
          exact z
        refine E.iconst C dX9_springs_20 (by decide) ?_
        refine N.ist_4 C dX9_springs_21 (hN 4 (by decide)) rfl ?_
        have lp23 : ∀ (k23 : Nat) (x3 : Int) (s : Int) (w3 : VT), (2 - s).toNat = k23 → (0 ≤ s ∧ s ≤ 2 ∧ (∀ a j, ¬ a = 120 → w3 a j = v a j) ∧ (∀ j, (j < 1 ∨ j = 41 ∨ 112 ≤ j) → w3 120 j = v 120 j) ∧ x3 = cntN (smB A q sl c s) (A 0 5).toNat ∧ MR (sprM A q sl (c + 1) c s) (w3 120)) → E X G 0 0 1000 w3 23 [some (vr 119), some (vi q), some (vi x3), some (vi c), some (vi s), none] [] := by
          intro k23
          induction k23 using Nat.strongRecOn with
          | ind k23 ih23 =>
            intro x3 s w3 hk23 hI23
            obtain ⟨hs0, hs1, hfr3, hst3, hx3, hM3⟩ := hI23; have hcb := cnt_bd (smB A q sl c s) (A 0 5).toNat; have hWm := sprM_wf (q := q) (sl := sl) (c0 := c + 1) (c := c) (s := s) hA (by omega); have m4 : sprM A q sl (c + 1) c s 0 4 = A 0 4 := sprM_45; have m5 : sprM A q sl (c + 1) c s 0 5 = A 0 5 := sprM_45; have al3 : w3 119 2 = sl := (hfr3 _ _ (by decide)).trans hal
            refine E.iload C dX9_springs_23 rfl ?_
            refine E.iconst C dX9_springs_25 (by decide) ?_
            refine E.icmp_ge C dX9_springs_26 (tgt := 72) (by decide) (fun h26 => ?_) (fun h26 => ?_)
            · skip
              refine N.iinc_3 C dX9_springs_72 (hN 3 (by decide)) rfl (by omega) ?_
              refine E.goto C dX9_springs_75 (tgt := 4) (by decide) ?_
              refine E.drop (i := 4) ?_
              exact ih4 _ (by omega) x3 (c + 1) w3 rfl (by have e2 : s = 2 := (by omega); subst e2; exact ⟨by omega, by omega, hfr3, hst3, by rw [hx3]; exact sm_2 hA, by rw [← sprM_2 hA]; exact hM3⟩)
            · skip
              refine E.aload_n C dX9_springs_29 rfl rfl ?_
              refine E.iload_n C dX9_springs_30 rfl rfl ?_
              refine E.iload C dX9_springs_31 rfl ?_
              refine N.callVp (S := []) (As := [vi c, vi s]) C hX (ok_X9_worn G c s w3 (by omega)) yf_X9_worn yv_X9_worn ml_X9_175 rfl rfl rfl kd_119 (by decide) (by decide) (Nat.le_of_ble_eq_true rfl) dX9_springs_33 rfl ?_
              obtain ⟨t, ht⟩ : ∃ z, z = (w3 120 (1 + 5 * c + 3 + s)) := ⟨_, rfl⟩
              refine E.veq ht.symm ?_
              have ht33 : t = wornI (sprM A q sl (c + 1) c s) 0 c s := ht.trans (hM3.2.2.2.2 c s hc0 (by rw [m4]; omega) hs0 (by omega))
              refine N.ist_5 C dX9_springs_36 (hN 5 (by decide)) rfl ?_
              refine E.iload C dX9_springs_38 rfl ?_
              refine E.bipush C dX9_springs_40 (by decide) ?_
              refine E.icmp_eq C dX9_springs_42 (tgt := 66) (by decide) (fun h42 => ?_) (fun h42 => ?_)
              · skip
                refine N.iinc_4 C dX9_springs_66 (hN 4 (by decide)) rfl (by omega) ?_
                refine E.goto C dX9_springs_69 (tgt := 23) (by decide) ?_
                refine E.drop (i := 5) ?_
                exact ih23 _ (by omega) x3 (s + 1) w3 rfl (by first | (have hnn := sprM_none hA (by omega) hc0 (ht33.symm.trans h42); have hsm := sm_same (q := q) (sl := sl) (c0 := c + 1) hnn; exact ⟨by omega, by omega, hfr3, hst3, by rw [hsm.1]; exact hx3, by rw [hsm.2]; exact hM3⟩) | (have ho2 : ¬ offB (grwF A 0 q (A 0 4)) 0 (A 0 4) sl t = true := (fun z => hof.mp z h53); exact ⟨by omega, by omega, hfr3, hst3, by rw [sm_cnt hA ht e7 e0 hc0, hx3, if_neg ho2]; omega, hM3.sm (hsm2.2 ho2) (by rw [m5]; omega)⟩) | (have ho2 := hof.mpr h53; refine ⟨by omega, by omega, fun a j g => by rw [u_ne (Or.inl g)]; exact hfr3 a j g, fun j g => by rw [u_ne (Or.inr (by omega))]; exact hst3 j g, by rw [sm_cnt hA ht e7 e0 hc0, hx3, if_pos ho2], ?_⟩; rw [upd2_row]; exact (hM3.off hWm (by rw [m5]; exact ht) (by rw [m4]; omega) y4 y3).1.sm (hsm2.1 ho2) (by rw [u_ne (by omega), m5]; omega)))
              · skip
                obtain ⟨y1, y2, y3, y4⟩ := wornI_rng (v := sprM A q sl (c + 1) c s) (o := 0) (c := c) (s := s) (by rw [m5]; exact hA2.1) (by rw [← ht33]; exact h42)
                rw [← ht33, m5] at y2
                rw [← ht33] at y1 y3 y4
                have ht : 0 ≤ t ∧ t < A 0 5 := ⟨y1, y2⟩
                obtain ⟨et, e7, e0⟩ := sprM_th hc0 (by omega) ht y4 y3
                have hsm2 := spr_sm (q := q) (sl := sl) (c0 := c + 1) hA (by omega) hc0 ht e7 e0
                have hof := off_fit hA hM3 al3 ⟨hc0, by omega⟩ ht e7
                refine E.aload_n C dX9_springs_45 rfl rfl ?_
                refine E.iload_n C dX9_springs_46 rfl rfl ?_
                refine E.iload C dX9_springs_47 rfl ?_
                refine N.callVp (S := []) (As := [vi c, vi t]) C hX (ok_X9_fitNow G c t w3 (by omega) (hM3.th hWm t y1 (by rw [hM3.2.1, m5]; exact y2)) ⟨(hM3.fz hWm c hc0 (by rw [hM3.1, m4]; omega)).1, (hM3.fz hWm c hc0 (by rw [hM3.1, m4]; omega)).2, by omega, by omega⟩) yf_X9_fitNow yv_X9_fitNow ml_X9_206 rfl rfl rfl kd_119 (by decide) (by decide) (Nat.le_of_ble_eq_true rfl) dX9_springs_49 rfl ?_
                refine E.veq (x' := fitI (w3 120 (42 + 7 * t + 1)) (w3 120 (42 + 7 * t + 2)) (w3 120 (42 + 7 * t + 3)) (w3 120 (42 + 7 * t + 4)) (w3 120 (42 + 7 * t + 5)) (w3 120 (42 + 7 * t + 6)) c (w3 120 (1 + 5 * c)) (v 119 2)) (by unfold fitS; rw [show w3 119 2 = v 119 2 from (hfr3 _ _ (by decide))]) ?_
                refine E.veq (x' := fitS w3 c t) (by unfold fitS; rw [show w3 119 2 = v 119 2 from hfr3 _ _ (by decide)]) ?_
                refine E.iconst C dX9_springs_52 (by decide) ?_
                refine E.icmp_eq C dX9_springs_53 (tgt := 66) (by decide) (fun h53 => ?_) (fun h53 => ?_)
                · skip
                  refine N.iinc_4 C dX9_springs_66 (hN 4 (by decide)) rfl (by omega) ?_
                  refine E.goto C dX9_springs_69 (tgt := 23) (by decide) ?_
                  refine E.drop (i := 5) ?_
                  exact ih23 _ (by omega) x3 (s + 1) w3 rfl (by first | (have hnn := sprM_none hA (by omega) hc0 (ht33.symm.trans h42); have hsm := sm_same (q := q) (sl := sl) (c0 := c + 1) hnn; exact ⟨by omega, by omega, hfr3, hst3, by rw [hsm.1]; exact hx3, by rw [hsm.2]; exact hM3⟩) | (have ho2 : ¬ offB (grwF A 0 q (A 0 4)) 0 (A 0 4) sl t = true := (fun z => hof.mp z h53); exact ⟨by omega, by omega, hfr3, hst3, by rw [sm_cnt hA ht e7 e0 hc0, hx3, if_neg ho2]; omega, hM3.sm (hsm2.2 ho2) (by rw [m5]; omega)⟩) | (have ho2 := hof.mpr h53; refine ⟨by omega, by omega, fun a j g => by rw [u_ne (Or.inl g)]; exact hfr3 a j g, fun j g => by rw [u_ne (Or.inr (by omega))]; exact hst3 j g, by rw [sm_cnt hA ht e7 e0 hc0, hx3, if_pos ho2], ?_⟩; rw [upd2_row]; exact (hM3.off hWm (by rw [m5]; exact ht) (by rw [m4]; omega) y4 y3).1.sm (hsm2.1 ho2) (by rw [u_ne (by omega), m5]; omega)))
                · skip
                  refine E.aload_n C dX9_springs_56 rfl rfl ?_
                  refine E.iload_n C dX9_springs_57 rfl rfl ?_
                  refine E.iload C dX9_springs_58 rfl ?_
                  refine N.callVe (S := []) (As := [vi c, vi s]) C hX (ok_X9_takesOff G c s w3 (by omega)) yf_X9_takesOff yv_X9_takesOff ml_X9_209 rfl rfl rfl kd_119 (by decide) (by decide) (Nat.le_of_ble_eq_true rfl) dX9_springs_60 rfl ?_
                  refine N.iinc_2 C dX9_springs_63 (hN 2 (by decide)) rfl (by omega) ?_
                  refine N.iinc_4 C dX9_springs_66 (hN 4 (by decide)) rfl (by omega) ?_
                  refine E.goto C dX9_springs_69 (tgt := 23) (by decide) ?_
                  refine E.drop (i := 5) ?_
                  exact ih23 _ (by omega) (x3 + 1) (s + 1) (upd2 w3 120 (1 + 5 * c + 3 + s) (-4)) rfl (by first | (have hnn := sprM_none hA (by omega) hc0 (ht33.symm.trans h42); have hsm := sm_same (q := q) (sl := sl) (c0 := c + 1) hnn; exact ⟨by omega, by omega, hfr3, hst3, by rw [hsm.1]; exact hx3, by rw [hsm.2]; exact hM3⟩) | (have ho2 : ¬ offB (grwF A 0 q (A 0 4)) 0 (A 0 4) sl t = true := (fun z => hof.mp z h53); exact ⟨by omega, by omega, hfr3, hst3, by rw [sm_cnt hA ht e7 e0 hc0, hx3, if_neg ho2]; omega, hM3.sm (hsm2.2 ho2) (by rw [m5]; omega)⟩) | (have ho2 := hof.mpr h53; refine ⟨by omega, by omega, fun a j g => by rw [u_ne (Or.inl g)]; exact hfr3 a j g, fun j g => by rw [u_ne (Or.inr (by omega))]; exact hst3 j g, by rw [sm_cnt hA ht e7 e0 hc0, hx3, if_pos ho2], ?_⟩; rw [upd2_row]; exact (hM3.off hWm (by rw [m5]; exact ht) (by rw [m4]; omega) y4 y3).1.sm (hsm2.1 ho2) (by rw [u_ne (by omega), m5]; omega)))
        exact lp23 _ x 0 w20 rfl (by exact ⟨by omega, by omega, f20, s20, hx, hM20⟩)
  exact lp4 _ 0 0 v rfl (by exact ⟨by omega, by omega, fun a j _ => rfl, fun j _ => rfl, (sm_0 hA).symm, by rw [sprM_0 hA]; exact hM⟩)

set_option maxHeartbeats 4000000 in
set_option maxRecDepth 20000 in
theorem ok_X9_aheadBy (G : GT) (s y q sl : Int) (A v : VT) (hA : WFV A 0) (hM : MR A (v 120)) (hal : v 119 2 = sl) (hsl : 0 ≤ sl ∧ sl ≤ 4) (hs : 0 ≤ s ∧ s < 2) (hy : 1 ≤ y ∧ y ≤ 4) : MNi G yX9_aheadBy cX9_aheadBy 6 (some .int) 6 144 [vr 119, vi s, vi y, vi q] v (fun x w => (∀ a j, (¬ a = 119 ∨ ¬ j = 16) → ¬ a = 120 → (a < 124 ∨ 131 < a) → w a j = v a j) ∧ (∀ j, j < 597 → w 120 j = v 120 j) ∧ x = ahdS A 0 s q sl y.toNat ∧ (∀ i, 0 ≤ i → i < y → w 131 i = ahdN A 0 s q sl i.toNat)) := by
  refine MN.of pn_X9_aheadBy [some (vr 119), some (vi s), some (vi y), some (vi q), none, none] 2 rfl rfl (fun X C hX hn hR => ?_)
  have hN : ∀ i : Nat, i < 6 → i < xn X := fun i h => by rw [hn]; exact h
  refine E.rngk (fun hinv => ?_)
  refine E.loc (fun hloc => ?_)
  have hin_1 : in32 s := hloc _ (List.mem_of_getElem? (i := 1) rfl)
  have hin_2 : in32 y := hloc _ (List.mem_of_getElem? (i := 2) rfl)
  have hin_3 : in32 q := hloc _ (List.mem_of_getElem? (i := 3) rfl)
  have hA1 := hA.1
  have hA2 := hA.2.1
  refine E.aload_n C dX9_aheadBy_0 rfl rfl ?_
  refine E.sipush C dX9_aheadBy_1 (by decide) ?_
  refine E.iconst C dX9_aheadBy_4 (by decide) ?_
  refine N.callVe (S := []) (As := [vi 597, vi 0]) C hX (ok_X9_copies G 597 0 v (by omega) (by omega)) yf_X9_copies yv_X9_copies ml_X9_267 rfl rfl rfl kd_119 (by decide) (by decide) (Nat.le_of_ble_eq_true rfl) dX9_aheadBy_5 rfl ?_
  obtain ⟨w8, hw8⟩ : ∃ z, z = (cpsF v 597 0 199) := ⟨_, rfl⟩
  refine E.heq hw8.symm ?_
  have c8 : (∀ a j, ¬ a = 120 → w8 a j = v a j) ∧ (∀ j, j < 597 → w8 120 j = v 120 j) ∧ (∀ j, 0 ≤ j → j < 199 → w8 120 (597 + j) = v 120 j) := by
    rw [hw8]
    refine ⟨fun a j g => cpsF_out (Or.inl g), fun j g => cpsF_out (by omega), fun j g1 g2 => ?_⟩
    unfold cpsF
    rw [if_pos (by omega)]
    congr 1
    omega
  obtain ⟨c81, c82, c83⟩ := c8
  have hM8 : MR A (w8 120) := hM.st hA (fun j _ g => c82 j (by omega))
  refine E.iconst C dX9_aheadBy_8 (by decide) ?_
  refine N.ist_4 C dX9_aheadBy_9 (hN 4 (by decide)) rfl ?_
  refine E.iconst C dX9_aheadBy_11 (by decide) ?_
  refine N.ist_5 C dX9_aheadBy_12 (hN 5 (by decide)) rfl ?_
  have lp14 : ∀ (k14 : Nat) (x : Int) (k : Int) (w : VT), (y - k).toNat = k14 → (0 ≤ k ∧ k ≤ y ∧ x = ahdS A 0 s q sl k.toNat ∧ (∀ i, 0 ≤ i → i < k → w 131 i = ahdN A 0 s q sl i.toNat) ∧ MR (yrsN A 0 s q sl k.toNat) (w 120) ∧ WFV (yrsN A 0 s q sl k.toNat) 0 ∧ (∀ a j, (¬ a = 119 ∨ ¬ j = 16) → ¬ a = 120 → (a < 124 ∨ 131 < a) → w a j = v a j) ∧ (∀ j, (j < 0 ∨ 199 ≤ j) → w 120 j = w8 120 j)) → E X G 0 0 1000 w 14 [some (vr 119), some (vi s), some (vi y), some (vi q), some (vi x), some (vi k)] [] := by
    intro k14
    induction k14 using Nat.strongRecOn with
    | ind k14 ih14 =>
      intro x k w hk14 hI14
      obtain ⟨hk0, hk1, hx0, hnb, hMk, hWk, hfr, hs8⟩ := hI14; have hab := ahs_bd (s := s) (q := q) (sl := sl) hA1 k.toNat; have hnd := ahn_bd (s := s) (q := q) (sl := sl) hA1 k.toNat; have alw : w 119 2 = sl := (hfr _ _ (Or.inr (by decide)) (by decide) (by decide)).trans hal
      refine E.iload C dX9_aheadBy_14 rfl ?_
      refine E.iload_n C dX9_aheadBy_16 rfl rfl ?_
      refine E.icmp_ge C dX9_aheadBy_17 (tgt := 61) (by decide) (fun h17 => ?_) (fun h17 => ?_)
      · skip
        refine E.aload_n C dX9_aheadBy_61 rfl rfl ?_
        refine E.iconst C dX9_aheadBy_62 (by decide) ?_
        refine E.sipush C dX9_aheadBy_63 (by decide) ?_
        refine N.callVe (S := []) (As := [vi 0, vi 597]) C hX (ok_X9_copies G 0 597 w (by omega) (by omega)) yf_X9_copies yv_X9_copies ml_X9_267 rfl rfl rfl kd_119 (by decide) (by decide) (Nat.le_of_ble_eq_true rfl) dX9_aheadBy_66 rfl ?_
        refine E.iload C dX9_aheadBy_69 rfl ?_
        exact N.iret C hR dX9_aheadBy_71 (fun hi hx => by have ek : k = y := (by omega); subst ek; refine ⟨fun a j g1 g2 g3 => (cpsF_out (Or.inl g2)).trans (hfr a j g1 g2 g3), fun j g => ?_, hx0, fun i g1 g2 => (cpsF_out (Or.inl (by decide))).trans (hnb i g1 g2)⟩; by_cases hj : 0 ≤ j ∧ j < 199; (unfold cpsF; rw [if_pos (by omega), show 597 + (j - 0) = 597 + j by omega, hs8 _ (by omega)]; exact c83 j hj.1 hj.2); (rw [cpsF_out (by omega), hs8 _ (by omega)]; exact c82 j g))
      · skip
        refine E.aload_n C dX9_aheadBy_20 rfl rfl ?_
        refine N.getR C fa_X9_44 rfl dX9_aheadBy_21 kd_119 (x := 131) (by decide +kernel) (by decide) ?_
        refine E.iload C dX9_aheadBy_24 rfl ?_
        refine E.aload_n C dX9_aheadBy_26 rfl rfl ?_
        refine E.iload_n C dX9_aheadBy_27 rfl rfl ?_
        refine N.callVi (S := [vi k, vr 131]) (As := [vi s]) C hX (ok_X9_dresses G s sl (yrsN A 0 s q sl k.toNat) w hWk hMk alw hsl hs) yf_X9_dresses yv_X9_dresses ml_X9_251 rfl rfl rfl kd_119 (by decide) (by decide) (Nat.le_of_ble_eq_true rfl) dX9_aheadBy_28 rfl (fun t28 w28 hb28 hp28 => ?_)
        obtain ⟨d1, d2, d3, d4, d5⟩ := hp28
        have d1 : ∀ a j, (¬ a = 119 ∨ ¬ j = 16) → ¬ a = 120 → (a < 124 ∨ 131 < a ∨ a = 131) → w28 a j = w a j := fun a j g1 g2 g3 => d1 a j g1 g2 (by omega)
        have d3 : t28 = ahdN A 0 s q sl k.toNat := d3
        refine N.iast C dX9_aheadBy_31 kd_131 ln_131 (by omega) ?_
        refine E.iload C dX9_aheadBy_32 rfl ?_
        refine E.aload_n C dX9_aheadBy_34 rfl rfl ?_
        refine N.getR C fa_X9_44 rfl dX9_aheadBy_35 kd_119 (x := 131) (by decide +kernel) (by decide) ?_
        refine E.iload C dX9_aheadBy_38 rfl ?_
        refine N.iald C dX9_aheadBy_40 kd_131 ln_131 (by omega) (x := t28) (upd2_same _ _ _ _) ?_
        refine E.iadd C dX9_aheadBy_41 (by omega) ?_
        refine N.ist_4 C dX9_aheadBy_42 (hN 4 (by decide)) rfl ?_
        refine E.aload_n C dX9_aheadBy_44 rfl rfl ?_
        refine N.callVi (S := []) (As := []) C hX (ok_X9_winters G (drsV (yrsN A 0 s q sl k.toNat) 0 s sl) (upd2 w28 131 k t28) d5 (by rw [upd2_rowne (by decide)]; exact d4)) yf_X9_winters yv_X9_winters ml_X9_257 rfl rfl rfl kd_119 (by decide) (by decide) (Nat.le_of_ble_eq_true rfl) dX9_aheadBy_45 rfl (fun t45 w45 hb45 hp45 => ?_)
        have al45 : w45 119 2 = sl := (hp45.1 _ _ (by decide)).trans ((u_ne (Or.inl (by decide))).trans ((d1 _ _ (Or.inr (by decide)) (by decide) (by decide)).trans alw))
        refine E.popI C dX9_aheadBy_48 ?_
        refine E.aload_n C dX9_aheadBy_49 rfl rfl ?_
        refine E.iload_n C dX9_aheadBy_50 rfl rfl ?_
        refine N.callVi (S := []) (As := [vi q]) C hX (ok_X9_springs G q sl (winF (drsV (yrsN A 0 s q sl k.toNat) 0 s sl) 0 (drsV (yrsN A 0 s q sl k.toNat) 0 s sl 0 5)) w45 d5.win hp45.2.2.2 al45 hsl) yf_X9_springs yv_X9_springs ml_X9_264 rfl rfl rfl kd_119 (by decide) (by decide) (Nat.le_of_ble_eq_true rfl) dX9_aheadBy_51 rfl (fun t51 w51 hb51 hp51 => ?_)
        have hMy : MR (yrV (yrsN A 0 s q sl k.toNat) 0 s q sl) (w51 120) := by
          have z := hp51.2.2.2
          rw [drsV_45] at z
          exact z
        have hWy : WFV (yrV (yrsN A 0 s q sl k.toNat) 0 s q sl) 0 := by
          have z := d5.win.sprv (q := q) (sl := sl)
          rw [drsV_45] at z
          exact z
        refine E.popI C dX9_aheadBy_54 ?_
        refine N.iinc_5 C dX9_aheadBy_55 (hN 5 (by decide)) rfl (by omega) ?_
        refine E.goto C dX9_aheadBy_58 (tgt := 14) (by decide) ?_
        exact ih14 _ (by omega) (x + t28) (k + 1) w51 rfl (by refine ⟨by omega, by omega, by rw [ahs_step hk0, ← hx0, d3], fun i h1 h2 => ?_, by rw [yrs_step hk0]; exact hMy, by rw [yrs_step hk0]; exact hWy, fun a j g1 g2 g3 => ?_, fun j g => ?_⟩; (rw [hp51.1 _ _ (by decide), hp45.1 _ _ (by decide)]; by_cases hi : i = k; (rw [hi, upd2_same, d3]); (rw [u_ne (Or.inr hi), d1 _ _ (Or.inl (by decide)) (by decide) (by decide)]; exact hnb i h1 (by omega))); (rw [hp51.1 _ _ g2, hp45.1 _ _ g2, u_ne (by omega), d1 a j g1 g2 (by omega)]; exact hfr a j g1 g2 g3); (rw [hp51.2.1 _ (by omega), hp45.2.1 _ (by omega), u_ne (by omega), d2 _ (by omega)]; exact hs8 j g))
  exact lp14 _ 0 0 w8 rfl (by exact ⟨by omega, by omega, rfl, fun i h1 h2 => by omega, hM8, hA, fun a j _ g _ => c81 a j g, fun j _ => rfl⟩)
