set_option maxHeartbeats 4000000 in
set_option maxRecDepth 20000 in
theorem ok_X9_dresses (G : GT) (s sl : Int) (A v : VT) (hA : WFV A 0) (hM : MR A (v 120)) (hal : v 119 2 = sl) (hsl : 0 ≤ sl ∧ sl ≤ 4) (hs : 0 ≤ s ∧ s < 2) : MNi G yX9_dresses cX9_dresses 4 (some .int) 5 121 [vr 119, vi s] v (fun x w => (∀ a j, (¬ a = 119 ∨ ¬ j = 16) → ¬ a = 120 → (a < 124 ∨ 130 < a) → w a j = v a j) ∧ (∀ j, (j < 1 ∨ j = 41 ∨ 112 ≤ j) → w 120 j = v 120 j) ∧ x = newV A 0 s sl ∧ MR (drsV A 0 s sl) (w 120) ∧ WFV (drsV A 0 s sl) 0) := by
  refine MN.of pn_X9_dresses [some (vr 119), some (vi s), none, none] 2 rfl rfl (fun X C hX hn hR => ?_)
  have hN : ∀ i : Nat, i < 4 → i < xn X := fun i h => by rw [hn]; exact h
  refine E.rngk (fun hinv => ?_)
  refine E.loc (fun hloc => ?_)
  have hin_1 : in32 s := hloc _ (List.mem_of_getElem? (i := 1) rfl)
  have hc := hM.1
  have hb := hM.2.1
  have hA1 := hA.1
  have hA2 := hA.2.1
  have hdu := deal_und (v := A) (o := 0) (s := s) (r := s) (n := A 0 5) (sl := sl) hA1.2
  have hwb := warm_bd (v := A) (o := 0) (s := s) (sl := sl) hA1.1
  have a14 : (undF A 0 s (A 0 5)) 0 4 = A 0 4 := undF_out (by omega)
  have a15 : (undF A 0 s (A 0 5)) 0 5 = A 0 5 := undF_out (by omega)
  refine E.iconst C dX9_dresses_0 (by decide) ?_
  refine N.ist_2 C dX9_dresses_1 (hN 2 (by decide)) rfl ?_
  have lp2 : ∀ (k2 : Nat) (c : Int) (w : VT), (A 0 4 - c).toNat = k2 → (0 ≤ c ∧ c ≤ A 0 4 ∧ (∀ a j, ¬ a = 120 → w a j = v a j) ∧ (∀ d, 0 ≤ d → d < c → w 120 (1 + 5 * d + 3 + s) = -4) ∧ (∀ j, (∀ d, 0 ≤ d → d < c → ¬ j = 1 + 5 * d + 3 + s) → w 120 j = v 120 j)) → E X G 0 0 1000 w 2 [some (vr 119), some (vi s), some (vi c), none] [] := by
    intro k2
    induction k2 using Nat.strongRecOn with
    | ind k2 ih2 =>
      intro c w hk2 hI2
      obtain ⟨hc0, hc1, hfr, hof, hst⟩ := hI2
      refine E.iload_n C dX9_dresses_2 rfl rfl ?_
      refine E.aload_n C dX9_dresses_3 rfl rfl ?_
      refine N.getR C fa_X9_7 rfl dX9_dresses_4 kd_119 (x := 120) (by decide +kernel) (by decide) ?_
      refine E.iconst C dX9_dresses_7 (by decide) ?_
      refine N.iald C dX9_dresses_8 kd_120 ln_120 (by omega) (x := v 120 0) (hst 0 (fun d _ _ => by omega)) ?_
      refine E.icmp_ge C dX9_dresses_9 (tgt := 24) (by decide) (fun h9 => ?_) (fun h9 => ?_)
      · skip
        have ec : c = A 0 4 := (by omega)
        subst ec
        have hMu := hM.und (s := s) (st2 := w 120) hA hs hof hst
        refine E.aload_n C dX9_dresses_24 rfl rfl ?_
        refine E.iload_n C dX9_dresses_25 rfl rfl ?_
        refine N.callVi (S := []) (As := [vi s]) C hX (ok_X9_findDeal G s sl (undF A 0 s (A 0 5)) w hA.und hMu ((hfr _ _ (by decide)).trans hal) hsl) yf_X9_findDeal yv_X9_findDeal ml_X9_248 rfl rfl rfl kd_119 (by decide) (by decide) (Nat.le_of_ble_eq_true rfl) dX9_dresses_26 rfl (fun t26 w26 hb26 hp26 => ?_)
        obtain ⟨fd1, fd2, fd3, fd4, fd5⟩ := id hp26
        rw [a14] at fd3
        rw [a14, hdu.1, hdu.2, may_und hA1.2] at fd5
        rw [hdu.2] at fd2
        have hid := fd5
        have hdl : ∀ c, 0 ≤ c → c < A 0 4 → w26 125 c = dealV A 0 s sl c := fun c a b => (fd3 c a b).trans (by rw [hdu.1])
        have al26 : w26 119 2 = sl := ((fd1 _ _ (by decide) (by decide)).trans (hfr _ _ (by decide))).trans hal
        have s26 : ∀ j, w26 120 j = w 120 j := fun j => fd1 _ _ (Or.inl (by decide)) (by decide)
        have hM26 : MR (undF A 0 s (A 0 5)) (w26 120) := hMu.st hA.und (fun j _ _ => s26 j)
        refine N.ist_2 C dX9_dresses_29 (hN 2 (by decide)) rfl ?_
        refine E.iconst C dX9_dresses_30 (by decide) ?_
        refine N.ist_3 C dX9_dresses_31 (hN 3 (by decide)) rfl ?_
        have lp32 : ∀ (k32 : Nat) (c3 : Int) (w2 : VT), (A 0 4 - c3).toNat = k32 → (0 ≤ c3 ∧ c3 ≤ A 0 4 ∧ (∀ a j, ¬ a = 120 → w2 a j = w26 a j) ∧ (∀ j, (j < 1 ∨ j = 41 ∨ 112 ≤ j) → w2 120 j = w26 120 j) ∧ MR (drsN (undF A 0 s (A 0 5)) 0 sl (dealV A 0 s sl) c3.toNat) (w2 120)) → E X G 0 0 1000 w2 32 [some (vr 119), some (vi s), some (vi t26), some (vi c3)] [] := by
          intro k32
          induction k32 using Nat.strongRecOn with
          | ind k32 ih32 =>
            intro c3 w2 hk32 hI32
            obtain ⟨hd0, hd1, hfr2, hst2, hM2⟩ := hI32; have hDI := (drs_inv hA hid.1.1 c3.toNat (by omega)).1; have al2 : w2 119 2 = sl := (hfr2 _ _ (by decide)).trans al26
            refine E.iload_n C dX9_dresses_32 rfl rfl ?_
            refine E.aload_n C dX9_dresses_33 rfl rfl ?_
            refine N.getR C fa_X9_7 rfl dX9_dresses_34 kd_119 (x := 120) (by decide +kernel) (by decide) ?_
            refine E.iconst C dX9_dresses_37 (by decide) ?_
            refine N.iald C dX9_dresses_38 kd_120 ln_120 (by omega) (x := v 120 0) ((hst2 _ (by decide)).trans ((hp26.1 _ _ (by decide) (by decide)).trans (hst 0 (fun d _ _ => by omega)))) ?_
            refine E.icmp_ge C dX9_dresses_39 (tgt := 70) (by decide) (fun h39 => ?_) (fun h39 => ?_)
            · skip
              refine E.aload_n C dX9_dresses_70 rfl rfl ?_
              refine N.getR C fa_X9_7 rfl dX9_dresses_71 kd_119 (x := 120) (by decide +kernel) (by decide) ?_
              refine E.iconst C dX9_dresses_74 (by decide) ?_
              refine N.iald C dX9_dresses_75 kd_120 ln_120 (by omega) (x := v 120 0) ((hst2 _ (by decide)).trans ((hp26.1 _ _ (by decide) (by decide)).trans (hst 0 (fun d _ _ => by omega)))) ?_
              refine E.iload_n C dX9_dresses_76 rfl rfl ?_
              refine E.isub C dX9_dresses_77 (by omega) ?_
              exact N.iret C hR dX9_dresses_78 (fun hi hx => by have ec3 : c3 = A 0 4 := (by omega); subst ec3; exact ⟨fun a j g1 g2 g3 => (hfr2 a j g2).trans ((fd1 a j g1 g3).trans (hfr a j g2)), fun j g => (hst2 j g).trans ((s26 j).trans (hst j (fun d a b => by omega))), by unfold newV; rw [hc, fd2], hM2, hA.drv hid⟩)
            · skip
              have hg := hdl c3 hd0 (by omega)
              refine E.aload_n C dX9_dresses_42 rfl rfl ?_
              refine N.getR C fa_X9_26 rfl dX9_dresses_43 kd_119 (x := 125) (by decide +kernel) (by decide) ?_
              refine E.iload_n C dX9_dresses_46 rfl rfl ?_
              refine N.iald C dX9_dresses_47 kd_125 ln_125 (by omega) (x := w26 125 c3) (hfr2 _ _ (by decide)) ?_
              refine E.bipush C dX9_dresses_48 (by decide) ?_
              refine E.icmp_eq C dX9_dresses_50 (tgt := 64) (by decide) (fun h50 => ?_) (fun h50 => ?_)
              · skip
                refine N.iinc_3 C dX9_dresses_64 (hN 3 (by decide)) rfl (by omega) ?_
                refine E.goto C dX9_dresses_67 (tgt := 32) (by decide) ?_
                exact ih32 _ (by omega) (c3 + 1) w2 rfl (by first | (refine ⟨by omega, by omega, fun a j g => (hpp.2.1 a j g).trans (hfr2 a j g), fun j g => (hpp.2.2 j g).trans (hst2 j g), ?_⟩; rw [drs_step hd0, a15, if_pos ⟨df.2.2.2.1, df.2.2.2.2.1⟩, ← hu]; have e9 : (undF A 0 s (A 0 5)) (0 + 5 + c3) 0 = u (0 + 5 + c3) 0 := (by rw [undF_out (by omega), hu]; exact ((drs_inv hA hid.1.1 c3.toNat (by omega)).2.1 _ _ (by omega)).symm); rw [e9, ← hg]; exact hpp.1) | (refine ⟨by omega, by omega, hfr2, hst2, ?_⟩; rw [drs_step hd0, a15, if_neg (by omega)]; exact hM2))
              · skip
                have hz : ¬ dealV A 0 s sl c3 = -4 := fun z => h50 (hg.trans z)
                obtain ⟨u, hu⟩ : ∃ u, u = (drsN (undF A 0 s (A 0 5)) 0 sl (dealV A 0 s sl) c3.toNat) := ⟨_, rfl⟩
                have df := drs_facts hA hid.1.1 ⟨hd0, by omega⟩ hz hu
                rw [← hu] at hM2 hDI
                have hgt : w26 125 c3 = dealV A 0 s sl c3 := hg
                have hpp := hM2.pts (t := w26 125 c3) (c := c3) (s := s) al2 hDI (by rw [hg, df.2.2.1]; exact ⟨df.2.2.2.1, df.2.2.2.2.1⟩) (by rw [df.2.1]; omega) (by rw [hg]; exact df.2.2.2.2.2.1) (by rw [hg]; exact df.2.2.2.2.2.2.1) (by rw [hg]; exact df.2.2.2.2.2.2.2.1) (by rw [hg, df.2.2.1]; exact df.2.2.2.2.2.2.2.2)
                have dt1 := df.2.2.2.1
                have dt2 := df.2.2.2.2.1
                have du4 := df.2.1
                have du5 := df.2.2.1
                refine E.aload_n C dX9_dresses_53 rfl rfl ?_
                refine E.iload_n C dX9_dresses_54 rfl rfl ?_
                refine E.aload_n C dX9_dresses_55 rfl rfl ?_
                refine N.getR C fa_X9_26 rfl dX9_dresses_56 kd_119 (x := 125) (by decide +kernel) (by decide) ?_
                refine E.iload_n C dX9_dresses_59 rfl rfl ?_
                refine N.iald C dX9_dresses_60 kd_125 ln_125 (by omega) (x := w26 125 c3) (hfr2 _ _ (by decide)) ?_
                refine N.callVe (S := []) (As := [vi c3, vi (w26 125 c3)]) C hX (ok_X9_putsOn G c3 (w26 125 c3) w2 (by omega) (hM2.th hDI _ (by omega) (by rw [hM2.2.1]; omega)) ⟨(hM2.fz hDI _ (by omega) (by rw [hM2.1]; omega)).1, (hM2.fz hDI _ (by omega) (by rw [hM2.1]; omega)).2, by omega, by omega⟩ (by rw [hM2.2.2.2.1 _ 0 (by omega) (by omega) (by omega) (by omega), hg, df.2.2.2.2.2.2.1]; exact hs)) yf_X9_putsOn yv_X9_putsOn ml_X9_213 rfl rfl rfl kd_119 (by decide) (by decide) (Nat.le_of_ble_eq_true rfl) dX9_dresses_61 rfl ?_
                refine N.iinc_3 C dX9_dresses_64 (hN 3 (by decide)) rfl (by omega) ?_
                refine E.goto C dX9_dresses_67 (tgt := 32) (by decide) ?_
                exact ih32 _ (by omega) (c3 + 1) (putS w2 c3 (w26 125 c3)) rfl (by first | (refine ⟨by omega, by omega, fun a j g => (hpp.2.1 a j g).trans (hfr2 a j g), fun j g => (hpp.2.2 j g).trans (hst2 j g), ?_⟩; rw [drs_step hd0, a15, if_pos ⟨df.2.2.2.1, df.2.2.2.2.1⟩, ← hu]; have e9 : (undF A 0 s (A 0 5)) (0 + 5 + c3) 0 = u (0 + 5 + c3) 0 := (by rw [undF_out (by omega), hu]; exact ((drs_inv hA hid.1.1 c3.toNat (by omega)).2.1 _ _ (by omega)).symm); rw [e9, ← hg]; exact hpp.1) | (refine ⟨by omega, by omega, hfr2, hst2, ?_⟩; rw [drs_step hd0, a15, if_neg (by omega)]; exact hM2))
        exact lp32 _ 0 w26 rfl (by exact ⟨by omega, by omega, fun a j _ => rfl, fun j _ => rfl, hM26⟩)
      · skip
        refine E.aload_n C dX9_dresses_12 rfl rfl ?_
        refine E.iload_n C dX9_dresses_13 rfl rfl ?_
        refine E.iload_n C dX9_dresses_14 rfl rfl ?_
        refine N.callVe (S := []) (As := [vi c, vi s]) C hX (ok_X9_takesOff G c s w (by omega)) yf_X9_takesOff yv_X9_takesOff ml_X9_209 rfl rfl rfl kd_119 (by decide) (by decide) (Nat.le_of_ble_eq_true rfl) dX9_dresses_15 rfl ?_
        refine N.iinc_2 C dX9_dresses_18 (hN 2 (by decide)) rfl (by omega) ?_
        refine E.goto C dX9_dresses_21 (tgt := 2) (by decide) ?_
        exact ih2 _ (by omega) (c + 1) (upd2 w 120 (1 + 5 * c + 3 + s) (-4)) rfl (by refine ⟨by omega, by omega, fun a j g => (u_ne (Or.inl g)).trans (hfr a j g), fun d g1 g2 => ?_, fun j g => (u_ne (Or.inr (g c hc0 (by omega)))).trans (hst j (fun d a b => g d a (by omega)))⟩; by_cases hd : d = c; (rw [hd, upd2_same]); (rw [u_ne (Or.inr (by omega))]; exact hof d g1 (by omega)))
  exact lp2 _ 0 v rfl (by exact ⟨by omega, by omega, fun a j _ => rfl, fun d g1 g2 => by omega, fun j _ => rfl⟩)

set_option maxHeartbeats 4000000 in
set_option maxRecDepth 20000 in
theorem ok_X9_winters (G : GT) (A v : VT) (hA : WFV A 0) (hM : MR A (v 120)) : MNi G yX9_winters cX9_winters 5 (some .int) 2 44 [vr 119] v (fun x w => (∀ a j, ¬ a = 120 → w a j = v a j) ∧ (∀ j, (j < 1 ∨ j = 41 ∨ 112 ≤ j) → w 120 j = v 120 j) ∧ x = cntN (winP A 0) (A 0 5).toNat ∧ MR (winF A 0 (A 0 5)) (w 120)) := by
  refine MN.of pn_X9_winters [some (vr 119), none, none, none, none] 4 rfl rfl (fun X C hX hn hR => ?_)
  have hN : ∀ i : Nat, i < 5 → i < xn X := fun i h => by rw [hn]; exact h
  refine E.rngk (fun hinv => ?_)
  refine E.loc (fun hloc => ?_)
  have hc := hM.1
  have hb := hM.2.1
  have hA1 := hA.1
  have hA2 := hA.2.1
  refine E.iconst C dX9_winters_0 (by decide) ?_
  refine N.ist_1 C dX9_winters_1 (hN 1 (by decide)) rfl ?_
  refine E.iconst C dX9_winters_2 (by decide) ?_
  refine N.ist_2 C dX9_winters_3 (hN 2 (by decide)) rfl ?_
  have lp4 : ∀ (k4 : Nat) (x : Int) (c : Int) (w : VT), (A 0 4 - c).toNat = k4 → (0 ≤ c ∧ c ≤ A 0 4 ∧ (∀ a j, ¬ a = 120 → w a j = v a j) ∧ (∀ j, (j < 1 ∨ j = 41 ∨ 112 ≤ j) → w 120 j = v 120 j) ∧ x = cntN (wmB A c 0) (A 0 5).toNat ∧ MR (winM A c 0) (w 120)) → E X G 0 0 1000 w 4 [some (vr 119), some (vi x), some (vi c), none, none] [] := by
    intro k4
    induction k4 using Nat.strongRecOn with
    | ind k4 ih4 =>
      intro x c w hk4 hI4
      obtain ⟨hc0, hc1, hfr, hst, hx, hMw⟩ := hI4
      refine E.iload_n C dX9_winters_4 rfl rfl ?_
      refine E.aload_n C dX9_winters_5 rfl rfl ?_
      refine N.getR C fa_X9_7 rfl dX9_winters_6 kd_119 (x := 120) (by decide +kernel) (by decide) ?_
      refine E.iconst C dX9_winters_9 (by decide) ?_
      refine N.iald C dX9_winters_10 kd_120 ln_120 (by omega) (x := v 120 0) (hst _ (by decide)) ?_
      refine E.icmp_ge C dX9_winters_11 (tgt := 85) (by decide) (fun h11 => ?_) (fun h11 => ?_)
      · skip
        refine E.iload_n C dX9_winters_85 rfl rfl ?_
        exact N.iret C hR dX9_winters_86 (fun hi hx => by have ec : c = A 0 4 := (by omega); subst ec; exact ⟨hfr, hst, by rw [hx]; exact wm_end hA, by rw [← winM_end hA]; exact hMw⟩)
      · skip
        refine E.iconst C dX9_winters_14 (by decide) ?_
        refine N.ist_3 C dX9_winters_15 (hN 3 (by decide)) rfl ?_
        have lp16 : ∀ (k16 : Nat) (x3 : Int) (s : Int) (w3 : VT), (2 - s).toNat = k16 → (0 ≤ s ∧ s ≤ 2 ∧ (∀ a j, ¬ a = 120 → w3 a j = v a j) ∧ (∀ j, (j < 1 ∨ j = 41 ∨ 112 ≤ j) → w3 120 j = v 120 j) ∧ x3 = cntN (wmB A c s) (A 0 5).toNat ∧ MR (winM A c s) (w3 120)) → E X G 0 0 1000 w3 16 [some (vr 119), some (vi x3), some (vi c), some (vi s), none] [] := by
          intro k16
          induction k16 using Nat.strongRecOn with
          | ind k16 ih16 =>
            intro x3 s w3 hk16 hI16
            obtain ⟨hs0, hs1, hfr3, hst3, hx3, hM3⟩ := hI16; have hcb := cnt_bd (wmB A c s) (A 0 5).toNat; have hWm := winM_wf (c := c) (s := s) hA; have m4 : winM A c s 0 4 = A 0 4 := winM_out (by omega); have m5 : winM A c s 0 5 = A 0 5 := winM_out (by omega)
            refine E.iload_n C dX9_winters_16 rfl rfl ?_
            refine E.iconst C dX9_winters_17 (by decide) ?_
            refine E.icmp_ge C dX9_winters_18 (tgt := 79) (by decide) (fun h18 => ?_) (fun h18 => ?_)
            · skip
              refine N.iinc_2 C dX9_winters_79 (hN 2 (by decide)) rfl (by omega) ?_
              refine E.goto C dX9_winters_82 (tgt := 4) (by decide) ?_
              refine E.drop (i := 3) ?_
              exact ih4 _ (by omega) x3 (c + 1) w3 rfl (by have e2 : s = 2 := (by omega); subst e2; exact ⟨by omega, by omega, hfr3, hst3, by rw [hx3]; exact wm_2 hA, by rw [← winM_2 hA]; exact hM3⟩)
            · skip
              refine E.aload_n C dX9_winters_21 rfl rfl ?_
              refine E.iload_n C dX9_winters_22 rfl rfl ?_
              refine E.iload_n C dX9_winters_23 rfl rfl ?_
              refine N.callVp (S := []) (As := [vi c, vi s]) C hX (ok_X9_worn G c s w3 (by omega)) yf_X9_worn yv_X9_worn ml_X9_175 rfl rfl rfl kd_119 (by decide) (by decide) (Nat.le_of_ble_eq_true rfl) dX9_winters_24 rfl ?_
              obtain ⟨t, ht⟩ : ∃ z, z = (w3 120 (1 + 5 * c + 3 + s)) := ⟨_, rfl⟩
              refine E.veq ht.symm ?_
              have hw24 : t = wornI (winM A c s) 0 c s := ht.trans (hM3.2.2.2.2 c s hc0 (by rw [m4]; omega) hs0 (by omega))
              refine N.ist_4 C dX9_winters_27 (hN 4 (by decide)) rfl ?_
              refine E.iload C dX9_winters_29 rfl ?_
              refine E.bipush C dX9_winters_31 (by decide) ?_
              refine E.icmp_eq C dX9_winters_33 (tgt := 73) (by decide) (fun h33 => ?_) (fun h33 => ?_)
              · skip
                refine N.iinc_3 C dX9_winters_73 (hN 3 (by decide)) rfl (by omega) ?_
                refine E.goto C dX9_winters_76 (tgt := 16) (by decide) ?_
                refine E.drop (i := 4) ?_
                exact ih16 _ (by omega) x3 (s + 1) w3 rfl (by first | (have hnn := winM_none hA hc0 (hw24.symm.trans h33); have hsm := wm_same hnn; exact ⟨by omega, by omega, hfr3, hst3, by rw [hsm.1]; exact hx3, by rw [hsm.2]; exact hM3⟩) | (refine ⟨by omega, by omega, fun a j g => by rw [u_ne (Or.inl g)]; exact hfr3 a j g, fun j g => by rw [u_ne (Or.inr (by omega))]; exact hst3 j g, by rw [wm_cnt hA ht e7 e0 hc0, hx3, if_neg (by omega)]; omega, ?_⟩; rw [upd2_row]; exact (hM3.set hWm (by rw [m5]; exact ht) (by omega)).sm (hsm2.2 (by omega)) (by rw [u_ne (by omega), m5]; omega)) | (refine ⟨by omega, by omega, fun a j g => by rw [u_ne (Or.inl g), u_ne (Or.inl g)]; exact hfr3 a j g, fun j g => by rw [u_ne (Or.inr (by omega)), u_ne (Or.inr (by omega))]; exact hst3 j g, by rw [wm_cnt hA ht e7 e0 hc0, hx3, if_pos (by omega)], ?_⟩; have ho2 := hM3.off hWm (by rw [m5]; exact ht) (by rw [m4]; omega) y4 y3; rw [upd2_row, upd2_row, row_swap (by omega)]; exact (ho2.1.set ho2.2 (by rw [u_ne (by omega), m5]; exact ht) (by omega)).sm (hsm2.1 (by omega)) (by rw [u_ne (by omega), u_ne (by omega), m5]; omega)))
              · skip
                obtain ⟨y1, y2, y3, y4⟩ := wornI_rng (v := winM A c s) (o := 0) (c := c) (s := s) (by rw [m5]; exact hA2.1) (by rw [← hw24]; exact h33)
                rw [← hw24, m5] at y2
                rw [← hw24] at y1 y3 y4
                have ht : 0 ≤ t ∧ t < A 0 5 := ⟨y1, y2⟩
                obtain ⟨et, e7, e0⟩ := winM_t hc0 ht y4 y3
                have ef : ∀ k, 0 ≤ k → k < 7 → w3 120 (42 + 7 * t + k) = A (0 + 13 + t) k := fun k a b => (hM3.2.2.2.1 t k y1 (by rw [m5]; exact y2) a b).trans (et k)
                have hsm2 := win_sm hA hc0 ht e7 e0
                have hoI := outI_01 (A (0 + 13 + t) 1) (A (0 + 13 + t) 3) (A (0 + 13 + t) 4 + 1)
                have hw4 := (hA.wi t ht.1 ht.2).2
                have hth := hA.th t ht.1 ht.2
                unfold thOK at hth
                have e1 := ef 1 (by omega) (by omega)
                have e3 := ef 3 (by omega) (by omega)
                have e4 := ef 4 (by omega) (by omega)
                refine E.aload_n C dX9_winters_36 rfl rfl ?_
                refine N.getR C fa_X9_7 rfl dX9_winters_37 kd_119 (x := 120) (by decide +kernel) (by decide) ?_
                refine E.bipush C dX9_winters_40 (by decide) ?_
                refine E.bipush C dX9_winters_42 (by decide) ?_
                refine E.iload C dX9_winters_44 rfl ?_
                refine E.imul C dX9_winters_46 (by omega) ?_
                refine E.iadd C dX9_winters_47 (by omega) ?_
                refine E.iconst C dX9_winters_48 (by decide) ?_
                refine E.iadd C dX9_winters_49 (by omega) ?_
                refine E.dup2 C dX9_winters_50 ?_
                refine N.iald C dX9_winters_51 kd_120 ln_120 (by omega) (x := w3 120 ((42 + (7 * t)) + 4)) rfl ?_
                refine E.veq (x' := A (0 + 13 + t) 4) (e4) ?_
                refine E.iconst C dX9_winters_52 (by decide) ?_
                refine E.iadd C dX9_winters_53 (by omega) ?_
                refine N.iast C dX9_winters_54 kd_120 ln_120 (by omega) ?_
                refine E.aload_n C dX9_winters_55 rfl rfl ?_
                refine E.iload C dX9_winters_56 rfl ?_
                refine N.callVp (S := []) (As := [vi t]) C hX (ok_X9_isOut G t (upd2 w3 120 ((42 + (7 * t)) + 4) ((A (0 + 13 + t) 4) + 1)) (by omega) (by rw [u_ne (by omega), e3]; omega)) yf_X9_isOut yv_X9_isOut ml_X9_254 rfl rfl rfl kd_119 (by decide) (by decide) (Nat.le_of_ble_eq_true rfl) dX9_winters_58 rfl ?_
                refine E.veq (x' := outI (A (0 + 13 + t) 1) (A (0 + 13 + t) 3) (A (0 + 13 + t) 4 + 1)) (by rw [u_ne (by omega), u_ne (by omega), upd2_same, e1, e3]) ?_
                refine E.if_eq C dX9_winters_61 (tgt := 73) (by decide) (fun h61 => ?_) (fun h61 => ?_)
                · skip
                  refine N.iinc_3 C dX9_winters_73 (hN 3 (by decide)) rfl (by omega) ?_
                  refine E.goto C dX9_winters_76 (tgt := 16) (by decide) ?_
                  refine E.drop (i := 4) ?_
                  exact ih16 _ (by omega) x3 (s + 1) (upd2 w3 120 ((42 + (7 * t)) + 4) ((A (0 + 13 + t) 4) + 1)) rfl (by first | (have hnn := winM_none hA hc0 (hw24.symm.trans h33); have hsm := wm_same hnn; exact ⟨by omega, by omega, hfr3, hst3, by rw [hsm.1]; exact hx3, by rw [hsm.2]; exact hM3⟩) | (refine ⟨by omega, by omega, fun a j g => by rw [u_ne (Or.inl g)]; exact hfr3 a j g, fun j g => by rw [u_ne (Or.inr (by omega))]; exact hst3 j g, by rw [wm_cnt hA ht e7 e0 hc0, hx3, if_neg (by omega)]; omega, ?_⟩; rw [upd2_row]; exact (hM3.set hWm (by rw [m5]; exact ht) (by omega)).sm (hsm2.2 (by omega)) (by rw [u_ne (by omega), m5]; omega)) | (refine ⟨by omega, by omega, fun a j g => by rw [u_ne (Or.inl g), u_ne (Or.inl g)]; exact hfr3 a j g, fun j g => by rw [u_ne (Or.inr (by omega)), u_ne (Or.inr (by omega))]; exact hst3 j g, by rw [wm_cnt hA ht e7 e0 hc0, hx3, if_pos (by omega)], ?_⟩; have ho2 := hM3.off hWm (by rw [m5]; exact ht) (by rw [m4]; omega) y4 y3; rw [upd2_row, upd2_row, row_swap (by omega)]; exact (ho2.1.set ho2.2 (by rw [u_ne (by omega), m5]; exact ht) (by omega)).sm (hsm2.1 (by omega)) (by rw [u_ne (by omega), u_ne (by omega), m5]; omega)))
                · skip
                  refine E.aload_n C dX9_winters_64 rfl rfl ?_
                  refine E.iload_n C dX9_winters_65 rfl rfl ?_
                  refine E.iload_n C dX9_winters_66 rfl rfl ?_
                  refine N.callVe (S := []) (As := [vi c, vi s]) C hX (ok_X9_takesOff G c s (upd2 w3 120 ((42 + (7 * t)) + 4) ((A (0 + 13 + t) 4) + 1)) (by omega)) yf_X9_takesOff yv_X9_takesOff ml_X9_209 rfl rfl rfl kd_119 (by decide) (by decide) (Nat.le_of_ble_eq_true rfl) dX9_winters_67 rfl ?_
                  refine N.iinc_1 C dX9_winters_70 (hN 1 (by decide)) rfl (by omega) ?_
                  refine N.iinc_3 C dX9_winters_73 (hN 3 (by decide)) rfl (by omega) ?_
                  refine E.goto C dX9_winters_76 (tgt := 16) (by decide) ?_
                  refine E.drop (i := 4) ?_
                  exact ih16 _ (by omega) (x3 + 1) (s + 1) (upd2 (upd2 w3 120 ((42 + (7 * t)) + 4) ((A (0 + 13 + t) 4) + 1)) 120 (1 + 5 * c + 3 + s) (-4)) rfl (by first | (have hnn := winM_none hA hc0 (hw24.symm.trans h33); have hsm := wm_same hnn; exact ⟨by omega, by omega, hfr3, hst3, by rw [hsm.1]; exact hx3, by rw [hsm.2]; exact hM3⟩) | (refine ⟨by omega, by omega, fun a j g => by rw [u_ne (Or.inl g)]; exact hfr3 a j g, fun j g => by rw [u_ne (Or.inr (by omega))]; exact hst3 j g, by rw [wm_cnt hA ht e7 e0 hc0, hx3, if_neg (by omega)]; omega, ?_⟩; rw [upd2_row]; exact (hM3.set hWm (by rw [m5]; exact ht) (by omega)).sm (hsm2.2 (by omega)) (by rw [u_ne (by omega), m5]; omega)) | (refine ⟨by omega, by omega, fun a j g => by rw [u_ne (Or.inl g), u_ne (Or.inl g)]; exact hfr3 a j g, fun j g => by rw [u_ne (Or.inr (by omega)), u_ne (Or.inr (by omega))]; exact hst3 j g, by rw [wm_cnt hA ht e7 e0 hc0, hx3, if_pos (by omega)], ?_⟩; have ho2 := hM3.off hWm (by rw [m5]; exact ht) (by rw [m4]; omega) y4 y3; rw [upd2_row, upd2_row, row_swap (by omega)]; exact (ho2.1.set ho2.2 (by rw [u_ne (by omega), m5]; exact ht) (by omega)).sm (hsm2.1 (by omega)) (by rw [u_ne (by omega), u_ne (by omega), m5]; omega)))
        exact lp16 _ x 0 w rfl (by exact ⟨by omega, by omega, hfr, hst, hx, hMw⟩)
  exact lp4 _ 0 0 v rfl (by exact ⟨by omega, by omega, fun a j _ => rfl, fun j _ => rfl, (wm_0 hA).symm, by rw [winM_0 hA]; exact hM⟩)
