set_option maxHeartbeats 4000000 in
set_option maxRecDepth 20000 in
theorem ok_X2_trace (G : GT) (sl : Int) (v : VT) (hW : WFV v 4) (hmk0 : 0 ≤ v 4 6 ∧ v 4 6 ≤ 6) (hmk : ∀ k, 0 ≤ k → k < v 4 6 → 1 ≤ v 8 k ∧ v 8 k ≤ 40) (hsl : 0 ≤ sl ∧ sl ≤ 4) : MNv G yX2_trace cX2_trace 4 none 2 48 [vr 60, vr 4, vi sl] v (fun w => TraceQ v sl w) := by
  refine MN.of pn_X2_trace [some (vr 60), some (vr 4), some (vi sl), none] 1 rfl rfl (fun X C hX hn hR => ?_)
  have hN : ∀ i : Nat, i < 4 → i < xn X := fun i h => by rw [hn]; exact h
  refine E.rngk (fun hinv => ?_)
  refine E.loc (fun hloc => ?_)
  have hin_2 : in32 sl := hloc _ (List.mem_of_getElem? (i := 2) rfl)
  have hW1 := hW.1
  have hW2 := hW.2.1
  have h8 := pw_8 hW1
  refine E.aload_n C dX2_trace_0 rfl rfl ?_
  refine E.aload_n C dX2_trace_1 rfl rfl ?_
  refine N.getI C fa_X2_21 rfl dX2_trace_2 (kdV hv4) (x := v 4 4) rfl ?_
  refine N.putI C fp_X2_27 rfl dX2_trace_5 kd_60 ?_
  refine E.aload_n C dX2_trace_8 rfl rfl ?_
  refine E.aload_n C dX2_trace_9 rfl rfl ?_
  refine N.getI C fa_X2_28 rfl dX2_trace_10 (kdV hv4) (x := v 4 6) (upd2_ne _ _ _ _ _ _ (Or.inr (by decide))) ?_
  refine N.putI C fp_X2_31 rfl dX2_trace_13 kd_60 ?_
  refine E.iconst C dX2_trace_16 (by decide) ?_
  refine N.ist_3 C dX2_trace_17 (hN 3 (by decide)) rfl ?_
  have lp18 : ∀ (k18 : Nat) (k : Int) (w : VT), (v 4 6 - k).toNat = k18 → (0 ≤ k ∧ k ≤ v 4 6 ∧ (∀ a j, (¬ a = 60 ∨ (¬ j = 3 ∧ ¬ j = 4)) → ¬ a = 61 → ¬ a = 62 → w a j = v a j) ∧ w 60 3 = v 4 4 ∧ w 60 4 = v 4 6 ∧ ∀ i, 0 ≤ i → i < k → w 61 i = orN (mkB v 4 (v 8) sl i) (v 4 4).toNat) → E X G 0 0 1000 w 18 [some (vr 60), some (vr 4), some (vi sl), some (vi k)] [] := by
    intro k18
    induction k18 using Nat.strongRecOn with
    | ind k18 ih18 =>
      intro k w hk18 hI18
      obtain ⟨hk0, hk1, hfr, e3, e4, hft⟩ := hI18; have sw : Sm w 4 v 4 := sm_of (fun a j g1 g2 => hfr a j (by omega) (by omega) (by omega)) hW1.2 hW2.2
      refine E.iload_n C dX2_trace_18 rfl rfl ?_
      refine E.aload_n C dX2_trace_19 rfl rfl ?_
      refine N.getI C fa_X2_31 rfl dX2_trace_20 kd_60 (x := w 60 4) rfl ?_
      refine E.icmp_ge C dX2_trace_23 (tgt := 44) (by decide) (fun h23 => ?_) (fun h23 => ?_)
      · skip
        refine E.iconst C dX2_trace_44 (by decide) ?_
        refine E.aload_n C dX2_trace_45 rfl rfl ?_
        refine N.getI C fa_X2_27 rfl dX2_trace_46 kd_60 (x := w 60 3) rfl ?_
        refine E.veq (x' := v 4 4) (e3) ?_
        refine E.ishl C dX2_trace_49 ?_
        refine E.veq (x' := pwI (v 4 4).toNat) (h8.1) ?_
        refine E.iconst C dX2_trace_50 (by decide) ?_
        refine E.isub C dX2_trace_51 (by unfold in32; omega) ?_
        refine N.ist_3 C dX2_trace_52 (hN 3 (by decide)) rfl ?_
        have lp53 : ∀ (k53 : Nat) (u : Int) (y : VT), (u + 1).toNat = k53 → (-1 ≤ u ∧ u < pwI (v 4 4).toNat ∧ (∀ a j, (¬ a = 60 ∨ (¬ j = 3 ∧ ¬ j = 4)) → ¬ a = 61 → ¬ a = 62 → y a j = v a j) ∧ y 60 3 = v 4 4 ∧ y 60 4 = v 4 6 ∧ (∀ i, y 61 i = w 61 i) ∧ ∀ i, u < i → i < pwI (v 4 4).toNat → y 62 i = endR (mkB v 4 (v 8) sl) (v 4 4).toNat (v 4 6) i) → E X G 0 0 1000 y 53 [some (vr 60), some (vr 4), some (vi sl), some (vi u)] [] := by
          intro k53
          induction k53 using Nat.strongRecOn with
          | ind k53 ih53 =>
            intro u y hk53 hI53
            obtain ⟨hu0, hu1, hyf, y3, y4, yft, hen⟩ := hI53
            refine E.iload_n C dX2_trace_53 rfl rfl ?_
            refine E.if_lt C dX2_trace_54 (tgt := 74) (by decide) (fun h54 => ?_) (fun h54 => ?_)
            · skip
              exact N.vret C hR dX2_trace_74 (fun hi => by exact ⟨hyf, y3, y4, fun k c g1 g2 g3 g4 => by rw [yft, hft k g1 (by omega)]; exact mk_bt hW1 ⟨g3, g4⟩, fun i g1 g2 => hen i (by omega) g2⟩)
            · skip
              refine E.aload_n C dX2_trace_57 rfl rfl ?_
              refine N.getR C fa_X2_15 rfl dX2_trace_58 kd_60 (x := 62) (by decide +kernel) (by decide) ?_
              refine E.iload_n C dX2_trace_61 rfl rfl ?_
              refine E.aload_n C dX2_trace_62 rfl rfl ?_
              refine E.iload_n C dX2_trace_63 rfl rfl ?_
              refine N.callVp (S := [vi u, vr 62]) (As := [vi u]) C hX (ok_X2_endingsBehind G u (mkB v 4 (v 8) sl) y (by rw [y3]; exact hW1) (by rw [y4]; exact hmk0) ⟨by omega, by rw [y3]; omega⟩ (fun k c g1 g2 g3 g4 => by rw [y3] at g4; rw [y4] at g2; rw [yft, hft k g1 (by omega)]; exact mk_bt hW1 ⟨g3, g4⟩) (by rw [y3, y4]; exact hen)) yf_X2_endingsBehind yv_X2_endingsBehind ml_X2_36 rfl rfl rfl kd_60 (by decide) (by decide) (Nat.le_of_ble_eq_true rfl) dX2_trace_64 rfl ?_
              refine E.veq (x' := endR (mkB v 4 (v 8) sl) (v 4 4).toNat (v 4 6) u) (by rw [y3, y4]) ?_
              refine N.iast C dX2_trace_67 kd_62 ln_62 (by omega) ?_
              refine N.iinc_3 C dX2_trace_68 (hN 3 (by decide)) rfl (by omega) ?_
              refine E.goto C dX2_trace_71 (tgt := 53) (by decide) ?_
              exact ih53 _ (by omega) (u + (-1)) (upd2 y 62 u (endR (mkB v 4 (v 8) sl) (v 4 4).toNat (v 4 6) u)) rfl (by refine ⟨by omega, by omega, fun a j g1 g2 g3 => (u_ne (Or.inl g3)).trans (hyf a j g1 g2 g3), (u_ne (Or.inl (by decide))).trans y3, (u_ne (Or.inl (by decide))).trans y4, fun i => (u_ne (Or.inl (by decide))).trans (yft i), fun i g1 g2 => ?_⟩; by_cases e : i = u; (rw [e, u_at rfl]); (rw [u_ne (Or.inr e)]; exact hen i (by omega) g2))
        exact lp53 _ ((pwI (v 4 4).toNat) - 1) w rfl (by exact ⟨by omega, by omega, hfr, e3, e4, fun i => rfl, fun i g1 g2 => by omega⟩)
      · skip
        refine E.aload_n C dX2_trace_26 rfl rfl ?_
        refine N.getR C fa_X2_9 rfl dX2_trace_27 kd_60 (x := 61) (by decide +kernel) (by decide) ?_
        refine E.iload_n C dX2_trace_30 rfl rfl ?_
        refine E.aload_n C dX2_trace_31 rfl rfl ?_
        refine E.iload_n C dX2_trace_32 rfl rfl ?_
        refine E.iload_n C dX2_trace_33 rfl rfl ?_
        refine N.callSp (S := [vi k, vr 61]) (As := [vr 4, vi k, vi sl]) C hX (ok_X2_fittingMark G 4 k sl w hv4 (sw.wfv hW) ⟨by omega, by omega⟩ hsl (by rw [hfr (4 + 4) k (by omega) (by omega) (by omega)]; exact hmk k hk0 (by omega))) yf_X2_fittingMark yv_X2_fittingMark ml_X2_32 rfl (by decide) (Nat.le_of_ble_eq_true rfl) dX2_trace_34 rfl ?_
        refine E.veq (x' := orN (mkB v 4 (v 8) sl k) (v 4 4).toNat) (by rw [sw.1]; exact or_congr _ (fun c g1 g2 => mkB_eq (hfr _ _ (by omega) (by omega) (by omega)) (hfr _ _ (by omega) (by omega) (by omega)) (hfr _ _ (by omega) (by omega) (by omega)))) ?_
        refine N.iast C dX2_trace_37 kd_61 ln_61 (by omega) ?_
        refine N.iinc_3 C dX2_trace_38 (hN 3 (by decide)) rfl (by omega) ?_
        refine E.goto C dX2_trace_41 (tgt := 18) (by decide) ?_
        exact ih18 _ (by omega) (k + 1) (upd2 w 61 k (orN (mkB v 4 (v 8) sl k) (v 4 4).toNat)) rfl (by refine ⟨by omega, by omega, fun a j g1 g2 g3 => (u_ne (Or.inl g2)).trans (hfr a j g1 g2 g3), (u_ne (Or.inl (by decide))).trans e3, (u_ne (Or.inl (by decide))).trans e4, fun i g1 g2 => ?_⟩; by_cases e : i = k; (rw [e, u_at rfl]); (rw [u_ne (Or.inr e)]; exact hft i g1 (by omega)))
  exact lp18 _ 0 (upd2 (upd2 v 60 3 (v 4 4)) 60 4 (v 4 6)) rfl (by exact ⟨by omega, by omega, fun a j g1 g2 g3 => (u_ne (by omega)).trans (u_ne (by omega)), (u_ne (by decide)).trans (u_at rfl), u_at rfl, fun i g1 g2 => by omega⟩)
