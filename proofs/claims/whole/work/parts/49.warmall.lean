set_option maxHeartbeats 4000000 in
set_option maxRecDepth 20000 in
theorem ok_X1_warmAll (G : GT) (v : VT) (hc : 0 ≤ v 54 5 ∧ v 54 5 ≤ 8) (hT : 0 ≤ v 54 6 ∧ v 54 6 ≤ 20) (hcon : Con (v 56) (v 57) (v 54 5) (v 54 6)) (hleg : Leg (v 56) (v 55) (v 54 5)) (hwm : v 54 7 = wrmN (v 54 5) 0 (v 56)) (hmb : ∀ c, 0 ≤ c → c < v 54 5 → ∀ x, v 54 6 ≤ x → x < 32 → bt (v 55 c) x = false) : MNv G yX1_warmAll cX1_warmAll 3 none 2 47 [vr 54] v (fun w => (∀ a j, (¬ a = 54 ∨ ¬ j = 7) → (a < 56 ∨ 59 < a) → w a j = v a j) ∧ Con (w 56) (w 57) (v 54 5) (v 54 6) ∧ MaxM (v 54 5) (mayT (v 55) (v 54 6)) (w 54 7) (w 56)) := by
  refine MN.of pn_X1_warmAll [some (vr 54), none, none] 2 rfl rfl (fun X C hX hn hR => ?_)
  have hN : ∀ i : Nat, i < 3 → i < xn X := fun i h => by rw [hn]; exact h
  refine E.rngk (fun hinv => ?_)
  refine E.loc (fun hloc => ?_)
  refine E.iconst C dX1_warmAll_0 (by decide) ?_
  refine N.ist_1 C dX1_warmAll_1 (hN 1 (by decide)) rfl ?_
  have lp2 : ∀ (k2 : Nat) (c : Int) (w : VT), (v 54 5 - c).toNat = k2 → (0 ≤ c ∧ c ≤ v 54 5 ∧ (∀ a j, (¬ a = 54 ∨ ¬ j = 7) → (a < 56 ∨ 59 < a) → w a j = v a j) ∧ Con (w 56) (w 57) (v 54 5) (v 54 6) ∧ Leg (w 56) (v 55) (v 54 5) ∧ w 54 7 = wrmN (v 54 5) 0 (w 56) ∧ c ≤ wrmN (v 54 5) 0 (w 56)) → E X G 0 0 1000 w 2 [some (vr 54), some (vi c), none] [] := by
    intro k2
    induction k2 using Nat.strongRecOn with
    | ind k2 ih2 =>
      intro c w hk2 hI2
      obtain ⟨hc0, hc1, hfr, hcn, hlg, hwn, hcw⟩ := hI2; have e5 : w 54 5 = v 54 5 := hfr _ _ (by decide) (by decide); have e6 : w 54 6 = v 54 6 := hfr _ _ (by decide) (by decide); have e55 : w 55 = v 55 := funext (fun j => hfr _ _ (Or.inl (by decide)) (by decide)); have hwl := wrm_le (v 54 5) 0 (w 56) hc.1
      refine E.iload_n C dX1_warmAll_2 rfl rfl ?_
      refine E.aload_n C dX1_warmAll_3 rfl rfl ?_
      refine N.getI C fa_X1_43 rfl dX1_warmAll_4 kd_54 (x := v 54 5) (hfr _ _ (by decide) (by decide)) ?_
      refine E.icmp_ge C dX1_warmAll_7 (tgt := 47) (by decide) (fun h7 => ?_) (fun h7 => ?_)
      · skip
        exact N.vret C hR dX1_warmAll_47 (fun hi => by first | exact ⟨fun a j g1 g2 => (hp13.1 a j (by omega) (by omega)).trans (hfr a j g1 g2), by rw [f56, f57]; exact hcn, by rw [f56, hp13.1 _ _ (by decide) (by decide), hwn]; exact max_0 hcn hlg (by rw [h20] at hsq; exact hsq)⟩ | exact ⟨hfr, hcn, by rw [hwn]; exact max_all hc.1 hcn hlg (by omega)⟩)
      · skip
        refine E.aload_n C dX1_warmAll_10 rfl rfl ?_
        refine E.iconst C dX1_warmAll_11 (by decide) ?_
        refine E.iconst C dX1_warmAll_12 (by decide) ?_
        refine N.callVi (S := []) (As := [vi 0, vi 0]) C hX (ok_X1_seekFree G 0 0 w (by rw [e5]; exact hc) (by rw [e6]; exact hT) (by rw [e5]; omega) (by rw [e5, e6]; exact hcn.2) (by rw [e5, e6, e55]; exact hmb)) yf_X1_seekFree yv_X1_seekFree ml_X1_79 rfl rfl rfl kd_54 (by decide) (by decide) (Nat.le_of_ble_eq_true rfl) dX1_warmAll_13 rfl (fun t13 w13 hb13 hp13 => ?_)
        have f56 : w13 56 = w 56 := funext (fun j => hp13.1 _ _ (by decide) (by decide))
        have f57 : w13 57 = w 57 := funext (fun j => hp13.1 _ _ (by decide) (by decide))
        have f55 : w13 55 = v 55 := (funext (fun j => hp13.1 _ _ (by decide) (by decide))).trans e55
        have f5 : w13 54 5 = v 54 5 := (hp13.1 _ _ (by decide) (by decide)).trans e5
        have f6 : w13 54 6 = v 54 6 := (hp13.1 _ _ (by decide) (by decide)).trans e6
        have hsq := hp13.2
        rw [e5, e6, e55] at hsq
        refine N.ist_2 C dX1_warmAll_16 (hN 2 (by decide)) rfl ?_
        refine E.iload_n C dX1_warmAll_17 rfl rfl ?_
        refine E.bipush C dX1_warmAll_18 (by decide) ?_
        refine E.icmp_ne C dX1_warmAll_20 (tgt := 26) (by decide) (fun h20 => ?_) (fun h20 => ?_)
        · skip
          obtain ⟨hr0, hr1, hfree13, D13, rk13, hD13, hway13⟩ := hsq.resolve_left (fun hq => h20 hq.1)
          refine E.aload_n C dX1_warmAll_26 rfl rfl ?_
          refine E.iload_n C dX1_warmAll_27 rfl rfl ?_
          refine N.callVv (S := []) (As := [vi t13]) C hX (ok_X1_passAlong G t13 0 0 D13 rk13 w13 (by rw [f5]; exact hc) (by rw [f6]; exact hT) (by rw [f56, f57, f5, f6]; exact hcn) (by rw [f56, f55, f5, f6]; exact hway13) hD13 (by rw [f57]; exact hfree13)) yf_X1_passAlong yv_X1_passAlong ml_X1_83 rfl rfl rfl kd_54 (by decide) (by decide) (Nat.le_of_ble_eq_true rfl) dX1_warmAll_28 rfl (fun w28 hp28 => ?_)
          have hfl := hp28.2
          rw [f56, f57, f55, f5, f6] at hfl
          have hwl2 := wrm_le (v 54 5) 0 (w28 56) hc.1
          refine E.aload_n C dX1_warmAll_31 rfl rfl ?_
          refine E.dupR C dX1_warmAll_32 ?_
          refine N.getI C fa_X1_48 rfl dX1_warmAll_33 kd_54 (x := w 54 7) ((hp28.1 _ _ (by decide) (by decide)).trans (hp13.1 _ _ (by decide) (by decide))) ?_
          refine E.iconst C dX1_warmAll_36 (by decide) ?_
          refine E.iadd C dX1_warmAll_37 (by omega) ?_
          refine N.putI C fp_X1_48 rfl dX1_warmAll_38 kd_54 ?_
          refine N.iinc_1 C dX1_warmAll_41 (hN 1 (by decide)) rfl (by omega) ?_
          refine E.goto C dX1_warmAll_44 (tgt := 2) (by decide) ?_
          refine E.drop (i := 2) ?_
          exact ih2 _ (by omega) (c + 1) (upd2 w28 54 7 ((w 54 7) + 1)) rfl (by refine ⟨by omega, by omega, fun a j g1 g2 => ?_, hfl.1, flip_leg hfl hlg, ?_, ?_⟩; (rw [upd2_ne _ _ _ _ _ _ (by omega), hp28.1 a j (by omega) (by omega), hp13.1 a j (by omega) (by omega)]; exact hfr a j g1 g2); (rw [upd2_same, upd2_rowne (by decide), flip_cnt hfl (Int.le_refl _), ← hwn]); (rw [upd2_rowne (by decide), flip_cnt hfl (Int.le_refl _)]; omega))
        · skip
          refine E.goto C dX1_warmAll_23 (tgt := 47) (by decide) ?_
          exact N.vret C hR dX1_warmAll_47 (fun hi => by first | exact ⟨fun a j g1 g2 => (hp13.1 a j (by omega) (by omega)).trans (hfr a j g1 g2), by rw [f56, f57]; exact hcn, by rw [f56, hp13.1 _ _ (by decide) (by decide), hwn]; exact max_0 hcn hlg (by rw [h20] at hsq; exact hsq)⟩ | exact ⟨hfr, hcn, by rw [hwn]; exact max_all hc.1 hcn hlg (by omega)⟩)
  exact lp2 _ 0 v rfl (by exact ⟨by omega, by omega, fun a j _ _ => rfl, hcon, hleg, hwm, (wrm_le _ _ _ hc.1).1⟩)
