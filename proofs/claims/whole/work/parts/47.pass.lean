set_option maxHeartbeats 4000000 in
set_option maxRecDepth 20000 in
theorem ok_X1_passAlong (G : GT) (r fm b : Int) (D : Int → Prop) (rk : Int → Int) (v : VT) (hc : 0 ≤ v 54 5 ∧ v 54 5 ≤ 8) (hT : 0 ≤ v 54 6 ∧ v 54 6 ≤ 20) (hcon : Con (v 56) (v 57) (v 54 5) (v 54 6)) (hway : Way (v 56) (v 55) (v 58) (v 54 5) (v 54 6) fm b D rk) (hD : D r) (hfree : v 57 r = -4) : MNv G yX1_passAlong cX1_passAlong 6 none 1 22 [vr 54, vi r] v (fun w => (∀ a j, ¬ a = 56 → ¬ a = 57 → w a j = v a j) ∧ Flip (v 56) (v 57) (v 55) (v 54 5) (v 54 6) fm b (w 56) (w 57)) := by
  refine MN.of pn_X1_passAlong [some (vr 54), some (vi r), none, none, none, none] 4 rfl rfl (fun X C hX hn hR => ?_)
  have hN : ∀ i : Nat, i < 6 → i < xn X := fun i h => by rw [hn]; exact h
  refine E.rngk (fun hinv => ?_)
  refine E.loc (fun hloc => ?_)
  have hin_1 : in32 r := hloc _ (List.mem_of_getElem? (i := 1) rfl)
  have hwr := hway r hD
  refine E.iload_n C dX1_passAlong_0 rfl rfl ?_
  refine N.ist_2 C dX1_passAlong_1 (hN 2 (by decide)) rfl ?_
  refine E.iconst C dX1_passAlong_2 (by decide) ?_
  refine N.ist_3 C dX1_passAlong_3 (hN 3 (by decide)) rfl ?_
  have lp4 : ∀ (k4 : Nat) (t : Int) (st : Int) (w : VT), (8 - st).toNat = k4 → (0 ≤ st ∧ (∀ a j, ¬ a = 56 → ¬ a = 57 → w a j = v a j) ∧ ((t = -4 ∧ Flip (v 56) (v 57) (v 55) (v 54 5) (v 54 6) fm b (w 56) (w 57)) ∨ (¬ t = -4 ∧ PI (v 56) (v 57) (v 55) (v 58) (v 54 5) (v 54 6) b D rk (w 56) (w 57) t st))) → E X G 0 0 1000 w 4 [some (vr 54), some (vi r), some (vi t), some (vi st), none, none] [] := by
    intro k4
    induction k4 using Nat.strongRecOn with
    | ind k4 ih4 =>
      intro t st w hk4 hI4
      obtain ⟨hs0, hfr, hst⟩ := hI4
      refine E.iload_n C dX1_passAlong_4 rfl rfl ?_
      refine E.bipush C dX1_passAlong_5 (by decide) ?_
      refine E.icmp_ge C dX1_passAlong_7 (tgt := 49) (by decide) (fun h7 => ?_) (fun h7 => ?_)
      · skip
        exact N.vret C hR dX1_passAlong_49 (fun hi => by first | exact ⟨hfr, (hst.resolve_right (fun hq => hq.1 h13)).2⟩ | exact ⟨hfr, (hst.resolve_right (fun hq => by have h1 := hq.2.2.1; have h2 := hway t hq.2.1; omega)).2⟩)
      · skip
        refine E.iload_n C dX1_passAlong_10 rfl rfl ?_
        refine E.bipush C dX1_passAlong_11 (by decide) ?_
        refine E.icmp_eq C dX1_passAlong_13 (tgt := 49) (by decide) (fun h13 => ?_) (fun h13 => ?_)
        · skip
          exact N.vret C hR dX1_passAlong_49 (fun hi => by first | exact ⟨hfr, (hst.resolve_right (fun hq => hq.1 h13)).2⟩ | exact ⟨hfr, (hst.resolve_right (fun hq => by have h1 := hq.2.2.1; have h2 := hway t hq.2.1; omega)).2⟩)
        · skip
          have hpi : PI (v 56) (v 57) (v 55) (v 58) (v 54 5) (v 54 6) b D rk (w 56) (w 57) t st := by
            rcases hst with hst | hst
            · exact absurd hst.1 h13
            · exact hst.2
          have hwt := hway t hpi.1
          refine E.aload_n C dX1_passAlong_16 rfl rfl ?_
          refine N.getR C fa_X1_21 rfl dX1_passAlong_17 kd_54 (x := 58) (by decide +kernel) (by decide) ?_
          refine E.iload_n C dX1_passAlong_20 rfl rfl ?_
          refine N.iald C dX1_passAlong_21 kd_58 ln_58 (by omega) (x := v 58 t) (hfr _ _ (by decide) (by decide)) ?_
          refine N.ist_4 C dX1_passAlong_22 (hN 4 (by decide)) rfl ?_
          refine E.aload_n C dX1_passAlong_24 rfl rfl ?_
          refine N.getR C fa_X1_15 rfl dX1_passAlong_25 kd_54 (x := 56) (by decide +kernel) (by decide) ?_
          refine E.iload C dX1_passAlong_28 rfl ?_
          refine N.iald C dX1_passAlong_30 kd_56 ln_56 (by omega) (x := w 56 (v 58 t)) rfl ?_
          refine N.ist_5 C dX1_passAlong_31 (hN 5 (by decide)) rfl ?_
          refine E.aload_n C dX1_passAlong_33 rfl rfl ?_
          refine E.iload C dX1_passAlong_34 rfl ?_
          refine E.iload_n C dX1_passAlong_36 rfl rfl ?_
          refine N.callVe (S := []) (As := [vi (v 58 t), vi t]) C hX (ok_X1_give G (v 58 t) t w (by omega)) yf_X1_give yv_X1_give ml_X1_94 rfl rfl rfl kd_54 (by decide) (by decide) (Nat.le_of_ble_eq_true rfl) dX1_passAlong_37 rfl ?_
          refine E.iload C dX1_passAlong_40 rfl ?_
          refine N.ist_2 C dX1_passAlong_42 (hN 2 (by decide)) rfl ?_
          refine N.iinc_3 C dX1_passAlong_43 (hN 3 (by decide)) rfl (by omega) ?_
          refine E.goto C dX1_passAlong_46 (tgt := 4) (by decide) ?_
          refine E.drop (i := 4) ?_
          refine E.drop (i := 5) ?_
          exact ih4 _ (by omega) (w 56 (v 58 t)) (st + 1) (upd2 (upd2 w 56 (v 58 t) t) 57 t (v 58 t)) rfl (by refine ⟨by omega, fun a j g1 g2 => (upd2_ne _ _ _ _ _ _ (Or.inl g2)).trans ((upd2_ne _ _ _ _ _ _ (Or.inl g1)).trans (hfr a j g1 g2)), ?_⟩; by_cases hz : w 56 (v 58 t) = -4; (exact Or.inl ⟨hz, PI_cold hway hpi hz ((upd2_rowne (by decide)).trans (upd2_row _ _ _ _)) (by rw [upd2_row, upd2_rowne (by decide)])⟩); (exact Or.inr ⟨hz, PI_next hway hpi hz ((upd2_rowne (by decide)).trans (upd2_row _ _ _ _)) (by rw [upd2_row, upd2_rowne (by decide)])⟩))
  exact lp4 _ r 0 v rfl (by exact ⟨by omega, fun a j _ _ => rfl, Or.inr ⟨by omega, PI_0 hcon hway hD hfree⟩⟩)
