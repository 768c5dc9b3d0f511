set_option maxHeartbeats 4000000 in
set_option maxRecDepth 20000 in
theorem ok_X9_sheet (G : GT) (k l n : Int) (v : VT) : MNi G yX9_sheet cX9_sheet 5 (some .int) 2 46 [vr 119, vi k, vi l, vi n] v (fun x w => (¬ ((0 ≤ k ∧ k ≤ 3) ∧ (0 ≤ l ∧ l ≤ 2) ∧ n ≤ 40) ∧ x = -1 ∧ w = v) ∨ (((0 ≤ k ∧ k ≤ 3) ∧ (0 ≤ l ∧ l ≤ 2) ∧ n ≤ 40) ∧ n < 0 ∧ x = -14 ∧ w = v) ∨ (((0 ≤ k ∧ k ≤ 3) ∧ (0 ≤ l ∧ l ≤ 2) ∧ n ≤ 40) ∧ 0 ≤ n ∧ x = 1 ∧ w 135 k = l ∧ w 136 k = n ∧ (∀ i0, 0 ≤ i0 → i0 < 40 → w 137 (40 * k + i0) = 0) ∧ (∀ a j, ¬ (a = 135 ∧ j = k) → ¬ (a = 136 ∧ j = k) → ¬ (a = 137 ∧ 40 * k ≤ j ∧ j < 40 * k + 40) → w a j = v a j))) := by
  refine MN.of pn_X9_sheet [some (vr 119), some (vi k), some (vi l), some (vi n), none] 1 rfl rfl (fun X C hX hn hR => ?_)
  have hN : ∀ i : Nat, i < 5 → i < xn X := fun i h => by rw [hn]; exact h
  refine E.rngk (fun hinv => ?_)
  refine E.loc (fun hloc => ?_)
  have hin_1 : in32 k := hloc _ (List.mem_of_getElem? (i := 1) rfl)
  have hin_2 : in32 l := hloc _ (List.mem_of_getElem? (i := 2) rfl)
  have hin_3 : in32 n := hloc _ (List.mem_of_getElem? (i := 3) rfl)
  refine E.iload_n C dX9_sheet_0 rfl rfl ?_
  refine E.iload_n C dX9_sheet_1 rfl rfl ?_
  refine N.callSp (S := []) (As := [vi k, vi l]) C hX (ok_X9_isSheet G k l v) yf_X9_isSheet yv_X9_isSheet ml_X9_329 rfl (by decide) (Nat.le_of_ble_eq_true rfl) dX9_sheet_2 rfl ?_
  refine E.if_eq C dX9_sheet_5 (tgt := 14) (by decide) (fun h5 => ?_) (fun h5 => ?_)
  · have h5 := b0.mp h5
    refine E.iconst C dX9_sheet_14 (by decide) ?_
    exact N.iret C hR dX9_sheet_15 (fun hi hx => by first | exact Or.inl ⟨by omega, rfl, rfl⟩ | exact Or.inr (Or.inl ⟨by omega, by omega, rfl, rfl⟩) | exact Or.inr (Or.inr ⟨by omega, by omega, rfl, ha, hb, fun i0 g1 g2 => hz i0 g1 (by omega), hfr⟩))
  · have h5 := b0n.mp h5
    refine E.iload_n C dX9_sheet_8 rfl rfl ?_
    refine E.bipush C dX9_sheet_9 (by decide) ?_
    refine E.icmp_le C dX9_sheet_11 (tgt := 16) (by decide) (fun h11 => ?_) (fun h11 => ?_)
    · skip
      refine E.iload_n C dX9_sheet_16 rfl rfl ?_
      refine E.if_ge C dX9_sheet_17 (tgt := 23) (by decide) (fun h17 => ?_) (fun h17 => ?_)
      · skip
        refine E.aload_n C dX9_sheet_23 rfl rfl ?_
        refine N.getR C fa_X9_56 rfl dX9_sheet_24 kd_119 (x := 135) (by decide +kernel) (by decide) ?_
        refine E.iload_n C dX9_sheet_27 rfl rfl ?_
        refine E.iload_n C dX9_sheet_28 rfl rfl ?_
        refine N.iast C dX9_sheet_29 kd_135 ln_135 (by omega) ?_
        refine E.aload_n C dX9_sheet_30 rfl rfl ?_
        refine N.getR C fa_X9_59 rfl dX9_sheet_31 kd_119 (x := 136) (by decide +kernel) (by decide) ?_
        refine E.iload_n C dX9_sheet_34 rfl rfl ?_
        refine E.iload_n C dX9_sheet_35 rfl rfl ?_
        refine N.iast C dX9_sheet_36 kd_136 ln_136 (by omega) ?_
        refine E.iconst C dX9_sheet_37 (by decide) ?_
        refine N.ist_4 C dX9_sheet_38 (hN 4 (by decide)) rfl ?_
        have lp40 : ∀ (k40 : Nat) (i : Int) (w : VT), (40 - i).toNat = k40 → (0 ≤ i ∧ i ≤ 40 ∧ w 135 k = l ∧ w 136 k = n ∧ (∀ i0, 0 ≤ i0 → i0 < i → w 137 (40 * k + i0) = 0) ∧ (∀ a j, ¬ (a = 135 ∧ j = k) → ¬ (a = 136 ∧ j = k) → ¬ (a = 137 ∧ 40 * k ≤ j ∧ j < 40 * k + 40) → w a j = v a j)) → E X G 0 0 1000 w 40 [some (vr 119), some (vi k), some (vi l), some (vi n), some (vi i)] [] := by
          intro k40
          induction k40 using Nat.strongRecOn with
          | ind k40 ih40 =>
            intro i w hk40 hI40
            obtain ⟨hi0, hi1, ha, hb, hz, hfr⟩ := hI40
            refine E.iload C dX9_sheet_40 rfl ?_
            refine E.bipush C dX9_sheet_42 (by decide) ?_
            refine E.icmp_ge C dX9_sheet_44 (tgt := 66) (by decide) (fun h44 => ?_) (fun h44 => ?_)
            · skip
              refine E.iconst C dX9_sheet_66 (by decide) ?_
              exact N.iret C hR dX9_sheet_67 (fun hi hx => by first | exact Or.inl ⟨by omega, rfl, rfl⟩ | exact Or.inr (Or.inl ⟨by omega, by omega, rfl, rfl⟩) | exact Or.inr (Or.inr ⟨by omega, by omega, rfl, ha, hb, fun i0 g1 g2 => hz i0 g1 (by omega), hfr⟩))
            · skip
              refine E.aload_n C dX9_sheet_47 rfl rfl ?_
              refine N.getR C fa_X9_62 rfl dX9_sheet_48 kd_119 (x := 137) (by decide +kernel) (by decide) ?_
              refine E.bipush C dX9_sheet_51 (by decide) ?_
              refine E.iload_n C dX9_sheet_53 rfl rfl ?_
              refine E.imul C dX9_sheet_54 (by omega) ?_
              refine E.iload C dX9_sheet_55 rfl ?_
              refine E.iadd C dX9_sheet_57 (by omega) ?_
              refine E.iconst C dX9_sheet_58 (by decide) ?_
              refine N.iast C dX9_sheet_59 kd_137 ln_137 (by omega) ?_
              refine N.iinc_4 C dX9_sheet_60 (hN 4 (by decide)) rfl (by omega) ?_
              refine E.goto C dX9_sheet_63 (tgt := 40) (by decide) ?_
              exact ih40 _ (by omega) (i + 1) (upd2 w 137 ((40 * k) + i) 0) rfl (by refine ⟨by omega, by omega, (u_ne (Or.inl (by decide))).trans ha, (u_ne (Or.inl (by decide))).trans hb, fun i0 g1 g2 => ?_, fun a j g1 g2 g3 => (u_ne (by omega)).trans (hfr a j g1 g2 g3)⟩; by_cases hd : i0 = i; (rw [hd, upd2_same]); (rw [u_ne (Or.inr (by omega))]; exact hz i0 g1 (by omega)))
        exact lp40 _ 0 (upd2 (upd2 v 135 k l) 136 k n) rfl (by exact ⟨by omega, by omega, (u_ne (Or.inl (by decide))).trans (upd2_same _ _ _ _), upd2_same _ _ _ _, fun i0 h1 h2 => by omega, fun a j g1 g2 _ => by rw [u_ne (by omega), u_ne (by omega)]⟩)
      · skip
        refine E.bipush C dX9_sheet_20 (by decide) ?_
        exact N.iret C hR dX9_sheet_22 (fun hi hx => by first | exact Or.inl ⟨by omega, rfl, rfl⟩ | exact Or.inr (Or.inl ⟨by omega, by omega, rfl, rfl⟩) | exact Or.inr (Or.inr ⟨by omega, by omega, rfl, ha, hb, fun i0 g1 g2 => hz i0 g1 (by omega), hfr⟩))
    · skip
      refine E.iconst C dX9_sheet_14 (by decide) ?_
      exact N.iret C hR dX9_sheet_15 (fun hi hx => by first | exact Or.inl ⟨by omega, rfl, rfl⟩ | exact Or.inr (Or.inl ⟨by omega, by omega, rfl, rfl⟩) | exact Or.inr (Or.inr ⟨by omega, by omega, rfl, ha, hb, fun i0 g1 g2 => hz i0 g1 (by omega), hfr⟩))

set_option maxHeartbeats 4000000 in
set_option maxRecDepth 20000 in
theorem ok_X9_lay (G : GT) (k i x0 : Int) (v : VT) (hlen : ∀ k, 0 ≤ k → k < 4 → 0 ≤ v 136 k ∧ v 136 k ≤ 40) : MNi G yX9_lay cX9_lay 4 (some .int) 2 46 [vr 119, vi k, vi i, vi x0] v (fun x w => (¬ (0 ≤ k ∧ k ≤ 3) ∧ x = -1 ∧ w = v) ∨ ((0 ≤ k ∧ k ≤ 3) ∧ v 135 k = -4 ∧ x = -11 ∧ w = v) ∨ ((0 ≤ k ∧ k ≤ 3) ∧ ¬ v 135 k = -4 ∧ ¬ (0 ≤ i ∧ i < v 136 k) ∧ x = -12 ∧ w = v) ∨ ((0 ≤ k ∧ k ≤ 3) ∧ ¬ v 135 k = -4 ∧ (0 ≤ i ∧ i < v 136 k) ∧ x = 1 ∧ w = upd2 v 137 (40 * k + i) (laneV (v 135 k) x0))) := by
  refine MN.of pn_X9_lay [some (vr 119), some (vi k), some (vi i), some (vi x0)] 0 rfl rfl (fun X C hX hn hR => ?_)
  have hN : ∀ i : Nat, i < 4 → i < xn X := fun i h => by rw [hn]; exact h
  refine E.rngk (fun hinv => ?_)
  refine E.loc (fun hloc => ?_)
  have hin_1 : in32 k := hloc _ (List.mem_of_getElem? (i := 1) rfl)
  have hin_2 : in32 i := hloc _ (List.mem_of_getElem? (i := 2) rfl)
  have hin_3 : in32 x0 := hloc _ (List.mem_of_getElem? (i := 3) rfl)
  refine E.iload_n C dX9_lay_0 rfl rfl ?_
  refine E.iconst C dX9_lay_1 (by decide) ?_
  refine N.callSp (S := []) (As := [vi k, vi 0]) C hX (ok_X9_isSheet G k 0 v) yf_X9_isSheet yv_X9_isSheet ml_X9_329 rfl (by decide) (Nat.le_of_ble_eq_true rfl) dX9_lay_2 rfl ?_
  refine E.if_ne C dX9_lay_5 (tgt := 10) (by decide) (fun h5 => ?_) (fun h5 => ?_)
  · have h5 := b0n.mp h5
    have hlk := hlen k (by omega) (by omega)
    refine E.aload_n C dX9_lay_10 rfl rfl ?_
    refine N.getR C fa_X9_56 rfl dX9_lay_11 kd_119 (x := 135) (by decide +kernel) (by decide) ?_
    refine E.iload_n C dX9_lay_14 rfl rfl ?_
    refine N.iald C dX9_lay_15 kd_135 ln_135 (by omega) (x := v 135 k) rfl ?_
    refine E.bipush C dX9_lay_16 (by decide) ?_
    refine E.icmp_ne C dX9_lay_18 (tgt := 24) (by decide) (fun h18 => ?_) (fun h18 => ?_)
    · skip
      refine E.iload_n C dX9_lay_24 rfl rfl ?_
      refine E.i2l C dX9_lay_25 ?_
      refine E.lconst C dX9_lay_26 (x := 0) rfl ?_
      refine E.aload_n C dX9_lay_27 rfl rfl ?_
      refine N.getR C fa_X9_59 rfl dX9_lay_28 kd_119 (x := 136) (by decide +kernel) (by decide) ?_
      refine E.iload_n C dX9_lay_31 rfl rfl ?_
      refine N.iald C dX9_lay_32 kd_136 ln_136 (by omega) (x := v 136 k) rfl ?_
      refine E.iconst C dX9_lay_33 (by decide) ?_
      refine E.isub C dX9_lay_34 (by omega) ?_
      refine E.i2l C dX9_lay_35 ?_
      refine N.callSp (S := []) (As := [vl i, vl 0, vl ((v 136 k) - 1)]) C hX (ok_X9_in G i 0 ((v 136 k) - 1) v) yf_X9_in yv_X9_in ml_X9_93 rfl (by decide) (Nat.le_of_ble_eq_true rfl) dX9_lay_36 rfl ?_
      refine E.if_ne C dX9_lay_39 (tgt := 45) (by decide) (fun h39 => ?_) (fun h39 => ?_)
      · have h39 := b0n.mp h39
        refine E.aload_n C dX9_lay_45 rfl rfl ?_
        refine N.getR C fa_X9_62 rfl dX9_lay_46 kd_119 (x := 137) (by decide +kernel) (by decide) ?_
        refine E.bipush C dX9_lay_49 (by decide) ?_
        refine E.iload_n C dX9_lay_51 rfl rfl ?_
        refine E.imul C dX9_lay_52 (by omega) ?_
        refine E.iload_n C dX9_lay_53 rfl rfl ?_
        refine E.iadd C dX9_lay_54 (by omega) ?_
        refine E.aload_n C dX9_lay_55 rfl rfl ?_
        refine N.getR C fa_X9_56 rfl dX9_lay_56 kd_119 (x := 135) (by decide +kernel) (by decide) ?_
        refine E.iload_n C dX9_lay_59 rfl rfl ?_
        refine N.iald C dX9_lay_60 kd_135 ln_135 (by omega) (x := v 135 k) rfl ?_
        refine E.if_ne C dX9_lay_61 (tgt := 69) (by decide) (fun h61 => ?_) (fun h61 => ?_)
        · skip
          refine E.aload_n C dX9_lay_69 rfl rfl ?_
          refine N.getR C fa_X9_56 rfl dX9_lay_70 kd_119 (x := 135) (by decide +kernel) (by decide) ?_
          refine E.iload_n C dX9_lay_73 rfl rfl ?_
          refine N.iald C dX9_lay_74 kd_135 ln_135 (by omega) (x := v 135 k) rfl ?_
          refine E.iconst C dX9_lay_75 (by decide) ?_
          refine E.icmp_ne C dX9_lay_76 (tgt := 84) (by decide) (fun h76 => ?_) (fun h76 => ?_)
          · skip
            refine E.iload_n C dX9_lay_84 rfl rfl ?_
            refine N.iast C dX9_lay_85 kd_137 ln_137 (by omega) ?_
            refine E.iconst C dX9_lay_86 (by decide) ?_
            exact N.iret C hR dX9_lay_87 (fun hi hx => by unfold laneV; first | exact Or.inl ⟨by omega, rfl, rfl⟩ | exact Or.inr (Or.inl ⟨by omega, by omega, rfl, rfl⟩) | exact Or.inr (Or.inr (Or.inl ⟨by omega, by omega, by omega, rfl, rfl⟩)) | exact Or.inr (Or.inr (Or.inr ⟨by omega, by omega, by omega, rfl, by first | (rw [if_pos (by omega)]; done) | (rw [if_neg (by omega), if_pos (by omega)]; done) | (rw [if_neg (by omega), if_neg (by omega)]; done)⟩)))
          · skip
            refine E.iload_n C dX9_lay_79 rfl rfl ?_
            refine E.i2s C dX9_lay_80 ?_
            refine E.goto C dX9_lay_81 (tgt := 85) (by decide) ?_
            refine N.iast C dX9_lay_85 kd_137 ln_137 (by omega) ?_
            refine E.iconst C dX9_lay_86 (by decide) ?_
            exact N.iret C hR dX9_lay_87 (fun hi hx => by unfold laneV; first | exact Or.inl ⟨by omega, rfl, rfl⟩ | exact Or.inr (Or.inl ⟨by omega, by omega, rfl, rfl⟩) | exact Or.inr (Or.inr (Or.inl ⟨by omega, by omega, by omega, rfl, rfl⟩)) | exact Or.inr (Or.inr (Or.inr ⟨by omega, by omega, by omega, rfl, by first | (rw [if_pos (by omega)]; done) | (rw [if_neg (by omega), if_pos (by omega)]; done) | (rw [if_neg (by omega), if_neg (by omega)]; done)⟩)))
        · skip
          refine E.iload_n C dX9_lay_64 rfl rfl ?_
          refine E.i2b C dX9_lay_65 ?_
          refine E.goto C dX9_lay_66 (tgt := 85) (by decide) ?_
          refine N.iast C dX9_lay_85 kd_137 ln_137 (by omega) ?_
          refine E.iconst C dX9_lay_86 (by decide) ?_
          exact N.iret C hR dX9_lay_87 (fun hi hx => by unfold laneV; first | exact Or.inl ⟨by omega, rfl, rfl⟩ | exact Or.inr (Or.inl ⟨by omega, by omega, rfl, rfl⟩) | exact Or.inr (Or.inr (Or.inl ⟨by omega, by omega, by omega, rfl, rfl⟩)) | exact Or.inr (Or.inr (Or.inr ⟨by omega, by omega, by omega, rfl, by first | (rw [if_pos (by omega)]; done) | (rw [if_neg (by omega), if_pos (by omega)]; done) | (rw [if_neg (by omega), if_neg (by omega)]; done)⟩)))
      · have h39 := b0.mp h39
        refine E.bipush C dX9_lay_42 (by decide) ?_
        exact N.iret C hR dX9_lay_44 (fun hi hx => by unfold laneV; first | exact Or.inl ⟨by omega, rfl, rfl⟩ | exact Or.inr (Or.inl ⟨by omega, by omega, rfl, rfl⟩) | exact Or.inr (Or.inr (Or.inl ⟨by omega, by omega, by omega, rfl, rfl⟩)) | exact Or.inr (Or.inr (Or.inr ⟨by omega, by omega, by omega, rfl, by first | (rw [if_pos (by omega)]; done) | (rw [if_neg (by omega), if_pos (by omega)]; done) | (rw [if_neg (by omega), if_neg (by omega)]; done)⟩)))
    · skip
      refine E.bipush C dX9_lay_21 (by decide) ?_
      exact N.iret C hR dX9_lay_23 (fun hi hx => by unfold laneV; first | exact Or.inl ⟨by omega, rfl, rfl⟩ | exact Or.inr (Or.inl ⟨by omega, by omega, rfl, rfl⟩) | exact Or.inr (Or.inr (Or.inl ⟨by omega, by omega, by omega, rfl, rfl⟩)) | exact Or.inr (Or.inr (Or.inr ⟨by omega, by omega, by omega, rfl, by first | (rw [if_pos (by omega)]; done) | (rw [if_neg (by omega), if_pos (by omega)]; done) | (rw [if_neg (by omega), if_neg (by omega)]; done)⟩)))
  · have h5 := b0.mp h5
    refine E.iconst C dX9_lay_8 (by decide) ?_
    exact N.iret C hR dX9_lay_9 (fun hi hx => by unfold laneV; first | exact Or.inl ⟨by omega, rfl, rfl⟩ | exact Or.inr (Or.inl ⟨by omega, by omega, rfl, rfl⟩) | exact Or.inr (Or.inr (Or.inl ⟨by omega, by omega, by omega, rfl, rfl⟩)) | exact Or.inr (Or.inr (Or.inr ⟨by omega, by omega, by omega, rfl, by first | (rw [if_pos (by omega)]; done) | (rw [if_neg (by omega), if_pos (by omega)]; done) | (rw [if_neg (by omega), if_neg (by omega)]; done)⟩)))

set_option maxHeartbeats 4000000 in
set_option maxRecDepth 20000 in
theorem ok_X9_feed (G : GT) (x : Int) (v : VT) (hl : 0 ≤ v 119 9 ∧ v 119 9 ≤ 400) : MNi G yX9_feed cX9_feed 4 (some .int) 0 0 [vr 119, vl x] v (fun r w => (400 < v 119 9 + 8 ∧ r = -3 ∧ w = v) ∨ (v 119 9 + 8 ≤ 400 ∧ r = v 119 9 + 8 ∧ w 119 9 = v 119 9 + 8 ∧ (∀ e0, 0 ≤ e0 → e0 < 8 → w 123 (v 119 9 + e0) = byM x (56 - 8 * e0)) ∧ (∀ a j, ¬ (a = 119 ∧ j = 9) → ¬ (a = 123 ∧ v 119 9 ≤ j ∧ j < v 119 9 + 8) → w a j = v a j))) := by
  refine MN.of pn_X9_feed [some (vr 119), some (vl x), none, none] 1 rfl rfl (fun X C hX hn hR => ?_)
  have hN : ∀ i : Nat, i < 4 → i < xn X := fun i h => by rw [hn]; exact h
  refine E.rngk (fun hinv => ?_)
  refine E.loc (fun hloc => ?_)
  have hin_1 : in64 x := hloc _ (List.mem_of_getElem? (i := 1) rfl)
  refine E.aload_n C dX9_feed_0 rfl rfl ?_
  refine N.getI C fa_X9_88 rfl dX9_feed_1 kd_119 (x := v 119 9) rfl ?_
  refine E.bipush C dX9_feed_4 (by decide) ?_
  refine E.iadd C dX9_feed_6 (by omega) ?_
  refine E.sipush C dX9_feed_7 (by decide) ?_
  refine E.icmp_le C dX9_feed_10 (tgt := 16) (by decide) (fun h10 => ?_) (fun h10 => ?_)
  · skip
    refine E.bipush C dX9_feed_16 (by decide) ?_
    refine N.ist_3 C dX9_feed_18 (hN 3 (by decide)) rfl ?_
    have lp19 : ∀ (k19 : Nat) (s : Int) (i : Int) (w : VT), (8 - i).toNat = k19 → (0 ≤ i ∧ i ≤ 8 ∧ s = 56 - 8 * i ∧ w 119 9 = v 119 9 + i ∧ (∀ e0, 0 ≤ e0 → e0 < i → w 123 (v 119 9 + e0) = byM x (56 - 8 * e0)) ∧ (∀ a j, ¬ (a = 119 ∧ j = 9) → ¬ (a = 123 ∧ v 119 9 ≤ j ∧ j < v 119 9 + 8) → w a j = v a j)) → E X G 0 0 1000 w 19 [some (vr 119), some (vl x), none, some (vi s)] [] := by
      intro k19
      induction k19 using Nat.strongRecOn with
      | ind k19 ih19 =>
        intro s i w hk19 hI19
        obtain ⟨hi0, hi1, hs, h9, hby, hfr⟩ := hI19
        refine E.iload_n C dX9_feed_19 rfl rfl ?_
        refine E.if_lt C dX9_feed_20 (tgt := 56) (by decide) (fun h20 => ?_) (fun h20 => ?_)
        · skip
          refine E.aload_n C dX9_feed_56 rfl rfl ?_
          refine N.getI C fa_X9_88 rfl dX9_feed_57 kd_119 (x := v 119 9 + i) h9 ?_
          exact N.iret C hR dX9_feed_60 (fun hi hx => by first | exact Or.inl ⟨by omega, rfl, rfl⟩ | exact Or.inr ⟨by omega, by omega, by omega, fun e0 g1 g2 => hby e0 g1 (by omega), hfr⟩)
        · skip
          refine E.aload_n C dX9_feed_23 rfl rfl ?_
          refine N.getR C fa_X9_20 rfl dX9_feed_24 kd_119 (x := 123) (by decide +kernel) (by decide) ?_
          refine E.aload_n C dX9_feed_27 rfl rfl ?_
          refine N.getI C fa_X9_88 rfl dX9_feed_28 kd_119 (x := v 119 9 + i) h9 ?_
          refine E.lload_n C dX9_feed_31 rfl rfl ?_
          refine E.iload_n C dX9_feed_32 rfl rfl ?_
          refine E.lshr C dX9_feed_33 ?_
          refine E.ldc2 C ct_X9_91 (x := 255) (by decide) dX9_feed_34 ?_
          refine E.land C dX9_feed_37 ?_
          refine E.l2i C dX9_feed_38 ?_
          refine N.iast C dX9_feed_39 kd_123 ln_123 (by omega) ?_
          refine E.aload_n C dX9_feed_40 rfl rfl ?_
          refine E.dupR C dX9_feed_41 ?_
          refine N.getI C fa_X9_88 rfl dX9_feed_42 kd_119 (x := v 119 9 + i) ((upd2_ne _ _ _ _ _ _ (Or.inl (by decide))).trans h9) ?_
          refine E.iconst C dX9_feed_45 (by decide) ?_
          refine E.iadd C dX9_feed_46 (by omega) ?_
          refine N.putI C fp_X9_88 rfl dX9_feed_47 kd_119 ?_
          refine N.iinc_3 C dX9_feed_50 (hN 3 (by decide)) rfl (by omega) ?_
          refine E.goto C dX9_feed_53 (tgt := 19) (by decide) ?_
          exact ih19 _ (by omega) (s + (-8)) (i + 1) (upd2 (upd2 w 123 (v 119 9 + i) (w32 (jland (jlshr x s) 255))) 119 9 ((v 119 9 + i) + 1)) rfl (by refine ⟨by omega, by omega, by omega, (upd2_same _ _ _ _).trans (by omega), fun e0 g1 g2 => ?_, fun a j g1 g2 => by rw [u_ne (by omega), u_ne (by omega)]; exact hfr a j g1 g2⟩; rw [u_ne (Or.inl (by decide))]; by_cases hd : e0 = i; (rw [hd, upd2_same]; unfold byM; rw [hs]); (rw [u_ne (Or.inr (by omega))]; exact hby e0 g1 (by omega)))
    exact lp19 _ 56 0 v rfl (by exact ⟨by omega, by omega, by omega, by omega, fun e0 h1 h2 => by omega, fun a j _ _ => rfl⟩)
  · skip
    refine E.bipush C dX9_feed_13 (by decide) ?_
    exact N.iret C hR dX9_feed_15 (fun hi hx => by first | exact Or.inl ⟨by omega, rfl, rfl⟩ | exact Or.inr ⟨by omega, by omega, by omega, fun e0 g1 g2 => hby e0 g1 (by omega), hfr⟩)

set_option maxHeartbeats 4000000 in
set_option maxRecDepth 20000 in
theorem ok_X9_end (G : GT) (n : Int) (v : VT) : MNi G yX9_end cX9_end 3 (some .int) 1 25 [vr 119, vi n] v (fun x w => (¬ (0 ≤ n ∧ n ≤ v 119 9) ∧ x = -1 ∧ w = v) ∨ ((0 ≤ n ∧ n ≤ v 119 9) ∧ x = v 119 9 ∧ w = upd2 v 119 9 n)) := by
  refine MN.of pn_X9_end [some (vr 119), some (vi n), none] 1 rfl rfl (fun X C hX hn hR => ?_)
  have hN : ∀ i : Nat, i < 3 → i < xn X := fun i h => by rw [hn]; exact h
  refine E.rngk (fun hinv => ?_)
  refine E.loc (fun hloc => ?_)
  have hin_1 : in32 n := hloc _ (List.mem_of_getElem? (i := 1) rfl)
  refine E.iload_n C dX9_end_0 rfl rfl ?_
  refine E.i2l C dX9_end_1 ?_
  refine E.lconst C dX9_end_2 (x := 0) rfl ?_
  refine E.aload_n C dX9_end_3 rfl rfl ?_
  refine N.getI C fa_X9_88 rfl dX9_end_4 kd_119 (x := v 119 9) rfl ?_
  refine E.i2l C dX9_end_7 ?_
  refine N.callSp (S := []) (As := [vl n, vl 0, vl (v 119 9)]) C hX (ok_X9_in G n 0 (v 119 9) v) yf_X9_in yv_X9_in ml_X9_93 rfl (by decide) (Nat.le_of_ble_eq_true rfl) dX9_end_8 rfl ?_
  refine E.if_ne C dX9_end_11 (tgt := 16) (by decide) (fun h11 => ?_) (fun h11 => ?_)
  · have h11 := b0n.mp h11
    refine E.aload_n C dX9_end_16 rfl rfl ?_
    refine N.getI C fa_X9_88 rfl dX9_end_17 kd_119 (x := v 119 9) rfl ?_
    refine N.ist_2 C dX9_end_20 (hN 2 (by decide)) rfl ?_
    refine E.aload_n C dX9_end_21 rfl rfl ?_
    refine E.iload_n C dX9_end_22 rfl rfl ?_
    refine N.putI C fp_X9_88 rfl dX9_end_23 kd_119 ?_
    refine E.iload_n C dX9_end_26 rfl rfl ?_
    exact N.iret C hR dX9_end_27 (fun hi hx => by first | exact Or.inl ⟨by omega, rfl, rfl⟩ | exact Or.inr ⟨by omega, rfl, rfl⟩)
  · have h11 := b0.mp h11
    refine E.iconst C dX9_end_14 (by decide) ?_
    exact N.iret C hR dX9_end_15 (fun hi hx => by first | exact Or.inl ⟨by omega, rfl, rfl⟩ | exact Or.inr ⟨by omega, rfl, rfl⟩)

set_option maxHeartbeats 4000000 in
set_option maxRecDepth 20000 in
theorem ok_X9_look (G : GT) (p : Int) (v : VT) (hl : 0 ≤ v 119 9 ∧ v 119 9 ≤ 400) (hp : 0 ≤ p) : MP G yX9_look cX9_look 2 (some .int) 0 0 [vr 119, vi p] v (if p < v 119 9 then v 123 p else -1) := by
  refine MN.of pn_X9_look [some (vr 119), some (vi p)] 0 rfl rfl (fun X C hX hn hR => ?_)
  have hN : ∀ i : Nat, i < 2 → i < xn X := fun i h => by rw [hn]; exact h
  refine E.rngk (fun hinv => ?_)
  refine E.loc (fun hloc => ?_)
  have hin_1 : in32 p := hloc _ (List.mem_of_getElem? (i := 1) rfl)
  refine E.iload_n C dX9_look_0 rfl rfl ?_
  refine E.aload_n C dX9_look_1 rfl rfl ?_
  refine N.getI C fa_X9_88 rfl dX9_look_2 kd_119 (x := v 119 9) rfl ?_
  refine E.icmp_ge C dX9_look_5 (tgt := 17) (by decide) (fun h5 => ?_) (fun h5 => ?_)
  · skip
    refine E.iconst C dX9_look_17 (by decide) ?_
    exact N.iret C hR dX9_look_18 (fun hi hx => by refine ⟨?_, rfl⟩; split <;> first | rfl | omega)
  · skip
    refine E.aload_n C dX9_look_8 rfl rfl ?_
    refine N.getR C fa_X9_20 rfl dX9_look_9 kd_119 (x := 123) (by decide +kernel) (by decide) ?_
    refine E.iload_n C dX9_look_12 rfl rfl ?_
    refine N.iald C dX9_look_13 kd_123 ln_123 (by omega) (x := v 123 p) rfl ?_
    refine E.goto C dX9_look_14 (tgt := 18) (by decide) ?_
    exact N.iret C hR dX9_look_18 (fun hi hx => by refine ⟨?_, rfl⟩; split <;> first | rfl | omega)

set_option maxHeartbeats 4000000 in
set_option maxRecDepth 20000 in
theorem ok_X9_count (G : GT) (k : Int) (A v : VT) (hA : WFV A 0) (hM : MR A (v 120)) (h01 : ∀ k, 0 ≤ k → k < 2 → v 121 k = 0 ∨ v 121 k = 1) : MNi G yX9_count cX9_count 4 (some .int) 2 44 [vr 119, vi k] v (fun x w => w = v ∧ x = (if k = 0 then A 0 4 else if k = 1 then A 0 5 else if k = 2 then v 120 112 else if k = 3 then cntN (fun t => decide (outI (A (0 + 13 + t) 1) (A (0 + 13 + t) 3) (A (0 + 13 + t) 4) = 1)) (A 0 5).toNat else if k = 4 then v 121 0 + v 121 1 else if k = 5 then v 119 9 else if k = 6 then (if v 135 0 = -4 then -4 else v 136 0) else if k = 7 then v 119 2 else -1)) := by
  refine MN.of pn_X9_count [some (vr 119), some (vi k), none, none] 2 rfl rfl (fun X C hX hn hR => ?_)
  have hN : ∀ i : Nat, i < 4 → i < xn X := fun i h => by rw [hn]; exact h
  refine E.rngk (fun hinv => ?_)
  refine E.loc (fun hloc => ?_)
  have hin_1 : in32 k := hloc _ (List.mem_of_getElem? (i := 1) rfl)
  have hc := hM.1
  have hb := hM.2.1
  have hA1 := hA.1
  have hA2 := hA.2.1
  have z0 := h01 0 (by omega) (by omega)
  have z1 := h01 1 (by omega) (by omega)
  refine E.iconst C dX9_count_0 (by decide) ?_
  refine N.ist_2 C dX9_count_1 (hN 2 (by decide)) rfl ?_
  refine E.iconst C dX9_count_2 (by decide) ?_
  refine N.ist_3 C dX9_count_3 (hN 3 (by decide)) rfl ?_
  have lp4 : ∀ (k4 : Nat) (x : Int) (t : Int), (A 0 5 - t).toNat = k4 → (0 ≤ t ∧ t ≤ A 0 5 ∧ x = cntN (fun t => decide (outI (A (0 + 13 + t) 1) (A (0 + 13 + t) 3) (A (0 + 13 + t) 4) = 1)) t.toNat) → E X G 0 0 1000 v 4 [some (vr 119), some (vi k), some (vi x), some (vi t)] [] := by
    intro k4
    induction k4 using Nat.strongRecOn with
    | ind k4 ih4 =>
      intro x t hk4 hI4
      obtain ⟨ht0, ht1, hx⟩ := hI4; have hbd := cnt_bd (fun t => decide (outI (A (0 + 13 + t) 1) (A (0 + 13 + t) 3) (A (0 + 13 + t) 4) = 1)) t.toNat
      refine E.iload_n C dX9_count_4 rfl rfl ?_
      refine E.aload_n C dX9_count_5 rfl rfl ?_
      refine N.getR C fa_X9_7 rfl dX9_count_6 kd_119 (x := 120) (by decide +kernel) (by decide) ?_
      refine E.bipush C dX9_count_9 (by decide) ?_
      refine N.iald C dX9_count_11 kd_120 ln_120 (by omega) (x := v 120 41) rfl ?_
      refine E.icmp_ge C dX9_count_12 (tgt := 32) (by decide) (fun h12 => ?_) (fun h12 => ?_)
      · skip
        have et : t = A 0 5 := (by omega)
        rw [et] at hx
        refine E.iload_n C dX9_count_32 rfl rfl ?_
        refine E.table C dX9_count_33 (tg := fun j => if j = 0 then 80 else if j = 1 then 87 else if j = 2 then 95 else if j = 3 then 103 else if j = 4 then 105 else if j = 5 then 125 else if j = 6 then 130 else if j = 7 then 153 else 0) (tgt := 158) (fun j h0 h1 => ?_) (by decide) (fun h0 h1 => ?_) (fun h33 => ?_)
        · rcases (show j = 0 ∨ j = 1 ∨ j = 2 ∨ j = 3 ∨ j = 4 ∨ j = 5 ∨ j = 6 ∨ j = 7 by omega) with rfl | rfl | rfl | rfl | rfl | rfl | rfl | rfl <;> exact ⟨_, rfl, by decide⟩
        · rcases (show k = 0 ∨ k = 1 ∨ k = 2 ∨ k = 3 ∨ k = 4 ∨ k = 5 ∨ k = 6 ∨ k = 7 by omega) with h33 | h33 | h33 | h33 | h33 | h33 | h33 | h33
          · refine E.pceq (pc' := 80) (by rw [h33]; decide) ?_
            refine E.aload_n C dX9_count_80 rfl rfl ?_
            refine N.getR C fa_X9_7 rfl dX9_count_81 kd_119 (x := 120) (by decide +kernel) (by decide) ?_
            refine E.iconst C dX9_count_84 (by decide) ?_
            refine N.iald C dX9_count_85 kd_120 ln_120 (by omega) (x := v 120 0) rfl ?_
            exact N.iret C hR dX9_count_86 (fun hi hx => by refine ⟨rfl, ?_⟩; (repeat' split) <;> first | rfl | omega | (simp_all; done))
          · refine E.pceq (pc' := 87) (by rw [h33]; decide) ?_
            refine E.aload_n C dX9_count_87 rfl rfl ?_
            refine N.getR C fa_X9_7 rfl dX9_count_88 kd_119 (x := 120) (by decide +kernel) (by decide) ?_
            refine E.bipush C dX9_count_91 (by decide) ?_
            refine N.iald C dX9_count_93 kd_120 ln_120 (by omega) (x := v 120 41) rfl ?_
            exact N.iret C hR dX9_count_94 (fun hi hx => by refine ⟨rfl, ?_⟩; (repeat' split) <;> first | rfl | omega | (simp_all; done))
          · refine E.pceq (pc' := 95) (by rw [h33]; decide) ?_
            refine E.aload_n C dX9_count_95 rfl rfl ?_
            refine N.getR C fa_X9_7 rfl dX9_count_96 kd_119 (x := 120) (by decide +kernel) (by decide) ?_
            refine E.bipush C dX9_count_99 (by decide) ?_
            refine N.iald C dX9_count_101 kd_120 ln_120 (by omega) (x := v 120 112) rfl ?_
            exact N.iret C hR dX9_count_102 (fun hi hx => by refine ⟨rfl, ?_⟩; (repeat' split) <;> first | rfl | omega | (simp_all; done))
          · refine E.pceq (pc' := 103) (by rw [h33]; decide) ?_
            refine E.iload_n C dX9_count_103 rfl rfl ?_
            exact N.iret C hR dX9_count_104 (fun hi hx => by refine ⟨rfl, ?_⟩; (repeat' split) <;> first | rfl | omega | (simp_all; done))
          · refine E.pceq (pc' := 105) (by rw [h33]; decide) ?_
            refine E.aload_n C dX9_count_105 rfl rfl ?_
            refine N.getR C fa_X9_13 rfl dX9_count_106 kd_119 (x := 121) (by decide +kernel) (by decide) ?_
            refine E.iconst C dX9_count_109 (by decide) ?_
            refine N.zald C dX9_count_110 kd_121 ln_121 (by omega) (x := v 121 0) rfl ?_
            refine N.callSp (S := []) (As := [vi (v 121 0)]) C hX (ok_X9_flag G (v 121 0) v (by first | exact outI_01 _ _ _ | omega)) yf_X9_flag yv_X9_flag ml_X9_219 rfl (by decide) (Nat.le_of_ble_eq_true rfl) dX9_count_111 rfl ?_
            refine E.aload_n C dX9_count_114 rfl rfl ?_
            refine N.getR C fa_X9_13 rfl dX9_count_115 kd_119 (x := 121) (by decide +kernel) (by decide) ?_
            refine E.iconst C dX9_count_118 (by decide) ?_
            refine N.zald C dX9_count_119 kd_121 ln_121 (by omega) (x := v 121 1) rfl ?_
            refine N.callSp (S := [vi (v 121 0)]) (As := [vi (v 121 1)]) C hX (ok_X9_flag G (v 121 1) v (by first | exact outI_01 _ _ _ | omega)) yf_X9_flag yv_X9_flag ml_X9_219 rfl (by decide) (Nat.le_of_ble_eq_true rfl) dX9_count_120 rfl ?_
            refine E.iadd C dX9_count_123 (by omega) ?_
            exact N.iret C hR dX9_count_124 (fun hi hx => by refine ⟨rfl, ?_⟩; (repeat' split) <;> first | rfl | omega | (simp_all; done))
          · refine E.pceq (pc' := 125) (by rw [h33]; decide) ?_
            refine E.aload_n C dX9_count_125 rfl rfl ?_
            refine N.getI C fa_X9_88 rfl dX9_count_126 kd_119 (x := v 119 9) rfl ?_
            exact N.iret C hR dX9_count_129 (fun hi hx => by refine ⟨rfl, ?_⟩; (repeat' split) <;> first | rfl | omega | (simp_all; done))
          · refine E.pceq (pc' := 130) (by rw [h33]; decide) ?_
            refine E.aload_n C dX9_count_130 rfl rfl ?_
            refine N.getR C fa_X9_56 rfl dX9_count_131 kd_119 (x := 135) (by decide +kernel) (by decide) ?_
            refine E.iconst C dX9_count_134 (by decide) ?_
            refine N.iald C dX9_count_135 kd_135 ln_135 (by omega) (x := v 135 0) rfl ?_
            refine E.bipush C dX9_count_136 (by decide) ?_
            refine E.icmp_ne C dX9_count_138 (tgt := 146) (by decide) (fun h138 => ?_) (fun h138 => ?_)
            · skip
              refine E.aload_n C dX9_count_146 rfl rfl ?_
              refine N.getR C fa_X9_59 rfl dX9_count_147 kd_119 (x := 136) (by decide +kernel) (by decide) ?_
              refine E.iconst C dX9_count_150 (by decide) ?_
              refine N.iald C dX9_count_151 kd_136 ln_136 (by omega) (x := v 136 0) rfl ?_
              exact N.iret C hR dX9_count_152 (fun hi hx => by refine ⟨rfl, ?_⟩; (repeat' split) <;> first | rfl | omega | (simp_all; done))
            · skip
              refine E.bipush C dX9_count_141 (by decide) ?_
              refine E.goto C dX9_count_143 (tgt := 152) (by decide) ?_
              exact N.iret C hR dX9_count_152 (fun hi hx => by refine ⟨rfl, ?_⟩; (repeat' split) <;> first | rfl | omega | (simp_all; done))
          · refine E.pceq (pc' := 153) (by rw [h33]; decide) ?_
            refine E.aload_n C dX9_count_153 rfl rfl ?_
            refine N.getI C fa_X9_85 rfl dX9_count_154 kd_119 (x := v 119 2) rfl ?_
            exact N.iret C hR dX9_count_157 (fun hi hx => by refine ⟨rfl, ?_⟩; (repeat' split) <;> first | rfl | omega | (simp_all; done))
        · skip
          refine E.iconst C dX9_count_158 (by decide) ?_
          exact N.iret C hR dX9_count_159 (fun hi hx => by refine ⟨rfl, ?_⟩; (repeat' split) <;> first | rfl | omega | (simp_all; done))
      · skip
        refine E.iload_n C dX9_count_15 rfl rfl ?_
        refine E.aload_n C dX9_count_16 rfl rfl ?_
        refine E.iload_n C dX9_count_17 rfl rfl ?_
        refine N.callVp (S := [vi x]) (As := [vi t]) C hX (ok_X9_isOut G t v (by omega) (by have := hM.th hA t (by omega) (by omega); omega)) yf_X9_isOut yv_X9_isOut ml_X9_254 rfl rfl rfl kd_119 (by decide) (by decide) (Nat.le_of_ble_eq_true rfl) dX9_count_18 rfl ?_
        refine E.veq (x' := outI (A (0 + 13 + t) 1) (A (0 + 13 + t) 3) (A (0 + 13 + t) 4)) (by rw [hM.2.2.2.1 t 1 ht0 (by omega) (by omega) (by omega), hM.2.2.2.1 t 3 ht0 (by omega) (by omega) (by omega), hM.2.2.2.1 t 4 ht0 (by omega) (by omega) (by omega)]) ?_
        refine N.callSp (S := [vi x]) (As := [vi (outI (A (0 + 13 + t) 1) (A (0 + 13 + t) 3) (A (0 + 13 + t) 4))]) C hX (ok_X9_flag G (outI (A (0 + 13 + t) 1) (A (0 + 13 + t) 3) (A (0 + 13 + t) 4)) v (by first | exact outI_01 _ _ _ | omega)) yf_X9_flag yv_X9_flag ml_X9_219 rfl (by decide) (Nat.le_of_ble_eq_true rfl) dX9_count_21 rfl ?_
        have ho1 := outI_01 (A (0 + 13 + t) 1) (A (0 + 13 + t) 3) (A (0 + 13 + t) 4)
        refine E.iadd C dX9_count_24 (by omega) ?_
        refine N.ist_2 C dX9_count_25 (hN 2 (by decide)) rfl ?_
        refine N.iinc_3 C dX9_count_26 (hN 3 (by decide)) rfl (by omega) ?_
        refine E.goto C dX9_count_29 (tgt := 4) (by decide) ?_
        exact ih4 _ (by omega) (x + (outI (A (0 + 13 + t) 1) (A (0 + 13 + t) 3) (A (0 + 13 + t) 4))) (t + 1) rfl (by refine ⟨by omega, by omega, ?_⟩; rw [cnt_step ht0, hx]; rcases outI_01 (A (0 + 13 + t) 1) (A (0 + 13 + t) 3) (A (0 + 13 + t) 4) with q | q; (rw [q]; rfl); (rw [q]; rfl))
  exact lp4 _ 0 0 rfl (by exact ⟨by omega, by omega, rfl⟩)
