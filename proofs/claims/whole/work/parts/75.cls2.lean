set_option maxHeartbeats 4000000 in
set_option maxRecDepth 20000 in
theorem ok_X8_ahead (G : GT) (s y q k sl : Int) (v : VT) (hW : WFV v 4) (hal : v 1 10 = sl) (hsl : 0 ≤ sl ∧ sl ≤ 4) : MNi G yX8_ahead cX8_ahead 6 (some .int) 6 146 [vr 1, vi s, vi y, vi q, vi k] v (fun x w => (∀ a j, (a < 27 ∨ 49 < a) → (a < 54 ∨ 59 < a) → ¬ a = 64 → w a j = v a j) ∧ ((¬ ((0 ≤ s ∧ s ≤ 1) ∧ (1 ≤ y ∧ y ≤ 4) ∧ (k = 0 ∨ (10 ≤ k ∧ k ≤ 9 + y))) ∧ x = -1) ∨ (((0 ≤ s ∧ s ≤ 1) ∧ (1 ≤ y ∧ y ≤ 4) ∧ (k = 0 ∨ (10 ≤ k ∧ k ≤ 9 + y))) ∧ x = if k = 0 then ahdS v 4 s q sl y.toNat else ahdN v 4 s q sl (k - 10).toNat))) := by
  refine MN.of pn_X8_ahead [some (vr 1), some (vi s), some (vi y), some (vi q), some (vi k), none] 1 rfl rfl (fun X C hX hn hR => ?_)
  have hN : ∀ i : Nat, i < 6 → i < xn X := fun i h => by rw [hn]; exact h
  refine E.rngk (fun hinv => ?_)
  refine E.loc (fun hloc => ?_)
  have hin_1 : in32 s := hloc _ (List.mem_of_getElem? (i := 1) rfl)
  have hin_2 : in32 y := hloc _ (List.mem_of_getElem? (i := 2) rfl)
  have hin_3 : in32 q := hloc _ (List.mem_of_getElem? (i := 3) rfl)
  have hin_4 : in32 k := hloc _ (List.mem_of_getElem? (i := 4) rfl)
  have hW1 := hW.1
  have hW2 := hW.2.1
  have hwk := w10 hin_4
  have hik := hin_4
  unfold in32 at hik
  refine E.iload_n C dX8_ahead_0 rfl rfl ?_
  refine N.callSp (S := []) (As := [vi s]) C hX (ok_X8_isSlot G s v) yf_X8_isSlot yv_X8_isSlot ml_X8_175 rfl (by decide) (Nat.le_of_ble_eq_true rfl) dX8_ahead_1 rfl ?_
  refine E.if_eq C dX8_ahead_4 (tgt := 34) (by decide) (fun h4 => ?_) (fun h4 => ?_)
  · have h4 := b0.mp h4
    refine E.iconst C dX8_ahead_34 (by decide) ?_
    exact N.iret C hR dX8_ahead_35 (fun hi hx => by exact ⟨fun a j _ _ _ => rfl, Or.inl ⟨by omega, rfl⟩⟩)
  · have h4 := b0n.mp h4
    refine E.iload_n C dX8_ahead_7 rfl rfl ?_
    refine N.callSp (S := []) (As := [vi y]) C hX (ok_X8_isYears G y v) yf_X8_isYears yv_X8_isYears ml_X8_213 rfl (by decide) (Nat.le_of_ble_eq_true rfl) dX8_ahead_8 rfl ?_
    refine E.if_eq C dX8_ahead_11 (tgt := 34) (by decide) (fun h11 => ?_) (fun h11 => ?_)
    · have h11 := b0.mp h11
      refine E.iconst C dX8_ahead_34 (by decide) ?_
      exact N.iret C hR dX8_ahead_35 (fun hi hx => by exact ⟨fun a j _ _ _ => rfl, Or.inl ⟨by omega, rfl⟩⟩)
    · have h11 := b0n.mp h11
      refine E.iload C dX8_ahead_14 rfl ?_
      refine E.if_eq C dX8_ahead_16 (tgt := 36) (by decide) (fun h16 => ?_) (fun h16 => ?_)
      · skip
        refine E.aload_n C dX8_ahead_36 rfl rfl ?_
        refine N.getR C fa_X8_23 rfl dX8_ahead_37 kd_1 (x := 27) (by decide +kernel) (by decide) ?_
        refine E.aload_n C dX8_ahead_40 rfl rfl ?_
        refine N.getR C fa_X8_19 rfl dX8_ahead_41 kd_1 (x := 4) (by decide +kernel) (by decide) ?_
        refine N.callVe (S := []) (As := [vr 4]) C hX (ok_X7_becomeBodies G 27 4 v hv27 hv4 (Or.inr (by decide)) hW1 hW2 hW.lz) yf_X7_becomeBodies yv_X7_becomeBodies ml_X8_216 rfl rfl rfl (kdV hv27) (by decide) (by decide) (Nat.le_of_ble_eq_true rfl) dX8_ahead_44 rfl ?_
        obtain ⟨w47, hw47⟩ : ∃ zqv, zqv = (bodF v 27 4 (v 4 4) (v 4 5)) := ⟨_, rfl⟩
        refine E.heq hw47.symm ?_
        have f47 : (∀ a j, (a < 27 ∨ 49 < a) → (a < 54 ∨ 59 < a) → ¬ a = 64 → w47 a j = v a j) := fun a j g1 g2 g3 => by rw [hw47]; exact bodF_out (by omega) (by omega) (by omega)
        have s47 : Sm w47 27 v 4 := by rw [hw47]; exact sm_bod hW1 hW2
        have W47 := s47.wfv hW
        have a47 : w47 1 10 = sl := (f47 _ _ (by decide) (by decide) (by decide)).trans hal
        refine E.aload_n C dX8_ahead_47 rfl rfl ?_
        refine E.iload_n C dX8_ahead_48 rfl rfl ?_
        refine E.iload_n C dX8_ahead_49 rfl rfl ?_
        refine E.iload_n C dX8_ahead_50 rfl rfl ?_
        refine N.callVi (S := []) (As := [vi s, vi y, vi q]) C hX (ok_X8_newAhead G s y q sl w47 W47 (by omega) a47 hsl) yf_X8_newAhead yv_X8_newAhead ml_X8_219 rfl rfl rfl kd_1 (by decide) (by decide) (Nat.le_of_ble_eq_true rfl) dX8_ahead_51 rfl (fun t51 w51 hb51 hp51 => ?_)
        obtain ⟨n1, n2, n3⟩ := hp51
        have n1 := n1.trans (s47.ahs hW1 _)
        refine N.ist_5 C dX8_ahead_54 (hN 5 (by decide)) rfl ?_
        refine E.iload C dX8_ahead_56 rfl ?_
        refine E.if_ne C dX8_ahead_58 (tgt := 66) (by decide) (fun h58 => ?_) (fun h58 => ?_)
        · skip
          refine E.aload_n C dX8_ahead_66 rfl rfl ?_
          refine N.getR C fa_X8_63 rfl dX8_ahead_67 kd_1 (x := 64) (by decide +kernel) (by decide) ?_
          refine E.iload C dX8_ahead_70 rfl ?_
          refine E.bipush C dX8_ahead_72 (by decide) ?_
          refine E.isubW C dX8_ahead_74 ?_
          refine N.iald C dX8_ahead_75 kd_64 ln_64 (by omega) (x := w51 64 (w32 (k - 10))) rfl ?_
          exact N.iret C hR dX8_ahead_76 (fun hi hx => by refine ⟨fun a j g1 g2 g3 => (n3 a j g1 g2 g3).trans (f47 a j g1 g2 g3), Or.inr ⟨by omega, ?_⟩⟩; first | (rw [if_pos (by omega)]; exact n1) | (rw [if_neg (by omega), show w32 (k - 10) = k - 10 by omega, n2 _ (by omega) (by omega)]; exact s47.ahn hW1 _))
        · skip
          refine E.iload C dX8_ahead_61 rfl ?_
          refine E.goto C dX8_ahead_63 (tgt := 76) (by decide) ?_
          exact N.iret C hR dX8_ahead_76 (fun hi hx => by refine ⟨fun a j g1 g2 g3 => (n3 a j g1 g2 g3).trans (f47 a j g1 g2 g3), Or.inr ⟨by omega, ?_⟩⟩; first | (rw [if_pos (by omega)]; exact n1) | (rw [if_neg (by omega), show w32 (k - 10) = k - 10 by omega, n2 _ (by omega) (by omega)]; exact s47.ahn hW1 _))
      · skip
        refine E.iload C dX8_ahead_19 rfl ?_
        refine E.bipush C dX8_ahead_21 (by decide) ?_
        refine E.isubW C dX8_ahead_23 ?_
        refine E.iconst C dX8_ahead_24 (by decide) ?_
        refine E.iload_n C dX8_ahead_25 rfl rfl ?_
        refine E.iconst C dX8_ahead_26 (by decide) ?_
        refine E.isub C dX8_ahead_27 (by omega) ?_
        refine N.callSp (S := []) (As := [vi (w32 (k - 10)), vi 0, vi (y - 1)]) C hX (ok_X8_within G (w32 (k - 10)) 0 (y - 1) v) yf_X8_within yv_X8_within ml_X8_85 rfl (by decide) (Nat.le_of_ble_eq_true rfl) dX8_ahead_28 rfl ?_
        refine E.if_ne C dX8_ahead_31 (tgt := 36) (by decide) (fun h31 => ?_) (fun h31 => ?_)
        · have h31 := b0n.mp h31
          refine E.aload_n C dX8_ahead_36 rfl rfl ?_
          refine N.getR C fa_X8_23 rfl dX8_ahead_37 kd_1 (x := 27) (by decide +kernel) (by decide) ?_
          refine E.aload_n C dX8_ahead_40 rfl rfl ?_
          refine N.getR C fa_X8_19 rfl dX8_ahead_41 kd_1 (x := 4) (by decide +kernel) (by decide) ?_
          refine N.callVe (S := []) (As := [vr 4]) C hX (ok_X7_becomeBodies G 27 4 v hv27 hv4 (Or.inr (by decide)) hW1 hW2 hW.lz) yf_X7_becomeBodies yv_X7_becomeBodies ml_X8_216 rfl rfl rfl (kdV hv27) (by decide) (by decide) (Nat.le_of_ble_eq_true rfl) dX8_ahead_44 rfl ?_
          obtain ⟨w47, hw47⟩ : ∃ zqv, zqv = (bodF v 27 4 (v 4 4) (v 4 5)) := ⟨_, rfl⟩
          refine E.heq hw47.symm ?_
          have f47 : (∀ a j, (a < 27 ∨ 49 < a) → (a < 54 ∨ 59 < a) → ¬ a = 64 → w47 a j = v a j) := fun a j g1 g2 g3 => by rw [hw47]; exact bodF_out (by omega) (by omega) (by omega)
          have s47 : Sm w47 27 v 4 := by rw [hw47]; exact sm_bod hW1 hW2
          have W47 := s47.wfv hW
          have a47 : w47 1 10 = sl := (f47 _ _ (by decide) (by decide) (by decide)).trans hal
          refine E.aload_n C dX8_ahead_47 rfl rfl ?_
          refine E.iload_n C dX8_ahead_48 rfl rfl ?_
          refine E.iload_n C dX8_ahead_49 rfl rfl ?_
          refine E.iload_n C dX8_ahead_50 rfl rfl ?_
          refine N.callVi (S := []) (As := [vi s, vi y, vi q]) C hX (ok_X8_newAhead G s y q sl w47 W47 (by omega) a47 hsl) yf_X8_newAhead yv_X8_newAhead ml_X8_219 rfl rfl rfl kd_1 (by decide) (by decide) (Nat.le_of_ble_eq_true rfl) dX8_ahead_51 rfl (fun t51 w51 hb51 hp51 => ?_)
          obtain ⟨n1, n2, n3⟩ := hp51
          have n1 := n1.trans (s47.ahs hW1 _)
          refine N.ist_5 C dX8_ahead_54 (hN 5 (by decide)) rfl ?_
          refine E.iload C dX8_ahead_56 rfl ?_
          refine E.if_ne C dX8_ahead_58 (tgt := 66) (by decide) (fun h58 => ?_) (fun h58 => ?_)
          · skip
            refine E.aload_n C dX8_ahead_66 rfl rfl ?_
            refine N.getR C fa_X8_63 rfl dX8_ahead_67 kd_1 (x := 64) (by decide +kernel) (by decide) ?_
            refine E.iload C dX8_ahead_70 rfl ?_
            refine E.bipush C dX8_ahead_72 (by decide) ?_
            refine E.isubW C dX8_ahead_74 ?_
            refine N.iald C dX8_ahead_75 kd_64 ln_64 (by omega) (x := w51 64 (w32 (k - 10))) rfl ?_
            exact N.iret C hR dX8_ahead_76 (fun hi hx => by refine ⟨fun a j g1 g2 g3 => (n3 a j g1 g2 g3).trans (f47 a j g1 g2 g3), Or.inr ⟨by omega, ?_⟩⟩; first | (rw [if_pos (by omega)]; exact n1) | (rw [if_neg (by omega), show w32 (k - 10) = k - 10 by omega, n2 _ (by omega) (by omega)]; exact s47.ahn hW1 _))
          · skip
            refine E.iload C dX8_ahead_61 rfl ?_
            refine E.goto C dX8_ahead_63 (tgt := 76) (by decide) ?_
            exact N.iret C hR dX8_ahead_76 (fun hi hx => by refine ⟨fun a j g1 g2 g3 => (n3 a j g1 g2 g3).trans (f47 a j g1 g2 g3), Or.inr ⟨by omega, ?_⟩⟩; first | (rw [if_pos (by omega)]; exact n1) | (rw [if_neg (by omega), show w32 (k - 10) = k - 10 by omega, n2 _ (by omega) (by omega)]; exact s47.ahn hW1 _))
        · have h31 := b0.mp h31
          refine E.iconst C dX8_ahead_34 (by decide) ?_
          exact N.iret C hR dX8_ahead_35 (fun hi hx => by exact ⟨fun a j _ _ _ => rfl, Or.inl ⟨by omega, rfl⟩⟩)

set_option maxHeartbeats 4000000 in
set_option maxRecDepth 20000 in
theorem ok_X8_strong (G : GT) (s y q sl : Int) (v : VT) (hW : WFV v 4) (hal : v 1 10 = sl) (hsl : 0 ≤ sl ∧ sl ≤ 4) : MNi G yX8_strong cX8_strong 5 (some .int) 6 146 [vr 1, vi s, vi y, vi q] v (fun x w => (∀ a j, (a < 27 ∨ 49 < a) → (a < 54 ∨ 59 < a) → ¬ a = 64 → w a j = v a j) ∧ ((¬ ((0 ≤ s ∧ s ≤ 1) ∧ (1 ≤ y ∧ y ≤ 4)) ∧ x = -1) ∨ (((0 ≤ s ∧ s ≤ 1) ∧ (1 ≤ y ∧ y ≤ 4)) ∧ ((1 ≤ x ∧ x ≤ 9 ∧ ahdS (strF v 4 s x (v 4 5)) 4 s q sl y.toNat = 0 ∧ ∀ l, 1 ≤ l → l < x → ¬ ahdS (strF v 4 s l (v 4 5)) 4 s q sl y.toNat = 0) ∨ (x = -4 ∧ ∀ l, 1 ≤ l → l ≤ 9 → ¬ ahdS (strF v 4 s l (v 4 5)) 4 s q sl y.toNat = 0))))) := by
  refine MN.of pn_X8_strong [some (vr 1), some (vi s), some (vi y), some (vi q), none] 1 rfl rfl (fun X C hX hn hR => ?_)
  have hN : ∀ i : Nat, i < 5 → i < xn X := fun i h => by rw [hn]; exact h
  refine E.rngk (fun hinv => ?_)
  refine E.loc (fun hloc => ?_)
  have hin_1 : in32 s := hloc _ (List.mem_of_getElem? (i := 1) rfl)
  have hin_2 : in32 y := hloc _ (List.mem_of_getElem? (i := 2) rfl)
  have hin_3 : in32 q := hloc _ (List.mem_of_getElem? (i := 3) rfl)
  have hW1 := hW.1
  have hW2 := hW.2.1
  refine E.iload_n C dX8_strong_0 rfl rfl ?_
  refine N.callSp (S := []) (As := [vi s]) C hX (ok_X8_isSlot G s v) yf_X8_isSlot yv_X8_isSlot ml_X8_175 rfl (by decide) (Nat.le_of_ble_eq_true rfl) dX8_strong_1 rfl ?_
  refine E.if_eq C dX8_strong_4 (tgt := 14) (by decide) (fun h4 => ?_) (fun h4 => ?_)
  · have h4 := b0.mp h4
    refine E.iconst C dX8_strong_14 (by decide) ?_
    exact N.iret C hR dX8_strong_15 (fun hi hx => by exact ⟨fun a j _ _ _ => rfl, Or.inl ⟨by omega, rfl⟩⟩)
  · have h4 := b0n.mp h4
    refine E.iload_n C dX8_strong_7 rfl rfl ?_
    refine N.callSp (S := []) (As := [vi y]) C hX (ok_X8_isYears G y v) yf_X8_isYears yv_X8_isYears ml_X8_213 rfl (by decide) (Nat.le_of_ble_eq_true rfl) dX8_strong_8 rfl ?_
    refine E.if_ne C dX8_strong_11 (tgt := 16) (by decide) (fun h11 => ?_) (fun h11 => ?_)
    · have h11 := b0n.mp h11
      refine E.iconst C dX8_strong_16 (by decide) ?_
      refine N.ist_4 C dX8_strong_17 (hN 4 (by decide)) rfl ?_
      have lp19 : ∀ (k19 : Nat) (l : Int) (w : VT), (10 - l).toNat = k19 → (1 ≤ l ∧ l ≤ 10 ∧ (∀ a j, (a < 27 ∨ 49 < a) → (a < 54 ∨ 59 < a) → ¬ a = 64 → w a j = v a j) ∧ (∀ i, 1 ≤ i → i < l → ¬ ahdS (strF v 4 s i (v 4 5)) 4 s q sl y.toNat = 0)) → E X G 0 0 1000 w 19 [some (vr 1), some (vi s), some (vi y), some (vi q), some (vi l)] [] := by
        intro k19
        induction k19 using Nat.strongRecOn with
        | ind k19 ih19 =>
          intro l w hk19 hI19
          obtain ⟨hl0, hl1, hfr, hno⟩ := hI19; have sw : Sm w 4 v 4 := sm_of (fun a j g1 g2 => hfr a j (by omega) (by omega) (by omega)) hW1.2 hW2.2; have Ww := sw.wfv hW; have Ww1 := Ww.1; have Ww2 := Ww.2.1; have Ww3 := Ww.lz
          refine E.iload C dX8_strong_19 rfl ?_
          refine E.bipush C dX8_strong_21 (by decide) ?_
          refine E.icmp_gt C dX8_strong_23 (tgt := 66) (by decide) (fun h23 => ?_) (fun h23 => ?_)
          · skip
            refine E.bipush C dX8_strong_66 (by decide) ?_
            exact N.iret C hR dX8_strong_68 (fun hi hx => by exact ⟨hfr, Or.inr ⟨by omega, Or.inr ⟨rfl, fun i h1 h2 => hno i h1 (by omega)⟩⟩⟩)
          · skip
            refine E.aload_n C dX8_strong_26 rfl rfl ?_
            refine N.getR C fa_X8_23 rfl dX8_strong_27 kd_1 (x := 27) (by decide +kernel) (by decide) ?_
            refine E.aload_n C dX8_strong_30 rfl rfl ?_
            refine N.getR C fa_X8_19 rfl dX8_strong_31 kd_1 (x := 4) (by decide +kernel) (by decide) ?_
            refine N.callVe (S := []) (As := [vr 4]) C hX (ok_X7_becomeBodies G 27 4 w hv27 hv4 (Or.inr (by decide)) Ww1 Ww2 Ww3) yf_X7_becomeBodies yv_X7_becomeBodies ml_X8_216 rfl rfl rfl (kdV hv27) (by decide) (by decide) (Nat.le_of_ble_eq_true rfl) dX8_strong_34 rfl ?_
            refine E.aload_n C dX8_strong_37 rfl rfl ?_
            refine N.getR C fa_X8_23 rfl dX8_strong_38 kd_1 (x := 27) (by decide +kernel) (by decide) ?_
            refine E.iload_n C dX8_strong_41 rfl rfl ?_
            refine E.iload C dX8_strong_42 rfl ?_
            refine N.callVe (S := []) (As := [vi s, vi l]) C hX (ok_X7_strengthen G 27 s l (bodF w 27 4 (w 4 4) (w 4 5)) hv27 (by rw [bodF_5]; exact Ww2)) yf_X7_strengthen yv_X7_strengthen ml_X8_223 rfl rfl rfl (kdV hv27) (by decide) (by decide) (Nat.le_of_ble_eq_true rfl) dX8_strong_44 rfl ?_
            obtain ⟨w47, hw47⟩ : ∃ zqv, zqv = (strF (bodF w 27 4 (w 4 4) (w 4 5)) 27 s l ((bodF w 27 4 (w 4 4) (w 4 5)) 27 5)) := ⟨_, rfl⟩
            refine E.heq hw47.symm ?_
            have b37 : Sm (bodF w 27 4 (w 4 4) (w 4 5)) 27 v 4 := (sm_bod Ww1 Ww2).tr sw
            have s47 : Sm w47 27 (strF v 4 s l (v 4 5)) 4 := by rw [hw47]; exact b37.str hW1.2
            have W47 := s47.wfv (hW.str (by omega))
            have f47 : (∀ a j, (a < 27 ∨ 49 < a) → (a < 54 ∨ 59 < a) → ¬ a = 64 → w47 a j = v a j) := fun a j g1 g2 g3 => by rw [hw47, strF_out (by rw [bodF_5]; omega), bodF_out (by omega) (by omega) (by omega)]; exact hfr a j g1 g2 g3
            have a47 : w47 1 10 = sl := (f47 _ _ (by decide) (by decide) (by decide)).trans hal
            refine E.aload_n C dX8_strong_47 rfl rfl ?_
            refine E.iload_n C dX8_strong_48 rfl rfl ?_
            refine E.iload_n C dX8_strong_49 rfl rfl ?_
            refine E.iload_n C dX8_strong_50 rfl rfl ?_
            refine N.callVi (S := []) (As := [vi s, vi y, vi q]) C hX (ok_X8_newAhead G s y q sl w47 W47 (by omega) a47 hsl) yf_X8_newAhead yv_X8_newAhead ml_X8_219 rfl rfl rfl kd_1 (by decide) (by decide) (Nat.le_of_ble_eq_true rfl) dX8_strong_51 rfl (fun t51 w51 hb51 hp51 => ?_)
            obtain ⟨n1, n2, n3⟩ := hp51
            have n1 := n1.trans (s47.ahs (by rw [strF_out (by omega)]; exact hW1) _)
            refine E.if_ne C dX8_strong_54 (tgt := 60) (by decide) (fun h54 => ?_) (fun h54 => ?_)
            · skip
              refine N.iinc_4 C dX8_strong_60 (hN 4 (by decide)) rfl (by omega) ?_
              refine E.goto C dX8_strong_63 (tgt := 19) (by decide) ?_
              exact ih19 _ (by omega) (l + 1) w51 rfl (by refine ⟨by omega, by omega, fun a j g1 g2 g3 => (n3 a j g1 g2 g3).trans (f47 a j g1 g2 g3), fun i h1 h2 => ?_⟩; by_cases hi : i = l; (rw [hi, ← n1]; exact h54); exact hno i h1 (by omega))
            · skip
              refine E.iload C dX8_strong_57 rfl ?_
              exact N.iret C hR dX8_strong_59 (fun hi hx => by exact ⟨fun a j g1 g2 g3 => (n3 a j g1 g2 g3).trans (f47 a j g1 g2 g3), Or.inr ⟨by omega, Or.inl ⟨by omega, by omega, by rw [← n1]; exact h54, hno⟩⟩⟩)
      exact lp19 _ 1 v rfl (by exact ⟨by omega, by omega, fun a j _ _ _ => rfl, fun i h1 h2 => by omega⟩)
    · have h11 := b0.mp h11
      refine E.iconst C dX8_strong_14 (by decide) ?_
      exact N.iret C hR dX8_strong_15 (fun hi hx => by exact ⟨fun a j _ _ _ => rfl, Or.inl ⟨by omega, rfl⟩⟩)

set_option maxHeartbeats 4000000 in
set_option maxRecDepth 20000 in
theorem ok_X8_cut (G : GT) (t z : Int) (v : VT) (hW : WFV v 4) : MNi G yX8_cut cX8_cut 4 (some .int) 1 22 [vr 1, vi t, vi z] v (fun x w => (¬ (0 ≤ t ∧ t < v 4 5 ∧ 1 ≤ z ∧ z ≤ v (4 + 13 + t) 2 - 1) ∧ x = -1 ∧ w = v) ∨ ((0 ≤ t ∧ t < v 4 5 ∧ 1 ≤ z ∧ z ≤ v (4 + 13 + t) 2 - 1) ∧ ¬ v (4 + 13 + t) 7 = -4 ∧ x = -2 ∧ w = v) ∨ ((0 ≤ t ∧ t < v 4 5 ∧ 1 ≤ z ∧ z ≤ v (4 + 13 + t) 2 - 1) ∧ v (4 + 13 + t) 7 = -4 ∧ x = v (4 + 13 + t) 2 ∧ w = cutV v 4 t z)) := by
  refine MN.of pn_X8_cut [some (vr 1), some (vi t), some (vi z), none] 1 rfl rfl (fun X C hX hn hR => ?_)
  have hN : ∀ i : Nat, i < 4 → i < xn X := fun i h => by rw [hn]; exact h
  refine E.rngk (fun hinv => ?_)
  refine E.loc (fun hloc => ?_)
  have hin_1 : in32 t := hloc _ (List.mem_of_getElem? (i := 1) rfl)
  have hin_2 : in32 z := hloc _ (List.mem_of_getElem? (i := 2) rfl)
  have hW1 := hW.1
  have hW2 := hW.2.1
  refine E.aload_n C dX8_cut_0 rfl rfl ?_
  refine N.getR C fa_X8_19 rfl dX8_cut_1 kd_1 (x := 4) (by decide +kernel) (by decide) ?_
  refine E.iload_n C dX8_cut_4 rfl rfl ?_
  refine N.callVp (S := []) (As := [vi t]) C hX (ok_X7_hasThing G 4 t v hv4) yf_X7_hasThing yv_X7_hasThing ml_X8_129 rfl rfl rfl (kdV hv4) (by decide) (by decide) (Nat.le_of_ble_eq_true rfl) dX8_cut_5 rfl ?_
  refine E.if_eq C dX8_cut_8 (tgt := 33) (by decide) (fun h8 => ?_) (fun h8 => ?_)
  · have h8 := b0.mp h8
    refine E.iconst C dX8_cut_33 (by decide) ?_
    exact N.iret C hR dX8_cut_34 (fun hi hx => by first | exact Or.inl ⟨by omega, rfl, rfl⟩ | exact Or.inr (Or.inl ⟨by omega, by omega, rfl, rfl⟩) | exact Or.inr (Or.inr ⟨by omega, by omega, rfl, rfl⟩))
  · have h8 := b0n.mp h8
    refine E.iload_n C dX8_cut_11 rfl rfl ?_
    refine E.iconst C dX8_cut_12 (by decide) ?_
    have hth := hW.th t (by omega) (by omega)
    unfold thOK at hth
    refine E.aload_n C dX8_cut_13 rfl rfl ?_
    refine N.getR C fa_X8_19 rfl dX8_cut_14 kd_1 (x := 4) (by decide +kernel) (by decide) ?_
    refine N.getR C fa_X8_132 rfl dX8_cut_17 (kdV hv4) (x := 4 + 2) (rvV1 hv4) (by have := posVk hv4; omega) ?_
    refine E.iload_n C dX8_cut_20 rfl rfl ?_
    refine N.aald C (t := 5) (by decide) dX8_cut_21 (kdVt hv4) (lnVt hv4) (by omega) (x := 4 + 13 + t) (rvVt hv4 (by omega)) (by have := posVk hv4; omega) ?_
    refine N.getI C fa_X8_144 rfl dX8_cut_22 (kdVT hv4 (by omega)) (x := v (4 + 13 + t) 2) rfl ?_
    refine E.iconst C dX8_cut_25 (by decide) ?_
    refine E.isub C dX8_cut_26 (by omega) ?_
    refine N.callSp (S := []) (As := [vi z, vi 1, vi ((v (4 + 13 + t) 2) - 1)]) C hX (ok_X8_within G z 1 ((v (4 + 13 + t) 2) - 1) v) yf_X8_within yv_X8_within ml_X8_85 rfl (by decide) (Nat.le_of_ble_eq_true rfl) dX8_cut_27 rfl ?_
    refine E.if_ne C dX8_cut_30 (tgt := 35) (by decide) (fun h30 => ?_) (fun h30 => ?_)
    · have h30 := b0n.mp h30
      refine E.aload_n C dX8_cut_35 rfl rfl ?_
      refine N.getR C fa_X8_19 rfl dX8_cut_36 kd_1 (x := 4) (by decide +kernel) (by decide) ?_
      refine N.getR C fa_X8_132 rfl dX8_cut_39 (kdV hv4) (x := 4 + 2) (rvV1 hv4) (by have := posVk hv4; omega) ?_
      refine E.iload_n C dX8_cut_42 rfl rfl ?_
      refine N.aald C (t := 5) (by decide) dX8_cut_43 (kdVt hv4) (lnVt hv4) (by omega) (x := 4 + 13 + t) (rvVt hv4 (by omega)) (by have := posVk hv4; omega) ?_
      refine N.getI C fa_X8_158 rfl dX8_cut_44 (kdVT hv4 (by omega)) (x := v (4 + 13 + t) 7) rfl ?_
      refine E.bipush C dX8_cut_47 (by decide) ?_
      refine E.icmp_eq C dX8_cut_49 (tgt := 55) (by decide) (fun h49 => ?_) (fun h49 => ?_)
      · skip
        refine E.aload_n C dX8_cut_55 rfl rfl ?_
        refine N.getR C fa_X8_19 rfl dX8_cut_56 kd_1 (x := 4) (by decide +kernel) (by decide) ?_
        refine N.getR C fa_X8_132 rfl dX8_cut_59 (kdV hv4) (x := 4 + 2) (rvV1 hv4) (by have := posVk hv4; omega) ?_
        refine E.iload_n C dX8_cut_62 rfl rfl ?_
        refine N.aald C (t := 5) (by decide) dX8_cut_63 (kdVt hv4) (lnVt hv4) (by omega) (x := 4 + 13 + t) (rvVt hv4 (by omega)) (by have := posVk hv4; omega) ?_
        refine N.getI C fa_X8_144 rfl dX8_cut_64 (kdVT hv4 (by omega)) (x := v (4 + 13 + t) 2) rfl ?_
        refine N.ist_3 C dX8_cut_67 (hN 3 (by decide)) rfl ?_
        refine E.aload_n C dX8_cut_68 rfl rfl ?_
        refine N.getR C fa_X8_19 rfl dX8_cut_69 kd_1 (x := 4) (by decide +kernel) (by decide) ?_
        refine N.getR C fa_X8_132 rfl dX8_cut_72 (kdV hv4) (x := 4 + 2) (rvV1 hv4) (by have := posVk hv4; omega) ?_
        refine E.iload_n C dX8_cut_75 rfl rfl ?_
        refine N.aald C (t := 5) (by decide) dX8_cut_76 (kdVt hv4) (lnVt hv4) (by omega) (x := 4 + 13 + t) (rvVt hv4 (by omega)) (by have := posVk hv4; omega) ?_
        refine E.iload_n C dX8_cut_77 rfl rfl ?_
        refine N.putI C fp_X8_144 rfl dX8_cut_78 (kdVT hv4 (by omega)) ?_
        refine E.iload_n C dX8_cut_81 rfl rfl ?_
        exact N.iret C hR dX8_cut_82 (fun hi hx => by first | exact Or.inl ⟨by omega, rfl, rfl⟩ | exact Or.inr (Or.inl ⟨by omega, by omega, rfl, rfl⟩) | exact Or.inr (Or.inr ⟨by omega, by omega, rfl, rfl⟩))
      · skip
        refine E.bipush C dX8_cut_52 (by decide) ?_
        exact N.iret C hR dX8_cut_54 (fun hi hx => by first | exact Or.inl ⟨by omega, rfl, rfl⟩ | exact Or.inr (Or.inl ⟨by omega, by omega, rfl, rfl⟩) | exact Or.inr (Or.inr ⟨by omega, by omega, rfl, rfl⟩))
    · have h30 := b0.mp h30
      refine E.iconst C dX8_cut_33 (by decide) ?_
      exact N.iret C hR dX8_cut_34 (fun hi hx => by first | exact Or.inl ⟨by omega, rfl, rfl⟩ | exact Or.inr (Or.inl ⟨by omega, by omega, rfl, rfl⟩) | exact Or.inr (Or.inr ⟨by omega, by omega, rfl, rfl⟩))

set_option maxHeartbeats 4000000 in
set_option maxRecDepth 20000 in
theorem ok_X8_startCuts (G : GT) (s y q sl : Int) (v : VT) (hW : WFV v 4) (hal : v 1 10 = sl) (hsl : 0 ≤ sl ∧ sl ≤ 4) (hy : 1 ≤ y ∧ y ≤ 4) : MNv G yX8_startCuts cX8_startCuts 4 none 6 146 [vr 1, vi s, vi y, vi q] v (fun w => (∀ a j, (a < 27 ∨ 49 < a) → (a < 54 ∨ 59 < a) → ¬ a = 64 → (¬ a = 1 ∨ j < 13) → w a j = v a j) ∧ w 1 15 = ahdS v 4 s q sl y.toNat ∧ w 1 13 = -4 ∧ w 1 14 = 0) := by
  refine MN.of pn_X8_startCuts [some (vr 1), some (vi s), some (vi y), some (vi q)] 0 rfl rfl (fun X C hX hn hR => ?_)
  have hN : ∀ i : Nat, i < 4 → i < xn X := fun i h => by rw [hn]; exact h
  refine E.rngk (fun hinv => ?_)
  refine E.loc (fun hloc => ?_)
  have hin_1 : in32 s := hloc _ (List.mem_of_getElem? (i := 1) rfl)
  have hin_2 : in32 y := hloc _ (List.mem_of_getElem? (i := 2) rfl)
  have hin_3 : in32 q := hloc _ (List.mem_of_getElem? (i := 3) rfl)
  have hW1 := hW.1
  have hW2 := hW.2.1
  refine E.aload_n C dX8_startCuts_0 rfl rfl ?_
  refine N.getR C fa_X8_23 rfl dX8_startCuts_1 kd_1 (x := 27) (by decide +kernel) (by decide) ?_
  refine E.aload_n C dX8_startCuts_4 rfl rfl ?_
  refine N.getR C fa_X8_19 rfl dX8_startCuts_5 kd_1 (x := 4) (by decide +kernel) (by decide) ?_
  refine N.callVe (S := []) (As := [vr 4]) C hX (ok_X7_becomeBodies G 27 4 v hv27 hv4 (Or.inr (by decide)) hW1 hW2 hW.lz) yf_X7_becomeBodies yv_X7_becomeBodies ml_X8_216 rfl rfl rfl (kdV hv27) (by decide) (by decide) (Nat.le_of_ble_eq_true rfl) dX8_startCuts_8 rfl ?_
  obtain ⟨w11, hw11⟩ : ∃ zqv, zqv = (bodF v 27 4 (v 4 4) (v 4 5)) := ⟨_, rfl⟩
  refine E.heq hw11.symm ?_
  have f11 : (∀ a j, (a < 27 ∨ 49 < a) → (a < 54 ∨ 59 < a) → ¬ a = 64 → w11 a j = v a j) := fun a j g1 g2 g3 => by rw [hw11]; exact bodF_out (by omega) (by omega) (by omega)
  have s11 : Sm w11 27 v 4 := by rw [hw11]; exact sm_bod hW1 hW2
  have W11 := s11.wfv hW
  have a11 : w11 1 10 = sl := (f11 _ _ (by decide) (by decide) (by decide)).trans hal
  refine E.aload_n C dX8_startCuts_11 rfl rfl ?_
  refine E.aload_n C dX8_startCuts_12 rfl rfl ?_
  refine E.iload_n C dX8_startCuts_13 rfl rfl ?_
  refine E.iload_n C dX8_startCuts_14 rfl rfl ?_
  refine E.iload_n C dX8_startCuts_15 rfl rfl ?_
  refine N.callVi (S := [vr 1]) (As := [vi s, vi y, vi q]) C hX (ok_X8_newAhead G s y q sl w11 W11 hy a11 hsl) yf_X8_newAhead yv_X8_newAhead ml_X8_219 rfl rfl rfl kd_1 (by decide) (by decide) (Nat.le_of_ble_eq_true rfl) dX8_startCuts_16 rfl (fun t16 w16 hb16 hp16 => ?_)
  obtain ⟨n1, n2, n3⟩ := hp16
  have n1 := n1.trans (s11.ahs hW1 _)
  refine N.putI C fp_X8_240 rfl dX8_startCuts_19 kd_1 ?_
  refine E.aload_n C dX8_startCuts_22 rfl rfl ?_
  refine E.bipush C dX8_startCuts_23 (by decide) ?_
  refine N.putI C fp_X8_234 rfl dX8_startCuts_25 kd_1 ?_
  refine E.aload_n C dX8_startCuts_28 rfl rfl ?_
  refine E.iconst C dX8_startCuts_29 (by decide) ?_
  refine N.putI C fp_X8_237 rfl dX8_startCuts_30 kd_1 ?_
  exact N.vret C hR dX8_startCuts_33 (fun hi => by exact ⟨fun a j g1 g2 g3 g4 => by rw [u_ne (by omega), u_ne (by omega), u_ne (by omega), n3 a j g1 g2 g3]; exact f11 a j g1 g2 g3, (u_ne (by decide)).trans ((u_ne (by decide)).trans ((u_at (by decide)).trans n1)), (u_ne (by decide)).trans (u_at (by decide)), u_at (by decide)⟩)

set_option maxHeartbeats 4000000 in
set_option maxRecDepth 20000 in
theorem ok_X8_tryCuts (G : GT) (t y q sl : Int) (v : VT) (hW : WFV v 4) (hal : v 1 10 = sl) (hsl : 0 ≤ sl ∧ sl ≤ 4) (hy : 1 ≤ y ∧ y ≤ 4) (ht : 0 ≤ t ∧ t < v 4 5) (h7 : v (4 + 13 + t) 7 = -4) (hb : 0 ≤ v 1 15) : MNv G yX8_tryCuts cX8_tryCuts 8 none 6 146 [vr 1, vi t, vi y, vi q] v (fun w => (∀ a j, (a < 27 ∨ 49 < a) → (a < 54 ∨ 59 < a) → ¬ a = 64 → (¬ a = 1 ∨ j < 13) → w a j = v a j) ∧ CutQ (cutA v 4 t (v (4 + 13 + t) 0) q sl y.toNat) (v (4 + 13 + t) 2) (v 1 15) t (v 1 13) (v 1 14) 0 (w 1 15) (w 1 13) (w 1 14)) := by
  refine MN.of pn_X8_tryCuts [some (vr 1), some (vi t), some (vi y), some (vi q), none, none, none, none] 4 rfl rfl (fun X C hX hn hR => ?_)
  have hN : ∀ i : Nat, i < 8 → i < xn X := fun i h => by rw [hn]; exact h
  refine E.rngk (fun hinv => ?_)
  refine E.loc (fun hloc => ?_)
  have hin_1 : in32 t := hloc _ (List.mem_of_getElem? (i := 1) rfl)
  have hin_2 : in32 y := hloc _ (List.mem_of_getElem? (i := 2) rfl)
  have hin_3 : in32 q := hloc _ (List.mem_of_getElem? (i := 3) rfl)
  have hW1 := hW.1
  have hW2 := hW.2.1
  have hth := hW.2.2.2.1 t ht.1 ht.2
  have hz1 := hth.2.2.1
  refine E.aload_n C dX8_tryCuts_0 rfl rfl ?_
  refine N.getR C fa_X8_19 rfl dX8_tryCuts_1 kd_1 (x := 4) (by decide +kernel) (by decide) ?_
  refine N.getR C fa_X8_132 rfl dX8_tryCuts_4 (kdV hv4) (x := 4 + 2) (rvV1 hv4) (by have := posVk hv4; omega) ?_
  refine E.iload_n C dX8_tryCuts_7 rfl rfl ?_
  refine N.aald C (t := 5) (by decide) dX8_tryCuts_8 (kdVt hv4) (lnVt hv4) (by omega) (x := 4 + 13 + t) (rvVt hv4 (by omega)) (by have := posVk hv4; omega) ?_
  refine N.getI C fa_X8_136 rfl dX8_tryCuts_9 (kdVT hv4 (by omega)) (x := v (4 + 13 + t) 0) rfl ?_
  refine N.ist_4 C dX8_tryCuts_12 (hN 4 (by decide)) rfl ?_
  refine E.aload_n C dX8_tryCuts_14 rfl rfl ?_
  refine N.getR C fa_X8_19 rfl dX8_tryCuts_15 kd_1 (x := 4) (by decide +kernel) (by decide) ?_
  refine N.callVp (S := []) (As := []) C hX (ok_X7_smallestSize G 4 v hv4 hW1) yf_X7_smallestSize yv_X7_smallestSize ml_X8_337 rfl rfl rfl (kdV hv4) (by decide) (by decide) (Nat.le_of_ble_eq_true rfl) dX8_tryCuts_18 rfl ?_
  refine N.ist_5 C dX8_tryCuts_21 (hN 5 (by decide)) rfl ?_
  refine E.aload_n C dX8_tryCuts_23 rfl rfl ?_
  refine N.getR C fa_X8_19 rfl dX8_tryCuts_24 kd_1 (x := 4) (by decide +kernel) (by decide) ?_
  refine N.getR C fa_X8_132 rfl dX8_tryCuts_27 (kdV hv4) (x := 4 + 2) (rvV1 hv4) (by have := posVk hv4; omega) ?_
  refine E.iload_n C dX8_tryCuts_30 rfl rfl ?_
  refine N.aald C (t := 5) (by decide) dX8_tryCuts_31 (kdVt hv4) (lnVt hv4) (by omega) (x := 4 + 13 + t) (rvVt hv4 (by omega)) (by have := posVk hv4; omega) ?_
  refine N.getI C fa_X8_144 rfl dX8_tryCuts_32 (kdVT hv4 (by omega)) (x := v (4 + 13 + t) 2) rfl ?_
  refine E.iconst C dX8_tryCuts_35 (by decide) ?_
  refine E.isub C dX8_tryCuts_36 (by omega) ?_
  refine N.ist_6 C dX8_tryCuts_37 (hN 6 (by decide)) rfl ?_
  have lp39 : ∀ (k39 : Nat) (z : Int) (w : VT), (z).toNat = k39 → (0 ≤ z ∧ z < v (4 + 13 + t) 2 ∧ (∀ a j, (a < 27 ∨ 49 < a) → (a < 54 ∨ 59 < a) → ¬ a = 64 → (¬ a = 1 ∨ j < 13) → w a j = v a j) ∧ CutQ (cutA v 4 t (v (4 + 13 + t) 0) q sl y.toNat) (v (4 + 13 + t) 2) (v 1 15) t (v 1 13) (v 1 14) z (w 1 15) (w 1 13) (w 1 14)) → E X G 0 0 1000 w 39 [some (vr 1), some (vi t), some (vi y), some (vi q), some (vi (v (4 + 13 + t) 0)), some (vi (minN v 4 (v 4 4).toNat)), some (vi z), none] [] := by
    intro k39
    induction k39 using Nat.strongRecOn with
    | ind k39 ih39 =>
      intro z w hk39 hI39
      obtain ⟨hz2, hz3, hfr, hq⟩ := hI39; have sw : Sm w 4 v 4 := sm_of (fun a j g1 g2 => hfr a j (by omega) (by omega) (by omega) (by omega)) hW1.2 hW2.2; have Ww := sw.wfv hW; have Ww1 := Ww.1; have Ww2 := Ww.2.1; have Ww3 := Ww.lz
      refine E.iload C dX8_tryCuts_39 rfl ?_
      refine E.iconst C dX8_tryCuts_41 (by decide) ?_
      refine E.icmp_lt C dX8_tryCuts_42 (tgt := 131) (by decide) (fun h42 => ?_) (fun h42 => ?_)
      · skip
        exact N.vret C hR dX8_tryCuts_131 (fun hi => by first | exact ⟨hfr, hq.all hz2 (fun i g1 g2 => by omega)⟩ | exact ⟨hfr, hq.all hz2 (fun i g1 g2 => by have := cutA_pos (v := v) (o := 4) (t := t) (s := v (4 + 13 + t) 0) (q := q) (sl := sl) (z := i) (y := y.toNat) hW1; omega)⟩ | (refine ⟨fun a j g1 g2 g3 g4 => by rw [n3 a j g1 g2 g3]; exact f77 a j g1 g2 g3 g4, ?_⟩; rw [e15, e13, e14]; have hq2 := hq.no (by omega); exact hq2.all (by omega) (fun i g1 g2 => by rw [cutA_small (z2 := i) hW ht h7 hsm (by omega)]; exact hq2.le (by omega) hz3)) | (refine ⟨fun a j g1 g2 g3 g4 => by rw [u_ne (by omega), u_ne (by omega), u_ne (by omega), n3 a j g1 g2 g3]; exact f77 a j g1 g2 g3 g4, ?_⟩; rw [u_ne (by decide), u_ne (by decide), u_at (by decide), u_ne (by decide), u_at (by decide), u_at (by decide), n1]; have hq2 := hq.yes hz3 (by omega); exact hq2.all (by omega) (fun i g1 g2 => by rw [cutA_small (z2 := i) hW ht h7 hsm (by omega)]; exact hq2.le (by omega) hz3)))
      · skip
        refine E.aload_n C dX8_tryCuts_45 rfl rfl ?_
        refine N.getI C fa_X8_240 rfl dX8_tryCuts_46 kd_1 (x := w 1 15) rfl ?_
        refine E.if_le C dX8_tryCuts_49 (tgt := 131) (by decide) (fun h49 => ?_) (fun h49 => ?_)
        · skip
          exact N.vret C hR dX8_tryCuts_131 (fun hi => by first | exact ⟨hfr, hq.all hz2 (fun i g1 g2 => by omega)⟩ | exact ⟨hfr, hq.all hz2 (fun i g1 g2 => by have := cutA_pos (v := v) (o := 4) (t := t) (s := v (4 + 13 + t) 0) (q := q) (sl := sl) (z := i) (y := y.toNat) hW1; omega)⟩ | (refine ⟨fun a j g1 g2 g3 g4 => by rw [n3 a j g1 g2 g3]; exact f77 a j g1 g2 g3 g4, ?_⟩; rw [e15, e13, e14]; have hq2 := hq.no (by omega); exact hq2.all (by omega) (fun i g1 g2 => by rw [cutA_small (z2 := i) hW ht h7 hsm (by omega)]; exact hq2.le (by omega) hz3)) | (refine ⟨fun a j g1 g2 g3 g4 => by rw [u_ne (by omega), u_ne (by omega), u_ne (by omega), n3 a j g1 g2 g3]; exact f77 a j g1 g2 g3 g4, ?_⟩; rw [u_ne (by decide), u_ne (by decide), u_at (by decide), u_ne (by decide), u_at (by decide), u_at (by decide), n1]; have hq2 := hq.yes hz3 (by omega); exact hq2.all (by omega) (fun i g1 g2 => by rw [cutA_small (z2 := i) hW ht h7 hsm (by omega)]; exact hq2.le (by omega) hz3)))
        · skip
          refine E.aload_n C dX8_tryCuts_52 rfl rfl ?_
          refine N.getR C fa_X8_23 rfl dX8_tryCuts_53 kd_1 (x := 27) (by decide +kernel) (by decide) ?_
          refine E.aload_n C dX8_tryCuts_56 rfl rfl ?_
          refine N.getR C fa_X8_19 rfl dX8_tryCuts_57 kd_1 (x := 4) (by decide +kernel) (by decide) ?_
          refine N.callVe (S := []) (As := [vr 4]) C hX (ok_X7_becomeBodies G 27 4 w hv27 hv4 (Or.inr (by decide)) Ww1 Ww2 Ww3) yf_X7_becomeBodies yv_X7_becomeBodies ml_X8_216 rfl rfl rfl (kdV hv27) (by decide) (by decide) (Nat.le_of_ble_eq_true rfl) dX8_tryCuts_60 rfl ?_
          refine E.aload_n C dX8_tryCuts_63 rfl rfl ?_
          refine N.getR C fa_X8_23 rfl dX8_tryCuts_64 kd_1 (x := 27) (by decide +kernel) (by decide) ?_
          refine N.getR C fa_X8_132 rfl dX8_tryCuts_67 (kdV hv27) (x := 27 + 2) (rvV1 hv27) (by have := posVk hv27; omega) ?_
          refine E.iload_n C dX8_tryCuts_70 rfl rfl ?_
          refine N.aald C (t := 5) (by decide) dX8_tryCuts_71 (kdVt hv27) (lnVt hv27) (by omega) (x := 27 + 13 + t) (rvVt hv27 (by omega)) (by have := posVk hv27; omega) ?_
          refine E.iload C dX8_tryCuts_72 rfl ?_
          refine N.putI C fp_X8_144 rfl dX8_tryCuts_74 (kdVT hv27 (by omega)) ?_
          obtain ⟨w77, hw77⟩ : ∃ zqv, zqv = (upd2 (bodF w 27 4 (w 4 4) (w 4 5)) (27 + 13 + t) 2 z) := ⟨_, rfl⟩
          refine E.heq hw77.symm ?_
          have b37 : Sm (bodF w 27 4 (w 4 4) (w 4 5)) 27 v 4 := (sm_bod Ww1 Ww2).tr sw
          have s77 : Sm w77 27 (cutV v 4 t z) 4 := by
            rw [hw77]
            unfold cutV
            refine ⟨by rw [u_ne (by omega), u_ne (by omega)]; exact b37.1, by rw [u_ne (by omega), u_ne (by omega)]; exact b37.2.1, fun c k a b d e => ?_, fun x k a b d e => ?_⟩
            · rw [u_ne (by omega)] at b
              rw [u_ne (by omega), u_ne (by omega)]
              exact b37.2.2.1 c k a b d e
            · rw [u_ne (by omega)] at b
              by_cases hx : x = t ∧ k = 2
              · rw [hx.1, hx.2, upd2_same, upd2_same]
              · rw [u_ne (by omega), u_ne (by omega)]
                exact b37.2.2.2 x k a b d e
          have Wc := hW.cut ht (z := z) (by omega)
          have W77 := s77.wfv Wc
          have g77 : ∀ j, w77 1 j = w 1 j := fun j => by rw [hw77, u_ne (by omega)]; exact bodF_out (by omega) (by omega) (by omega)
          have f77 : (∀ a j, (a < 27 ∨ 49 < a) → (a < 54 ∨ 59 < a) → ¬ a = 64 → (¬ a = 1 ∨ j < 13) → w77 a j = v a j) := fun a j g1 g2 g3 g4 => by rw [hw77, u_ne (by omega), bodF_out (by omega) (by omega) (by omega)]; exact hfr a j g1 g2 g3 g4
          have a77 : w77 1 10 = sl := (f77 _ _ (by decide) (by decide) (by decide) (by decide)).trans hal
          refine E.aload_n C dX8_tryCuts_77 rfl rfl ?_
          refine E.iload C dX8_tryCuts_78 rfl ?_
          refine E.iload_n C dX8_tryCuts_80 rfl rfl ?_
          refine E.iload_n C dX8_tryCuts_81 rfl rfl ?_
          refine N.callVi (S := []) (As := [vi (v (4 + 13 + t) 0), vi y, vi q]) C hX (ok_X8_newAhead G (v (4 + 13 + t) 0) y q sl w77 W77 hy a77 hsl) yf_X8_newAhead yv_X8_newAhead ml_X8_219 rfl rfl rfl kd_1 (by decide) (by decide) (Nat.le_of_ble_eq_true rfl) dX8_tryCuts_82 rfl (fun t82 w82 hb82 hp82 => ?_)
          obtain ⟨n1, n2, n3⟩ := hp82
          have n1 : t82 = cutA v 4 t (v (4 + 13 + t) 0) q sl y.toNat z := n1.trans (s77.ahs (by unfold cutV; rw [u_ne (by omega)]; exact hW1) _)
          have e15 : w82 1 15 = w 1 15 := (n3 _ _ (by decide) (by decide) (by decide)).trans (g77 _)
          have e13 : w82 1 13 = w 1 13 := (n3 _ _ (by decide) (by decide) (by decide)).trans (g77 _)
          have e14 : w82 1 14 = w 1 14 := (n3 _ _ (by decide) (by decide) (by decide)).trans (g77 _)
          refine N.ist_7 C dX8_tryCuts_85 (hN 7 (by decide)) rfl ?_
          refine E.iload C dX8_tryCuts_87 rfl ?_
          refine E.aload_n C dX8_tryCuts_89 rfl rfl ?_
          refine N.getI C fa_X8_240 rfl dX8_tryCuts_90 kd_1 (x := w82 1 15) rfl ?_
          refine E.icmp_ge C dX8_tryCuts_93 (tgt := 113) (by decide) (fun h93 => ?_) (fun h93 => ?_)
          · skip
            refine E.iload C dX8_tryCuts_113 rfl ?_
            refine E.iconst C dX8_tryCuts_115 (by decide) ?_
            refine E.iadd C dX8_tryCuts_116 (by omega) ?_
            refine E.iload C dX8_tryCuts_117 rfl ?_
            refine E.icmp_ge C dX8_tryCuts_119 (tgt := 125) (by decide) (fun h119 => ?_) (fun h119 => ?_)
            · skip
              refine N.iinc_6 C dX8_tryCuts_125 (hN 6 (by decide)) rfl (by omega) ?_
              refine E.goto C dX8_tryCuts_128 (tgt := 39) (by decide) ?_
              refine E.drop (i := 7) ?_
              exact ih39 _ (by omega) (z + (-1)) w82 rfl (by refine ⟨by omega, by omega, ?_, ?_⟩; (first | exact fun a j g1 g2 g3 g4 => by rw [n3 a j g1 g2 g3]; exact f77 a j g1 g2 g3 g4 | exact fun a j g1 g2 g3 g4 => by rw [u_ne (by omega), u_ne (by omega), u_ne (by omega), n3 a j g1 g2 g3]; exact f77 a j g1 g2 g3 g4); (first | (rw [e15, e13, e14]; exact hq.no (by omega)) | (rw [u_ne (by decide), u_ne (by decide), u_at (by decide), u_ne (by decide), u_at (by decide), u_at (by decide), n1]; exact hq.yes hz3 (by omega))))
            · skip
              have hsm : z + 2 < minN v 4 (v 4 4).toNat := by omega
              refine E.goto C dX8_tryCuts_122 (tgt := 131) (by decide) ?_
              exact N.vret C hR dX8_tryCuts_131 (fun hi => by first | exact ⟨hfr, hq.all hz2 (fun i g1 g2 => by omega)⟩ | exact ⟨hfr, hq.all hz2 (fun i g1 g2 => by have := cutA_pos (v := v) (o := 4) (t := t) (s := v (4 + 13 + t) 0) (q := q) (sl := sl) (z := i) (y := y.toNat) hW1; omega)⟩ | (refine ⟨fun a j g1 g2 g3 g4 => by rw [n3 a j g1 g2 g3]; exact f77 a j g1 g2 g3 g4, ?_⟩; rw [e15, e13, e14]; have hq2 := hq.no (by omega); exact hq2.all (by omega) (fun i g1 g2 => by rw [cutA_small (z2 := i) hW ht h7 hsm (by omega)]; exact hq2.le (by omega) hz3)) | (refine ⟨fun a j g1 g2 g3 g4 => by rw [u_ne (by omega), u_ne (by omega), u_ne (by omega), n3 a j g1 g2 g3]; exact f77 a j g1 g2 g3 g4, ?_⟩; rw [u_ne (by decide), u_ne (by decide), u_at (by decide), u_ne (by decide), u_at (by decide), u_at (by decide), n1]; have hq2 := hq.yes hz3 (by omega); exact hq2.all (by omega) (fun i g1 g2 => by rw [cutA_small (z2 := i) hW ht h7 hsm (by omega)]; exact hq2.le (by omega) hz3)))
          · skip
            refine E.aload_n C dX8_tryCuts_96 rfl rfl ?_
            refine E.iload C dX8_tryCuts_97 rfl ?_
            refine N.putI C fp_X8_240 rfl dX8_tryCuts_99 kd_1 ?_
            refine E.aload_n C dX8_tryCuts_102 rfl rfl ?_
            refine E.iload_n C dX8_tryCuts_103 rfl rfl ?_
            refine N.putI C fp_X8_234 rfl dX8_tryCuts_104 kd_1 ?_
            refine E.aload_n C dX8_tryCuts_107 rfl rfl ?_
            refine E.iload C dX8_tryCuts_108 rfl ?_
            refine N.putI C fp_X8_237 rfl dX8_tryCuts_110 kd_1 ?_
            refine E.iload C dX8_tryCuts_113 rfl ?_
            refine E.iconst C dX8_tryCuts_115 (by decide) ?_
            refine E.iadd C dX8_tryCuts_116 (by omega) ?_
            refine E.iload C dX8_tryCuts_117 rfl ?_
            refine E.icmp_ge C dX8_tryCuts_119 (tgt := 125) (by decide) (fun h119 => ?_) (fun h119 => ?_)
            · skip
              refine N.iinc_6 C dX8_tryCuts_125 (hN 6 (by decide)) rfl (by omega) ?_
              refine E.goto C dX8_tryCuts_128 (tgt := 39) (by decide) ?_
              refine E.drop (i := 7) ?_
              exact ih39 _ (by omega) (z + (-1)) (upd2 (upd2 (upd2 w82 1 15 t82) 1 13 t) 1 14 z) rfl (by refine ⟨by omega, by omega, ?_, ?_⟩; (first | exact fun a j g1 g2 g3 g4 => by rw [n3 a j g1 g2 g3]; exact f77 a j g1 g2 g3 g4 | exact fun a j g1 g2 g3 g4 => by rw [u_ne (by omega), u_ne (by omega), u_ne (by omega), n3 a j g1 g2 g3]; exact f77 a j g1 g2 g3 g4); (first | (rw [e15, e13, e14]; exact hq.no (by omega)) | (rw [u_ne (by decide), u_ne (by decide), u_at (by decide), u_ne (by decide), u_at (by decide), u_at (by decide), n1]; exact hq.yes hz3 (by omega))))
            · skip
              have hsm : z + 2 < minN v 4 (v 4 4).toNat := by omega
              refine E.goto C dX8_tryCuts_122 (tgt := 131) (by decide) ?_
              exact N.vret C hR dX8_tryCuts_131 (fun hi => by first | exact ⟨hfr, hq.all hz2 (fun i g1 g2 => by omega)⟩ | exact ⟨hfr, hq.all hz2 (fun i g1 g2 => by have := cutA_pos (v := v) (o := 4) (t := t) (s := v (4 + 13 + t) 0) (q := q) (sl := sl) (z := i) (y := y.toNat) hW1; omega)⟩ | (refine ⟨fun a j g1 g2 g3 g4 => by rw [n3 a j g1 g2 g3]; exact f77 a j g1 g2 g3 g4, ?_⟩; rw [e15, e13, e14]; have hq2 := hq.no (by omega); exact hq2.all (by omega) (fun i g1 g2 => by rw [cutA_small (z2 := i) hW ht h7 hsm (by omega)]; exact hq2.le (by omega) hz3)) | (refine ⟨fun a j g1 g2 g3 g4 => by rw [u_ne (by omega), u_ne (by omega), u_ne (by omega), n3 a j g1 g2 g3]; exact f77 a j g1 g2 g3 g4, ?_⟩; rw [u_ne (by decide), u_ne (by decide), u_at (by decide), u_ne (by decide), u_at (by decide), u_at (by decide), n1]; have hq2 := hq.yes hz3 (by omega); exact hq2.all (by omega) (fun i g1 g2 => by rw [cutA_small (z2 := i) hW ht h7 hsm (by omega)]; exact hq2.le (by omega) hz3)))
  exact lp39 _ ((v (4 + 13 + t) 2) - 1) v rfl (by exact ⟨by omega, by omega, fun a j _ _ _ _ => rfl, Or.inr ⟨fun i h1 h2 => by omega, rfl, rfl, rfl⟩⟩)
