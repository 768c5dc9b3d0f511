set_option maxHeartbeats 4000000 in
set_option maxRecDepth 20000 in
theorem ok_X8_lend (G : GT) (k s what sl : Int) (v : VT) (hW : WFV v 4) (hal : v 1 10 = sl) (hsl : 0 ≤ sl ∧ sl ≤ 4) (hWi : 0 ≤ k → k ≤ 1 → v 52 k = 1 → WFV v (65 + 23 * k)) (h01 : ∀ k, 0 ≤ k → k < 2 → v 52 k = 0 ∨ v 52 k = 1) : MNi G yX8_lend cX8_lend 6 (some .int) 5 120 [vr 1, vi k, vi s, vi what] v (fun x w => (∀ a j, (a < 54 ∨ 59 < a) → w a j = v a j) ∧ ((¬ ((0 ≤ k ∧ k ≤ 1) ∧ (0 ≤ s ∧ s ≤ 1) ∧ (0 ≤ what ∧ what ≤ 1)) ∧ x = -1) ∨ (((0 ≤ k ∧ k ≤ 1) ∧ (0 ≤ s ∧ s ≤ 1) ∧ (0 ≤ what ∧ what ≤ 1)) ∧ v 52 k = 0 ∧ x = -2) ∨ (((0 ≤ k ∧ k ≤ 1) ∧ (0 ≤ s ∧ s ≤ 1) ∧ (0 ≤ what ∧ what ≤ 1)) ∧ v 52 k = 1 ∧ ∃ W, LenQ v 4 v (65 + 23 * k) s sl W ∧ x = if what = 0 then v 4 4 - W else W - warmV v 4 s sl))) := by
  refine MN.of pn_X8_lend [some (vr 1), some (vi k), some (vi s), some (vi what), none, none] 2 rfl rfl (fun X C hX hn hR => ?_)
  have hN : ∀ i : Nat, i < 6 → i < xn X := fun i h => by rw [hn]; exact h
  refine E.rngk (fun hinv => ?_)
  refine E.loc (fun hloc => ?_)
  have hin_1 : in32 k := hloc _ (List.mem_of_getElem? (i := 1) rfl)
  have hin_2 : in32 s := hloc _ (List.mem_of_getElem? (i := 2) rfl)
  have hin_3 : in32 what := hloc _ (List.mem_of_getElem? (i := 3) rfl)
  have hW1 := hW.1
  have hW2 := hW.2.1
  refine E.iload_n C dX8_lend_0 rfl rfl ?_
  refine N.callSp (S := []) (As := [vi k]) C hX (ok_X8_isImage G k v) yf_X8_isImage yv_X8_isImage ml_X8_295 rfl (by decide) (Nat.le_of_ble_eq_true rfl) dX8_lend_1 rfl ?_
  refine E.if_eq C dX8_lend_4 (tgt := 21) (by decide) (fun h4 => ?_) (fun h4 => ?_)
  · have h4 := b0.mp h4
    refine E.iconst C dX8_lend_21 (by decide) ?_
    exact N.iret C hR dX8_lend_22 (fun hi hx => by exact ⟨fun a j _ => rfl, Or.inl ⟨by omega, rfl⟩⟩)
  · have h4 := b0n.mp h4
    refine E.iload_n C dX8_lend_7 rfl rfl ?_
    refine N.callSp (S := []) (As := [vi s]) C hX (ok_X8_isSlot G s v) yf_X8_isSlot yv_X8_isSlot ml_X8_175 rfl (by decide) (Nat.le_of_ble_eq_true rfl) dX8_lend_8 rfl ?_
    refine E.if_eq C dX8_lend_11 (tgt := 21) (by decide) (fun h11 => ?_) (fun h11 => ?_)
    · have h11 := b0.mp h11
      refine E.iconst C dX8_lend_21 (by decide) ?_
      exact N.iret C hR dX8_lend_22 (fun hi hx => by exact ⟨fun a j _ => rfl, Or.inl ⟨by omega, rfl⟩⟩)
    · have h11 := b0n.mp h11
      refine E.iload_n C dX8_lend_14 rfl rfl ?_
      refine N.callSp (S := []) (As := [vi what]) C hX (ok_X8_isZeroOrOne G what v) yf_X8_isZeroOrOne yv_X8_isZeroOrOne ml_X8_182 rfl (by decide) (Nat.le_of_ble_eq_true rfl) dX8_lend_15 rfl ?_
      refine E.if_ne C dX8_lend_18 (tgt := 23) (by decide) (fun h18 => ?_) (fun h18 => ?_)
      · have h18 := b0n.mp h18
        have hkz := h01 k (by omega) (by omega)
        refine E.aload_n C dX8_lend_23 rfl rfl ?_
        refine N.getR C fa_X8_39 rfl dX8_lend_24 kd_1 (x := 52) (by decide +kernel) (by decide) ?_
        refine E.iload_n C dX8_lend_27 rfl rfl ?_
        refine N.zald C dX8_lend_28 kd_52 ln_52 (by omega) (x := v 52 k) rfl ?_
        refine E.if_ne C dX8_lend_29 (tgt := 35) (by decide) (fun h29 => ?_) (fun h29 => ?_)
        · skip
          have hB := hWi (by omega) (by omega) (by omega)
          have hio := isVi (k := k) (by omega)
          refine E.aload_n C dX8_lend_35 rfl rfl ?_
          refine N.getR C fa_X8_52 rfl dX8_lend_36 kd_1 (x := 54) (by decide +kernel) (by decide) ?_
          refine E.aload_n C dX8_lend_39 rfl rfl ?_
          refine N.getR C fa_X8_35 rfl dX8_lend_40 kd_1 (x := 51) (by decide +kernel) (by decide) ?_
          refine E.iload_n C dX8_lend_43 rfl rfl ?_
          refine N.aald C (t := 6) (by decide) dX8_lend_44 kd_51 ln_51 (by omega) (x := 65 + 23 * k) (rvI (by omega)) (by omega) ?_
          refine E.iload_n C dX8_lend_45 rfl rfl ?_
          refine E.aload_n C dX8_lend_46 rfl rfl ?_
          refine N.getI C fa_X8_67 rfl dX8_lend_47 kd_1 (x := v 1 10) rfl ?_
          refine E.veq (x' := sl) (hal) ?_
          refine N.callVv (S := []) (As := [vr (65 + 23 * k), vi s, vi sl]) C hX (ok_X1_make G (65 + 23 * k) s sl v hio hB hsl) yf_X1_make yv_X1_make ml_X8_185 rfl rfl rfl kd_54 (by decide) (by decide) (Nat.le_of_ble_eq_true rfl) dX8_lend_50 rfl (fun w50 hp50 => ?_)
          have hf50 : (∀ a j, (a < 54 ∨ 59 < a) → w50 a j = v a j) := hp50.1
          have hs50 := make_sm hio hB.1.2 hB.2.1.2 hp50
          have s450 : Sm w50 4 v 4 := sm_of (fun a j g1 g2 => hf50 a j (by omega)) hW1.2 hW2.2
          have W450 := s450.wfv hW
          refine E.aload_n C dX8_lend_53 rfl rfl ?_
          refine N.getR C fa_X8_52 rfl dX8_lend_54 kd_1 (x := 54) (by decide +kernel) (by decide) ?_
          refine E.aload_n C dX8_lend_57 rfl rfl ?_
          refine N.getR C fa_X8_35 rfl dX8_lend_58 kd_1 (x := 51) (by decide +kernel) (by decide) ?_
          refine E.iload_n C dX8_lend_61 rfl rfl ?_
          refine N.aald C (t := 6) (by decide) dX8_lend_62 kd_51 ln_51 (by omega) (x := 65 + 23 * k) (rvI (by omega)) (by omega) ?_
          refine E.iload_n C dX8_lend_63 rfl rfl ?_
          refine E.iconst C dX8_lend_64 (by decide) ?_
          refine N.callVp (S := []) (As := [vr (65 + 23 * k), vi s, vi 0]) C hX (ok_X1_leftOf G (65 + 23 * k) s 0 w50 hio (by rw [hs50.2.1]; exact hB.2.1) (hs50.wfv hB).th) yf_X1_leftOf yv_X1_leftOf ml_X8_202 rfl rfl rfl kd_54 (by decide) (by decide) (Nat.le_of_ble_eq_true rfl) dX8_lend_65 rfl ?_
          obtain ⟨lent, hlent⟩ : ∃ zqv, zqv = (orN (leftB w50 (65 + 23 * k) s 0) (w50 (65 + 23 * k) 5).toNat) := ⟨_, rfl⟩
          refine E.veq hlent.symm ?_
          have hle := hlent.trans (by rw [hs50.2.1] : _ = orN (leftB w50 (65 + 23 * k) s 0) (v (65 + 23 * k) 5).toNat)
          rw [left_lef hB hio hp50] at hle
          refine N.ist_4 C dX8_lend_68 (hN 4 (by decide)) rfl ?_
          refine E.aload_n C dX8_lend_70 rfl rfl ?_
          refine N.getR C fa_X8_52 rfl dX8_lend_71 kd_1 (x := 54) (by decide +kernel) (by decide) ?_
          refine E.aload_n C dX8_lend_74 rfl rfl ?_
          refine N.getR C fa_X8_19 rfl dX8_lend_75 kd_1 (x := 4) (by decide +kernel) (by decide) ?_
          refine E.iload_n C dX8_lend_78 rfl rfl ?_
          refine E.aload_n C dX8_lend_79 rfl rfl ?_
          refine N.getI C fa_X8_67 rfl dX8_lend_80 kd_1 (x := v 1 10) (hp50.1 _ _ (by omega)) ?_
          refine E.veq (x' := sl) (hal) ?_
          refine N.callVe (S := []) (As := [vr 4, vi s, vi sl]) C hX (ok_X1_begin G 4 s sl w50 hv4 W450.1 W450.2.1 W450.th W450.fz ⟨by omega, by omega⟩) yf_X1_begin yv_X1_begin ml_X8_264 rfl rfl rfl kd_54 (by decide) (by decide) (Nat.le_of_ble_eq_true rfl) dX8_lend_83 rfl ?_
          obtain ⟨w86, hw86⟩ : ∃ zqv, zqv = (begF w50 4 s sl (w50 4 4) (w50 4 4) 0) := ⟨_, rfl⟩
          refine E.heq hw86.symm ?_
          have hbq := beg_all (s := s) (sl := sl) W450.1 W450.2.1
          rw [← hw86] at hbq
          obtain ⟨b5, b6, b7, b8, b9, b10, b11, -, -, hf86o⟩ := id hbq
          have hf86 : ∀ a j, (a < 54 ∨ 57 < a) → w86 a j = w50 a j := hf86o
          refine E.aload_n C dX8_lend_86 rfl rfl ?_
          refine N.getR C fa_X8_52 rfl dX8_lend_87 kd_1 (x := 54) (by decide +kernel) (by decide) ?_
          refine N.callVv (S := []) (As := []) C hX (ok_X1_warmAllW G w86 (by rw [b5, s450.1]; exact hW1) (by rw [b6, s450.2.1]; omega) (by rw [b5, b6]; exact b7) (by rw [b5]; exact b8) (by rw [b5]; exact b9) (by rw [b5, b6]; exact b10)) yf_X1_warmAll yv_X1_warmAll ml_X8_267 rfl rfl rfl kd_54 (by decide) (by decide) (Nat.le_of_ble_eq_true rfl) dX8_lend_90 rfl (fun w90 hp90 => ?_)
          have hp90 := hp90
          have hf90 : (∀ a j, (a < 54 ∨ 59 < a) → w90 a j = v a j) := fun a j g => by rw [hp90.1 a j (by omega) (by omega), hf86 a j (by omega), hf50 a j g]
          have e90 : w90 54 5 = v 4 4 := (hp90.1 _ _ (Or.inr (by decide)) (by decide)).trans (b5.trans s450.1)
          have s90 : Sm w90 4 v 4 := sm_of (fun a j g1 g2 => hf90 a j (by omega)) hW1.2 hW2.2
          have so90 : Sm w90 (65 + 23 * k) v (65 + 23 * k) := sm_of (fun a j g1 g2 => hf90 a j (by omega)) hB.1.2 hB.2.1.2
          have Wo90 := so90.wfv hB
          refine E.aload_n C dX8_lend_93 rfl rfl ?_
          refine N.getR C fa_X8_52 rfl dX8_lend_94 kd_1 (x := 54) (by decide +kernel) (by decide) ?_
          refine N.getI C fa_X8_189 rfl dX8_lend_97 kd_54 (x := w90 54 7) rfl ?_
          obtain ⟨byo, hbyo⟩ : ∃ zqv, zqv = (w90 54 7) := ⟨_, rfl⟩
          refine E.veq hbyo.symm ?_
          refine N.ist_5 C dX8_lend_100 (hN 5 (by decide)) rfl ?_
          refine E.aload_n C dX8_lend_102 rfl rfl ?_
          refine N.getR C fa_X8_52 rfl dX8_lend_103 kd_1 (x := 54) (by decide +kernel) (by decide) ?_
          refine E.aload_n C dX8_lend_106 rfl rfl ?_
          refine N.getR C fa_X8_19 rfl dX8_lend_107 kd_1 (x := 4) (by decide +kernel) (by decide) ?_
          refine E.aload_n C dX8_lend_110 rfl rfl ?_
          refine N.getR C fa_X8_35 rfl dX8_lend_111 kd_1 (x := 51) (by decide +kernel) (by decide) ?_
          refine E.iload_n C dX8_lend_114 rfl rfl ?_
          refine N.aald C (t := 6) (by decide) dX8_lend_115 kd_51 ln_51 (by omega) (x := 65 + 23 * k) (rvI (by omega)) (by omega) ?_
          refine E.iload C dX8_lend_116 rfl ?_
          refine E.aload_n C dX8_lend_118 rfl rfl ?_
          refine N.getI C fa_X8_67 rfl dX8_lend_119 kd_1 (x := w90 1 10) rfl ?_
          refine E.veq (x' := sl) ((hf90 _ _ (by decide)).trans hal) ?_
          refine N.callVv (S := []) (As := [vr 4, vr (65 + 23 * k), vi lent, vi sl]) C hX (ok_X1_addLent G 4 (65 + 23 * k) lent sl w90 hv4 hio (by rw [e90]; exact hW1) Wo90.2.1 Wo90.th (by rw [e90, ← s90.1]; exact (s90.wfv hW).fz) ⟨by omega, by omega⟩) yf_X1_addLent yv_X1_addLent ml_X8_298 rfl rfl rfl kd_54 (by decide) (by decide) (Nat.le_of_ble_eq_true rfl) dX8_lend_122 rfl (fun w122 hp122 => ?_)
          obtain ⟨l5, l6, l7, l8, l9, l10, l11, l12⟩ := lend_mid hW hB hio hf50 hbq hp90 hp122 hle
          have hf122 : (∀ a j, (a < 54 ∨ 59 < a) → w122 a j = v a j) := fun a j g => by rw [hp122.1 a j (by omega) (by omega), hf90 a j g]
          refine E.aload_n C dX8_lend_125 rfl rfl ?_
          refine N.getR C fa_X8_52 rfl dX8_lend_126 kd_1 (x := 54) (by decide +kernel) (by decide) ?_
          refine N.callVv (S := []) (As := []) C hX (ok_X1_warmAllW G w122 (by rw [l5]; exact hW1) (by rw [l6]; have := hB.2.1; omega) (by rw [l5, l6]; exact l7) (by rw [l5]; exact l8) (by rw [l5]; exact l9) (by rw [l5, l6]; exact l10)) yf_X1_warmAll yv_X1_warmAll ml_X8_267 rfl rfl rfl kd_54 (by decide) (by decide) (Nat.le_of_ble_eq_true rfl) dX8_lend_129 rfl (fun w129 hp129 => ?_)
          have hmx := hp129.2.2.1
          rw [l5, l6] at hmx
          have hmx2 := max_may l11 hmx
          have hln : LenQ v 4 v (65 + 23 * k) s sl (w129 54 7) := ⟨_, hmx2⟩
          have hwl := wrm_le (v 4 4) 0 (w129 56) hW1.1
          rw [hmx2.2.1] at hwl
          have hwb := warm_bd (v := v) (o := 4) (s := s) (sl := sl) hW1.1
          have hf129 : (∀ a j, (a < 54 ∨ 59 < a) → w129 a j = v a j) := fun a j g => by rw [hp129.1 a j (by omega) (by omega), hf122 a j g]
          refine E.iload_n C dX8_lend_132 rfl rfl ?_
          refine E.if_ne C dX8_lend_133 (tgt := 154) (by decide) (fun h133 => ?_) (fun h133 => ?_)
          · skip
            refine E.aload_n C dX8_lend_154 rfl rfl ?_
            refine N.getR C fa_X8_52 rfl dX8_lend_155 kd_1 (x := 54) (by decide +kernel) (by decide) ?_
            refine N.getI C fa_X8_189 rfl dX8_lend_158 kd_54 (x := w129 54 7) rfl ?_
            refine E.iload C dX8_lend_161 rfl ?_
            refine E.isub C dX8_lend_163 (by omega) ?_
            exact N.iret C hR dX8_lend_164 (fun hi hx => by refine ⟨hf129, Or.inr (Or.inr ⟨by omega, by omega, _, hln, ?_⟩)⟩; first | rw [if_pos (by omega)] | (rw [if_neg (by omega)]; omega))
          · skip
            refine E.aload_n C dX8_lend_136 rfl rfl ?_
            refine N.getR C fa_X8_19 rfl dX8_lend_137 kd_1 (x := 4) (by decide +kernel) (by decide) ?_
            refine N.getI C fa_X8_192 rfl dX8_lend_140 (kdV hv4) (x := w129 4 4) rfl ?_
            refine E.veq (x' := v 4 4) (hf129 _ _ (by decide)) ?_
            refine E.aload_n C dX8_lend_143 rfl rfl ?_
            refine N.getR C fa_X8_52 rfl dX8_lend_144 kd_1 (x := 54) (by decide +kernel) (by decide) ?_
            refine N.getI C fa_X8_189 rfl dX8_lend_147 kd_54 (x := w129 54 7) rfl ?_
            refine E.isub C dX8_lend_150 (by omega) ?_
            refine E.goto C dX8_lend_151 (tgt := 164) (by decide) ?_
            exact N.iret C hR dX8_lend_164 (fun hi hx => by refine ⟨hf129, Or.inr (Or.inr ⟨by omega, by omega, _, hln, ?_⟩)⟩; first | rw [if_pos (by omega)] | (rw [if_neg (by omega)]; omega))
        · skip
          refine E.bipush C dX8_lend_32 (by decide) ?_
          exact N.iret C hR dX8_lend_34 (fun hi hx => by exact ⟨fun a j _ => rfl, Or.inr (Or.inl ⟨by omega, by omega, rfl⟩)⟩)
      · have h18 := b0.mp h18
        refine E.iconst C dX8_lend_21 (by decide) ?_
        exact N.iret C hR dX8_lend_22 (fun hi hx => by exact ⟨fun a j _ => rfl, Or.inl ⟨by omega, rfl⟩⟩)
