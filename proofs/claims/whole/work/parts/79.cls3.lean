set_option maxHeartbeats 4000000 in
set_option maxRecDepth 20000 in
theorem ok_X8_pays (G : GT) (t y q k sl : Int) (v : VT) (hW : WFV v 4) (hal : v 1 10 = sl) (hsl : 0 ≤ sl ∧ sl ≤ 4) : MNi G yX8_pays cX8_pays 5 (some .int) 7 173 [vr 1, vi t, vi y, vi q, vi k] v (fun x w => (∀ a j, (a < 27 ∨ 49 < a) → (a < 54 ∨ 59 < a) → ¬ a = 64 → (¬ a = 1 ∨ j < 13) → w a j = v a j) ∧ ((¬ (0 ≤ t ∧ t < v 4 5 ∧ (1 ≤ y ∧ y ≤ 4) ∧ (k = 0 ∨ k = 1)) ∧ x = -1) ∨ ((0 ≤ t ∧ t < v 4 5 ∧ (1 ≤ y ∧ y ≤ 4) ∧ (k = 0 ∨ k = 1)) ∧ ¬ v (4 + 13 + t) 7 = -4 ∧ x = -2) ∨ ((0 ≤ t ∧ t < v 4 5 ∧ (1 ≤ y ∧ y ≤ 4) ∧ (k = 0 ∨ k = 1)) ∧ v (4 + 13 + t) 7 = -4 ∧ ∃ n th zz, CutQ (cutA v 4 t (v (4 + 13 + t) 0) q sl y.toNat) (v (4 + 13 + t) 2) (ahdS v 4 (v (4 + 13 + t) 0) q sl y.toNat) t (-4) 0 0 n th zz ∧ x = if th = -4 then -4 else if k = 0 then zz else n))) := by
  refine MN.of pn_X8_pays [some (vr 1), some (vi t), some (vi y), some (vi q), some (vi k)] 0 rfl rfl (fun X C hX hn hR => ?_)
  have hN : ∀ i : Nat, i < 5 → i < xn X := fun i h => by rw [hn]; exact h
  refine E.rngk (fun hinv => ?_)
  refine E.loc (fun hloc => ?_)
  have hin_1 : in32 t := hloc _ (List.mem_of_getElem? (i := 1) rfl)
  have hin_2 : in32 y := hloc _ (List.mem_of_getElem? (i := 2) rfl)
  have hin_3 : in32 q := hloc _ (List.mem_of_getElem? (i := 3) rfl)
  have hin_4 : in32 k := hloc _ (List.mem_of_getElem? (i := 4) rfl)
  have hW1 := hW.1
  have hW2 := hW.2.1
  refine E.aload_n C dX8_pays_0 rfl rfl ?_
  refine N.getR C fa_X8_19 rfl dX8_pays_1 kd_1 (x := 4) (by decide +kernel) (by decide) ?_
  refine E.iload_n C dX8_pays_4 rfl rfl ?_
  refine N.callVp (S := []) (As := [vi t]) C hX (ok_X7_hasThing G 4 t v hv4) yf_X7_hasThing yv_X7_hasThing ml_X8_129 rfl rfl rfl (kdV hv4) (by decide) (by decide) (Nat.le_of_ble_eq_true rfl) dX8_pays_5 rfl ?_
  refine E.if_eq C dX8_pays_8 (tgt := 26) (by decide) (fun h8 => ?_) (fun h8 => ?_)
  · have h8 := b0.mp h8
    refine E.iconst C dX8_pays_26 (by decide) ?_
    exact N.iret C hR dX8_pays_27 (fun hi hx => by exact ⟨fun a j _ _ _ _ => rfl, Or.inl ⟨by omega, rfl⟩⟩)
  · have h8 := b0n.mp h8
    refine E.iload_n C dX8_pays_11 rfl rfl ?_
    refine N.callSp (S := []) (As := [vi y]) C hX (ok_X8_isYears G y v) yf_X8_isYears yv_X8_isYears ml_X8_213 rfl (by decide) (Nat.le_of_ble_eq_true rfl) dX8_pays_12 rfl ?_
    refine E.if_eq C dX8_pays_15 (tgt := 26) (by decide) (fun h15 => ?_) (fun h15 => ?_)
    · have h15 := b0.mp h15
      refine E.iconst C dX8_pays_26 (by decide) ?_
      exact N.iret C hR dX8_pays_27 (fun hi hx => by exact ⟨fun a j _ _ _ _ => rfl, Or.inl ⟨by omega, rfl⟩⟩)
    · have h15 := b0n.mp h15
      refine E.iload C dX8_pays_18 rfl ?_
      refine N.callSp (S := []) (As := [vi k]) C hX (ok_X8_isZeroOrOne G k v) yf_X8_isZeroOrOne yv_X8_isZeroOrOne ml_X8_182 rfl (by decide) (Nat.le_of_ble_eq_true rfl) dX8_pays_20 rfl ?_
      refine E.if_ne C dX8_pays_23 (tgt := 28) (by decide) (fun h23 => ?_) (fun h23 => ?_)
      · have h23 := b0n.mp h23
        refine E.aload_n C dX8_pays_28 rfl rfl ?_
        refine N.getR C fa_X8_19 rfl dX8_pays_29 kd_1 (x := 4) (by decide +kernel) (by decide) ?_
        refine N.getR C fa_X8_132 rfl dX8_pays_32 (kdV hv4) (x := 4 + 2) (rvV1 hv4) (by have := posVk hv4; omega) ?_
        refine E.iload_n C dX8_pays_35 rfl rfl ?_
        refine N.aald C (t := 5) (by decide) dX8_pays_36 (kdVt hv4) (lnVt hv4) (by omega) (x := 4 + 13 + t) (rvVt hv4 (by omega)) (by have := posVk hv4; omega) ?_
        refine N.getI C fa_X8_158 rfl dX8_pays_37 (kdVT hv4 (by omega)) (x := v (4 + 13 + t) 7) rfl ?_
        refine E.bipush C dX8_pays_40 (by decide) ?_
        refine E.icmp_eq C dX8_pays_42 (tgt := 48) (by decide) (fun h42 => ?_) (fun h42 => ?_)
        · skip
          refine E.aload_n C dX8_pays_48 rfl rfl ?_
          refine E.aload_n C dX8_pays_49 rfl rfl ?_
          refine N.getR C fa_X8_19 rfl dX8_pays_50 kd_1 (x := 4) (by decide +kernel) (by decide) ?_
          refine N.getR C fa_X8_132 rfl dX8_pays_53 (kdV hv4) (x := 4 + 2) (rvV1 hv4) (by have := posVk hv4; omega) ?_
          refine E.iload_n C dX8_pays_56 rfl rfl ?_
          refine N.aald C (t := 5) (by decide) dX8_pays_57 (kdVt hv4) (lnVt hv4) (by omega) (x := 4 + 13 + t) (rvVt hv4 (by omega)) (by have := posVk hv4; omega) ?_
          refine N.getI C fa_X8_136 rfl dX8_pays_58 (kdVT hv4 (by omega)) (x := v (4 + 13 + t) 0) rfl ?_
          refine E.iload_n C dX8_pays_61 rfl rfl ?_
          refine E.iload_n C dX8_pays_62 rfl rfl ?_
          refine N.callVv (S := []) (As := [vi (v (4 + 13 + t) 0), vi y, vi q]) C hX (ok_X8_startCuts G (v (4 + 13 + t) 0) y q sl v hW hal hsl (by omega)) yf_X8_startCuts yv_X8_startCuts ml_X8_227 rfl rfl rfl kd_1 (by decide) (by decide) (Nat.le_of_ble_eq_true rfl) dX8_pays_63 rfl (fun w63 hp63 => ?_)
          obtain ⟨f63, b15, b13, b14⟩ := hp63
          have sw63 : Sm w63 4 v 4 := sm_of (fun a j g1 g2 => f63 a j (by omega) (by omega) (by omega) (by omega)) hW1.2 hW2.2
          have a63 : w63 1 10 = sl := (f63 _ _ (by decide) (by decide) (by decide) (by decide)).trans hal
          have tk : ∀ j, w63 (4 + 13 + t) j = v (4 + 13 + t) j := fun j => f63 _ _ (by omega) (by omega) (by omega) (by omega)
          have hap := (ahs_bd (s := v (4 + 13 + t) 0) (q := q) (sl := sl) hW1 y.toNat).1
          refine E.aload_n C dX8_pays_66 rfl rfl ?_
          refine E.iload_n C dX8_pays_67 rfl rfl ?_
          refine E.iload_n C dX8_pays_68 rfl rfl ?_
          refine E.iload_n C dX8_pays_69 rfl rfl ?_
          refine N.callVv (S := []) (As := [vi t, vi y, vi q]) C hX (ok_X8_tryCuts G t y q sl w63 (sw63.wfv hW) a63 hsl (by omega) (by rw [sw63.2.1]; omega) (by rw [tk]; omega) (by rw [b15]; exact hap)) yf_X8_tryCuts yv_X8_tryCuts ml_X8_231 rfl rfl rfl kd_1 (by decide) (by decide) (Nat.le_of_ble_eq_true rfl) dX8_pays_70 rfl (fun w70 hp70 => ?_)
          obtain ⟨f70, c70⟩ := hp70
          rw [tk, tk, b15, b13, b14, show cutA w63 4 t (v (4 + 13 + t) 0) q sl y.toNat = cutA v 4 t (v (4 + 13 + t) 0) q sl y.toNat from funext (fun z => sw63.cta (by omega) hW1)] at c70
          refine E.aload_n C dX8_pays_73 rfl rfl ?_
          refine N.getI C fa_X8_234 rfl dX8_pays_74 kd_1 (x := w70 1 13) rfl ?_
          refine E.bipush C dX8_pays_77 (by decide) ?_
          refine E.icmp_ne C dX8_pays_79 (tgt := 85) (by decide) (fun h79 => ?_) (fun h79 => ?_)
          · skip
            refine E.iload C dX8_pays_85 rfl ?_
            refine E.if_ne C dX8_pays_87 (tgt := 97) (by decide) (fun h87 => ?_) (fun h87 => ?_)
            · skip
              refine E.aload_n C dX8_pays_97 rfl rfl ?_
              refine N.getI C fa_X8_240 rfl dX8_pays_98 kd_1 (x := w70 1 15) rfl ?_
              exact N.iret C hR dX8_pays_101 (fun hi hx => by first | exact ⟨fun a j g1 g2 g3 g4 => (f70 a j g1 g2 g3 g4).trans (f63 a j g1 g2 g3 g4), Or.inr (Or.inr ⟨by omega, by omega, _, _, _, c70, by rw [if_neg (by omega), if_pos (by omega)]⟩)⟩ | exact ⟨fun a j g1 g2 g3 g4 => (f70 a j g1 g2 g3 g4).trans (f63 a j g1 g2 g3 g4), Or.inr (Or.inr ⟨by omega, by omega, _, _, _, c70, by rw [if_neg (by omega), if_neg (by omega)]⟩)⟩)
            · skip
              refine E.aload_n C dX8_pays_90 rfl rfl ?_
              refine N.getI C fa_X8_237 rfl dX8_pays_91 kd_1 (x := w70 1 14) rfl ?_
              refine E.goto C dX8_pays_94 (tgt := 101) (by decide) ?_
              exact N.iret C hR dX8_pays_101 (fun hi hx => by first | exact ⟨fun a j g1 g2 g3 g4 => (f70 a j g1 g2 g3 g4).trans (f63 a j g1 g2 g3 g4), Or.inr (Or.inr ⟨by omega, by omega, _, _, _, c70, by rw [if_neg (by omega), if_pos (by omega)]⟩)⟩ | exact ⟨fun a j g1 g2 g3 g4 => (f70 a j g1 g2 g3 g4).trans (f63 a j g1 g2 g3 g4), Or.inr (Or.inr ⟨by omega, by omega, _, _, _, c70, by rw [if_neg (by omega), if_neg (by omega)]⟩)⟩)
          · skip
            refine E.bipush C dX8_pays_82 (by decide) ?_
            exact N.iret C hR dX8_pays_84 (fun hi hx => by exact ⟨fun a j g1 g2 g3 g4 => (f70 a j g1 g2 g3 g4).trans (f63 a j g1 g2 g3 g4), Or.inr (Or.inr ⟨by omega, by omega, _, _, _, c70, by rw [if_pos (by omega)]⟩)⟩)
        · skip
          refine E.bipush C dX8_pays_45 (by decide) ?_
          exact N.iret C hR dX8_pays_47 (fun hi hx => by exact ⟨fun a j _ _ _ _ => rfl, Or.inr (Or.inl ⟨by omega, by omega, rfl⟩)⟩)
      · have h23 := b0.mp h23
        refine E.iconst C dX8_pays_26 (by decide) ?_
        exact N.iret C hR dX8_pays_27 (fun hi hx => by exact ⟨fun a j _ _ _ _ => rfl, Or.inl ⟨by omega, rfl⟩⟩)

set_option maxHeartbeats 4000000 in
set_option maxRecDepth 20000 in
theorem ok_X8_best (G : GT) (s y q k sl : Int) (v : VT) (hW : WFV v 4) (hal : v 1 10 = sl) (hsl : 0 ≤ sl ∧ sl ≤ 4) : MNi G yX8_best cX8_best 6 (some .int) 7 173 [vr 1, vi s, vi y, vi q, vi k] v (fun x w => (∀ a j, (a < 27 ∨ 49 < a) → (a < 54 ∨ 59 < a) → ¬ a = 64 → (¬ a = 1 ∨ j < 13) → w a j = v a j) ∧ ((¬ ((0 ≤ s ∧ s ≤ 1) ∧ (1 ≤ y ∧ y ≤ 4) ∧ (k = 0 ∨ k = 1)) ∧ x = -1) ∨ (((0 ≤ s ∧ s ≤ 1) ∧ (1 ≤ y ∧ y ≤ 4) ∧ (k = 0 ∨ k = 1)) ∧ ∃ n th zz, BestQ (fun t => cutA v 4 t s q sl y.toNat) (fun t => v (4 + 13 + t) 2) (fun t => v (4 + 13 + t) 0 = s ∧ v (4 + 13 + t) 7 = -4) (ahdS v 4 s q sl y.toNat) (v 4 5) n th zz ∧ x = if th = -4 then -4 else if k = 0 then 100 * th + zz else n))) := by
  refine MN.of pn_X8_best [some (vr 1), some (vi s), some (vi y), some (vi q), some (vi k), none] 1 rfl rfl (fun X C hX hn hR => ?_)
  have hN : ∀ i : Nat, i < 6 → i < xn X := fun i h => by rw [hn]; exact h
  refine E.rngk (fun hinv => ?_)
  refine E.loc (fun hloc => ?_)
  have hin_1 : in32 s := hloc _ (List.mem_of_getElem? (i := 1) rfl)
  have hin_2 : in32 y := hloc _ (List.mem_of_getElem? (i := 2) rfl)
  have hin_3 : in32 q := hloc _ (List.mem_of_getElem? (i := 3) rfl)
  have hin_4 : in32 k := hloc _ (List.mem_of_getElem? (i := 4) rfl)
  have hW1 := hW.1
  have hW2 := hW.2.1
  refine E.iload_n C dX8_best_0 rfl rfl ?_
  refine N.callSp (S := []) (As := [vi s]) C hX (ok_X8_isSlot G s v) yf_X8_isSlot yv_X8_isSlot ml_X8_175 rfl (by decide) (Nat.le_of_ble_eq_true rfl) dX8_best_1 rfl ?_
  refine E.if_eq C dX8_best_4 (tgt := 22) (by decide) (fun h4 => ?_) (fun h4 => ?_)
  · have h4 := b0.mp h4
    refine E.iconst C dX8_best_22 (by decide) ?_
    exact N.iret C hR dX8_best_23 (fun hi hx => by exact ⟨fun a j _ _ _ _ => rfl, Or.inl ⟨by omega, rfl⟩⟩)
  · have h4 := b0n.mp h4
    refine E.iload_n C dX8_best_7 rfl rfl ?_
    refine N.callSp (S := []) (As := [vi y]) C hX (ok_X8_isYears G y v) yf_X8_isYears yv_X8_isYears ml_X8_213 rfl (by decide) (Nat.le_of_ble_eq_true rfl) dX8_best_8 rfl ?_
    refine E.if_eq C dX8_best_11 (tgt := 22) (by decide) (fun h11 => ?_) (fun h11 => ?_)
    · have h11 := b0.mp h11
      refine E.iconst C dX8_best_22 (by decide) ?_
      exact N.iret C hR dX8_best_23 (fun hi hx => by exact ⟨fun a j _ _ _ _ => rfl, Or.inl ⟨by omega, rfl⟩⟩)
    · have h11 := b0n.mp h11
      refine E.iload C dX8_best_14 rfl ?_
      refine N.callSp (S := []) (As := [vi k]) C hX (ok_X8_isZeroOrOne G k v) yf_X8_isZeroOrOne yv_X8_isZeroOrOne ml_X8_182 rfl (by decide) (Nat.le_of_ble_eq_true rfl) dX8_best_16 rfl ?_
      refine E.if_ne C dX8_best_19 (tgt := 24) (by decide) (fun h19 => ?_) (fun h19 => ?_)
      · have h19 := b0n.mp h19
        refine E.aload_n C dX8_best_24 rfl rfl ?_
        refine E.iload_n C dX8_best_25 rfl rfl ?_
        refine E.iload_n C dX8_best_26 rfl rfl ?_
        refine E.iload_n C dX8_best_27 rfl rfl ?_
        refine N.callVv (S := []) (As := [vi s, vi y, vi q]) C hX (ok_X8_startCuts G s y q sl v hW hal hsl (by omega)) yf_X8_startCuts yv_X8_startCuts ml_X8_227 rfl rfl rfl kd_1 (by decide) (by decide) (Nat.le_of_ble_eq_true rfl) dX8_best_28 rfl (fun w28 hp28 => ?_)
        refine E.iconst C dX8_best_31 (by decide) ?_
        refine N.ist_5 C dX8_best_32 (hN 5 (by decide)) rfl ?_
        have lp34 : ∀ (k34 : Nat) (t : Int) (w : VT), (v 4 5 - t).toNat = k34 → (0 ≤ t ∧ t ≤ v 4 5 ∧ (∀ a j, (a < 27 ∨ 49 < a) → (a < 54 ∨ 59 < a) → ¬ a = 64 → (¬ a = 1 ∨ j < 13) → w a j = v a j) ∧ BestQ (fun t => cutA v 4 t s q sl y.toNat) (fun t => v (4 + 13 + t) 2) (fun t => v (4 + 13 + t) 0 = s ∧ v (4 + 13 + t) 7 = -4) (ahdS v 4 s q sl y.toNat) t (w 1 15) (w 1 13) (w 1 14)) → E X G 0 0 1000 w 34 [some (vr 1), some (vi s), some (vi y), some (vi q), some (vi k), some (vi t)] [] := by
          intro k34
          induction k34 using Nat.strongRecOn with
          | ind k34 ih34 =>
            intro t w hk34 hI34
            obtain ⟨ht0, ht1, hfr, hq⟩ := hI34; have sw : Sm w 4 v 4 := sm_of (fun a j g1 g2 => hfr a j (by omega) (by omega) (by omega) (by omega)) hW1.2 hW2.2; have alw : w 1 10 = sl := (hfr _ _ (by decide) (by decide) (by decide) (by decide)).trans hal; have tk : ∀ j, t < v 4 5 → w (4 + 13 + t) j = v (4 + 13 + t) j := fun j _ => hfr _ _ (by omega) (by omega) (by omega) (by omega); have hap := (ahs_bd (s := s) (q := q) (sl := sl) hW1 y.toNat).1; have hbp : 0 ≤ w 1 15 ∧ (w 1 13 = -4 ∨ (0 ≤ w 1 13 ∧ w 1 13 < v 4 5 ∧ 0 < w 1 14 ∧ w 1 14 < 50)) := (by rcases hq with ⟨z1, z2, _⟩ | ⟨z1, _⟩; (rw [z2]; exact ⟨hap, Or.inl z1⟩); (rw [z1.2.2.2.2.2.1]; exact ⟨cutA_pos hW1, Or.inr ⟨z1.1, by omega, z1.2.2.2.1, by have h1 := (hW.2.2.2.1 (w 1 13) z1.1 (by omega)).2.2.1; have h2 : w 1 14 < v (4 + 13 + w 1 13) 2 := z1.2.2.2.2.1; omega⟩⟩))
            refine E.iload C dX8_best_34 rfl ?_
            refine E.aload_n C dX8_best_36 rfl rfl ?_
            refine N.getR C fa_X8_19 rfl dX8_best_37 kd_1 (x := 4) (by decide +kernel) (by decide) ?_
            refine N.getI C fa_X8_243 rfl dX8_best_40 (kdV hv4) (x := v 4 5) (hfr _ _ (by omega) (by omega) (by omega) (by omega)) ?_
            refine E.icmp_ge C dX8_best_43 (tgt := 95) (by decide) (fun h43 => ?_) (fun h43 => ?_)
            · skip
              refine E.aload_n C dX8_best_95 rfl rfl ?_
              refine N.getI C fa_X8_234 rfl dX8_best_96 kd_1 (x := w 1 13) rfl ?_
              refine E.bipush C dX8_best_99 (by decide) ?_
              refine E.icmp_ne C dX8_best_101 (tgt := 107) (by decide) (fun h101 => ?_) (fun h101 => ?_)
              · skip
                refine E.iload C dX8_best_107 rfl ?_
                refine E.if_ne C dX8_best_109 (tgt := 127) (by decide) (fun h109 => ?_) (fun h109 => ?_)
                · skip
                  refine E.aload_n C dX8_best_127 rfl rfl ?_
                  refine N.getI C fa_X8_240 rfl dX8_best_128 kd_1 (x := w 1 15) rfl ?_
                  exact N.iret C hR dX8_best_131 (fun hi hx => by have e : t = v 4 5 := (by omega); subst e; first | exact ⟨hfr, Or.inr ⟨by omega, _, _, _, hq, by rw [if_neg (by omega), if_pos (by omega)]⟩⟩ | exact ⟨hfr, Or.inr ⟨by omega, _, _, _, hq, by rw [if_neg (by omega), if_neg (by omega)]⟩⟩)
                · skip
                  refine E.bipush C dX8_best_112 (by decide) ?_
                  refine E.aload_n C dX8_best_114 rfl rfl ?_
                  refine N.getI C fa_X8_234 rfl dX8_best_115 kd_1 (x := w 1 13) rfl ?_
                  refine E.imul C dX8_best_118 (by omega) ?_
                  refine E.aload_n C dX8_best_119 rfl rfl ?_
                  refine N.getI C fa_X8_237 rfl dX8_best_120 kd_1 (x := w 1 14) rfl ?_
                  refine E.iadd C dX8_best_123 (by omega) ?_
                  refine E.goto C dX8_best_124 (tgt := 131) (by decide) ?_
                  exact N.iret C hR dX8_best_131 (fun hi hx => by have e : t = v 4 5 := (by omega); subst e; first | exact ⟨hfr, Or.inr ⟨by omega, _, _, _, hq, by rw [if_neg (by omega), if_pos (by omega)]⟩⟩ | exact ⟨hfr, Or.inr ⟨by omega, _, _, _, hq, by rw [if_neg (by omega), if_neg (by omega)]⟩⟩)
              · skip
                refine E.bipush C dX8_best_104 (by decide) ?_
                exact N.iret C hR dX8_best_106 (fun hi hx => by have e : t = v 4 5 := (by omega); subst e; exact ⟨hfr, Or.inr ⟨by omega, _, _, _, hq, by rw [if_pos (by omega)]⟩⟩)
            · skip
              refine E.aload_n C dX8_best_46 rfl rfl ?_
              refine N.getR C fa_X8_19 rfl dX8_best_47 kd_1 (x := 4) (by decide +kernel) (by decide) ?_
              refine N.getR C fa_X8_132 rfl dX8_best_50 (kdV hv4) (x := 4 + 2) (rvV1 hv4) (by have := posVk hv4; omega) ?_
              refine E.iload C dX8_best_53 rfl ?_
              refine N.aald C (t := 5) (by decide) dX8_best_55 (kdVt hv4) (lnVt hv4) (by omega) (x := 4 + 13 + t) (rvVt hv4 (by omega)) (by have := posVk hv4; omega) ?_
              refine N.getI C fa_X8_136 rfl dX8_best_56 (kdVT hv4 (by omega)) (x := v (4 + 13 + t) 0) (hfr _ _ (by omega) (by omega) (by omega) (by omega)) ?_
              refine E.iload_n C dX8_best_59 rfl rfl ?_
              refine E.icmp_ne C dX8_best_60 (tgt := 89) (by decide) (fun h60 => ?_) (fun h60 => ?_)
              · skip
                refine N.iinc_5 C dX8_best_89 (hN 5 (by decide)) rfl (by omega) ?_
                refine E.goto C dX8_best_92 (tgt := 34) (by decide) ?_
                exact ih34 _ (by omega) (t + 1) w rfl (by first | exact ⟨by omega, by omega, hfr, hq.skip (fun z => by omega)⟩ | (refine ⟨by omega, by omega, fun a j g1 g2 g3 g4 => (f86 a j g1 g2 g3 g4).trans (hfr a j g1 g2 g3 g4), hq.step ht0 ⟨by omega, by omega⟩ c86⟩))
              · skip
                refine E.aload_n C dX8_best_63 rfl rfl ?_
                refine N.getR C fa_X8_19 rfl dX8_best_64 kd_1 (x := 4) (by decide +kernel) (by decide) ?_
                refine N.getR C fa_X8_132 rfl dX8_best_67 (kdV hv4) (x := 4 + 2) (rvV1 hv4) (by have := posVk hv4; omega) ?_
                refine E.iload C dX8_best_70 rfl ?_
                refine N.aald C (t := 5) (by decide) dX8_best_72 (kdVt hv4) (lnVt hv4) (by omega) (x := 4 + 13 + t) (rvVt hv4 (by omega)) (by have := posVk hv4; omega) ?_
                refine N.getI C fa_X8_158 rfl dX8_best_73 (kdVT hv4 (by omega)) (x := v (4 + 13 + t) 7) (hfr _ _ (by omega) (by omega) (by omega) (by omega)) ?_
                refine E.bipush C dX8_best_76 (by decide) ?_
                refine E.icmp_ne C dX8_best_78 (tgt := 89) (by decide) (fun h78 => ?_) (fun h78 => ?_)
                · skip
                  refine N.iinc_5 C dX8_best_89 (hN 5 (by decide)) rfl (by omega) ?_
                  refine E.goto C dX8_best_92 (tgt := 34) (by decide) ?_
                  exact ih34 _ (by omega) (t + 1) w rfl (by first | exact ⟨by omega, by omega, hfr, hq.skip (fun z => by omega)⟩ | (refine ⟨by omega, by omega, fun a j g1 g2 g3 g4 => (f86 a j g1 g2 g3 g4).trans (hfr a j g1 g2 g3 g4), hq.step ht0 ⟨by omega, by omega⟩ c86⟩))
                · skip
                  refine E.aload_n C dX8_best_81 rfl rfl ?_
                  refine E.iload C dX8_best_82 rfl ?_
                  refine E.iload_n C dX8_best_84 rfl rfl ?_
                  refine E.iload_n C dX8_best_85 rfl rfl ?_
                  refine N.callVv (S := []) (As := [vi t, vi y, vi q]) C hX (ok_X8_tryCuts G t y q sl w (sw.wfv hW) alw hsl (by omega) (by rw [sw.2.1]; omega) (by rw [tk _ (by omega)]; omega) hbp.1) yf_X8_tryCuts yv_X8_tryCuts ml_X8_231 rfl rfl rfl kd_1 (by decide) (by decide) (Nat.le_of_ble_eq_true rfl) dX8_best_86 rfl (fun w86 hp86 => ?_)
                  obtain ⟨f86, c86⟩ := hp86
                  rw [tk _ (by omega), tk _ (by omega), h60, show cutA w 4 t s q sl y.toNat = cutA v 4 t s q sl y.toNat from funext (fun z => sw.cta (by omega) hW1)] at c86
                  refine N.iinc_5 C dX8_best_89 (hN 5 (by decide)) rfl (by omega) ?_
                  refine E.goto C dX8_best_92 (tgt := 34) (by decide) ?_
                  exact ih34 _ (by omega) (t + 1) w86 rfl (by first | exact ⟨by omega, by omega, hfr, hq.skip (fun z => by omega)⟩ | (refine ⟨by omega, by omega, fun a j g1 g2 g3 g4 => (f86 a j g1 g2 g3 g4).trans (hfr a j g1 g2 g3 g4), hq.step ht0 ⟨by omega, by omega⟩ c86⟩))
        exact lp34 _ 0 w28 rfl (by refine ⟨by omega, by omega, hp28.1, ?_⟩; rw [hp28.2.1, hp28.2.2.1]; exact BestQ.none)
      · have h19 := b0.mp h19
        refine E.iconst C dX8_best_22 (by decide) ?_
        exact N.iret C hR dX8_best_23 (fun hi hx => by exact ⟨fun a j _ _ _ _ => rfl, Or.inl ⟨by omega, rfl⟩⟩)

set_option maxHeartbeats 4000000 in
set_option maxRecDepth 20000 in
theorem ok_X8_sewRefusal (G : GT) (n s z : Int) (v : VT) : MP G yX8_sewRefusal cX8_sewRefusal 3 (some .int) 2 42 [vi n, vi s, vi z] v (if (0 ≤ s ∧ s ≤ 1) ∧ (1 ≤ z ∧ z ≤ 40) then (if 10 ≤ n then -3 else 0) else -1) := by
  refine MN.of pn_X8_sewRefusal [some (vi n), some (vi s), some (vi z)] 0 rfl rfl (fun X C hX hn hR => ?_)
  have hN : ∀ i : Nat, i < 3 → i < xn X := fun i h => by rw [hn]; exact h
  refine E.rngk (fun hinv => ?_)
  refine E.loc (fun hloc => ?_)
  have hin_0 : in32 n := hloc _ (List.mem_of_getElem? (i := 0) rfl)
  have hin_1 : in32 s := hloc _ (List.mem_of_getElem? (i := 1) rfl)
  have hin_2 : in32 z := hloc _ (List.mem_of_getElem? (i := 2) rfl)
  refine E.iload_n C dX8_sewRefusal_0 rfl rfl ?_
  refine N.callSp (S := []) (As := [vi s]) C hX (ok_X8_isSlot G s v) yf_X8_isSlot yv_X8_isSlot ml_X8_175 rfl (by decide) (Nat.le_of_ble_eq_true rfl) dX8_sewRefusal_1 rfl ?_
  refine E.if_eq C dX8_sewRefusal_4 (tgt := 14) (by decide) (fun h4 => ?_) (fun h4 => ?_)
  · have h4 := b0.mp h4
    refine E.iconst C dX8_sewRefusal_14 (by decide) ?_
    exact N.iret C hR dX8_sewRefusal_15 (fun hi hx => by refine ⟨?_, rfl⟩; (repeat' split) <;> omega)
  · have h4 := b0n.mp h4
    refine E.iload_n C dX8_sewRefusal_7 rfl rfl ?_
    refine N.callSp (S := []) (As := [vi z]) C hX (ok_X8_isSize G z v) yf_X8_isSize yv_X8_isSize ml_X8_270 rfl (by decide) (Nat.le_of_ble_eq_true rfl) dX8_sewRefusal_8 rfl ?_
    refine E.if_ne C dX8_sewRefusal_11 (tgt := 16) (by decide) (fun h11 => ?_) (fun h11 => ?_)
    · have h11 := b0n.mp h11
      refine E.iload_n C dX8_sewRefusal_16 rfl rfl ?_
      refine E.bipush C dX8_sewRefusal_17 (by decide) ?_
      refine E.icmp_lt C dX8_sewRefusal_19 (tgt := 27) (by decide) (fun h19 => ?_) (fun h19 => ?_)
      · skip
        refine E.iconst C dX8_sewRefusal_27 (by decide) ?_
        exact N.iret C hR dX8_sewRefusal_28 (fun hi hx => by refine ⟨?_, rfl⟩; (repeat' split) <;> omega)
      · skip
        refine E.bipush C dX8_sewRefusal_22 (by decide) ?_
        refine E.goto C dX8_sewRefusal_24 (tgt := 28) (by decide) ?_
        exact N.iret C hR dX8_sewRefusal_28 (fun hi hx => by refine ⟨?_, rfl⟩; (repeat' split) <;> omega)
    · have h11 := b0.mp h11
      refine E.iconst C dX8_sewRefusal_14 (by decide) ?_
      exact N.iret C hR dX8_sewRefusal_15 (fun hi hx => by refine ⟨?_, rfl⟩; (repeat' split) <;> omega)

set_option maxHeartbeats 4000000 in
set_option maxRecDepth 20000 in
theorem ok_X8_sew (G : GT) (s z : Int) (v : VT) (hW : WFV v 4) : MNi G yX8_sew cX8_sew 4 (some .int) 3 64 [vr 1, vi s, vi z] v (fun x w => (¬ ((0 ≤ s ∧ s ≤ 1) ∧ (1 ≤ z ∧ z ≤ 40)) ∧ x = -1 ∧ w = v) ∨ (((0 ≤ s ∧ s ≤ 1) ∧ (1 ≤ z ∧ z ≤ 40)) ∧ 10 ≤ v 4 5 ∧ x = -3 ∧ w = v) ∨ (((0 ≤ s ∧ s ≤ 1) ∧ (1 ≤ z ∧ z ≤ 40)) ∧ v 4 5 < 10 ∧ x = v 4 5 ∧ w = sewV v 4 s z 3)) := by
  refine MN.of pn_X8_sew [some (vr 1), some (vi s), some (vi z), none] 1 rfl rfl (fun X C hX hn hR => ?_)
  have hN : ∀ i : Nat, i < 4 → i < xn X := fun i h => by rw [hn]; exact h
  refine E.rngk (fun hinv => ?_)
  refine E.loc (fun hloc => ?_)
  have hin_1 : in32 s := hloc _ (List.mem_of_getElem? (i := 1) rfl)
  have hin_2 : in32 z := hloc _ (List.mem_of_getElem? (i := 2) rfl)
  have hW1 := hW.1
  have hW2 := hW.2.1
  refine E.aload_n C dX8_sew_0 rfl rfl ?_
  refine N.getR C fa_X8_19 rfl dX8_sew_1 kd_1 (x := 4) (by decide +kernel) (by decide) ?_
  refine N.getI C fa_X8_243 rfl dX8_sew_4 (kdV hv4) (x := v 4 5) rfl ?_
  refine E.iload_n C dX8_sew_7 rfl rfl ?_
  refine E.iload_n C dX8_sew_8 rfl rfl ?_
  refine N.callSp (S := []) (As := [vi (v 4 5), vi s, vi z]) C hX (ok_X8_sewRefusal G (v 4 5) s z v) yf_X8_sewRefusal yv_X8_sewRefusal ml_X8_246 rfl (by decide) (Nat.le_of_ble_eq_true rfl) dX8_sew_9 rfl ?_
  obtain ⟨rf, hrf⟩ : ∃ zqv, zqv = (if (0 ≤ s ∧ s ≤ 1) ∧ (1 ≤ z ∧ z ≤ 40) then (if 10 ≤ (v 4 5) then -3 else 0) else -1) := ⟨_, rfl⟩
  refine E.veq hrf.symm ?_
  refine N.ist_3 C dX8_sew_12 (hN 3 (by decide)) rfl ?_
  have hrf2 : (¬ ((0 ≤ s ∧ s ≤ 1) ∧ (1 ≤ z ∧ z ≤ 40)) ∧ rf = -1) ∨ (((0 ≤ s ∧ s ≤ 1) ∧ (1 ≤ z ∧ z ≤ 40)) ∧ 10 ≤ v 4 5 ∧ rf = -3) ∨ (((0 ≤ s ∧ s ≤ 1) ∧ (1 ≤ z ∧ z ≤ 40)) ∧ v 4 5 < 10 ∧ rf = 0) := by
    rw [hrf]
    (repeat' split) <;> omega
  refine E.iload_n C dX8_sew_13 rfl rfl ?_
  refine E.if_eq C dX8_sew_14 (tgt := 21) (by decide) (fun h14 => ?_) (fun h14 => ?_)
  · skip
    refine E.aload_n C dX8_sew_21 rfl rfl ?_
    refine N.getR C fa_X8_19 rfl dX8_sew_22 kd_1 (x := 4) (by decide +kernel) (by decide) ?_
    refine E.iload_n C dX8_sew_25 rfl rfl ?_
    refine E.iload_n C dX8_sew_26 rfl rfl ?_
    refine E.iconst C dX8_sew_27 (by decide) ?_
    refine N.callVd (S := []) (As := [vi s, vi z, vi 3]) C hX (ok_X7_addPlain G 4 s z 3 v hv4 hW2) yf_X7_addPlain yv_X7_addPlain ml_X8_249 rfl rfl rfl (kdV hv4) (by decide) (by decide) (Nat.le_of_ble_eq_true rfl) dX8_sew_28 rfl ?_
    exact N.iret C hR dX8_sew_31 (fun hi hx => by first | (rcases hrf2 with q | q | q; exact Or.inl ⟨q.1, q.2, rfl⟩; exact Or.inr (Or.inl ⟨q.1, q.2.1, q.2.2, rfl⟩); (exfalso; omega)) | (rcases hrf2 with q | q | q; (exfalso; omega); (exfalso; omega); (refine Or.inr (Or.inr ⟨q.1, q.2.1, if_neg (by omega), ?_⟩); rw [if_neg (by omega)]; rfl)))
  · skip
    refine E.iload_n C dX8_sew_17 rfl rfl ?_
    refine E.goto C dX8_sew_18 (tgt := 31) (by decide) ?_
    exact N.iret C hR dX8_sew_31 (fun hi hx => by first | (rcases hrf2 with q | q | q; exact Or.inl ⟨q.1, q.2, rfl⟩; exact Or.inr (Or.inl ⟨q.1, q.2.1, q.2.2, rfl⟩); (exfalso; omega)) | (rcases hrf2 with q | q | q; (exfalso; omega); (exfalso; omega); (refine Or.inr (Or.inr ⟨q.1, q.2.1, if_neg (by omega), ?_⟩); rw [if_neg (by omega)]; rfl)))

set_option maxHeartbeats 4000000 in
set_option maxRecDepth 20000 in
theorem ok_X8_wish (G : GT) (s y q k sl : Int) (v : VT) (hW : WFV v 4) (hal : v 1 10 = sl) (hsl : 0 ≤ sl ∧ sl ≤ 4) : MNi G yX8_wish cX8_wish 9 (some .int) 6 146 [vr 1, vi s, vi y, vi q, vi k] v (fun x w => (∀ a j, (a < 27 ∨ 49 < a) → (a < 54 ∨ 59 < a) → ¬ a = 64 → w a j = v a j) ∧ ((¬ ((0 ≤ s ∧ s ≤ 1) ∧ (1 ≤ y ∧ y ≤ 4) ∧ (k = 0 ∨ k = 1)) ∧ x = -1) ∨ (((0 ≤ s ∧ s ≤ 1) ∧ (1 ≤ y ∧ y ≤ 4) ∧ (k = 0 ∨ k = 1)) ∧ 10 ≤ v 4 5 ∧ x = -3) ∨ (((0 ≤ s ∧ s ≤ 1) ∧ (1 ≤ y ∧ y ≤ 4) ∧ (k = 0 ∨ k = 1)) ∧ v 4 5 < 10 ∧ ∃ z n, LeastQ (wishA v 4 s q sl y.toNat) 40 z n ∧ x = if k = 0 then z else n))) := by
  refine MN.of pn_X8_wish [some (vr 1), some (vi s), some (vi y), some (vi q), some (vi k), none, none, none, none] 4 rfl rfl (fun X C hX hn hR => ?_)
  have hN : ∀ i : Nat, i < 9 → i < xn X := fun i h => by rw [hn]; exact h
  refine E.rngk (fun hinv => ?_)
  refine E.loc (fun hloc => ?_)
  have hin_1 : in32 s := hloc _ (List.mem_of_getElem? (i := 1) rfl)
  have hin_2 : in32 y := hloc _ (List.mem_of_getElem? (i := 2) rfl)
  have hin_3 : in32 q := hloc _ (List.mem_of_getElem? (i := 3) rfl)
  have hin_4 : in32 k := hloc _ (List.mem_of_getElem? (i := 4) rfl)
  have hW1 := hW.1
  have hW2 := hW.2.1
  refine E.iload_n C dX8_wish_0 rfl rfl ?_
  refine N.callSp (S := []) (As := [vi s]) C hX (ok_X8_isSlot G s v) yf_X8_isSlot yv_X8_isSlot ml_X8_175 rfl (by decide) (Nat.le_of_ble_eq_true rfl) dX8_wish_1 rfl ?_
  refine E.if_eq C dX8_wish_4 (tgt := 22) (by decide) (fun h4 => ?_) (fun h4 => ?_)
  · have h4 := b0.mp h4
    refine E.iconst C dX8_wish_22 (by decide) ?_
    exact N.iret C hR dX8_wish_23 (fun hi hx => by exact ⟨fun a j _ _ _ => rfl, Or.inl ⟨by omega, rfl⟩⟩)
  · have h4 := b0n.mp h4
    refine E.iload_n C dX8_wish_7 rfl rfl ?_
    refine N.callSp (S := []) (As := [vi y]) C hX (ok_X8_isYears G y v) yf_X8_isYears yv_X8_isYears ml_X8_213 rfl (by decide) (Nat.le_of_ble_eq_true rfl) dX8_wish_8 rfl ?_
    refine E.if_eq C dX8_wish_11 (tgt := 22) (by decide) (fun h11 => ?_) (fun h11 => ?_)
    · have h11 := b0.mp h11
      refine E.iconst C dX8_wish_22 (by decide) ?_
      exact N.iret C hR dX8_wish_23 (fun hi hx => by exact ⟨fun a j _ _ _ => rfl, Or.inl ⟨by omega, rfl⟩⟩)
    · have h11 := b0n.mp h11
      refine E.iload C dX8_wish_14 rfl ?_
      refine N.callSp (S := []) (As := [vi k]) C hX (ok_X8_isZeroOrOne G k v) yf_X8_isZeroOrOne yv_X8_isZeroOrOne ml_X8_182 rfl (by decide) (Nat.le_of_ble_eq_true rfl) dX8_wish_16 rfl ?_
      refine E.if_ne C dX8_wish_19 (tgt := 24) (by decide) (fun h19 => ?_) (fun h19 => ?_)
      · have h19 := b0n.mp h19
        refine E.aload_n C dX8_wish_24 rfl rfl ?_
        refine N.getR C fa_X8_19 rfl dX8_wish_25 kd_1 (x := 4) (by decide +kernel) (by decide) ?_
        refine N.getI C fa_X8_243 rfl dX8_wish_28 (kdV hv4) (x := v 4 5) rfl ?_
        refine E.bipush C dX8_wish_31 (by decide) ?_
        refine E.icmp_lt C dX8_wish_33 (tgt := 39) (by decide) (fun h33 => ?_) (fun h33 => ?_)
        · skip
          refine E.iconst C dX8_wish_39 (by decide) ?_
          refine N.ist_5 C dX8_wish_40 (hN 5 (by decide)) rfl ?_
          refine E.iconst C dX8_wish_42 (by decide) ?_
          refine N.ist_6 C dX8_wish_43 (hN 6 (by decide)) rfl ?_
          refine E.iconst C dX8_wish_45 (by decide) ?_
          refine N.ist_7 C dX8_wish_46 (hN 7 (by decide)) rfl ?_
          have lp48 : ∀ (k48 : Nat) (wz : Int) (wn : Int) (z : Int) (w : VT), (41 - z).toNat = k48 → (1 ≤ z ∧ z ≤ 41 ∧ (∀ a j, (a < 27 ∨ 49 < a) → (a < 54 ∨ 59 < a) → ¬ a = 64 → w a j = v a j) ∧ ((z = 1 ∧ wz = 0) ∨ (1 < z ∧ LeastQ (wishA v 4 s q sl y.toNat) (z - 1) wz wn))) → E X G 0 0 1000 w 48 [some (vr 1), some (vi s), some (vi y), some (vi q), some (vi k), some (vi wz), some (vi wn), some (vi z), none] [] := by
            intro k48
            induction k48 using Nat.strongRecOn with
            | ind k48 ih48 =>
              intro wz wn z w hk48 hI48
              obtain ⟨hz0, hz1, hfr, hq⟩ := hI48; have sw : Sm w 4 v 4 := sm_of (fun a j g1 g2 => hfr a j (by omega) (by omega) (by omega)) hW1.2 hW2.2; have Ww := sw.wfv hW; have Ww1 := Ww.1; have Ww2 := Ww.2.1; have Ww3 := Ww.lz
              refine E.iload C dX8_wish_48 rfl ?_
              refine E.bipush C dX8_wish_50 (by decide) ?_
              refine E.icmp_gt C dX8_wish_52 (tgt := 114) (by decide) (fun h52 => ?_) (fun h52 => ?_)
              · skip
                refine E.iload C dX8_wish_114 rfl ?_
                refine E.if_ne C dX8_wish_116 (tgt := 124) (by decide) (fun h116 => ?_) (fun h116 => ?_)
                · skip
                  refine E.iload C dX8_wish_124 rfl ?_
                  exact N.iret C hR dX8_wish_126 (fun hi hx => by have e : z - 1 = 40 := (by omega); have hq2 := (hq.resolve_left (fun z => by omega)).2; rw [e] at hq2; first | exact ⟨hfr, Or.inr (Or.inr ⟨by omega, by omega, _, _, hq2, by rw [if_pos (by omega)]⟩)⟩ | exact ⟨hfr, Or.inr (Or.inr ⟨by omega, by omega, _, _, hq2, by rw [if_neg (by omega)]⟩)⟩)
                · skip
                  refine E.iload C dX8_wish_119 rfl ?_
                  refine E.goto C dX8_wish_121 (tgt := 126) (by decide) ?_
                  exact N.iret C hR dX8_wish_126 (fun hi hx => by have e : z - 1 = 40 := (by omega); have hq2 := (hq.resolve_left (fun z => by omega)).2; rw [e] at hq2; first | exact ⟨hfr, Or.inr (Or.inr ⟨by omega, by omega, _, _, hq2, by rw [if_pos (by omega)]⟩)⟩ | exact ⟨hfr, Or.inr (Or.inr ⟨by omega, by omega, _, _, hq2, by rw [if_neg (by omega)]⟩)⟩)
              · skip
                refine E.aload_n C dX8_wish_55 rfl rfl ?_
                refine N.getR C fa_X8_23 rfl dX8_wish_56 kd_1 (x := 27) (by decide +kernel) (by decide) ?_
                refine E.aload_n C dX8_wish_59 rfl rfl ?_
                refine N.getR C fa_X8_19 rfl dX8_wish_60 kd_1 (x := 4) (by decide +kernel) (by decide) ?_
                refine N.callVe (S := []) (As := [vr 4]) C hX (ok_X7_becomeBodies G 27 4 w hv27 hv4 (Or.inr (by decide)) Ww1 Ww2 Ww3) yf_X7_becomeBodies yv_X7_becomeBodies ml_X8_216 rfl rfl rfl (kdV hv27) (by decide) (by decide) (Nat.le_of_ble_eq_true rfl) dX8_wish_63 rfl ?_
                refine E.aload_n C dX8_wish_66 rfl rfl ?_
                refine N.getR C fa_X8_23 rfl dX8_wish_67 kd_1 (x := 27) (by decide +kernel) (by decide) ?_
                refine E.iload_n C dX8_wish_70 rfl rfl ?_
                refine E.iload C dX8_wish_71 rfl ?_
                refine E.bipush C dX8_wish_73 (by decide) ?_
                refine N.callVd (S := []) (As := [vi s, vi z, vi 9]) C hX (ok_X7_addPlain G 27 s z 9 (bodF w 27 4 (w 4 4) (w 4 5)) hv27 (by rw [bodF_5]; exact Ww2)) yf_X7_addPlain yv_X7_addPlain ml_X8_249 rfl rfl rfl (kdV hv27) (by decide) (by decide) (Nat.le_of_ble_eq_true rfl) dX8_wish_75 rfl ?_
                refine E.popI C dX8_wish_78 ?_
                obtain ⟨w79, hw79⟩ : ∃ zqv, zqv = (if 10 ≤ (bodF w 27 4 (w 4 4) (w 4 5)) 27 5 then (bodF w 27 4 (w 4 4) (w 4 5)) else upd2 (plainF (bodF w 27 4 (w 4 4) (w 4 5)) (27 + 13 + (bodF w 27 4 (w 4 4) (w 4 5)) 27 5) s z 9) 27 5 ((bodF w 27 4 (w 4 4) (w 4 5)) 27 5 + 1)) := ⟨_, rfl⟩
                refine E.heq hw79.symm ?_
                have b63 : Sm (bodF w 27 4 (w 4 4) (w 4 5)) 27 v 4 := (sm_bod Ww1 Ww2).tr sw
                have e795 : bodF w 27 4 (w 4 4) (w 4 5) 27 5 = v 4 5 := b63.2.1
                have hw79b : w79 = sewV (bodF w 27 4 (w 4 4) (w 4 5)) 27 s z 9 := by rw [hw79, if_neg (by omega)]; rfl
                have s79 : Sm w79 27 (sewV v 4 s z 9) 4 := by rw [hw79b]; exact b63.sew hW1.2 hW2.1
                have W79 := s79.wfv (hW.sew (by omega) (by omega) (by omega) (by omega))
                have f79 : (∀ a j, (a < 27 ∨ 49 < a) → (a < 54 ∨ 59 < a) → ¬ a = 64 → w79 a j = v a j) := fun a j g1 g2 g3 => by rw [hw79b, sewV_o (by omega) (by omega), bodF_out (by omega) (by omega) (by omega)]; exact hfr a j g1 g2 g3
                have a79 : w79 1 10 = sl := (f79 _ _ (by decide) (by decide) (by decide)).trans hal
                refine E.aload_n C dX8_wish_79 rfl rfl ?_
                refine E.iload_n C dX8_wish_80 rfl rfl ?_
                refine E.iload_n C dX8_wish_81 rfl rfl ?_
                refine E.iload_n C dX8_wish_82 rfl rfl ?_
                refine N.callVi (S := []) (As := [vi s, vi y, vi q]) C hX (ok_X8_newAhead G s y q sl w79 W79 (by omega) a79 hsl) yf_X8_newAhead yv_X8_newAhead ml_X8_219 rfl rfl rfl kd_1 (by decide) (by decide) (Nat.le_of_ble_eq_true rfl) dX8_wish_83 rfl (fun t83 w83 hb83 hp83 => ?_)
                obtain ⟨n1, n2, n3⟩ := hp83
                have n1 : t83 = wishA v 4 s q sl y.toNat z := n1.trans (s79.ahs (by rw [sewV_o (by omega) (by omega)]; exact hW1) _)
                refine N.ist_8 C dX8_wish_86 (hN 8 (by decide)) rfl ?_
                refine E.iload C dX8_wish_88 rfl ?_
                refine E.if_eq C dX8_wish_90 (tgt := 100) (by decide) (fun h90 => ?_) (fun h90 => ?_)
                · skip
                  refine E.iload C dX8_wish_100 rfl ?_
                  refine N.ist_5 C dX8_wish_102 (hN 5 (by decide)) rfl ?_
                  refine E.iload C dX8_wish_104 rfl ?_
                  refine N.ist_6 C dX8_wish_106 (hN 6 (by decide)) rfl ?_
                  refine N.iinc_7 C dX8_wish_108 (hN 7 (by decide)) rfl (by omega) ?_
                  refine E.goto C dX8_wish_111 (tgt := 48) (by decide) ?_
                  refine E.drop (i := 8) ?_
                  exact ih48 _ (by omega) z t83 (z + 1) w83 rfl (by refine ⟨by omega, by omega, fun a j g1 g2 g3 => (n3 a j g1 g2 g3).trans (f79 a j g1 g2 g3), Or.inr ⟨by omega, ?_⟩⟩; rcases hq with ⟨q1, q2⟩ | ⟨q1, q2⟩; (first | (exfalso; have := q2; omega) | (rw [n1, q1]; exact LeastQ.one)); (have e : z - 1 + 1 = z := (by omega); have e2 : z + 1 - 1 = z - 1 + 1 := (by omega); rw [e2]; have hwz := q2.1; first | (exfalso; omega) | (have q3 := q2.next (by rw [e]; omega); rw [e] at q3 ⊢; rw [n1]; exact q3) | exact q2.keep (by rw [e]; omega)))
                · skip
                  refine E.iload C dX8_wish_93 rfl ?_
                  refine E.iload C dX8_wish_95 rfl ?_
                  refine E.icmp_ge C dX8_wish_97 (tgt := 108) (by decide) (fun h97 => ?_) (fun h97 => ?_)
                  · skip
                    refine N.iinc_7 C dX8_wish_108 (hN 7 (by decide)) rfl (by omega) ?_
                    refine E.goto C dX8_wish_111 (tgt := 48) (by decide) ?_
                    refine E.drop (i := 8) ?_
                    exact ih48 _ (by omega) wz wn (z + 1) w83 rfl (by refine ⟨by omega, by omega, fun a j g1 g2 g3 => (n3 a j g1 g2 g3).trans (f79 a j g1 g2 g3), Or.inr ⟨by omega, ?_⟩⟩; rcases hq with ⟨q1, q2⟩ | ⟨q1, q2⟩; (first | (exfalso; have := q2; omega) | (rw [n1, q1]; exact LeastQ.one)); (have e : z - 1 + 1 = z := (by omega); have e2 : z + 1 - 1 = z - 1 + 1 := (by omega); rw [e2]; have hwz := q2.1; first | (exfalso; omega) | (have q3 := q2.next (by rw [e]; omega); rw [e] at q3 ⊢; rw [n1]; exact q3) | exact q2.keep (by rw [e]; omega)))
                  · skip
                    refine E.iload C dX8_wish_100 rfl ?_
                    refine N.ist_5 C dX8_wish_102 (hN 5 (by decide)) rfl ?_
                    refine E.iload C dX8_wish_104 rfl ?_
                    refine N.ist_6 C dX8_wish_106 (hN 6 (by decide)) rfl ?_
                    refine N.iinc_7 C dX8_wish_108 (hN 7 (by decide)) rfl (by omega) ?_
                    refine E.goto C dX8_wish_111 (tgt := 48) (by decide) ?_
                    refine E.drop (i := 8) ?_
                    exact ih48 _ (by omega) z t83 (z + 1) w83 rfl (by refine ⟨by omega, by omega, fun a j g1 g2 g3 => (n3 a j g1 g2 g3).trans (f79 a j g1 g2 g3), Or.inr ⟨by omega, ?_⟩⟩; rcases hq with ⟨q1, q2⟩ | ⟨q1, q2⟩; (first | (exfalso; have := q2; omega) | (rw [n1, q1]; exact LeastQ.one)); (have e : z - 1 + 1 = z := (by omega); have e2 : z + 1 - 1 = z - 1 + 1 := (by omega); rw [e2]; have hwz := q2.1; first | (exfalso; omega) | (have q3 := q2.next (by rw [e]; omega); rw [e] at q3 ⊢; rw [n1]; exact q3) | exact q2.keep (by rw [e]; omega)))
          exact lp48 _ 0 0 1 v rfl (by exact ⟨by omega, by omega, fun a j _ _ _ => rfl, Or.inl ⟨rfl, rfl⟩⟩)
        · skip
          refine E.bipush C dX8_wish_36 (by decide) ?_
          exact N.iret C hR dX8_wish_38 (fun hi hx => by exact ⟨fun a j _ _ _ => rfl, Or.inr (Or.inl ⟨by omega, by omega, rfl⟩)⟩)
      · have h19 := b0.mp h19
        refine E.iconst C dX8_wish_22 (by decide) ?_
        exact N.iret C hR dX8_wish_23 (fun hi hx => by exact ⟨fun a j _ _ _ => rfl, Or.inl ⟨by omega, rfl⟩⟩)

set_option maxHeartbeats 4000000 in
set_option maxRecDepth 20000 in
theorem ok_X8_swap (G : GT) (sl : Int) (v : VT) (hW : WFV v 4) (hal : v 1 10 = sl) (hsl : 0 ≤ sl ∧ sl ≤ 4) : MNi G yX8_swap cX8_swap 1 (some .int) 5 120 [vr 1] v (fun x w => w = v ∧ x = fstS v 4 sl ∧ swapQ (swp v 4 sl) (v 4 4) x) := by
  refine MN.of pn_X8_swap [some (vr 1)] 0 rfl rfl (fun X C hX hn hR => ?_)
  have hN : ∀ i : Nat, i < 1 → i < xn X := fun i h => by rw [hn]; exact h
  refine E.rngk (fun hinv => ?_)
  refine E.loc (fun hloc => ?_)
  have hW1 := hW.1
  have hW2 := hW.2.1
  refine E.aload_n C dX8_swap_0 rfl rfl ?_
  refine N.getR C fa_X8_19 rfl dX8_swap_1 kd_1 (x := 4) (by decide +kernel) (by decide) ?_
  refine E.aload_n C dX8_swap_4 rfl rfl ?_
  refine N.getI C fa_X8_67 rfl dX8_swap_5 kd_1 (x := v 1 10) rfl ?_
  refine E.veq (x' := sl) (hal) ?_
  refine N.callVq (S := []) (As := [vi sl]) C hX (ok_X7_firstSwap G 4 sl v hv4 hW.1 hW.2.1 hW.th hW.fz ⟨by omega, by omega⟩) yf_X7_firstSwap yv_X7_firstSwap ml_X8_252 rfl rfl rfl (kdV hv4) (by decide) (by decide) (Nat.le_of_ble_eq_true rfl) dX8_swap_8 rfl (fun t8 hb8 hp8 => ?_)
  exact N.iret C hR dX8_swap_11 (fun hi hx => by exact ⟨rfl, (fst_is (by omega) hp8).1, hp8⟩)

set_option maxHeartbeats 4000000 in
set_option maxRecDepth 20000 in
theorem ok_X8_settle (G : GT) (sl : Int) (v : VT) (hW : WFV v 4) (hal : v 1 10 = sl) (hsl : 0 ≤ sl ∧ sl ≤ 4) (hlk : LikOK v 4) : MNi G yX8_settle cX8_settle 4 (some .int) 5 120 [vr 1] v (fun x w => 0 ≤ x ∧ x ≤ 144 ∧ w = stlN v 4 sl x.toNat ∧ (∀ i : Nat, (i : Int) < x → ¬ fstS (stlN v 4 sl i) 4 sl = -4) ∧ fstS (stlN v 4 sl x.toNat) 4 sl = -4) := by
  refine MN.of pn_X8_settle [some (vr 1), none, none, none] 3 rfl rfl (fun X C hX hn hR => ?_)
  have hN : ∀ i : Nat, i < 4 → i < xn X := fun i h => by rw [hn]; exact h
  refine E.rngk (fun hinv => ?_)
  refine E.loc (fun hloc => ?_)
  have hW1 := hW.1
  have hW2 := hW.2.1
  have hpb := pot_bd hW hlk
  refine E.sipush C dX8_settle_0 (by decide) ?_
  refine N.ist_1 C dX8_settle_3 (hN 1 (by decide)) rfl ?_
  refine E.iconst C dX8_settle_4 (by decide) ?_
  refine N.ist_2 C dX8_settle_5 (hN 2 (by decide)) rfl ?_
  have lp6 : ∀ (k6 : Nat) (m : Int) (w : VT), (144 - m).toNat = k6 → (0 ≤ m ∧ m ≤ 144 ∧ w = stlN v 4 sl m.toNat ∧ (∀ i : Nat, (i : Int) < m → ¬ fstS (stlN v 4 sl i) 4 sl = -4) ∧ WFV w 4 ∧ LikOK w 4 ∧ 2 * m ≤ sumN (potF w 4) (w 4 5).toNat ∧ w 1 10 = sl) → E X G 0 0 1000 w 6 [some (vr 1), some (vi 144), some (vi m), none] [] := by
    intro k6
    induction k6 using Nat.strongRecOn with
    | ind k6 ih6 =>
      intro m w hk6 hI6
      obtain ⟨hm0, hm1, hw, hno, Ww, hlw, hpw, alw⟩ := hI6; have hpb2 := pot_bd Ww hlw; have Ww1 := Ww.1; have Ww2 := Ww.2.1
      refine E.iload_n C dX8_settle_6 rfl rfl ?_
      refine E.iload_n C dX8_settle_7 rfl rfl ?_
      refine E.icmp_ge C dX8_settle_8 (tgt := 60) (by decide) (fun h8 => ?_) (fun h8 => ?_)
      · skip
        refine E.iload_n C dX8_settle_60 rfl rfl ?_
        exact N.iret C hR dX8_settle_61 (fun hi hx => by first | (exfalso; omega) | exact ⟨hm0, hm1, hw, hno, by rw [← hw, ← hfx.1]; omega⟩)
      · skip
        refine E.aload_n C dX8_settle_11 rfl rfl ?_
        refine N.getR C fa_X8_19 rfl dX8_settle_12 kd_1 (x := 4) (by decide +kernel) (by decide) ?_
        refine E.aload_n C dX8_settle_15 rfl rfl ?_
        refine N.getI C fa_X8_67 rfl dX8_settle_16 kd_1 (x := w 1 10) rfl ?_
        refine E.veq (x' := sl) (alw) ?_
        refine N.callVq (S := []) (As := [vi sl]) C hX (ok_X7_firstSwap G 4 sl w hv4 Ww.1 Ww.2.1 Ww.th Ww.fz ⟨by omega, by omega⟩) yf_X7_firstSwap yv_X7_firstSwap ml_X8_252 rfl rfl rfl (kdV hv4) (by decide) (by decide) (Nat.le_of_ble_eq_true rfl) dX8_settle_19 rfl (fun t19 hb19 hp19 => ?_)
        have hfx := fst_is (by omega) hp19
        have hsr : t19 = -4 ∨ (0 ≤ t19 ∧ t19 < 300) := by
          rcases hp19 with q | ⟨s, a, b, q1, q2, q3, q4, q5, q6, -⟩
          · exact Or.inl q.1
          · right; omega
        refine N.ist_3 C dX8_settle_22 (hN 3 (by decide)) rfl ?_
        refine E.iload_n C dX8_settle_23 rfl rfl ?_
        refine E.bipush C dX8_settle_24 (by decide) ?_
        refine E.icmp_ne C dX8_settle_26 (tgt := 32) (by decide) (fun h26 => ?_) (fun h26 => ?_)
        · skip
          have hnx := swp_next (sl := sl) Ww hlw hp19 h26
          refine E.aload_n C dX8_settle_32 rfl rfl ?_
          refine N.getR C fa_X8_19 rfl dX8_settle_33 kd_1 (x := 4) (by decide +kernel) (by decide) ?_
          refine E.iload_n C dX8_settle_36 rfl rfl ?_
          refine E.bipush C dX8_settle_37 (by decide) ?_
          refine E.idiv C dX8_settle_39 (by omega) (by omega) ?_
          refine E.iload_n C dX8_settle_40 rfl rfl ?_
          refine E.bipush C dX8_settle_41 (by decide) ?_
          refine E.idiv C dX8_settle_43 (by omega) (by omega) ?_
          refine E.bipush C dX8_settle_44 (by decide) ?_
          refine E.irem C dX8_settle_46 (by omega) (by omega) ?_
          refine E.iload_n C dX8_settle_47 rfl rfl ?_
          refine E.bipush C dX8_settle_48 (by decide) ?_
          refine E.irem C dX8_settle_50 (by omega) (by omega) ?_
          refine N.callVe (S := []) (As := [vi (t19 / 100), vi ((t19 / 10) % 10), vi (t19 % 10)]) C hX (ok_X7_makeSwap G 4 (t19 / 100) ((t19 / 10) % 10) (t19 % 10) w hv4 Ww2) yf_X7_makeSwap yv_X7_makeSwap ml_X8_255 rfl rfl rfl (kdV hv4) (by decide) (by decide) (Nat.le_of_ble_eq_true rfl) dX8_settle_51 rfl ?_
          refine N.iinc_2 C dX8_settle_54 (hN 2 (by decide)) rfl (by omega) ?_
          refine E.goto C dX8_settle_57 (tgt := 6) (by decide) ?_
          refine E.drop (i := 3) ?_
          exact ih6 _ (by omega) (m + 1) (swF w 4 (t19 / 100) ((t19 / 10) % 10) (t19 % 10)) rfl (by refine ⟨by omega, by omega, ?_, fun i hi => ?_, ?_, ?_, ?_, ?_⟩; (rw [stl_step hm0, ← hw]; exact hnx.2.2.2.2.symm); (by_cases hi2 : (i : Int) = m; (have e : i = m.toNat := (by omega); rw [e, ← hw, ← hfx.1]; exact h26); exact hno i (by omega)); (rw [← hnx.2.2.2.2]; exact hnx.1); (rw [← hnx.2.2.2.2]; exact hnx.2.1); (rw [← hnx.2.2.2.2]; have := hnx.2.2.1; omega); (rw [← hnx.2.2.2.2, hnx.2.2.2.1 _ _ (by omega)]; exact alw))
        · skip
          refine E.goto C dX8_settle_29 (tgt := 60) (by decide) ?_
          refine E.iload_n C dX8_settle_60 rfl rfl ?_
          exact N.iret C hR dX8_settle_61 (fun hi hx => by first | (exfalso; omega) | exact ⟨hm0, hm1, hw, hno, by rw [← hw, ← hfx.1]; omega⟩)
  exact lp6 _ 0 v rfl (by exact ⟨by omega, by omega, rfl, fun i hi => by omega, hW, hlk, by omega, hal⟩)

set_option maxHeartbeats 4000000 in
set_option maxRecDepth 20000 in
theorem ok_X8_mark (G : GT) (z : Int) (v : VT) (hm : 0 ≤ v 4 6 ∧ v 4 6 ≤ 6) : MNi G yX8_mark cX8_mark 2 (some .int) 2 42 [vr 1, vi z] v (fun x w => (¬ (1 ≤ z ∧ z ≤ 40) ∧ x = -1 ∧ w = v) ∨ ((1 ≤ z ∧ z ≤ 40) ∧ 6 ≤ v 4 6 ∧ x = -3 ∧ w = v) ∨ ((1 ≤ z ∧ z ≤ 40) ∧ v 4 6 < 6 ∧ x = v 4 6 + 1 ∧ w = upd2 (upd2 v (4 + 4) (v 4 6) z) 4 6 (v 4 6 + 1))) := by
  refine MN.of pn_X8_mark [some (vr 1), some (vi z)] 0 rfl rfl (fun X C hX hn hR => ?_)
  have hN : ∀ i : Nat, i < 2 → i < xn X := fun i h => by rw [hn]; exact h
  refine E.rngk (fun hinv => ?_)
  refine E.loc (fun hloc => ?_)
  have hin_1 : in32 z := hloc _ (List.mem_of_getElem? (i := 1) rfl)
  refine E.iload_n C dX8_mark_0 rfl rfl ?_
  refine N.callSp (S := []) (As := [vi z]) C hX (ok_X8_isSize G z v) yf_X8_isSize yv_X8_isSize ml_X8_270 rfl (by decide) (Nat.le_of_ble_eq_true rfl) dX8_mark_1 rfl ?_
  refine E.if_ne C dX8_mark_4 (tgt := 9) (by decide) (fun h4 => ?_) (fun h4 => ?_)
  · have h4 := b0n.mp h4
    refine E.aload_n C dX8_mark_9 rfl rfl ?_
    refine N.getR C fa_X8_19 rfl dX8_mark_10 kd_1 (x := 4) (by decide +kernel) (by decide) ?_
    refine N.getI C fa_X8_273 rfl dX8_mark_13 (kdV hv4) (x := v 4 6) rfl ?_
    refine E.bipush C dX8_mark_16 (by decide) ?_
    refine E.icmp_lt C dX8_mark_18 (tgt := 24) (by decide) (fun h18 => ?_) (fun h18 => ?_)
    · skip
      refine E.aload_n C dX8_mark_24 rfl rfl ?_
      refine N.getR C fa_X8_19 rfl dX8_mark_25 kd_1 (x := 4) (by decide +kernel) (by decide) ?_
      refine E.iload_n C dX8_mark_28 rfl rfl ?_
      refine N.callVe (S := []) (As := [vi z]) C hX (ok_X7_addMark G 4 z v hv4 hm) yf_X7_addMark yv_X7_addMark ml_X8_276 rfl rfl rfl (kdV hv4) (by decide) (by decide) (Nat.le_of_ble_eq_true rfl) dX8_mark_29 rfl ?_
      refine E.aload_n C dX8_mark_32 rfl rfl ?_
      refine N.getR C fa_X8_19 rfl dX8_mark_33 kd_1 (x := 4) (by decide +kernel) (by decide) ?_
      refine N.getI C fa_X8_273 rfl dX8_mark_36 (kdV hv4) (x := (if v 4 6 < 6 then upd2 (upd2 v (4 + 4) (v 4 6) z) 4 6 (v 4 6 + 1) else v) 4 6) rfl ?_
      exact N.iret C hR dX8_mark_39 (fun hi hx => by first | exact Or.inl ⟨by omega, rfl, rfl⟩ | exact Or.inr (Or.inl ⟨by omega, by omega, rfl, rfl⟩) | (refine Or.inr (Or.inr ⟨by omega, by omega, ?_, ?_⟩) <;> rw [if_pos (by omega)] ; exact upd2_same _ _ _ _))
    · skip
      refine E.bipush C dX8_mark_21 (by decide) ?_
      exact N.iret C hR dX8_mark_23 (fun hi hx => by first | exact Or.inl ⟨by omega, rfl, rfl⟩ | exact Or.inr (Or.inl ⟨by omega, by omega, rfl, rfl⟩) | (refine Or.inr (Or.inr ⟨by omega, by omega, ?_, ?_⟩) <;> rw [if_pos (by omega)] ; exact upd2_same _ _ _ _))
  · have h4 := b0.mp h4
    refine E.iconst C dX8_mark_7 (by decide) ?_
    exact N.iret C hR dX8_mark_8 (fun hi hx => by first | exact Or.inl ⟨by omega, rfl, rfl⟩ | exact Or.inr (Or.inl ⟨by omega, by omega, rfl, rfl⟩) | (refine Or.inr (Or.inr ⟨by omega, by omega, ?_, ?_⟩) <;> rw [if_pos (by omega)] ; exact upd2_same _ _ _ _))

set_option maxHeartbeats 4000000 in
set_option maxRecDepth 20000 in
theorem ok_X8_unmark (G : GT) (n : Int) (v : VT) (hm : 0 ≤ v 4 6 ∧ v 4 6 ≤ 6) : MNi G yX8_unmark cX8_unmark 3 (some .int) 1 22 [vr 1, vi n] v (fun x w => (¬ (0 ≤ n ∧ n ≤ v 4 6) ∧ x = -1 ∧ w = v) ∨ ((0 ≤ n ∧ n ≤ v 4 6) ∧ x = v 4 6 ∧ w = upd2 v 4 6 n)) := by
  refine MN.of pn_X8_unmark [some (vr 1), some (vi n), none] 1 rfl rfl (fun X C hX hn hR => ?_)
  have hN : ∀ i : Nat, i < 3 → i < xn X := fun i h => by rw [hn]; exact h
  refine E.rngk (fun hinv => ?_)
  refine E.loc (fun hloc => ?_)
  have hin_1 : in32 n := hloc _ (List.mem_of_getElem? (i := 1) rfl)
  refine E.iload_n C dX8_unmark_0 rfl rfl ?_
  refine E.iconst C dX8_unmark_1 (by decide) ?_
  refine E.aload_n C dX8_unmark_2 rfl rfl ?_
  refine N.getR C fa_X8_19 rfl dX8_unmark_3 kd_1 (x := 4) (by decide +kernel) (by decide) ?_
  refine N.getI C fa_X8_273 rfl dX8_unmark_6 (kdV hv4) (x := v 4 6) rfl ?_
  refine N.callSp (S := []) (As := [vi n, vi 0, vi (v 4 6)]) C hX (ok_X8_within G n 0 (v 4 6) v) yf_X8_within yv_X8_within ml_X8_85 rfl (by decide) (Nat.le_of_ble_eq_true rfl) dX8_unmark_9 rfl ?_
  refine E.if_ne C dX8_unmark_12 (tgt := 17) (by decide) (fun h12 => ?_) (fun h12 => ?_)
  · have h12 := b0n.mp h12
    refine E.aload_n C dX8_unmark_17 rfl rfl ?_
    refine N.getR C fa_X8_19 rfl dX8_unmark_18 kd_1 (x := 4) (by decide +kernel) (by decide) ?_
    refine N.getI C fa_X8_273 rfl dX8_unmark_21 (kdV hv4) (x := v 4 6) rfl ?_
    refine N.ist_2 C dX8_unmark_24 (hN 2 (by decide)) rfl ?_
    refine E.aload_n C dX8_unmark_25 rfl rfl ?_
    refine N.getR C fa_X8_19 rfl dX8_unmark_26 kd_1 (x := 4) (by decide +kernel) (by decide) ?_
    refine E.iload_n C dX8_unmark_29 rfl rfl ?_
    refine N.putI C fp_X8_273 rfl dX8_unmark_30 (kdV hv4) ?_
    refine E.iload_n C dX8_unmark_33 rfl rfl ?_
    exact N.iret C hR dX8_unmark_34 (fun hi hx => by first | exact Or.inl ⟨by omega, rfl, rfl⟩ | exact Or.inr ⟨by omega, rfl, rfl⟩)
  · have h12 := b0.mp h12
    refine E.iconst C dX8_unmark_15 (by decide) ?_
    exact N.iret C hR dX8_unmark_16 (fun hi hx => by first | exact Or.inl ⟨by omega, rfl, rfl⟩ | exact Or.inr ⟨by omega, rfl, rfl⟩)

set_option maxHeartbeats 4000000 in
set_option maxRecDepth 20000 in
theorem ok_X8_keep (G : GT) (k : Int) (v : VT) (hW : WFV v 4) (h01 : ∀ k, 0 ≤ k → k < 2 → v 52 k = 0 ∨ v 52 k = 1) : MNi G yX8_keep cX8_keep 3 (some .int) 3 64 [vr 1, vi k] v (fun x w => (¬ (0 ≤ k ∧ k ≤ 1) ∧ x = -1 ∧ w = v) ∨ ((0 ≤ k ∧ k ≤ 1) ∧ x = v 52 k ∧ w = upd2 (allF v (65 + 23 * k) 4) 52 k 1)) := by
  refine MN.of pn_X8_keep [some (vr 1), some (vi k), none] 1 rfl rfl (fun X C hX hn hR => ?_)
  have hN : ∀ i : Nat, i < 3 → i < xn X := fun i h => by rw [hn]; exact h
  refine E.rngk (fun hinv => ?_)
  refine E.loc (fun hloc => ?_)
  have hin_1 : in32 k := hloc _ (List.mem_of_getElem? (i := 1) rfl)
  have hW1 := hW.1
  have hW2 := hW.2.1
  refine E.iload_n C dX8_keep_0 rfl rfl ?_
  refine N.callSp (S := []) (As := [vi k]) C hX (ok_X8_isImage G k v) yf_X8_isImage yv_X8_isImage ml_X8_295 rfl (by decide) (Nat.le_of_ble_eq_true rfl) dX8_keep_1 rfl ?_
  refine E.if_ne C dX8_keep_4 (tgt := 9) (by decide) (fun h4 => ?_) (fun h4 => ?_)
  · have h4 := b0n.mp h4
    have hkz := h01 k (by omega) (by omega)
    refine E.aload_n C dX8_keep_9 rfl rfl ?_
    refine N.getR C fa_X8_39 rfl dX8_keep_10 kd_1 (x := 52) (by decide +kernel) (by decide) ?_
    refine E.iload_n C dX8_keep_13 rfl rfl ?_
    refine N.zald C dX8_keep_14 kd_52 ln_52 (by omega) (x := v 52 k) rfl ?_
    refine E.if_eq C dX8_keep_15 (tgt := 22) (by decide) (fun h15 => ?_) (fun h15 => ?_)
    · skip
      refine E.iconst C dX8_keep_22 (by decide) ?_
      refine N.ist_2 C dX8_keep_23 (hN 2 (by decide)) rfl ?_
      refine E.aload_n C dX8_keep_24 rfl rfl ?_
      refine N.getR C fa_X8_35 rfl dX8_keep_25 kd_1 (x := 51) (by decide +kernel) (by decide) ?_
      refine E.iload_n C dX8_keep_28 rfl rfl ?_
      refine N.aald C (t := 6) (by decide) dX8_keep_29 kd_51 ln_51 (by omega) (x := 65 + 23 * k) (rvI (by omega)) (by omega) ?_
      refine E.aload_n C dX8_keep_30 rfl rfl ?_
      refine N.getR C fa_X8_19 rfl dX8_keep_31 kd_1 (x := 4) (by decide +kernel) (by decide) ?_
      refine N.callVe (S := []) (As := [vr 4]) C hX (ok_X7_becomeAll G (65 + 23 * k) 4 v (isVi (by omega)) hv4 (Or.inr (by omega)) hW1 hW2 hW.lz) yf_X7_becomeAll yv_X7_becomeAll ml_X8_99 rfl rfl rfl (kdV (isVi (by omega))) (by decide) (by decide) (Nat.le_of_ble_eq_true rfl) dX8_keep_34 rfl ?_
      refine E.aload_n C dX8_keep_37 rfl rfl ?_
      refine N.getR C fa_X8_39 rfl dX8_keep_38 kd_1 (x := 52) (by decide +kernel) (by decide) ?_
      refine E.iload_n C dX8_keep_41 rfl rfl ?_
      refine E.iconst C dX8_keep_42 (by decide) ?_
      refine N.zast C dX8_keep_43 kd_52 ln_52 (by omega) (by omega) ?_
      refine E.iload_n C dX8_keep_44 rfl rfl ?_
      exact N.iret C hR dX8_keep_45 (fun hi hx => by first | exact Or.inl ⟨by omega, rfl, rfl⟩ | exact Or.inr ⟨by omega, by omega, rfl⟩)
    · skip
      refine E.iconst C dX8_keep_18 (by decide) ?_
      refine E.goto C dX8_keep_19 (tgt := 23) (by decide) ?_
      refine N.ist_2 C dX8_keep_23 (hN 2 (by decide)) rfl ?_
      refine E.aload_n C dX8_keep_24 rfl rfl ?_
      refine N.getR C fa_X8_35 rfl dX8_keep_25 kd_1 (x := 51) (by decide +kernel) (by decide) ?_
      refine E.iload_n C dX8_keep_28 rfl rfl ?_
      refine N.aald C (t := 6) (by decide) dX8_keep_29 kd_51 ln_51 (by omega) (x := 65 + 23 * k) (rvI (by omega)) (by omega) ?_
      refine E.aload_n C dX8_keep_30 rfl rfl ?_
      refine N.getR C fa_X8_19 rfl dX8_keep_31 kd_1 (x := 4) (by decide +kernel) (by decide) ?_
      refine N.callVe (S := []) (As := [vr 4]) C hX (ok_X7_becomeAll G (65 + 23 * k) 4 v (isVi (by omega)) hv4 (Or.inr (by omega)) hW1 hW2 hW.lz) yf_X7_becomeAll yv_X7_becomeAll ml_X8_99 rfl rfl rfl (kdV (isVi (by omega))) (by decide) (by decide) (Nat.le_of_ble_eq_true rfl) dX8_keep_34 rfl ?_
      refine E.aload_n C dX8_keep_37 rfl rfl ?_
      refine N.getR C fa_X8_39 rfl dX8_keep_38 kd_1 (x := 52) (by decide +kernel) (by decide) ?_
      refine E.iload_n C dX8_keep_41 rfl rfl ?_
      refine E.iconst C dX8_keep_42 (by decide) ?_
      refine N.zast C dX8_keep_43 kd_52 ln_52 (by omega) (by omega) ?_
      refine E.iload_n C dX8_keep_44 rfl rfl ?_
      exact N.iret C hR dX8_keep_45 (fun hi hx => by first | exact Or.inl ⟨by omega, rfl, rfl⟩ | exact Or.inr ⟨by omega, by omega, rfl⟩)
  · have h4 := b0.mp h4
    refine E.iconst C dX8_keep_7 (by decide) ?_
    exact N.iret C hR dX8_keep_8 (fun hi hx => by first | exact Or.inl ⟨by omega, rfl, rfl⟩ | exact Or.inr ⟨by omega, by omega, rfl⟩)

set_option maxHeartbeats 4000000 in
set_option maxRecDepth 20000 in
theorem ok_X8_back (G : GT) (k : Int) (v : VT) (hWi : 0 ≤ k → k ≤ 1 → v 52 k = 1 → WFV v (65 + 23 * k)) (h01 : ∀ k, 0 ≤ k → k < 2 → v 52 k = 0 ∨ v 52 k = 1) : MNi G yX8_back cX8_back 2 (some .int) 3 64 [vr 1, vi k] v (fun x w => (¬ (0 ≤ k ∧ k ≤ 1) ∧ x = -1 ∧ w = v) ∨ ((0 ≤ k ∧ k ≤ 1) ∧ v 52 k = 0 ∧ x = -2 ∧ w = v) ∨ ((0 ≤ k ∧ k ≤ 1) ∧ v 52 k = 1 ∧ w = allF v 4 (65 + 23 * k) ∧ x = w 4 5)) := by
  refine MN.of pn_X8_back [some (vr 1), some (vi k)] 0 rfl rfl (fun X C hX hn hR => ?_)
  have hN : ∀ i : Nat, i < 2 → i < xn X := fun i h => by rw [hn]; exact h
  refine E.rngk (fun hinv => ?_)
  refine E.loc (fun hloc => ?_)
  have hin_1 : in32 k := hloc _ (List.mem_of_getElem? (i := 1) rfl)
  refine E.iload_n C dX8_back_0 rfl rfl ?_
  refine N.callSp (S := []) (As := [vi k]) C hX (ok_X8_isImage G k v) yf_X8_isImage yv_X8_isImage ml_X8_295 rfl (by decide) (Nat.le_of_ble_eq_true rfl) dX8_back_1 rfl ?_
  refine E.if_ne C dX8_back_4 (tgt := 9) (by decide) (fun h4 => ?_) (fun h4 => ?_)
  · have h4 := b0n.mp h4
    have hkz := h01 k (by omega) (by omega)
    refine E.aload_n C dX8_back_9 rfl rfl ?_
    refine N.getR C fa_X8_39 rfl dX8_back_10 kd_1 (x := 52) (by decide +kernel) (by decide) ?_
    refine E.iload_n C dX8_back_13 rfl rfl ?_
    refine N.zald C dX8_back_14 kd_52 ln_52 (by omega) (x := v 52 k) rfl ?_
    refine E.if_ne C dX8_back_15 (tgt := 21) (by decide) (fun h15 => ?_) (fun h15 => ?_)
    · skip
      have hW := hWi (by omega) (by omega) (by omega)
      refine E.aload_n C dX8_back_21 rfl rfl ?_
      refine N.getR C fa_X8_19 rfl dX8_back_22 kd_1 (x := 4) (by decide +kernel) (by decide) ?_
      refine E.aload_n C dX8_back_25 rfl rfl ?_
      refine N.getR C fa_X8_35 rfl dX8_back_26 kd_1 (x := 51) (by decide +kernel) (by decide) ?_
      refine E.iload_n C dX8_back_29 rfl rfl ?_
      refine N.aald C (t := 6) (by decide) dX8_back_30 kd_51 ln_51 (by omega) (x := 65 + 23 * k) (rvI (by omega)) (by omega) ?_
      refine N.callVe (S := []) (As := [vr (65 + 23 * k)]) C hX (ok_X7_becomeAll G 4 (65 + 23 * k) v hv4 (isVi (by omega)) (Or.inl (by omega)) hW.1 hW.2.1 hW.lz) yf_X7_becomeAll yv_X7_becomeAll ml_X8_99 rfl rfl rfl (kdV hv4) (by decide) (by decide) (Nat.le_of_ble_eq_true rfl) dX8_back_31 rfl ?_
      refine E.aload_n C dX8_back_34 rfl rfl ?_
      refine N.getR C fa_X8_19 rfl dX8_back_35 kd_1 (x := 4) (by decide +kernel) (by decide) ?_
      refine N.getI C fa_X8_243 rfl dX8_back_38 (kdV hv4) (x := (upd2 (cpyF (cpyF (bodF v 4 (65 + 23 * k) (v (65 + 23 * k) 4) (v (65 + 23 * k) 5)) (4 + 3) ((65 + 23 * k) + 3) 80) (4 + 4) ((65 + 23 * k) + 4) 6) 4 6 (v (65 + 23 * k) 6)) 4 5) rfl ?_
      exact N.iret C hR dX8_back_41 (fun hi hx => by first | exact Or.inl ⟨by omega, rfl, rfl⟩ | exact Or.inr (Or.inl ⟨by omega, by omega, rfl, rfl⟩) | exact Or.inr (Or.inr ⟨by omega, by omega, rfl, rfl⟩))
    · skip
      refine E.bipush C dX8_back_18 (by decide) ?_
      exact N.iret C hR dX8_back_20 (fun hi hx => by first | exact Or.inl ⟨by omega, rfl, rfl⟩ | exact Or.inr (Or.inl ⟨by omega, by omega, rfl, rfl⟩) | exact Or.inr (Or.inr ⟨by omega, by omega, rfl, rfl⟩))
  · have h4 := b0.mp h4
    refine E.iconst C dX8_back_7 (by decide) ?_
    exact N.iret C hR dX8_back_8 (fun hi hx => by first | exact Or.inl ⟨by omega, rfl, rfl⟩ | exact Or.inr (Or.inl ⟨by omega, by omega, rfl, rfl⟩) | exact Or.inr (Or.inr ⟨by omega, by omega, rfl, rfl⟩))
