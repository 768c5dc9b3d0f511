set_option maxHeartbeats 4000000 in
set_option maxRecDepth 20000 in
theorem ok_X1_canHave (G : GT) (c t sd W : Int) (v : VT) (hc : 0 ≤ v 54 5 ∧ v 54 5 ≤ 8) (hT : 0 ≤ v 54 6 ∧ v 54 6 ≤ 20) (hmb : ∀ c, 0 ≤ c → c < v 54 5 → ∀ x, v 54 6 ≤ x → x < 32 → bt (v 55 c) x = false) (hcon : Con (v 56) (v 57) (v 54 5) (v 54 6)) (hM : MaxM (v 54 5) (mayT (v 55) (v 54 6)) W (v 56)) (hcc : 0 ≤ c ∧ c < v 54 5) (htt : 0 ≤ t ∧ t < v 54 6) (hne : ¬ v 56 c = t) (hsd : Sd (v 56) sd c) (hst : bt sd t = false) (hm : bt (v 55 c) t = true) : MNi G yX1_canHave cX1_canHave 7 (some .boolean) 2 47 [vr 54, vi c, vi t, vi sd] v (fun r w => (∀ a j, (a < 56 ∨ 59 < a) → w a j = v a j) ∧ ((r = 1 ∧ HaveQ (v 54 5) (v 54 6) W (v 55) (v 56) c t (w 56) (w 57)) ∨ (r = 0 ∧ w 56 = v 56 ∧ w 57 = v 57 ∧ (∀ g', Mtc (v 54 5) (mayT (v 55) (v 54 6)) g' → wrmN (v 54 5) 0 g' = W → (∀ i, 0 ≤ i → i < c → g' i = v 56 i) → ¬ g' c = t)))) := by
  refine MN.of pn_X1_canHave [some (vr 54), some (vi c), some (vi t), some (vi sd), none, none, none] 3 rfl rfl (fun X C hX hn hR => ?_)
  have hN : ∀ i : Nat, i < 7 → i < xn X := fun i h => by rw [hn]; exact h
  refine E.rngk (fun hinv => ?_)
  refine E.loc (fun hloc => ?_)
  have hin_1 : in32 c := hloc _ (List.mem_of_getElem? (i := 1) rfl)
  have hin_2 : in32 t := hloc _ (List.mem_of_getElem? (i := 2) rfl)
  have hin_3 : in32 sd := hloc _ (List.mem_of_getElem? (i := 3) rfl)
  have htot := hcon.2 t htt.1 htt.2
  have htgc := hcon.1 c hcc.1 hcc.2
  refine E.aload_n C dX1_canHave_0 rfl rfl ?_
  refine N.getR C fa_X1_18 rfl dX1_canHave_1 kd_54 (x := 57) (by decide +kernel) (by decide) ?_
  refine E.iload_n C dX1_canHave_4 rfl rfl ?_
  refine N.iald C dX1_canHave_5 kd_57 ln_57 (by omega) (x := v 57 t) rfl ?_
  refine N.ist_4 C dX1_canHave_6 (hN 4 (by decide)) rfl ?_
  refine E.aload_n C dX1_canHave_8 rfl rfl ?_
  refine N.getR C fa_X1_15 rfl dX1_canHave_9 kd_54 (x := 56) (by decide +kernel) (by decide) ?_
  refine E.iload_n C dX1_canHave_12 rfl rfl ?_
  refine N.iald C dX1_canHave_13 kd_56 ln_56 (by omega) (x := v 56 c) rfl ?_
  refine N.ist_5 C dX1_canHave_14 (hN 5 (by decide)) rfl ?_
  refine E.aload_n C dX1_canHave_16 rfl rfl ?_
  refine E.iload_n C dX1_canHave_17 rfl rfl ?_
  refine E.iload_n C dX1_canHave_18 rfl rfl ?_
  refine N.callVe (S := []) (As := [vi c, vi t]) C hX (ok_X1_give G c t v (by omega)) yf_X1_give yv_X1_give ml_X1_94 rfl rfl rfl kd_54 (by decide) (by decide) (Nat.le_of_ble_eq_true rfl) dX1_canHave_19 rfl ?_
  have jn65 : ∀ (w : VT), (∀ a j, (a < 56 ∨ 59 < a) → w a j = v a j) ∧ w 56 = tkP (v 56) c t (v 57 t) ∧ w 57 = tkQ (v 57) c t (v 56 c) ∧ ¬ v 56 c = -4 ∧ ¬ v 57 t = -4 → E X G 0 0 1000 w 65 [some (vr 54), some (vi c), some (vi t), some (vi sd), some (vi (v 57 t)), some (vi (v 56 c)), none] [] := by
    intro w hJ65
    obtain ⟨hfr, e56, e57, hl, ho⟩ := hJ65; have e5 : w 54 5 = v 54 5 := hfr _ _ (by decide); have e6 : w 54 6 = v 54 6 := hfr _ _ (by decide); have e55 : w 55 = v 55 := funext (fun j => hfr _ _ (by decide)); have htk : Con (w 56) (w 57) (v 54 5) (v 54 6) := (by rw [e56, e57]; exact tk_con hcon hcc htt hne)
    refine E.aload_n C dX1_canHave_65 rfl rfl ?_
    refine E.iload_n C dX1_canHave_66 rfl rfl ?_
    refine E.iconst C dX1_canHave_67 (by decide) ?_
    refine E.iadd C dX1_canHave_68 (by omega) ?_
    refine E.iload_n C dX1_canHave_69 rfl rfl ?_
    refine E.iconst C dX1_canHave_70 (by decide) ?_
    refine E.iload_n C dX1_canHave_71 rfl rfl ?_
    refine E.ishl C dX1_canHave_72 ?_
    refine E.ior C dX1_canHave_73 ?_
    refine N.callVi (S := []) (As := [vi (c + 1), vi (jor sd (jshl 1 t))]) C hX (ok_X1_seekFree G (c + 1) (jor sd (jshl 1 t)) w (by rw [e5]; exact hc) (by rw [e6]; exact hT) (by rw [e5]; omega) (by rw [e5, e6]; exact htk.2) (by rw [e5, e6, e55]; exact hmb)) yf_X1_seekFree yv_X1_seekFree ml_X1_79 rfl rfl rfl kd_54 (by decide) (by decide) (Nat.le_of_ble_eq_true rfl) dX1_canHave_74 rfl (fun t74 w74 hb74 hp74 => ?_)
    have f56 : w74 56 = w 56 := funext (fun j => hp74.1 _ _ (by decide) (by decide))
    have f57 : w74 57 = w 57 := funext (fun j => hp74.1 _ _ (by decide) (by decide))
    have f55 : w74 55 = v 55 := (funext (fun j => hp74.1 _ _ (by decide) (by decide))).trans e55
    have f5 : w74 54 5 = v 54 5 := (hp74.1 _ _ (by decide) (by decide)).trans e5
    have f6 : w74 54 6 = v 54 6 := (hp74.1 _ _ (by decide) (by decide)).trans e6
    have hsq := hp74.2
    rw [e5, e6, e55] at hsq
    refine N.ist_6 C dX1_canHave_77 (hN 6 (by decide)) rfl ?_
    refine E.iload C dX1_canHave_79 rfl ?_
    refine E.bipush C dX1_canHave_81 (by decide) ?_
    refine E.icmp_eq C dX1_canHave_83 (tgt := 94) (by decide) (fun h83 => ?_) (fun h83 => ?_)
    · skip
      refine E.aload_n C dX1_canHave_94 rfl rfl ?_
      refine E.iload C dX1_canHave_95 rfl ?_
      refine E.iload_n C dX1_canHave_97 rfl rfl ?_
      refine N.callVe (S := []) (As := [vi (v 57 t), vi t]) C hX (ok_X1_give G (v 57 t) t w74 (by omega)) yf_X1_give yv_X1_give ml_X1_94 rfl rfl rfl kd_54 (by decide) (by decide) (Nat.le_of_ble_eq_true rfl) dX1_canHave_98 rfl ?_
      refine E.aload_n C dX1_canHave_101 rfl rfl ?_
      refine E.iload_n C dX1_canHave_102 rfl rfl ?_
      refine E.iload C dX1_canHave_103 rfl ?_
      refine N.callVe (S := []) (As := [vi c, vi (v 56 c)]) C hX (ok_X1_give G c (v 56 c) (upd2 (upd2 w74 56 (v 57 t) t) 57 t (v 57 t)) (by omega)) yf_X1_give yv_X1_give ml_X1_94 rfl rfl rfl kd_54 (by decide) (by decide) (Nat.le_of_ble_eq_true rfl) dX1_canHave_105 rfl ?_
      refine E.iconst C dX1_canHave_108 (by decide) ?_
      exact N.zret C hR dX1_canHave_109 (by omega) (fun hi => by refine ⟨fun a j g => by rw [upd2_ne _ _ _ _ _ _ (by omega), upd2_ne _ _ _ _ _ _ (by omega), upd2_ne _ _ _ _ _ _ (by omega), upd2_ne _ _ _ _ _ _ (by omega), hp74.1 a j (by omega) (by omega)]; exact hfr a j g, Or.inr ⟨rfl, ?_, ?_, ?_⟩⟩; (rw [upd2_rowne (by decide), upd2_row, upd2_rowne (by decide), upd2_row, f56, e56]; exact tk_backP hcon htt ho); (rw [upd2_row, upd2_rowne (by decide), upd2_row, upd2_rowne (by decide), f57, e57]; exact tk_backQ hcon hcc hl); (rw [h83, e56, e57] at hsq; exact tk_no hcon hM hcc htt hT.2 hne hsd hst hl ho hsq))
    · skip
      obtain ⟨hr0, hr1, hfree74, D74, rk74, hD74, hway74⟩ := hsq.resolve_left (fun hq => h83 hq.1)
      refine E.aload_n C dX1_canHave_86 rfl rfl ?_
      refine E.iload C dX1_canHave_87 rfl ?_
      refine N.callVv (S := []) (As := [vi t74]) C hX (ok_X1_passAlong G t74 (c + 1) (jor sd (jshl 1 t)) D74 rk74 w74 (by rw [f5]; exact hc) (by rw [f6]; exact hT) (by rw [f56, f57, f5, f6]; exact htk) (by rw [f56, f55, f5, f6]; exact hway74) hD74 (by rw [f57]; exact hfree74)) yf_X1_passAlong yv_X1_passAlong ml_X1_83 rfl rfl rfl kd_54 (by decide) (by decide) (Nat.le_of_ble_eq_true rfl) dX1_canHave_89 rfl (fun w89 hp89 => ?_)
      have hfl := hp89.2
      rw [f56, f57, f55, f5, f6, e56, e57] at hfl
      refine E.iconst C dX1_canHave_92 (by decide) ?_
      exact N.zret C hR dX1_canHave_93 (by omega) (fun hi => by exact ⟨fun a j g => (hp89.1 a j (by omega) (by omega)).trans ((hp74.1 a j (by omega) (by omega)).trans (hfr a j g)), Or.inl ⟨rfl, have_2 hcon hM hcc htt hT.2 hne hsd hst hm hl ho hfl⟩⟩)
  refine E.iload C dX1_canHave_22 rfl ?_
  refine E.bipush C dX1_canHave_24 (by decide) ?_
  refine E.icmp_eq C dX1_canHave_26 (tgt := 38) (by decide) (fun h26 => ?_) (fun h26 => ?_)
  · skip
    refine E.iload C dX1_canHave_38 rfl ?_
    refine E.bipush C dX1_canHave_40 (by decide) ?_
    refine E.icmp_ne C dX1_canHave_42 (tgt := 47) (by decide) (fun h42 => ?_) (fun h42 => ?_)
    · skip
      refine E.aload_n C dX1_canHave_47 rfl rfl ?_
      refine N.getR C fa_X1_15 rfl dX1_canHave_48 kd_54 (x := 56) (by decide +kernel) (by decide) ?_
      refine E.iload C dX1_canHave_51 rfl ?_
      refine E.bipush C dX1_canHave_53 (by decide) ?_
      refine N.iast C dX1_canHave_55 kd_56 ln_56 (by omega) ?_
      refine E.iload C dX1_canHave_56 rfl ?_
      refine E.bipush C dX1_canHave_58 (by decide) ?_
      refine E.icmp_ne C dX1_canHave_60 (tgt := 65) (by decide) (fun h60 => ?_) (fun h60 => ?_)
      · skip
        exact jn65 (upd2 (upd2 (upd2 v 56 c t) 57 t c) 56 (v 57 t) (-4)) (by first | (exfalso; omega) | exact ⟨(fun a j g => by repeat rw [upd2_ne _ _ _ _ _ _ (by omega)]), (upd2_row _ _ _ _).trans (by rw [upd2_rowne (by decide), upd2_rowne (by decide), upd2_row]; rfl), by rw [upd2_rowne (by decide), upd2_row, upd2_row, upd2_rowne (by decide)]; rfl, by omega, by omega⟩)
      · skip
        refine E.iconst C dX1_canHave_63 (by decide) ?_
        exact N.zret C hR dX1_canHave_64 (by omega) (fun hi => by exact ⟨(fun a j g => by repeat rw [upd2_ne _ _ _ _ _ _ (by omega)]), Or.inl ⟨rfl, have_1 hcon hM hcc htt hT.2 hne hsd hst hm (by omega) (fun j k1 k2 => by unfold tkP; simp only [upd2, true_and, false_and, if_false, if_true]; (repeat' split) <;> first | rfl | omega) (fun x k1 k2 => by unfold tkQ; simp only [upd2, true_and, false_and, if_false, if_true]; (repeat' split) <;> first | rfl | omega)⟩⟩)
    · skip
      refine E.iconst C dX1_canHave_45 (by decide) ?_
      exact N.zret C hR dX1_canHave_46 (by omega) (fun hi => by exact ⟨(fun a j g => by repeat rw [upd2_ne _ _ _ _ _ _ (by omega)]), Or.inl ⟨rfl, have_1 hcon hM hcc htt hT.2 hne hsd hst hm (by omega) (fun j k1 k2 => by unfold tkP; simp only [upd2, true_and, false_and, if_false, if_true]; (repeat' split) <;> first | rfl | omega) (fun x k1 k2 => by unfold tkQ; simp only [upd2, true_and, false_and, if_false, if_true]; (repeat' split) <;> first | rfl | omega)⟩⟩)
  · skip
    refine E.aload_n C dX1_canHave_29 rfl rfl ?_
    refine N.getR C fa_X1_18 rfl dX1_canHave_30 kd_54 (x := 57) (by decide +kernel) (by decide) ?_
    refine E.iload C dX1_canHave_33 rfl ?_
    refine E.bipush C dX1_canHave_35 (by decide) ?_
    refine N.iast C dX1_canHave_37 kd_57 ln_57 (by omega) ?_
    refine E.iload C dX1_canHave_38 rfl ?_
    refine E.bipush C dX1_canHave_40 (by decide) ?_
    refine E.icmp_ne C dX1_canHave_42 (tgt := 47) (by decide) (fun h42 => ?_) (fun h42 => ?_)
    · skip
      refine E.aload_n C dX1_canHave_47 rfl rfl ?_
      refine N.getR C fa_X1_15 rfl dX1_canHave_48 kd_54 (x := 56) (by decide +kernel) (by decide) ?_
      refine E.iload C dX1_canHave_51 rfl ?_
      refine E.bipush C dX1_canHave_53 (by decide) ?_
      refine N.iast C dX1_canHave_55 kd_56 ln_56 (by omega) ?_
      refine E.iload C dX1_canHave_56 rfl ?_
      refine E.bipush C dX1_canHave_58 (by decide) ?_
      refine E.icmp_ne C dX1_canHave_60 (tgt := 65) (by decide) (fun h60 => ?_) (fun h60 => ?_)
      · skip
        exact jn65 (upd2 (upd2 (upd2 (upd2 v 56 c t) 57 t c) 57 (v 56 c) (-4)) 56 (v 57 t) (-4)) (by first | (exfalso; omega) | exact ⟨(fun a j g => by repeat rw [upd2_ne _ _ _ _ _ _ (by omega)]), (upd2_row _ _ _ _).trans (by rw [upd2_rowne (by decide), upd2_rowne (by decide), upd2_row]; rfl), by rw [upd2_rowne (by decide), upd2_row, upd2_row, upd2_rowne (by decide)]; rfl, by omega, by omega⟩)
      · skip
        refine E.iconst C dX1_canHave_63 (by decide) ?_
        exact N.zret C hR dX1_canHave_64 (by omega) (fun hi => by exact ⟨(fun a j g => by repeat rw [upd2_ne _ _ _ _ _ _ (by omega)]), Or.inl ⟨rfl, have_1 hcon hM hcc htt hT.2 hne hsd hst hm (by omega) (fun j k1 k2 => by unfold tkP; simp only [upd2, true_and, false_and, if_false, if_true]; (repeat' split) <;> first | rfl | omega) (fun x k1 k2 => by unfold tkQ; simp only [upd2, true_and, false_and, if_false, if_true]; (repeat' split) <;> first | rfl | omega)⟩⟩)
    · skip
      refine E.iconst C dX1_canHave_45 (by decide) ?_
      exact N.zret C hR dX1_canHave_46 (by omega) (fun hi => by exact ⟨(fun a j g => by repeat rw [upd2_ne _ _ _ _ _ _ (by omega)]), Or.inl ⟨rfl, have_1 hcon hM hcc htt hT.2 hne hsd hst hm (by omega) (fun j k1 k2 => by unfold tkP; simp only [upd2, true_and, false_and, if_false, if_true]; (repeat' split) <;> first | rfl | omega) (fun x k1 k2 => by unfold tkQ; simp only [upd2, true_and, false_and, if_false, if_true]; (repeat' split) <;> first | rfl | omega)⟩⟩)

set_option maxHeartbeats 4000000 in
set_option maxRecDepth 20000 in
theorem ok_X1_putInOrder (G : GT) (W : Int) (v : VT) (hc : 0 ≤ v 54 5 ∧ v 54 5 ≤ 8) (hT : 0 ≤ v 54 6 ∧ v 54 6 ≤ 20) (hmb : ∀ c, 0 ≤ c → c < v 54 5 → ∀ x, v 54 6 ≤ x → x < 32 → bt (v 55 c) x = false) (hcon : Con (v 56) (v 57) (v 54 5) (v 54 6)) (hM : MaxM (v 54 5) (mayT (v 55) (v 54 6)) W (v 56)) : MNv G yX1_putInOrder cX1_putInOrder 5 none 3 73 [vr 54] v (fun w => (∀ a j, (a < 56 ∨ 59 < a) → w a j = v a j) ∧ Con (w 56) (w 57) (v 54 5) (v 54 6) ∧ IsDeal (v 54 5) (mayT (v 55) (v 54 6)) W (w 56)) := by
  refine MN.of pn_X1_putInOrder [some (vr 54), none, none, none, none] 4 rfl rfl (fun X C hX hn hR => ?_)
  have hN : ∀ i : Nat, i < 5 → i < xn X := fun i h => by rw [hn]; exact h
  refine E.rngk (fun hinv => ?_)
  refine E.loc (fun hloc => ?_)
  refine E.iconst C dX1_putInOrder_0 (by decide) ?_
  refine N.ist_1 C dX1_putInOrder_1 (hN 1 (by decide)) rfl ?_
  refine E.iconst C dX1_putInOrder_2 (by decide) ?_
  refine N.ist_2 C dX1_putInOrder_3 (hN 2 (by decide)) rfl ?_
  have lp4 : ∀ (k4 : Nat) (sd : Int) (c : Int) (w : VT), (v 54 5 - c).toNat = k4 → (0 ≤ c ∧ c ≤ v 54 5 ∧ (∀ a j, (a < 56 ∨ 59 < a) → w a j = v a j) ∧ OrdI (v 54 5) (v 54 6) W (v 55) (w 56) (w 57) sd c) → E X G 0 0 1000 w 4 [some (vr 54), some (vi sd), some (vi c), none, none] [] := by
    intro k4
    induction k4 using Nat.strongRecOn with
    | ind k4 ih4 =>
      intro sd c w hk4 hI4
      obtain ⟨hc0, hc1, hfr, ho⟩ := hI4; have e5 : w 54 5 = v 54 5 := hfr _ _ (by decide); have e6 : w 54 6 = v 54 6 := hfr _ _ (by decide); have e55 : w 55 = v 55 := funext (fun j => hfr _ _ (by decide))
      refine E.iload_n C dX1_putInOrder_4 rfl rfl ?_
      refine E.aload_n C dX1_putInOrder_5 rfl rfl ?_
      refine N.getI C fa_X1_43 rfl dX1_putInOrder_6 kd_54 (x := v 54 5) (hfr _ _ (by decide)) ?_
      refine E.icmp_ge C dX1_putInOrder_9 (tgt := 89) (by decide) (fun h9 => ?_) (fun h9 => ?_)
      · skip
        exact N.vret C hR dX1_putInOrder_89 (fun hi => by refine ⟨hfr, ho.1, ho.2.1, ?_⟩; have e : c = v 54 5 := (by omega); rw [← e]; rw [e]; rw [e] at ho; exact ho.2.2.1)
      · skip
        refine E.aload_n C dX1_putInOrder_12 rfl rfl ?_
        refine N.getR C fa_X1_9 rfl dX1_putInOrder_13 kd_54 (x := 55) (by decide +kernel) (by decide) ?_
        refine E.iload_n C dX1_putInOrder_16 rfl rfl ?_
        refine N.iald C dX1_putInOrder_17 kd_55 ln_55 (by omega) (x := v 55 c) (hfr _ _ (by decide)) ?_
        refine E.iload_n C dX1_putInOrder_18 rfl rfl ?_
        refine E.iconst C dX1_putInOrder_19 (by decide) ?_
        refine E.ixor C dX1_putInOrder_20 ?_
        refine E.iand C dX1_putInOrder_21 ?_
        refine N.ist_3 C dX1_putInOrder_22 (hN 3 (by decide)) rfl ?_
        refine E.iconst C dX1_putInOrder_23 (by decide) ?_
        refine N.ist_4 C dX1_putInOrder_24 (hN 4 (by decide)) rfl ?_
        have lp26 : ∀ (k26 : Nat) (t : Int) (w2 : VT), (v 54 6 - t).toNat = k26 → (0 ≤ t ∧ t ≤ v 54 6 ∧ (∀ a j, (a < 56 ∨ 59 < a) → w2 a j = v a j) ∧ OrdI (v 54 5) (v 54 6) W (v 55) (w2 56) (w2 57) sd c ∧ Rej (v 54 5) (v 54 6) W (v 55) (w2 56) c t) → E X G 0 0 1000 w2 26 [some (vr 54), some (vi sd), some (vi c), some (vi (jand (v 55 c) (jxor sd (-1)))), some (vi t)] [] := by
          intro k26
          induction k26 using Nat.strongRecOn with
          | ind k26 ih26 =>
            intro t w2 hk26 hI26
            obtain ⟨ht0, ht1, hfr2, ho2, hrj⟩ := hI26; have e52 : w2 54 5 = v 54 5 := hfr2 _ _ (by decide); have e62 : w2 54 6 = v 54 6 := hfr2 _ _ (by decide); have e552 : w2 55 = v 55 := funext (fun j => hfr2 _ _ (by decide))
            refine E.iload C dX1_putInOrder_26 rfl ?_
            refine E.aload_n C dX1_putInOrder_28 rfl rfl ?_
            refine N.getI C fa_X1_47 rfl dX1_putInOrder_29 kd_54 (x := v 54 6) (hfr2 _ _ (by decide)) ?_
            refine E.icmp_ge C dX1_putInOrder_32 (tgt := 83) (by decide) (fun h32 => ?_) (fun h32 => ?_)
            · skip
              refine N.iinc_2 C dX1_putInOrder_83 (hN 2 (by decide)) rfl (by omega) ?_
              refine E.goto C dX1_putInOrder_86 (tgt := 4) (by decide) ?_
              refine E.drop (i := 3) ?_
              refine E.drop (i := 4) ?_
              exact ih4 _ (by omega) sd (c + 1) w2 rfl (by first | (have hzz := hcq; exact ⟨by omega, by omega, fun a j g => (hp61.1 a j g).trans (hfr2 a j g), ord_take ho2 (by omega) ⟨ht0, by omega⟩ hT.2 hrj (hcq.resolve_right (fun hq => h64 hq.1)).2⟩) | (have hzz := h53; exact ⟨by omega, by omega, hfr2, ord_take ho2 (by omega) ⟨ht0, by omega⟩ hT.2 hrj (have_0 ho2 h53)⟩) | exact ⟨by omega, by omega, hfr2, ord_none ho2 (by omega) (fun x k1 k2 => hrj x k1 (by omega))⟩)
            · skip
              have hbo : bitI (jand (v 55 c) (jxor sd (-1))) t = 1 ↔ (bt (v 55 c) t = true ∧ bt sd t = false) := (bitI_1 (x := jand (v 55 c) (jxor sd (-1))) (t := t) ⟨ht0, by omega⟩).trans (bt_open (by omega) ht0)
              refine E.iload_n C dX1_putInOrder_35 rfl rfl ?_
              refine E.iload C dX1_putInOrder_36 rfl ?_
              refine E.ishr C dX1_putInOrder_38 ?_
              refine E.iconst C dX1_putInOrder_39 (by decide) ?_
              refine E.iand C dX1_putInOrder_40 ?_
              refine E.iconst C dX1_putInOrder_41 (by decide) ?_
              refine E.icmp_ne C dX1_putInOrder_42 (tgt := 77) (by decide) (fun h42 => ?_) (fun h42 => ?_)
              · skip
                first | (have hno := (hcq.resolve_left (fun hq => by omega)).2) | skip
                refine N.iinc_4 C dX1_putInOrder_77 (hN 4 (by decide)) rfl (by omega) ?_
                refine E.goto C dX1_putInOrder_80 (tgt := 26) (by decide) ?_
                exact ih26 _ (by omega) (t + 1) w2 rfl (by first | (have hzz := hno; exact ⟨by omega, by omega, fun a j g => (hp61.1 a j g).trans (hfr2 a j g), by rw [hno.1, hno.2.1]; exact ho2, by rw [hno.1]; exact rej_step hrj hno.2.2⟩) | exact ⟨by omega, by omega, hfr2, ho2, rej_step hrj (rej_shut ho2 (by omega) ⟨ht0, by omega⟩ hT.2 (fun hq => h42 (hbo.mpr hq)))⟩)
              · skip
                have hbt := hbo.mp h42
                refine E.aload_n C dX1_putInOrder_45 rfl rfl ?_
                refine N.getR C fa_X1_15 rfl dX1_putInOrder_46 kd_54 (x := 56) (by decide +kernel) (by decide) ?_
                refine E.iload_n C dX1_putInOrder_49 rfl rfl ?_
                refine N.iald C dX1_putInOrder_50 kd_56 ln_56 (by omega) (x := w2 56 c) rfl ?_
                refine E.iload C dX1_putInOrder_51 rfl ?_
                refine E.icmp_eq C dX1_putInOrder_53 (tgt := 67) (by decide) (fun h53 => ?_) (fun h53 => ?_)
                · skip
                  refine E.iload_n C dX1_putInOrder_67 rfl rfl ?_
                  refine E.iconst C dX1_putInOrder_68 (by decide) ?_
                  refine E.iload C dX1_putInOrder_69 rfl ?_
                  refine E.ishl C dX1_putInOrder_71 ?_
                  refine E.ior C dX1_putInOrder_72 ?_
                  refine N.ist_1 C dX1_putInOrder_73 (hN 1 (by decide)) rfl ?_
                  refine E.goto C dX1_putInOrder_74 (tgt := 83) (by decide) ?_
                  refine N.iinc_2 C dX1_putInOrder_83 (hN 2 (by decide)) rfl (by omega) ?_
                  refine E.goto C dX1_putInOrder_86 (tgt := 4) (by decide) ?_
                  refine E.drop (i := 3) ?_
                  refine E.drop (i := 4) ?_
                  exact ih4 _ (by omega) (jor sd (jshl 1 t)) (c + 1) w2 rfl (by first | (have hzz := hcq; exact ⟨by omega, by omega, fun a j g => (hp61.1 a j g).trans (hfr2 a j g), ord_take ho2 (by omega) ⟨ht0, by omega⟩ hT.2 hrj (hcq.resolve_right (fun hq => h64 hq.1)).2⟩) | (have hzz := h53; exact ⟨by omega, by omega, hfr2, ord_take ho2 (by omega) ⟨ht0, by omega⟩ hT.2 hrj (have_0 ho2 h53)⟩) | exact ⟨by omega, by omega, hfr2, ord_none ho2 (by omega) (fun x k1 k2 => hrj x k1 (by omega))⟩)
                · skip
                  refine E.aload_n C dX1_putInOrder_56 rfl rfl ?_
                  refine E.iload_n C dX1_putInOrder_57 rfl rfl ?_
                  refine E.iload C dX1_putInOrder_58 rfl ?_
                  refine E.iload_n C dX1_putInOrder_60 rfl rfl ?_
                  refine N.callVi (S := []) (As := [vi c, vi t, vi sd]) C hX (ok_X1_canHave G c t sd W w2 (by rw [e52]; exact hc) (by rw [e62]; exact hT) (by rw [e52, e62, e552]; exact hmb) (by rw [e52, e62]; exact ho2.1) (by rw [e52, e62, e552]; exact ho2.2.1) (by rw [e52]; omega) (by rw [e62]; omega) h53 ho2.2.2.2 hbt.2 (by rw [e552]; exact hbt.1)) yf_X1_canHave yv_X1_canHave ml_X1_98 rfl rfl rfl kd_54 (by decide) (by decide) (Nat.le_of_ble_eq_true rfl) dX1_putInOrder_61 rfl (fun t61 w61 hb61 hp61 => ?_)
                  have hcq := hp61.2
                  rw [e52, e62, e552] at hcq
                  refine E.if_eq C dX1_putInOrder_64 (tgt := 77) (by decide) (fun h64 => ?_) (fun h64 => ?_)
                  · skip
                    first | (have hno := (hcq.resolve_left (fun hq => by omega)).2) | skip
                    refine N.iinc_4 C dX1_putInOrder_77 (hN 4 (by decide)) rfl (by omega) ?_
                    refine E.goto C dX1_putInOrder_80 (tgt := 26) (by decide) ?_
                    exact ih26 _ (by omega) (t + 1) w61 rfl (by first | (have hzz := hno; exact ⟨by omega, by omega, fun a j g => (hp61.1 a j g).trans (hfr2 a j g), by rw [hno.1, hno.2.1]; exact ho2, by rw [hno.1]; exact rej_step hrj hno.2.2⟩) | exact ⟨by omega, by omega, hfr2, ho2, rej_step hrj (rej_shut ho2 (by omega) ⟨ht0, by omega⟩ hT.2 (fun hq => h42 (hbo.mpr hq)))⟩)
                  · skip
                    refine E.iload_n C dX1_putInOrder_67 rfl rfl ?_
                    refine E.iconst C dX1_putInOrder_68 (by decide) ?_
                    refine E.iload C dX1_putInOrder_69 rfl ?_
                    refine E.ishl C dX1_putInOrder_71 ?_
                    refine E.ior C dX1_putInOrder_72 ?_
                    refine N.ist_1 C dX1_putInOrder_73 (hN 1 (by decide)) rfl ?_
                    refine E.goto C dX1_putInOrder_74 (tgt := 83) (by decide) ?_
                    refine N.iinc_2 C dX1_putInOrder_83 (hN 2 (by decide)) rfl (by omega) ?_
                    refine E.goto C dX1_putInOrder_86 (tgt := 4) (by decide) ?_
                    refine E.drop (i := 3) ?_
                    refine E.drop (i := 4) ?_
                    exact ih4 _ (by omega) (jor sd (jshl 1 t)) (c + 1) w61 rfl (by first | (have hzz := hcq; exact ⟨by omega, by omega, fun a j g => (hp61.1 a j g).trans (hfr2 a j g), ord_take ho2 (by omega) ⟨ht0, by omega⟩ hT.2 hrj (hcq.resolve_right (fun hq => h64 hq.1)).2⟩) | (have hzz := h53; exact ⟨by omega, by omega, hfr2, ord_take ho2 (by omega) ⟨ht0, by omega⟩ hT.2 hrj (have_0 ho2 h53)⟩) | exact ⟨by omega, by omega, hfr2, ord_none ho2 (by omega) (fun x k1 k2 => hrj x k1 (by omega))⟩)
        exact lp26 _ 0 w rfl (by exact ⟨by omega, by omega, hfr, ho, fun x k1 k2 => by omega⟩)
  exact lp4 _ 0 0 v rfl (by exact ⟨by omega, by omega, fun a j _ => rfl, ord_0 hcon hM⟩)
