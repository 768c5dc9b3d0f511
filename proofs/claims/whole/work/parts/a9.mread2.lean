set_option maxHeartbeats 4000000 in
set_option maxRecDepth 20000 in
theorem ok_X9_readChildOf (G : GT) (f : Int → Int) (L : Int) (F : Int × Int) (q : Int) (v : VT) (hT : TapM f L v) (hM : MSt f L v F q) : MNi G yX9_readChildOf cX9_readChildOf 2 (some .int) 3 69 [vr 119] v (fun x w => FrM (upd2 v 119 6 (cmz (v 119 6) x)) w ∧ MSt f L w (orF F (nP f L q 0 7)) (tE f L q) ∧ (((orF F (nP f L q 0 7)).1 = 0 ∧ x = tV f L q ∧ 0 ≤ x ∧ x ≤ 7 ∧ tK f L q = 2) ∨ (¬ (orF F (nP f L q 0 7)).1 = 0 ∧ x = 0))) := by
  refine MN.of pn_X9_readChildOf [some (vr 119), none] 1 rfl rfl (fun X C hX hn hR => ?_)
  have hN : ∀ i : Nat, i < 2 → i < xn X := fun i h => by rw [hn]; exact h
  refine E.rngk (fun hinv => ?_)
  refine E.loc (fun hloc => ?_)
  have hTL := hT.2.1
  refine E.aload_n C dX9_readChildOf_0 rfl rfl ?_
  refine E.iconst C dX9_readChildOf_1 (by decide) ?_
  refine E.bipush C dX9_readChildOf_2 (by decide) ?_
  refine N.callVi (S := []) (As := [vi 0, vi 7]) C hX (ok_X9_readNumber G f L F q 0 7 v hT hM) yf_X9_readNumber yv_X9_readNumber ml_X9_142 rfl rfl rfl kd_119 (by decide) (by decide) (Nat.le_of_ble_eq_true rfl) dX9_readChildOf_4 rfl (fun t4 w4 hb4 hp4 => ?_)
  obtain ⟨hR4, hM4, hx4⟩ := hp4
  have hT4 := TapM.fm hT hR4
  have e6 : w4 119 6 = v 119 6 := hR4 119 6 (by decide)
  refine N.ist_1 C dX9_readChildOf_7 (hN 1 (by decide)) rfl ?_
  refine E.aload_n C dX9_readChildOf_8 rfl rfl ?_
  refine E.iload_n C dX9_readChildOf_9 rfl rfl ?_
  refine E.aload_n C dX9_readChildOf_10 rfl rfl ?_
  refine N.getI C fa_X9_79 rfl dX9_readChildOf_11 kd_119 (x := w4 119 6) rfl ?_
  refine E.icmp_le C dX9_readChildOf_14 (tgt := 21) (by decide) (fun h14 => ?_) (fun h14 => ?_)
  · skip
    refine E.aload_n C dX9_readChildOf_21 rfl rfl ?_
    refine N.getI C fa_X9_79 rfl dX9_readChildOf_22 kd_119 (x := w4 119 6) rfl ?_
    refine N.putI C fp_X9_79 rfl dX9_readChildOf_25 kd_119 ?_
    refine E.iload_n C dX9_readChildOf_28 rfl rfl ?_
    exact N.iret C hR dX9_readChildOf_29 (fun hi hx => by exact ⟨FrM.put hR4 (by unfold cmz; split <;> omega), hM4.up (by omega), hx4⟩)
  · skip
    refine E.iload_n C dX9_readChildOf_17 rfl rfl ?_
    refine E.goto C dX9_readChildOf_18 (tgt := 25) (by decide) ?_
    refine N.putI C fp_X9_79 rfl dX9_readChildOf_25 kd_119 ?_
    refine E.iload_n C dX9_readChildOf_28 rfl rfl ?_
    exact N.iret C hR dX9_readChildOf_29 (fun hi hx => by exact ⟨FrM.put hR4 (by unfold cmz; split <;> omega), hM4.up (by omega), hx4⟩)

set_option maxHeartbeats 4000000 in
set_option maxRecDepth 20000 in
theorem ok_X9_readChild (G : GT) (f : Int → Int) (L : Int) (F : Int × Int) (q : Int) (v : VT) (hT : TapM f L v) (hM : MSt f L v F q) (hb : 0 ≤ v 122 0 ∧ v 122 0 < 8) : MNv G yX9_readChild cX9_readChild 2 none 3 69 [vr 119] v (fun w => FrL v w ∧ MSt f L w (chG f L F q) (tE f L (tE f L (tE f L q))) ∧ ((chG f L F q).1 = 0 → FrM (chD f L v q) w)) := by
  refine MN.of pn_X9_readChild [some (vr 119), none] 1 rfl rfl (fun X C hX hn hR => ?_)
  have hN : ∀ i : Nat, i < 2 → i < xn X := fun i h => by rw [hn]; exact h
  refine E.rngk (fun hinv => ?_)
  refine E.loc (fun hloc => ?_)
  have hTL := hT.2.1
  refine E.iconst C dX9_readChild_0 (by decide) ?_
  refine E.iconst C dX9_readChild_1 (by decide) ?_
  refine E.aload_n C dX9_readChild_2 rfl rfl ?_
  refine N.getR C fa_X9_17 rfl dX9_readChild_3 kd_119 (x := 122) (by decide +kernel) (by decide) ?_
  refine E.iconst C dX9_readChild_6 (by decide) ?_
  refine N.iald C dX9_readChild_7 kd_122 ln_122 (by omega) (x := v 122 0) rfl ?_
  refine E.imul C dX9_readChild_8 (by omega) ?_
  refine E.iadd C dX9_readChild_9 (by omega) ?_
  obtain ⟨ix, hix⟩ : ∃ zqv, zqv = (1 + (5 * (v 122 0))) := ⟨_, rfl⟩
  refine E.veq hix.symm ?_
  refine N.ist_1 C dX9_readChild_10 (hN 1 (by decide)) rfl ?_
  refine E.aload_n C dX9_readChild_11 rfl rfl ?_
  refine N.getR C fa_X9_17 rfl dX9_readChild_12 kd_119 (x := 122) (by decide +kernel) (by decide) ?_
  refine E.iload_n C dX9_readChild_15 rfl rfl ?_
  refine E.aload_n C dX9_readChild_16 rfl rfl ?_
  refine E.iconst C dX9_readChild_17 (by decide) ?_
  refine E.bipush C dX9_readChild_18 (by decide) ?_
  refine N.callVi (S := [vi ix, vr 122]) (As := [vi 1, vi 40]) C hX (ok_X9_readNumber G f L F q 1 40 v hT hM) yf_X9_readNumber yv_X9_readNumber ml_X9_142 rfl rfl rfl kd_119 (by decide) (by decide) (Nat.le_of_ble_eq_true rfl) dX9_readChild_20 rfl (fun t20 w20 hb20 hp20 => ?_)
  obtain ⟨hR20, hM20, hx20⟩ := hp20
  have hT20 := TapM.fm hT hR20
  have e0_20 : w20 122 0 = v 122 0 := hR20 122 0 (Or.inl (by decide))
  refine N.iast C dX9_readChild_23 kd_122 ln_122 (by omega) ?_
  refine E.aload_n C dX9_readChild_24 rfl rfl ?_
  refine N.getR C fa_X9_17 rfl dX9_readChild_25 kd_119 (x := 122) (by decide +kernel) (by decide) ?_
  refine E.iload_n C dX9_readChild_28 rfl rfl ?_
  refine E.iconst C dX9_readChild_29 (by decide) ?_
  refine E.iadd C dX9_readChild_30 (by omega) ?_
  refine E.aload_n C dX9_readChild_31 rfl rfl ?_
  refine E.iconst C dX9_readChild_32 (by decide) ?_
  refine E.iconst C dX9_readChild_33 (by decide) ?_
  refine N.callVi (S := [vi (ix + 1), vr 122]) (As := [vi 0, vi 4]) C hX (ok_X9_readNumber G f L (orF F (nP f L q 1 40)) (tE f L q) 0 4 (upd2 w20 122 ix t20) (TapM.up (by omega) hT20) (hM20.up (by omega))) yf_X9_readNumber yv_X9_readNumber ml_X9_142 rfl rfl rfl kd_119 (by decide) (by decide) (Nat.le_of_ble_eq_true rfl) dX9_readChild_34 rfl (fun t34 w34 hb34 hp34 => ?_)
  obtain ⟨hR34, hM34, hx34⟩ := hp34
  have hT34 := TapM.fm (TapM.up (by omega) hT20) hR34
  have e0_34 : w34 122 0 = v 122 0 := (hR34 122 0 (Or.inl (by decide))).trans ((ux_ne (by omega)).trans e0_20)
  refine N.iast C dX9_readChild_37 kd_122 ln_122 (by omega) ?_
  refine E.aload_n C dX9_readChild_38 rfl rfl ?_
  refine N.getR C fa_X9_17 rfl dX9_readChild_39 kd_119 (x := 122) (by decide +kernel) (by decide) ?_
  refine E.iload_n C dX9_readChild_42 rfl rfl ?_
  refine E.iconst C dX9_readChild_43 (by decide) ?_
  refine E.iadd C dX9_readChild_44 (by omega) ?_
  refine E.aload_n C dX9_readChild_45 rfl rfl ?_
  refine E.aload_n C dX9_readChild_46 rfl rfl ?_
  refine N.getR C fa_X9_17 rfl dX9_readChild_47 kd_119 (x := 122) (by decide +kernel) (by decide) ?_
  refine E.iload_n C dX9_readChild_50 rfl rfl ?_
  refine E.iconst C dX9_readChild_51 (by decide) ?_
  refine E.iadd C dX9_readChild_52 (by omega) ?_
  refine N.iald C dX9_readChild_53 kd_122 ln_122 (by omega) (x := t34) (upd2_same _ _ _ _) ?_
  refine E.iconst C dX9_readChild_54 (by decide) ?_
  refine N.callVi (S := [vi (ix + 2), vr 122]) (As := [vi t34, vi 4]) C hX (ok_X9_readNumber G f L (orF (orF F (nP f L q 1 40)) (nP f L (tE f L q) 0 4)) (tE f L (tE f L q)) t34 4 (upd2 w34 122 (ix + 1) t34) (TapM.up (by omega) hT34) (hM34.up (by omega))) yf_X9_readNumber yv_X9_readNumber ml_X9_142 rfl rfl rfl kd_119 (by decide) (by decide) (Nat.le_of_ble_eq_true rfl) dX9_readChild_55 rfl (fun t55 w55 hb55 hp55 => ?_)
  obtain ⟨hR55, hM55, hx55⟩ := hp55
  have hT55 := TapM.fm (TapM.up (by omega) hT34) hR55
  have e0_55 : w55 122 0 = v 122 0 := (hR55 122 0 (Or.inl (by decide))).trans ((ux_ne (by omega)).trans e0_34)
  refine N.iast C dX9_readChild_58 kd_122 ln_122 (by omega) ?_
  refine E.aload_n C dX9_readChild_59 rfl rfl ?_
  refine N.getR C fa_X9_17 rfl dX9_readChild_60 kd_119 (x := 122) (by decide +kernel) (by decide) ?_
  refine E.iload_n C dX9_readChild_63 rfl rfl ?_
  refine E.iconst C dX9_readChild_64 (by decide) ?_
  refine E.iadd C dX9_readChild_65 (by omega) ?_
  refine E.bipush C dX9_readChild_66 (by decide) ?_
  refine N.iast C dX9_readChild_68 kd_122 ln_122 (by omega) ?_
  refine E.aload_n C dX9_readChild_69 rfl rfl ?_
  refine N.getR C fa_X9_17 rfl dX9_readChild_70 kd_119 (x := 122) (by decide +kernel) (by decide) ?_
  refine E.iload_n C dX9_readChild_73 rfl rfl ?_
  refine E.iconst C dX9_readChild_74 (by decide) ?_
  refine E.iadd C dX9_readChild_75 (by omega) ?_
  refine E.bipush C dX9_readChild_76 (by decide) ?_
  refine N.iast C dX9_readChild_78 kd_122 ln_122 (by omega) ?_
  refine E.aload_n C dX9_readChild_79 rfl rfl ?_
  refine N.getR C fa_X9_17 rfl dX9_readChild_80 kd_119 (x := 122) (by decide +kernel) (by decide) ?_
  refine E.iconst C dX9_readChild_83 (by decide) ?_
  refine E.dup2 C dX9_readChild_84 ?_
  refine N.iald C dX9_readChild_85 kd_122 ln_122 (by omega) (x := (upd2 (upd2 (upd2 w55 122 (ix + 2) t55) 122 (ix + 3) (-4)) 122 (ix + 4) (-4)) 122 0) rfl ?_
  refine E.veq (x' := v 122 0) (by rw [ux_ne (by omega), ux_ne (by omega), ux_ne (by omega), e0_55]) ?_
  refine E.iconst C dX9_readChild_86 (by decide) ?_
  refine E.iadd C dX9_readChild_87 (by omega) ?_
  refine N.iast C dX9_readChild_88 kd_122 ln_122 (by omega) ?_
  exact N.vret C hR dX9_readChild_89 (fun hi => by have hF3 : (orF (orF (orF F (nP f L q 1 40)) (nP f L (tE f L q) 0 4)) (nP f L (tE f L (tE f L q)) t34 4)) = chG f L F q := (by unfold chG; rcases hx34 with g | g; (rw [g.2.1]); (rw [orF_n g.1, orF_n g.1])); rw [hF3] at hM55 hx55; refine ⟨FrL.up (FrL.up (FrL.up (FrL.up (FrL.tr (FrL.up (FrL.tr (FrL.up hR20.toL (Or.inl rfl)) hR34.toL) (Or.inl rfl)) hR55.toL) (Or.inl rfl)) (Or.inl rfl)) (Or.inl rfl)) (Or.inl rfl), (((hM55.up (by omega)).up (by omega)).up (by omega)).up (by omega), fun z => ?_⟩; have z2 := (orF_z z).1; have z1 := (orF_z z2).1; subst hix; unfold chD; exact FrM.put (FrM.put (FrM.put (FrM.put ((FrM.put ((FrM.put hR20 (by omega)).tr hR34) (by omega)).tr hR55) (by omega)) rfl) rfl) rfl)

set_option maxHeartbeats 4000000 in
set_option maxRecDepth 20000 in
theorem ok_X9_readLike (G : GT) (f : Int → Int) (L : Int) (F : Int × Int) (q : Int) (v : VT) (hT : TapM f L v) (hM : MSt f L v F q) : MNv G yX9_readLike cX9_readLike 4 none 4 90 [vr 119] v (fun w => FrL v w ∧ MSt f L w (liG f L F q) (tE f L (tE f L (tE f L q))) ∧ ((liG f L F q).1 = 0 → FrM (liD f L v q) w)) := by
  refine MN.of pn_X9_readLike [some (vr 119), none, none, none] 3 rfl rfl (fun X C hX hn hR => ?_)
  have hN : ∀ i : Nat, i < 4 → i < xn X := fun i h => by rw [hn]; exact h
  refine E.rngk (fun hinv => ?_)
  refine E.loc (fun hloc => ?_)
  have hTL := hT.2.1
  refine E.aload_n C dX9_readLike_0 rfl rfl ?_
  refine N.callVi (S := []) (As := []) C hX (ok_X9_readChildOf G f L F q v hT hM) yf_X9_readChildOf yv_X9_readChildOf ml_X9_150 rfl rfl rfl kd_119 (by decide) (by decide) (Nat.le_of_ble_eq_true rfl) dX9_readLike_1 rfl (fun t1 w1 hb1 hp1 => ?_)
  obtain ⟨hR1, hM1, hx1⟩ := hp1
  have hT1 := TapM.fm (TapM.up (by omega) hT) hR1
  have e7_1 : w1 119 7 = v 119 7 := (hR1 119 7 (by decide)).trans (ux_ne (by decide))
  refine N.ist_1 C dX9_readLike_4 (hN 1 (by decide)) rfl ?_
  refine E.aload_n C dX9_readLike_5 rfl rfl ?_
  refine E.iconst C dX9_readLike_6 (by decide) ?_
  refine E.bipush C dX9_readLike_7 (by decide) ?_
  refine N.callVi (S := []) (As := [vi 0, vi 9]) C hX (ok_X9_readNumber G f L (orF F (nP f L q 0 7)) (tE f L q) 0 9 w1 hT1 hM1) yf_X9_readNumber yv_X9_readNumber ml_X9_142 rfl rfl rfl kd_119 (by decide) (by decide) (Nat.le_of_ble_eq_true rfl) dX9_readLike_9 rfl (fun t9 w9 hb9 hp9 => ?_)
  obtain ⟨hR9, hM9, hx9⟩ := hp9
  have hT9 := TapM.fm hT1 hR9
  have e7_9 : w9 119 7 = v 119 7 := (hR9 119 7 (by decide)).trans e7_1
  refine N.ist_2 C dX9_readLike_12 (hN 2 (by decide)) rfl ?_
  refine E.aload_n C dX9_readLike_13 rfl rfl ?_
  have jn30 : ∀ (z : Int), z = cmz (v 119 7) t9 → E X G 0 0 1000 w9 30 [some (vr 119), some (vi t1), some (vi t9), none] [vi z, vr 119] := by
    intro z hJ30
    refine N.putI C fp_X9_82 rfl dX9_readLike_30 kd_119 ?_
    refine E.aload_n C dX9_readLike_33 rfl rfl ?_
    refine E.iconst C dX9_readLike_34 (by decide) ?_
    refine E.bipush C dX9_readLike_35 (by decide) ?_
    refine N.callVi (S := []) (As := [vi 0, vi 9]) C hX (ok_X9_readNumber G f L (orF (orF F (nP f L q 0 7)) (nP f L (tE f L q) 0 9)) (tE f L (tE f L q)) 0 9 (upd2 w9 119 7 z) (TapM.up (by omega) hT9) (hM9.up (by omega))) yf_X9_readNumber yv_X9_readNumber ml_X9_142 rfl rfl rfl kd_119 (by decide) (by decide) (Nat.le_of_ble_eq_true rfl) dX9_readLike_37 rfl (fun t37 w37 hb37 hp37 => ?_)
    obtain ⟨hR37, hM37, hx37⟩ := hp37
    have hT37 := TapM.fm (TapM.up (by omega) hT9) hR37
    refine N.ist_3 C dX9_readLike_40 (hN 3 (by decide)) rfl ?_
    refine E.aload_n C dX9_readLike_41 rfl rfl ?_
    refine N.getR C fa_X9_17 rfl dX9_readLike_42 kd_119 (x := 122) (by decide +kernel) (by decide) ?_
    refine E.bipush C dX9_readLike_45 (by decide) ?_
    refine E.bipush C dX9_readLike_47 (by decide) ?_
    refine E.iload_n C dX9_readLike_49 rfl rfl ?_
    refine E.imul C dX9_readLike_50 (by omega) ?_
    refine E.iadd C dX9_readLike_51 (by omega) ?_
    refine E.iload_n C dX9_readLike_52 rfl rfl ?_
    refine E.iadd C dX9_readLike_53 (by omega) ?_
    refine E.iload_n C dX9_readLike_54 rfl rfl ?_
    refine N.iast C dX9_readLike_55 kd_122 ln_122 (by omega) ?_
    exact N.vret C hR dX9_readLike_56 (fun hi => by refine ⟨FrL.up (FrL.tr (FrL.up (FrL.tr (FrL.tr (FrL.up FrL.rf (Or.inr (by decide))) hR1.toL) hR9.toL) (Or.inr (by decide))) hR37.toL) (Or.inl rfl), hM37.up (by omega), fun zz => ?_⟩; have z2 := (orF_z zz).1; have z1 := (orF_z z2).1; have x1 : t1 = tV f L q := (by omega); have x2 : t9 = tV f L (tE f L q) := (by omega); have x3 : t37 = tV f L (tE f L (tE f L q)) := (by unfold liG at zz; omega); rw [x1] at hR1 ⊢; rw [x2] at hJ30 ⊢; unfold liD; exact FrM.put ((FrM.put (hR1.tr hR9) hJ30).tr hR37) x3)
  refine E.iload_n C dX9_readLike_14 rfl rfl ?_
  refine E.aload_n C dX9_readLike_15 rfl rfl ?_
  refine N.getI C fa_X9_82 rfl dX9_readLike_16 kd_119 (x := w9 119 7) rfl ?_
  refine E.icmp_le C dX9_readLike_19 (tgt := 26) (by decide) (fun h19 => ?_) (fun h19 => ?_)
  · skip
    refine E.aload_n C dX9_readLike_26 rfl rfl ?_
    refine N.getI C fa_X9_82 rfl dX9_readLike_27 kd_119 (x := w9 119 7) rfl ?_
    exact jn30 (w9 119 7) (by unfold cmz; split <;> omega)
  · skip
    refine E.iload_n C dX9_readLike_22 rfl rfl ?_
    refine E.goto C dX9_readLike_23 (tgt := 30) (by decide) ?_
    exact jn30 t9 (by unfold cmz; split <;> omega)

set_option maxHeartbeats 4000000 in
set_option maxRecDepth 20000 in
theorem ok_X9_readThing (G : GT) (f : Int → Int) (L : Int) (s q : Int) (v : VT) (hT : TapM f L v) (hM : MSt f L v (0, 0) q) (h14 : v 119 14 = 0) (hb : 0 ≤ v 122 41 ∧ v 122 41 < 10) : MNv G yX9_readThing cX9_readThing 4 none 4 90 [vr 119, vi s] v (fun w => FrL v w ∧ MSt f L w (tgG f L q) (tE f L (tE f L (thS f L q))) ∧ ((tgG f L q).1 = 0 → FrM (tgD f L v s q) w)) := by
  refine MN.of pn_X9_readThing [some (vr 119), some (vi s), none, none] 2 rfl rfl (fun X C hX hn hR => ?_)
  have hN : ∀ i : Nat, i < 4 → i < xn X := fun i h => by rw [hn]; exact h
  refine E.rngk (fun hinv => ?_)
  refine E.loc (fun hloc => ?_)
  have hin_1 : in32 s := hloc _ (List.mem_of_getElem? (i := 1) rfl)
  have hTL := hT.2.1
  obtain ⟨-, k4, k12, k11, k10⟩ := hM.w14 h14
  have hg1 : q ≤ tS f L q := tS_ge
  have hg2 : tS f L q ≤ tE f L q := tE_gS
  have hg3 : tE f L q ≤ L := tE_le hM.1.2
  have hg0 := hM.1
  refine E.bipush C dX9_readThing_0 (by decide) ?_
  refine E.bipush C dX9_readThing_2 (by decide) ?_
  refine E.aload_n C dX9_readThing_4 rfl rfl ?_
  refine N.getR C fa_X9_17 rfl dX9_readThing_5 kd_119 (x := 122) (by decide +kernel) (by decide) ?_
  refine E.bipush C dX9_readThing_8 (by decide) ?_
  refine N.iald C dX9_readThing_10 kd_122 ln_122 (by omega) (x := v 122 41) rfl ?_
  refine E.imul C dX9_readThing_11 (by omega) ?_
  refine E.iadd C dX9_readThing_12 (by omega) ?_
  obtain ⟨ix, hix⟩ : ∃ zqv, zqv = (42 + (7 * (v 122 41))) := ⟨_, rfl⟩
  refine E.veq hix.symm ?_
  refine N.ist_2 C dX9_readThing_13 (hN 2 (by decide)) rfl ?_
  refine E.aload_n C dX9_readThing_14 rfl rfl ?_
  refine N.getI C fa_X9_97 rfl dX9_readThing_15 kd_119 (x := v 119 14) rfl ?_
  refine E.if_ne C dX9_readThing_18 (tgt := 36) (by decide) (fun h18 => by exfalso; omega) (fun h18 => ?_)
  have jn38 : ∀ (kd : Int), kd = kdT f L q → E X G 0 0 1000 v 38 [some (vr 119), some (vi s), some (vi ix), none] [vi kd] := by
    intro kd hJ38
    refine N.ist_3 C dX9_readThing_38 (hN 3 (by decide)) rfl ?_
    refine E.aload_n C dX9_readThing_39 rfl rfl ?_
    have jn51 : ∀ (g : Int), ((g = 1 ∧ ¬ kd = -4) ∨ (g = 0 ∧ kd = -4)) → E X G 0 0 1000 v 51 [some (vr 119), some (vi s), some (vi ix), some (vi kd)] [vi g, vr 119] := by
      intro g hJ51
      refine E.iconst C dX9_readThing_51 (by decide) ?_
      refine N.callVv (S := []) (As := [vi g, vi 2]) C hX (ok_X9_needs G g 2 v (by omega)) yf_X9_needs yv_X9_needs ml_X9_135 rfl rfl rfl kd_119 (by decide) (by decide) (Nat.le_of_ble_eq_true rfl) dX9_readThing_52 rfl (fun w52 hp52 => ?_)
      have hF52 := (hp52).fm
      have hT52 := hT.fm hF52
      have e10_52 := (hp52).1 119 10 (by decide)
      have hd52 := (hp52).2
      have hstep := fun (u : VT) (hu : NxtM f L w52 u) => tj_s hM h14 hJ38 hJ51 hp52 hu
      refine E.aload_n C dX9_readThing_55 rfl rfl ?_
      refine N.callVv (S := []) (As := []) C hX (ok_X9_next G f L w52 hT52 (by omega) (fun z => by omega)) yf_X9_next yv_X9_next ml_X9_139 rfl rfl rfl kd_119 (by decide) (by decide) (Nat.le_of_ble_eq_true rfl) dX9_readThing_56 rfl (fun w56 hp56 => ?_)
      have hM56 := hstep _ hp56
      have hF56 := (hp56).1
      have hT56 := hT52.fm hF56
      refine E.aload_n C dX9_readThing_59 rfl rfl ?_
      refine N.getR C fa_X9_17 rfl dX9_readThing_60 kd_119 (x := 122) (by decide +kernel) (by decide) ?_
      refine E.iload_n C dX9_readThing_63 rfl rfl ?_
      refine E.iconst C dX9_readThing_64 (by decide) ?_
      refine E.iadd C dX9_readThing_65 (by omega) ?_
      refine E.iload_n C dX9_readThing_66 rfl rfl ?_
      refine N.iast C dX9_readThing_67 kd_122 ln_122 (by omega) ?_
      refine E.aload_n C dX9_readThing_68 rfl rfl ?_
      refine N.getR C fa_X9_17 rfl dX9_readThing_69 kd_119 (x := 122) (by decide +kernel) (by decide) ?_
      refine E.iload_n C dX9_readThing_72 rfl rfl ?_
      refine E.iconst C dX9_readThing_73 (by decide) ?_
      refine E.iadd C dX9_readThing_74 (by omega) ?_
      refine E.iload_n C dX9_readThing_75 rfl rfl ?_
      refine N.iast C dX9_readThing_76 kd_122 ln_122 (by omega) ?_
      refine E.aload_n C dX9_readThing_77 rfl rfl ?_
      refine N.getR C fa_X9_17 rfl dX9_readThing_78 kd_119 (x := 122) (by decide +kernel) (by decide) ?_
      refine E.iload_n C dX9_readThing_81 rfl rfl ?_
      refine E.bipush C dX9_readThing_82 (by decide) ?_
      refine E.iadd C dX9_readThing_84 (by omega) ?_
      have jn99 : ∀ (hr : Int) (y : VT), (FrL v y ∧ TapM f L y ∧ MSt f L y (t0G f L q) (thS f L q) ∧ ((t0G f L q).1 = 0 → hr = heirT f L q ∧ FrM (keD f L (upd2 (upd2 v 122 (ix + 0) s) 122 (ix + 1) kd) q) y) ∧ y 122 41 = v 122 41) → E X G 0 0 1000 y 99 [some (vr 119), some (vi s), some (vi ix), some (vi kd)] [vi hr, vi (ix + 6), vr 122] := by
        intro hr y hJ99
        obtain ⟨hFy, hTy, hMy, hKy, e41y⟩ := hJ99
        refine N.iast C dX9_readThing_99 kd_122 ln_122 (by omega) ?_
        refine E.aload_n C dX9_readThing_100 rfl rfl ?_
        refine N.getR C fa_X9_17 rfl dX9_readThing_101 kd_119 (x := 122) (by decide +kernel) (by decide) ?_
        refine E.iload_n C dX9_readThing_104 rfl rfl ?_
        refine E.iconst C dX9_readThing_105 (by decide) ?_
        refine E.iadd C dX9_readThing_106 (by omega) ?_
        refine E.aload_n C dX9_readThing_107 rfl rfl ?_
        refine E.iconst C dX9_readThing_108 (by decide) ?_
        refine E.bipush C dX9_readThing_109 (by decide) ?_
        refine N.callVi (S := [vi (ix + 2), vr 122]) (As := [vi 1, vi 40]) C hX (ok_X9_readNumber G f L (t0G f L q) (thS f L q) 1 40 (upd2 y 122 (ix + 6) hr) (TapM.up (by omega) hTy) (hMy.up (by omega))) yf_X9_readNumber yv_X9_readNumber ml_X9_142 rfl rfl rfl kd_119 (by decide) (by decide) (Nat.le_of_ble_eq_true rfl) dX9_readThing_111 rfl (fun t111 w111 hb111 hp111 => ?_)
        obtain ⟨hR111, hM111, hx111⟩ := hp111
        have hT111 := TapM.fm (TapM.up (by omega) hTy) hR111
        refine N.iast C dX9_readThing_114 kd_122 ln_122 (by omega) ?_
        refine E.aload_n C dX9_readThing_115 rfl rfl ?_
        refine N.getR C fa_X9_17 rfl dX9_readThing_116 kd_119 (x := 122) (by decide +kernel) (by decide) ?_
        refine E.iload_n C dX9_readThing_119 rfl rfl ?_
        refine E.iconst C dX9_readThing_120 (by decide) ?_
        refine E.iadd C dX9_readThing_121 (by omega) ?_
        refine E.aload_n C dX9_readThing_122 rfl rfl ?_
        refine E.iconst C dX9_readThing_123 (by decide) ?_
        refine E.bipush C dX9_readThing_124 (by decide) ?_
        refine N.callVi (S := [vi (ix + 3), vr 122]) (As := [vi 1, vi 9]) C hX (ok_X9_readNumber G f L (orF (t0G f L q) (nP f L (thS f L q) 1 40)) (tE f L (thS f L q)) 1 9 (upd2 w111 122 (ix + 2) t111) (TapM.up (by omega) hT111) (hM111.up (by omega))) yf_X9_readNumber yv_X9_readNumber ml_X9_142 rfl rfl rfl kd_119 (by decide) (by decide) (Nat.le_of_ble_eq_true rfl) dX9_readThing_126 rfl (fun t126 w126 hb126 hp126 => ?_)
        obtain ⟨hR126, hM126, hx126⟩ := hp126
        have hT126 := TapM.fm (TapM.up (by omega) hT111) hR126
        refine N.iast C dX9_readThing_129 kd_122 ln_122 (by omega) ?_
        refine E.aload_n C dX9_readThing_130 rfl rfl ?_
        refine N.getR C fa_X9_17 rfl dX9_readThing_131 kd_119 (x := 122) (by decide +kernel) (by decide) ?_
        refine E.iload_n C dX9_readThing_134 rfl rfl ?_
        refine E.iconst C dX9_readThing_135 (by decide) ?_
        refine E.iadd C dX9_readThing_136 (by omega) ?_
        refine E.iconst C dX9_readThing_137 (by decide) ?_
        refine N.iast C dX9_readThing_138 kd_122 ln_122 (by omega) ?_
        refine E.aload_n C dX9_readThing_139 rfl rfl ?_
        refine N.getR C fa_X9_17 rfl dX9_readThing_140 kd_119 (x := 122) (by decide +kernel) (by decide) ?_
        refine E.iload_n C dX9_readThing_143 rfl rfl ?_
        refine E.iconst C dX9_readThing_144 (by decide) ?_
        refine E.iadd C dX9_readThing_145 (by omega) ?_
        refine E.iconst C dX9_readThing_146 (by decide) ?_
        refine N.iast C dX9_readThing_147 kd_122 ln_122 (by omega) ?_
        refine E.aload_n C dX9_readThing_148 rfl rfl ?_
        refine N.getR C fa_X9_17 rfl dX9_readThing_149 kd_119 (x := 122) (by decide +kernel) (by decide) ?_
        refine E.bipush C dX9_readThing_152 (by decide) ?_
        refine E.dup2 C dX9_readThing_154 ?_
        refine N.iald C dX9_readThing_155 kd_122 ln_122 (by omega) (x := (upd2 (upd2 (upd2 w126 122 (ix + 3) t126) 122 (ix + 4) 0) 122 (ix + 5) 0) 122 41) rfl ?_
        refine E.veq (x' := v 122 41) (by rw [ux_ne (by omega), ux_ne (by omega), ux_ne (by omega), hR126 122 41 (by decide), ux_ne (by omega), hR111 122 41 (by decide), ux_ne (by omega), e41y]) ?_
        refine E.iconst C dX9_readThing_156 (by decide) ?_
        refine E.iadd C dX9_readThing_157 (by omega) ?_
        refine N.iast C dX9_readThing_158 kd_122 ln_122 (by omega) ?_
        exact N.vret C hR dX9_readThing_159 (fun hi => by refine ⟨FrL.up (FrL.up (FrL.up (FrL.up (FrL.tr (FrL.up (FrL.tr (FrL.up hFy (Or.inl rfl)) hR111.toL) (Or.inl rfl)) hR126.toL) (Or.inl rfl)) (Or.inl rfl)) (Or.inl rfl)) (Or.inl rfl), (((hM126.up (by omega)).up (by omega)).up (by omega)).up (by omega), fun zz => ?_⟩; have z2 := (orF_z zz).1; have z1 := (orF_z z2).1; obtain ⟨x0, hK⟩ := hKy z1; unfold tgG at zz; have x1 : t111 = tV f L (thS f L q) := (by omega); have x2 : t126 = tV f L (tE f L (thS f L q)) := (by omega); subst hix; rw [hJ38] at hK; unfold tgD; exact FrM.put (FrM.put (FrM.put (FrM.put ((FrM.put ((FrM.put hK x0).tr hR111) x1).tr hR126) x2) rfl) rfl) rfl)
      obtain ⟨z, hz⟩ : ∃ zqv, zqv = (upd2 (upd2 w56 122 (ix + 0) s) 122 (ix + 1) kd) := ⟨_, rfl⟩
      refine E.heq hz.symm ?_
      have hKz : FrM (upd2 (upd2 v 122 (ix + 0) s) 122 (ix + 1) kd) z := by rw [hz]; exact FrM.put (FrM.put (hF52.tr hF56) rfl) rfl
      have hFz : FrL v z := (FrL.up (FrL.up FrL.rf (Or.inl rfl)) (Or.inl rfl)).tr hKz.toL
      have hTz : TapM f L z := hT.fl hFz
      have hMz : MSt f L z (kP f L q) (tE f L q) := by rw [hz]; exact (hM56.up (by omega)).up (by omega)
      have e41z : z 122 41 = v 122 41 := (hKz 122 41 (by decide)).trans ((ux_ne (by omega)).trans (ux_ne (by omega)))
      refine E.iload_n C dX9_readThing_85 rfl rfl ?_
      refine E.iconst C dX9_readThing_86 (by decide) ?_
      refine E.icmp_ne C dX9_readThing_87 (tgt := 97) (by decide) (fun h87 => ?_) (fun h87 => ?_)
      · skip
        refine E.bipush C dX9_readThing_97 (by decide) ?_
        exact jn99 (-4) z (by first | exact tj_a hFz hTz hMz hKz e41z hJ38 h87 | exact tj_b hFz hTz hKz e41z hJ38 h87 hp91)
      · skip
        refine E.aload_n C dX9_readThing_90 rfl rfl ?_
        refine N.callVi (S := [vi (ix + 6), vr 122]) (As := []) C hX (ok_X9_readChildOf G f L (kP f L q) (tE f L q) z hTz hMz) yf_X9_readChildOf yv_X9_readChildOf ml_X9_150 rfl rfl rfl kd_119 (by decide) (by decide) (Nat.le_of_ble_eq_true rfl) dX9_readThing_91 rfl (fun t91 w91 hb91 hp91 => ?_)
        refine E.goto C dX9_readThing_94 (tgt := 99) (by decide) ?_
        exact jn99 t91 w91 (by first | exact tj_a hFz hTz hMz hKz e41z hJ38 h87 | exact tj_b hFz hTz hKz e41z hJ38 h87 hp91)
    refine E.iload_n C dX9_readThing_40 rfl rfl ?_
    refine E.bipush C dX9_readThing_41 (by decide) ?_
    refine E.icmp_eq C dX9_readThing_43 (tgt := 50) (by decide) (fun h43 => ?_) (fun h43 => ?_)
    · skip
      refine E.iconst C dX9_readThing_50 (by decide) ?_
      exact jn51 0 (by omega)
    · skip
      refine E.iconst C dX9_readThing_46 (by decide) ?_
      refine E.goto C dX9_readThing_47 (tgt := 51) (by decide) ?_
      exact jn51 1 (by omega)
  refine E.aload_n C dX9_readThing_21 rfl rfl ?_
  refine N.getI C fa_X9_121 rfl dX9_readThing_22 kd_119 (x := v 119 12) rfl ?_
  refine E.iconst C dX9_readThing_25 (by decide) ?_
  refine E.icmp_ne C dX9_readThing_26 (tgt := 36) (by decide) (fun h26 => ?_) (fun h26 => ?_)
  · skip
    refine E.bipush C dX9_readThing_36 (by decide) ?_
    exact jn38 (-4) (by first | (unfold kdT; rw [if_pos (by omega), k11, k10]) | (unfold kdT; rw [if_neg (by omega)]))
  · skip
    refine E.aload_n C dX9_readThing_29 rfl rfl ?_
    refine N.callVp (S := []) (As := []) C hX (ok_X9_kindNow G f L v (by assumption) (by omega)) yf_X9_kindNow yv_X9_kindNow ml_X9_146 rfl rfl rfl kd_119 (by decide) (by decide) (Nat.le_of_ble_eq_true rfl) dX9_readThing_30 rfl ?_
    refine E.goto C dX9_readThing_33 (tgt := 38) (by decide) ?_
    exact jn38 (kdF f (v 119 11) (v 119 10)) (by first | (unfold kdT; rw [if_pos (by omega), k11, k10]) | (unfold kdT; rw [if_neg (by omega)]))
