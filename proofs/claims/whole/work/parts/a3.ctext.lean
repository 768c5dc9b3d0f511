set_option maxHeartbeats 4000000 in
set_option maxRecDepth 20000 in
theorem ok_X8_text (G : GT) (f : Int → Int) (L : Int) (v : VT) (hT : TapC f L v)  : MNi G yX8_text cX8_text 3 (some .int) 10 214 [vr 1] v (fun x w => TxtC (parN f L 401 0 (strtB (shV v)) 0) v x w) := by
  refine MN.of pn_X8_text [some (vr 1), none, none] 2 rfl rfl (fun X C hX hn hR => ?_)
  have hN : ∀ i : Nat, i < 3 → i < xn X := fun i h => by rw [hn]; exact h
  refine E.rngk (fun hinv => ?_)
  refine E.loc (fun hloc => ?_)
  have hTL := hT.2.1
  have hv27 : isV 27 := by unfold isV; omega
  have hv4 : isV 4 := by unfold isV; omega
  have hpw := par_wf (f := f) (L := L) 401 0 0 (strtB (shV v)) strt_wf
  refine E.aload_n C dX8_text_0 rfl rfl ?_
  refine N.getR C fa_X8_31 rfl dX8_text_1 kd_1 (x := 50) (by decide +kernel) (by decide) ?_
  refine N.callVi (S := []) (As := []) C hX (ok_X3_readAll G f L v (by assumption)) yf_X3_readAll yv_X3_readAll ml_X8_89 rfl rfl rfl kd_50 (by decide) (by decide) (Nat.le_of_ble_eq_true rfl) dX8_text_4 rfl (fun t4 w4 hb4 hp4 => ?_)
  obtain ⟨hF, hp10, hp11, hpok⟩ := hp4
  refine N.ist_1 C dX8_text_7 (hN 1 (by decide)) rfl ?_
  refine E.aload_n C dX8_text_8 rfl rfl ?_
  refine N.getR C fa_X8_10 rfl dX8_text_9 kd_1 (x := 2) (by decide +kernel) (by decide) ?_
  refine E.iconst C dX8_text_12 (by decide) ?_
  refine N.putI C fp_X8_82 rfl dX8_text_13 kd_2 ?_
  refine E.aload_n C dX8_text_16 rfl rfl ?_
  refine E.aload_n C dX8_text_17 rfl rfl ?_
  refine N.getR C fa_X8_31 rfl dX8_text_18 kd_1 (x := 50) (by decide +kernel) (by decide) ?_
  refine N.getI C fa_X8_93 rfl dX8_text_21 kd_50 (x := w4 50 10) (upd2_ne _ _ _ _ _ _ (Or.inr (by decide))) ?_
  refine N.putI C fp_X8_71 rfl dX8_text_24 kd_1 ?_
  refine E.aload_n C dX8_text_27 rfl rfl ?_
  refine N.getI C fa_X8_71 rfl dX8_text_28 kd_1 (x := w4 50 10) (upd2_same _ _ _ _) ?_
  refine E.if_eq C dX8_text_31 (tgt := 45) (by decide) (fun h31 => ?_) (fun h31 => ?_)
  · skip
    have hz : (parN f L 401 0 (strtB (shV v)) 0).1.1 = 0 := hp10.symm.trans h31
    obtain ⟨hwf, -, -⟩ := hpw hz
    obtain ⟨hx4, hsh⟩ := hpok hz
    have hbd := hwf.1
    have hwf2 := hwf
    rw [← hsh] at hwf2
    have hb4 : 0 ≤ w4 27 4 ∧ w4 27 4 ≤ 8 := hwf2.1.1
    have hb5 : 0 ≤ w4 27 5 ∧ w4 27 5 ≤ 10 := hwf2.1.2.1
    have hlz : ∀ t, 0 ≤ t → t < (upd2 (upd2 w4 2 1 0) 1 11 (w4 50 10)) 27 5 → (upd2 (upd2 w4 2 1 0) 1 11 (w4 50 10)) (27 + 13 + t) 5 = 0 ∨ (upd2 (upd2 w4 2 1 0) 1 11 (w4 50 10)) (27 + 13 + t) 5 = 1 := fun t a b => by
      rw [ux_ne (by decide), ux_ne (by decide)] at b
      rw [ux_ne (by omega), ux_ne (by omega)]
      have := (hwf2.2.2.1 t a b).2.2.2.2.2.1
      rw [shV_at (by omega)] at this
      rw [show 27 + 13 + t = 27 + (13 + t) by omega]
      exact Or.inl this
    refine E.aload_n C dX8_text_45 rfl rfl ?_
    refine N.getR C fa_X8_19 rfl dX8_text_46 kd_1 (x := 4) (by decide +kernel) (by decide) ?_
    refine E.aload_n C dX8_text_49 rfl rfl ?_
    refine N.getR C fa_X8_23 rfl dX8_text_50 kd_1 (x := 27) (by decide +kernel) (by decide) ?_
    refine N.callVe (S := []) (As := [vr 27]) C hX (ok_X7_becomeAll G 4 27 (upd2 (upd2 w4 2 1 0) 1 11 (w4 50 10)) hv4 hv27 (by omega) (by rw [ux_ne (by decide), ux_ne (by decide)]; exact hb4) (by rw [ux_ne (by decide), ux_ne (by decide)]; exact hb5) hlz) yf_X7_becomeAll yv_X7_becomeAll ml_X8_99 rfl rfl rfl (kdV hv4) (by decide) (by decide) (Nat.le_of_ble_eq_true rfl) dX8_text_53 rfl ?_
    obtain ⟨y, hy⟩ : ∃ zqv, zqv = (upd2 (cpyF (cpyF (bodF (upd2 (upd2 w4 2 1 0) 1 11 (w4 50 10)) 4 27 ((upd2 (upd2 w4 2 1 0) 1 11 (w4 50 10)) 27 4) ((upd2 (upd2 w4 2 1 0) 1 11 (w4 50 10)) 27 5)) (4 + 3) (27 + 3) 80) (4 + 4) (27 + 4) 6) 4 6 ((upd2 (upd2 w4 2 1 0) 1 11 (w4 50 10)) 27 6)) := ⟨_, rfl⟩
    refine E.heq hy.symm ?_
    obtain ⟨hty, hfy⟩ : TldV y 4 (parN f L 401 0 (strtB (shV v)) 0).2.2 ∧ ∀ a j, (a < 4 ∨ 27 ≤ a) → y a j = upd2 (upd2 w4 2 1 0) 1 11 (w4 50 10) a j := by
      rw [hy]
      exact became hbd ((by funext a j; unfold shV; split; (rw [ux_ne (by omega), ux_ne (by omega)]); rfl : shV (upd2 (upd2 w4 2 1 0) 1 11 (w4 50 10)) = shV w4).trans hsh)
    refine E.aload_n C dX8_text_56 rfl rfl ?_
    refine E.aload_n C dX8_text_57 rfl rfl ?_
    refine N.getR C fa_X8_31 rfl dX8_text_58 kd_1 (x := 50) (by decide +kernel) (by decide) ?_
    refine N.getI C fa_X8_103 rfl dX8_text_61 kd_50 (x := y 50 6) rfl ?_
    refine N.putI C fp_X8_67 rfl dX8_text_64 kd_1 ?_
    refine E.iconst C dX8_text_67 (by decide) ?_
    refine N.ist_2 C dX8_text_68 (hN 2 (by decide)) rfl ?_
    have lp69 : ∀ (k69 : Nat) (k : Int) (z : VT), (2 - k).toNat = k69 → (0 ≤ k ∧ k ≤ 2 ∧ (∀ a j, ¬ a = 52 → z a j = upd2 y 1 10 (y 50 6) a j) ∧ ∀ i, 0 ≤ i → i < k → z 52 i = 0) → E X G 0 0 1000 z 69 [some (vr 1), some (vi t4), some (vi k)] [] := by
      intro k69
      induction k69 using Nat.strongRecOn with
      | ind k69 ih69 =>
        intro k z hk69 hI69
        obtain ⟨hk0, hk1, hzf, hzi⟩ := hI69
        refine E.iload_n C dX8_text_69 rfl rfl ?_
        refine E.iconst C dX8_text_70 (by decide) ?_
        refine E.icmp_ge C dX8_text_71 (tgt := 87) (by decide) (fun h71 => ?_) (fun h71 => ?_)
        · skip
          refine E.iload_n C dX8_text_87 rfl rfl ?_
          exact N.iret C hR dX8_text_88 (fun hi hx => by exact Or.inr ⟨hz, hx4, by rw [hzf 1 11 (by decide), ux_ne (by decide), hfy 1 11 (by decide), ux_at rfl]; exact hp10.trans hz, by rw [hzf 2 1 (by decide), ux_ne (by decide), hfy 2 1 (by decide), ux_ne (by decide), ux_at rfl], by rw [hzf 1 10 (by decide), ux_at rfl, hfy 50 6 (by decide), ux_ne (by decide), ux_ne (by decide), ← sh26 (v := w4), hsh], hzi 0 (by omega) (by omega), hzi 1 (by omega) (by omega), hty.fr hbd (fun a j g1 g2 => by rw [hzf a j (by omega), ux_ne (by omega)]), fun a j g1 g2 g3 g4 => by rw [hzf a j g2, ux_ne (by omega), hfy a j (by omega), ux_ne (by omega), ux_ne (by omega)]; exact hF a j (by omega)⟩)
        · skip
          refine E.aload_n C dX8_text_74 rfl rfl ?_
          refine N.getR C fa_X8_39 rfl dX8_text_75 kd_1 (x := 52) (by decide +kernel) (by decide) ?_
          refine E.iload_n C dX8_text_78 rfl rfl ?_
          refine E.iconst C dX8_text_79 (by decide) ?_
          refine N.zast C dX8_text_80 kd_52 ln_52 (by omega) (by omega) ?_
          refine N.iinc_2 C dX8_text_81 (hN 2 (by decide)) rfl (by omega) ?_
          refine E.goto C dX8_text_84 (tgt := 69) (by decide) ?_
          exact ih69 _ (by omega) (k + 1) (upd2 z 52 k 0) rfl (by exact ⟨by omega, by omega, fun a j g => (ux_ne (Or.inl g)).trans (hzf a j g), fun i a b => by
        by_cases e : i = k
        · exact ux_at e
        · exact (ux_ne (Or.inr e)).trans (hzi i a (by omega))⟩)
    exact lp69 _ 0 (upd2 y 1 10 (y 50 6)) rfl (by exact ⟨by omega, by omega, fun a j _ => rfl, fun i a b => by omega⟩)
  · skip
    refine E.bipush C dX8_text_34 (by decide) ?_
    refine E.aload_n C dX8_text_36 rfl rfl ?_
    refine N.getR C fa_X8_31 rfl dX8_text_37 kd_1 (x := 50) (by decide +kernel) (by decide) ?_
    refine N.getI C fa_X8_96 rfl dX8_text_40 kd_50 (x := w4 50 11) ((upd2_ne _ _ _ _ _ _ (Or.inl (by decide))).trans (upd2_ne _ _ _ _ _ _ (Or.inr (by decide)))) ?_
    refine E.isubW C dX8_text_43 ?_
    exact N.iret C hR dX8_text_44 (fun hi hx => by exact Or.inl ⟨by rw [← hp10]; exact h31, by rw [← hp11 (by rw [← hp10]; exact h31)], (ux_at rfl).trans hp10, (ux_ne (by decide)).trans (ux_at rfl), fun a j g1 g2 g3 => by rw [ux_ne (by omega), ux_ne (by omega)]; exact hF a j g1⟩)
