set_option maxHeartbeats 4000000 in
set_option maxRecDepth 20000 in
theorem ok_X9_text (G : GT) (f : Int → Int) (L : Int) (D v : VT) (hT : TapM f L v)  : MNi G yX9_text cX9_text 2 (some .int) 7 155 [vr 119] v (fun x w => TxtM (parN f L 401 0 (strtB D) 0) v x w) := by
  refine MN.of pn_X9_text [some (vr 119), none] 1 rfl rfl (fun X C hX hn hR => ?_)
  have hN : ∀ i : Nat, i < 2 → i < xn X := fun i h => by rw [hn]; exact h
  refine E.rngk (fun hinv => ?_)
  refine E.loc (fun hloc => ?_)
  have hTL := hT.2.1
  refine E.iconst C dX9_text_0 (by decide) ?_
  refine N.ist_1 C dX9_text_1 (hN 1 (by decide)) rfl ?_
  refine E.aload_n C dX9_text_2 rfl rfl ?_
  refine E.iconst C dX9_text_3 (by decide) ?_
  refine N.putI C fp_X9_97 rfl dX9_text_4 kd_119 ?_
  refine E.aload_n C dX9_text_7 rfl rfl ?_
  refine E.iconst C dX9_text_8 (by decide) ?_
  refine N.putI C fp_X9_106 rfl dX9_text_9 kd_119 ?_
  refine E.aload_n C dX9_text_12 rfl rfl ?_
  refine N.callVe (S := []) (As := []) C hX (ok_X9_firstDraft G (upd2 (upd2 v 119 14 0) 119 10 0)) yf_X9_firstDraft yv_X9_firstDraft ml_X9_65 rfl rfl rfl kd_119 (by decide) (by decide) (Nat.le_of_ble_eq_true rfl) dX9_text_13 rfl ?_
  obtain ⟨y, hy⟩ : ∃ zqv, zqv = (upd2 (upd2 (upd2 (upd2 (fillF (upd2 (upd2 v 119 14 0) 119 10 0) 122 0 199) 119 4 2) 119 5 0) 119 6 (-4)) 119 7 (-4)) := ⟨_, rfl⟩
  refine E.heq hy.symm ?_
  have hLy : FrL v y := by rw [hy]; exact FrL.up (FrL.up (FrL.up (FrL.up (FrL.fill (FrL.up (FrL.up FrL.rf (Or.inr (by decide))) (Or.inr (by decide)))) (Or.inr (by decide))) (Or.inr (by decide))) (Or.inr (by decide))) (Or.inr (by decide))
  have hTy := hT.fl hLy
  have y14 : y 119 14 = 0 := by rw [hy, ux_ne (by decide), ux_ne (by decide), ux_ne (by decide), ux_ne (by decide), congrFun (fillF_row (by decide)) 14, ux_ne (by decide), ux_at rfl]
  have y10 : y 119 10 = 0 := by rw [hy, ux_ne (by decide), ux_ne (by decide), ux_ne (by decide), ux_ne (by decide), congrFun (fillF_row (by decide)) 10, ux_at rfl]
  have hDy : MDr y (strtB D) := by rw [hy]; exact dr_strt
  refine E.aload_n C dX9_text_16 rfl rfl ?_
  refine N.callVv (S := []) (As := []) C hX (ok_X9_next G f L y hTy (by omega) (fun z => by omega)) yf_X9_next yv_X9_next ml_X9_139 rfl rfl rfl kd_119 (by decide) (by decide) (Nat.le_of_ble_eq_true rfl) dX9_text_17 rfl (fun w17 hp17 => ?_)
  have hM17 := nx_st hp17 y14 y10 (by omega)
  have lp20 : ∀ (k20 : Nat) (n : Int) (w : VT) (qq : Int) (B : VT), (if w 119 14 = 0 then L + 1 - qq else 0).toNat = k20 → (FrL v w ∧ 0 ≤ n ∧ n ≤ 401 ∧ TxtI f L (parN f L 401 0 (strtB D) 0) n qq B w) → E X G 0 0 1000 w 20 [some (vr 119), some (vi n)] [] := by
    intro k20
    induction k20 using Nat.strongRecOn with
    | ind k20 ih20 =>
      intro n w qq B hk20 hI20
      obtain ⟨hF, hn0, hn1, hTI⟩ := hI20
      have jn89 : ∀ (y2 : VT), (FrL v y2 ∧ TxtE (parN f L 401 0 (strtB D) 0) n y2) → E X G 0 0 1000 y2 89 [some (vr 119), some (vi n)] [] := by
        intro y2 hJ89
        obtain ⟨hF2, hTE⟩ := hJ89
        refine E.aload_n C dX9_text_89 rfl rfl ?_
        refine E.iconst C dX9_text_90 (by decide) ?_
        refine N.putI C fp_X9_88 rfl dX9_text_91 kd_119 ?_
        refine E.aload_n C dX9_text_94 rfl rfl ?_
        refine N.getI C fa_X9_97 rfl dX9_text_95 kd_119 (x := y2 119 14) (upd2_ne _ _ _ _ _ _ (Or.inr (by decide))) ?_
        refine E.if_le C dX9_text_98 (tgt := 109) (by decide) (fun h98 => ?_) (fun h98 => ?_)
        · skip
          refine E.aload_n C dX9_text_109 rfl rfl ?_
          refine N.callVe (S := []) (As := []) C hX (ok_X9_keepDraft G (upd2 y2 119 9 0)) yf_X9_keepDraft yv_X9_keepDraft ml_X9_68 rfl rfl rfl kd_119 (by decide) (by decide) (Nat.le_of_ble_eq_true rfl) dX9_text_110 rfl ?_
          refine E.iload_n C dX9_text_113 rfl rfl ?_
          exact N.iret C hR dX9_text_114 (fun hi hx => by exact tx_yes hF2 hTE h98)
        · skip
          refine E.bipush C dX9_text_101 (by decide) ?_
          refine E.aload_n C dX9_text_103 rfl rfl ?_
          refine N.getI C fa_X9_103 rfl dX9_text_104 kd_119 (x := y2 119 15) (upd2_ne _ _ _ _ _ _ (Or.inr (by decide))) ?_
          refine E.isubW C dX9_text_107 ?_
          exact N.iret C hR dX9_text_108 (fun hi hx => by exact tx_no hF2 hTE h98)
      refine E.aload_n C dX9_text_20 rfl rfl ?_
      refine N.getI C fa_X9_97 rfl dX9_text_21 kd_119 (x := w 119 14) rfl ?_
      refine E.if_ne C dX9_text_24 (tgt := 44) (by decide) (fun h24 => ?_) (fun h24 => ?_)
      · skip
        refine E.aload_n C dX9_text_44 rfl rfl ?_
        refine N.getI C fa_X9_97 rfl dX9_text_45 kd_119 (x := w 119 14) rfl ?_
        refine E.if_ne C dX9_text_48 (tgt := 89) (by decide) (fun h48 => ?_) (fun h48 => ?_)
        · skip
          exact jn89 w (by first | (exfalso; omega) | exact ⟨hF, tx_bad hTI h24 hn0 (by omega)⟩ | exact ⟨hF.tr hp86.fm.toL, tx_fin hTI h24 h31 hn0 (by omega) hJ84 hp86⟩)
        · skip
          refine E.aload_n C dX9_text_51 rfl rfl ?_
          have jn84 : ∀ (g : Int), ((g = 1 ∧ w 119 6 < w 122 0 ∧ w 119 7 < w 122 41) ∨ (g = 0 ∧ ¬ (w 119 6 < w 122 0 ∧ w 119 7 < w 122 41))) → E X G 0 0 1000 w 84 [some (vr 119), some (vi n)] [vi g, vr 119] := by
            intro g hJ84
            refine E.bipush C dX9_text_84 (by decide) ?_
            refine N.callVv (S := []) (As := [vi g, vi 6]) C hX (ok_X9_needs G g 6 w (by omega)) yf_X9_needs yv_X9_needs ml_X9_135 rfl rfl rfl kd_119 (by decide) (by decide) (Nat.le_of_ble_eq_true rfl) dX9_text_86 rfl (fun w86 hp86 => ?_)
            exact jn89 w86 (by first | (exfalso; omega) | exact ⟨hF, tx_bad hTI h24 hn0 (by omega)⟩ | exact ⟨hF.tr hp86.fm.toL, tx_fin hTI h24 h31 hn0 (by omega) hJ84 hp86⟩)
          refine E.aload_n C dX9_text_52 rfl rfl ?_
          refine N.getI C fa_X9_79 rfl dX9_text_53 kd_119 (x := w 119 6) rfl ?_
          refine E.aload_n C dX9_text_56 rfl rfl ?_
          refine N.getR C fa_X9_17 rfl dX9_text_57 kd_119 (x := 122) (by decide +kernel) (by decide) ?_
          refine E.iconst C dX9_text_60 (by decide) ?_
          refine N.iald C dX9_text_61 kd_122 ln_122 (by omega) (x := w 122 0) rfl ?_
          refine E.icmp_ge C dX9_text_62 (tgt := 83) (by decide) (fun h62 => ?_) (fun h62 => ?_)
          · skip
            refine E.iconst C dX9_text_83 (by decide) ?_
            exact jn84 0 (by omega)
          · skip
            refine E.aload_n C dX9_text_65 rfl rfl ?_
            refine N.getI C fa_X9_82 rfl dX9_text_66 kd_119 (x := w 119 7) rfl ?_
            refine E.aload_n C dX9_text_69 rfl rfl ?_
            refine N.getR C fa_X9_17 rfl dX9_text_70 kd_119 (x := 122) (by decide +kernel) (by decide) ?_
            refine E.bipush C dX9_text_73 (by decide) ?_
            refine N.iald C dX9_text_75 kd_122 ln_122 (by omega) (x := w 122 41) rfl ?_
            refine E.icmp_ge C dX9_text_76 (tgt := 83) (by decide) (fun h76 => ?_) (fun h76 => ?_)
            · skip
              refine E.iconst C dX9_text_83 (by decide) ?_
              exact jn84 0 (by omega)
            · skip
              refine E.iconst C dX9_text_79 (by decide) ?_
              refine E.goto C dX9_text_80 (tgt := 84) (by decide) ?_
              exact jn84 1 (by omega)
      · skip
        refine E.aload_n C dX9_text_27 rfl rfl ?_
        refine N.getI C fa_X9_121 rfl dX9_text_28 kd_119 (x := w 119 12) rfl ?_
        refine E.if_eq C dX9_text_31 (tgt := 44) (by decide) (fun h31 => ?_) (fun h31 => ?_)
        · skip
          refine E.aload_n C dX9_text_44 rfl rfl ?_
          refine N.getI C fa_X9_97 rfl dX9_text_45 kd_119 (x := w 119 14) rfl ?_
          refine E.if_ne C dX9_text_48 (tgt := 89) (by decide) (fun h48 => ?_) (fun h48 => ?_)
          · skip
            exact jn89 w (by first | (exfalso; omega) | exact ⟨hF, tx_bad hTI h24 hn0 (by omega)⟩ | exact ⟨hF.tr hp86.fm.toL, tx_fin hTI h24 h31 hn0 (by omega) hJ84 hp86⟩)
          · skip
            refine E.aload_n C dX9_text_51 rfl rfl ?_
            have jn84 : ∀ (g : Int), ((g = 1 ∧ w 119 6 < w 122 0 ∧ w 119 7 < w 122 41) ∨ (g = 0 ∧ ¬ (w 119 6 < w 122 0 ∧ w 119 7 < w 122 41))) → E X G 0 0 1000 w 84 [some (vr 119), some (vi n)] [vi g, vr 119] := by
              intro g hJ84
              refine E.bipush C dX9_text_84 (by decide) ?_
              refine N.callVv (S := []) (As := [vi g, vi 6]) C hX (ok_X9_needs G g 6 w (by omega)) yf_X9_needs yv_X9_needs ml_X9_135 rfl rfl rfl kd_119 (by decide) (by decide) (Nat.le_of_ble_eq_true rfl) dX9_text_86 rfl (fun w86 hp86 => ?_)
              exact jn89 w86 (by first | (exfalso; omega) | exact ⟨hF, tx_bad hTI h24 hn0 (by omega)⟩ | exact ⟨hF.tr hp86.fm.toL, tx_fin hTI h24 h31 hn0 (by omega) hJ84 hp86⟩)
            refine E.aload_n C dX9_text_52 rfl rfl ?_
            refine N.getI C fa_X9_79 rfl dX9_text_53 kd_119 (x := w 119 6) rfl ?_
            refine E.aload_n C dX9_text_56 rfl rfl ?_
            refine N.getR C fa_X9_17 rfl dX9_text_57 kd_119 (x := 122) (by decide +kernel) (by decide) ?_
            refine E.iconst C dX9_text_60 (by decide) ?_
            refine N.iald C dX9_text_61 kd_122 ln_122 (by omega) (x := w 122 0) rfl ?_
            refine E.icmp_ge C dX9_text_62 (tgt := 83) (by decide) (fun h62 => ?_) (fun h62 => ?_)
            · skip
              refine E.iconst C dX9_text_83 (by decide) ?_
              exact jn84 0 (by omega)
            · skip
              refine E.aload_n C dX9_text_65 rfl rfl ?_
              refine N.getI C fa_X9_82 rfl dX9_text_66 kd_119 (x := w 119 7) rfl ?_
              refine E.aload_n C dX9_text_69 rfl rfl ?_
              refine N.getR C fa_X9_17 rfl dX9_text_70 kd_119 (x := 122) (by decide +kernel) (by decide) ?_
              refine E.bipush C dX9_text_73 (by decide) ?_
              refine N.iald C dX9_text_75 kd_122 ln_122 (by omega) (x := w 122 41) rfl ?_
              refine E.icmp_ge C dX9_text_76 (tgt := 83) (by decide) (fun h76 => ?_) (fun h76 => ?_)
              · skip
                refine E.iconst C dX9_text_83 (by decide) ?_
                exact jn84 0 (by omega)
              · skip
                refine E.iconst C dX9_text_79 (by decide) ?_
                refine E.goto C dX9_text_80 (tgt := 84) (by decide) ?_
                exact jn84 1 (by omega)
        · skip
          obtain ⟨hM24, hD24, hB24, hnq24, -⟩ := tx_ok hTI h24
          have hq24 := hM24.1
          refine E.aload_n C dX9_text_34 rfl rfl ?_
          refine N.callVv (S := []) (As := []) C hX (ok_X9_readLine G f L qq w B (hT.fl hF) hM24 h24 hD24 hB24) yf_X9_readLine yv_X9_readLine ml_X9_169 rfl rfl rfl kd_119 (by decide) (by decide) (Nat.le_of_ble_eq_true rfl) dX9_text_35 rfl (fun w35 hp35 => ?_)
          have hadv : w35 119 14 = 0 → qq + 1 ≤ linE f L qq ∧ linE f L qq ≤ L := fun z => by
            rcases (hp35).2 with g | g
            · omega
            · exact lin_adv hM24.1 g.1
          refine N.iinc_1 C dX9_text_38 (hN 1 (by decide)) rfl (by omega) ?_
          refine E.goto C dX9_text_41 (tgt := 20) (by decide) ?_
          exact ih20 _ (by rw [if_pos h24] at hk20; split <;> omega) (n + 1) w35 (linE f L qq) (linB f L B qq) rfl (by exact ⟨hF.tr hp35.1, by omega, by omega, tx_step hTI h24 h31 hn0 (by omega) hp35.2⟩)
  exact lp20 _ 0 w17 0 (strtB D) rfl (by exact ⟨hLy.tr hp17.1.toL, by omega, by omega, tx_init hM17 (hDy.fm hp17.1)⟩)
