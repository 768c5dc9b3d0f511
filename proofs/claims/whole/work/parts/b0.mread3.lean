set_option maxHeartbeats 4000000 in
set_option maxRecDepth 20000 in
theorem ok_X9_readLineOf (G : GT) (f : Int → Int) (L : Int) (k q : Int) (v : VT) (hT : TapM f L v) (hM : MSt f L v (0, 0) q) (h14 : v 119 14 = 0) (hk : 0 ≤ k ∧ k ≤ 5) (hb3 : k = 3 → 0 ≤ v 122 0 ∧ v 122 0 < 8) (hb0 : k = 0 ∨ k = 1 → 0 ≤ v 122 41 ∧ v 122 41 < 10) (hb5 : k = 5 → 0 ≤ v 122 112 ∧ v 122 112 < 6) : MNv G yX9_readLineOf cX9_readLineOf 2 none 5 113 [vr 119, vi k] v (fun w => FrL v w ∧ MSt f L w (lnG f L k q) (lnP f L k q) ∧ ((lnG f L k q).1 = 0 → FrM (lnD f L k v q) w)) := by
  refine MN.of pn_X9_readLineOf [some (vr 119), some (vi k)] 0 rfl rfl (fun X C hX hn hR => ?_)
  have hN : ∀ i : Nat, i < 2 → i < xn X := fun i h => by rw [hn]; exact h
  refine E.rngk (fun hinv => ?_)
  refine E.loc (fun hloc => ?_)
  have hin_1 : in32 k := hloc _ (List.mem_of_getElem? (i := 1) rfl)
  have hTL := hT.2.1
  refine E.iload_n C dX9_readLineOf_0 rfl rfl ?_
  refine E.table C dX9_readLineOf_1 (tg := fun j => if j = 2 then 32 else if j = 3 then 45 else if j = 4 then 52 else if j = 5 then 59 else 0) (tgt := 95) (fun j h0 h1 => ?_) (by decide) (fun h0 h1 => ?_) (fun h1 => ?_)
  · rcases (show j = 2 ∨ j = 3 ∨ j = 4 ∨ j = 5 by omega) with rfl | rfl | rfl | rfl <;> exact ⟨_, rfl, by decide⟩
  · rcases (show k = 2 ∨ k = 3 ∨ k = 4 ∨ k = 5 by omega) with h1 | h1 | h1 | h1
    · refine E.pceq (pc' := 32) (by rw [h1]; decide) ?_
      refine E.aload_n C dX9_readLineOf_32 rfl rfl ?_
      refine E.aload_n C dX9_readLineOf_33 rfl rfl ?_
      refine E.iconst C dX9_readLineOf_34 (by decide) ?_
      refine E.iconst C dX9_readLineOf_35 (by decide) ?_
      refine N.callVi (S := [vr 119]) (As := [vi 0, vi 4]) C hX (ok_X9_readNumber G f L (0, 0) q 0 4 v hT hM) yf_X9_readNumber yv_X9_readNumber ml_X9_142 rfl rfl rfl kd_119 (by decide) (by decide) (Nat.le_of_ble_eq_true rfl) dX9_readLineOf_36 rfl (fun t36 w36 hb36 hp36 => ?_)
      obtain ⟨hR36, hM36, hx36⟩ := hp36
      have hT36 := TapM.fm hT hR36
      refine N.putI C fp_X9_71 rfl dX9_readLineOf_39 kd_119 ?_
      refine E.goto C dX9_readLineOf_42 (tgt := 100) (by decide) ?_
      exact N.vret C hR dX9_readLineOf_100 (fun hi => by first | (subst h1; rw [lnG_2, lnP_2, lnD_2]; exact ⟨FrL.up hR36.toL (Or.inr (by decide)), hM36.up (by omega), fun zz => FrM.put hR36 (by omega)⟩) | (subst h1; rw [lnG_3, lnP_3, lnD_3]; exact hp46) | (subst h1; rw [lnG_l, lnP_l, lnD_l]; exact hp53) | (subst h1; rw [lnG_5, lnP_5, lnD_5]; exact ⟨FrL.up (FrL.up hR77.toL (Or.inl rfl)) (Or.inl rfl), (hM77.up (by omega)).up (by omega), fun zz => FrM.put (FrM.put hR77 (by omega)) rfl⟩) | (have h01 : k = 0 ∨ k = 1 := (by omega); rw [lnG_t h01, lnP_t h01, lnD_t h01]; exact hp97))
    · refine E.pceq (pc' := 45) (by rw [h1]; decide) ?_
      refine E.aload_n C dX9_readLineOf_45 rfl rfl ?_
      refine N.callVv (S := []) (As := []) C hX (ok_X9_readChild G f L (0, 0) q v hT hM (hb3 h1)) yf_X9_readChild yv_X9_readChild ml_X9_153 rfl rfl rfl kd_119 (by decide) (by decide) (Nat.le_of_ble_eq_true rfl) dX9_readLineOf_46 rfl (fun w46 hp46 => ?_)
      refine E.goto C dX9_readLineOf_49 (tgt := 100) (by decide) ?_
      exact N.vret C hR dX9_readLineOf_100 (fun hi => by first | (subst h1; rw [lnG_2, lnP_2, lnD_2]; exact ⟨FrL.up hR36.toL (Or.inr (by decide)), hM36.up (by omega), fun zz => FrM.put hR36 (by omega)⟩) | (subst h1; rw [lnG_3, lnP_3, lnD_3]; exact hp46) | (subst h1; rw [lnG_l, lnP_l, lnD_l]; exact hp53) | (subst h1; rw [lnG_5, lnP_5, lnD_5]; exact ⟨FrL.up (FrL.up hR77.toL (Or.inl rfl)) (Or.inl rfl), (hM77.up (by omega)).up (by omega), fun zz => FrM.put (FrM.put hR77 (by omega)) rfl⟩) | (have h01 : k = 0 ∨ k = 1 := (by omega); rw [lnG_t h01, lnP_t h01, lnD_t h01]; exact hp97))
    · refine E.pceq (pc' := 52) (by rw [h1]; decide) ?_
      refine E.aload_n C dX9_readLineOf_52 rfl rfl ?_
      refine N.callVv (S := []) (As := []) C hX (ok_X9_readLike G f L (0, 0) q v hT hM) yf_X9_readLike yv_X9_readLike ml_X9_156 rfl rfl rfl kd_119 (by decide) (by decide) (Nat.le_of_ble_eq_true rfl) dX9_readLineOf_53 rfl (fun w53 hp53 => ?_)
      refine E.goto C dX9_readLineOf_56 (tgt := 100) (by decide) ?_
      exact N.vret C hR dX9_readLineOf_100 (fun hi => by first | (subst h1; rw [lnG_2, lnP_2, lnD_2]; exact ⟨FrL.up hR36.toL (Or.inr (by decide)), hM36.up (by omega), fun zz => FrM.put hR36 (by omega)⟩) | (subst h1; rw [lnG_3, lnP_3, lnD_3]; exact hp46) | (subst h1; rw [lnG_l, lnP_l, lnD_l]; exact hp53) | (subst h1; rw [lnG_5, lnP_5, lnD_5]; exact ⟨FrL.up (FrL.up hR77.toL (Or.inl rfl)) (Or.inl rfl), (hM77.up (by omega)).up (by omega), fun zz => FrM.put (FrM.put hR77 (by omega)) rfl⟩) | (have h01 : k = 0 ∨ k = 1 := (by omega); rw [lnG_t h01, lnP_t h01, lnD_t h01]; exact hp97))
    · refine E.pceq (pc' := 59) (by rw [h1]; decide) ?_
      have hb5x := hb5 h1
      refine E.aload_n C dX9_readLineOf_59 rfl rfl ?_
      refine N.getR C fa_X9_17 rfl dX9_readLineOf_60 kd_119 (x := 122) (by decide +kernel) (by decide) ?_
      refine E.bipush C dX9_readLineOf_63 (by decide) ?_
      refine E.aload_n C dX9_readLineOf_65 rfl rfl ?_
      refine N.getR C fa_X9_17 rfl dX9_readLineOf_66 kd_119 (x := 122) (by decide +kernel) (by decide) ?_
      refine E.bipush C dX9_readLineOf_69 (by decide) ?_
      refine N.iald C dX9_readLineOf_71 kd_122 ln_122 (by omega) (x := v 122 112) rfl ?_
      refine E.iadd C dX9_readLineOf_72 (by omega) ?_
      refine E.aload_n C dX9_readLineOf_73 rfl rfl ?_
      refine E.iconst C dX9_readLineOf_74 (by decide) ?_
      refine E.bipush C dX9_readLineOf_75 (by decide) ?_
      refine N.callVi (S := [vi (113 + (v 122 112)), vr 122]) (As := [vi 1, vi 40]) C hX (ok_X9_readNumber G f L (0, 0) q 1 40 v hT hM) yf_X9_readNumber yv_X9_readNumber ml_X9_142 rfl rfl rfl kd_119 (by decide) (by decide) (Nat.le_of_ble_eq_true rfl) dX9_readLineOf_77 rfl (fun t77 w77 hb77 hp77 => ?_)
      obtain ⟨hR77, hM77, hx77⟩ := hp77
      have hT77 := TapM.fm hT hR77
      refine N.iast C dX9_readLineOf_80 kd_122 ln_122 (by omega) ?_
      refine E.aload_n C dX9_readLineOf_81 rfl rfl ?_
      refine N.getR C fa_X9_17 rfl dX9_readLineOf_82 kd_119 (x := 122) (by decide +kernel) (by decide) ?_
      refine E.bipush C dX9_readLineOf_85 (by decide) ?_
      refine E.dup2 C dX9_readLineOf_87 ?_
      refine N.iald C dX9_readLineOf_88 kd_122 ln_122 (by omega) (x := (upd2 w77 122 (113 + (v 122 112)) t77) 122 112) rfl ?_
      refine E.veq (x' := v 122 112) (by rw [ux_ne (by omega), hR77 122 112 (Or.inl (by decide))]) ?_
      refine E.iconst C dX9_readLineOf_89 (by decide) ?_
      refine E.iadd C dX9_readLineOf_90 (by omega) ?_
      refine N.iast C dX9_readLineOf_91 kd_122 ln_122 (by omega) ?_
      refine E.goto C dX9_readLineOf_92 (tgt := 100) (by decide) ?_
      exact N.vret C hR dX9_readLineOf_100 (fun hi => by first | (subst h1; rw [lnG_2, lnP_2, lnD_2]; exact ⟨FrL.up hR36.toL (Or.inr (by decide)), hM36.up (by omega), fun zz => FrM.put hR36 (by omega)⟩) | (subst h1; rw [lnG_3, lnP_3, lnD_3]; exact hp46) | (subst h1; rw [lnG_l, lnP_l, lnD_l]; exact hp53) | (subst h1; rw [lnG_5, lnP_5, lnD_5]; exact ⟨FrL.up (FrL.up hR77.toL (Or.inl rfl)) (Or.inl rfl), (hM77.up (by omega)).up (by omega), fun zz => FrM.put (FrM.put hR77 (by omega)) rfl⟩) | (have h01 : k = 0 ∨ k = 1 := (by omega); rw [lnG_t h01, lnP_t h01, lnD_t h01]; exact hp97))
  · skip
    refine E.aload_n C dX9_readLineOf_95 rfl rfl ?_
    refine E.iload_n C dX9_readLineOf_96 rfl rfl ?_
    refine N.callVv (S := []) (As := [vi k]) C hX (ok_X9_readThing G f L k q v hT hM h14 (hb0 (by omega))) yf_X9_readThing yv_X9_readThing ml_X9_159 rfl rfl rfl kd_119 (by decide) (by decide) (Nat.le_of_ble_eq_true rfl) dX9_readLineOf_97 rfl (fun w97 hp97 => ?_)
    exact N.vret C hR dX9_readLineOf_100 (fun hi => by first | (subst h1; rw [lnG_2, lnP_2, lnD_2]; exact ⟨FrL.up hR36.toL (Or.inr (by decide)), hM36.up (by omega), fun zz => FrM.put hR36 (by omega)⟩) | (subst h1; rw [lnG_3, lnP_3, lnD_3]; exact hp46) | (subst h1; rw [lnG_l, lnP_l, lnD_l]; exact hp53) | (subst h1; rw [lnG_5, lnP_5, lnD_5]; exact ⟨FrL.up (FrL.up hR77.toL (Or.inl rfl)) (Or.inl rfl), (hM77.up (by omega)).up (by omega), fun zz => FrM.put (FrM.put hR77 (by omega)) rfl⟩) | (have h01 : k = 0 ∨ k = 1 := (by omega); rw [lnG_t h01, lnP_t h01, lnD_t h01]; exact hp97))

set_option maxHeartbeats 4000000 in
set_option maxRecDepth 20000 in
theorem ok_X9_readLine (G : GT) (f : Int → Int) (L : Int) (q : Int) (v B : VT) (hT : TapM f L v) (hM : MSt f L v (0, 0) q) (h14 : v 119 14 = 0) (hD : MDr v B) (hB : BdB B) : MNv G yX9_readLine cX9_readLine 2 none 6 134 [vr 119] v (fun w => FrL v w ∧ ((0 < (linF f L B q).1 ∧ w 119 14 = (linF f L B q).1 ∧ w 119 15 = (linF f L B q).2) ∨ ((linF f L B q).1 = 0 ∧ MSt f L w (0, 0) (linE f L q) ∧ MDr w (linB f L B q)))) := by
  refine MN.of pn_X9_readLine [some (vr 119), none] 1 rfl rfl (fun X C hX hn hR => ?_)
  have hN : ∀ i : Nat, i < 2 → i < xn X := fun i h => by rw [hn]; exact h
  refine E.rngk (fun hinv => ?_)
  refine E.loc (fun hloc => ?_)
  have hTL := hT.2.1
  obtain ⟨-, k4, k12, k11, k10⟩ := hM.w14 h14
  have hg1 : q ≤ tS f L q := tS_ge
  have hg2 : tS f L q ≤ tE f L q := tE_gS
  have hg3 : tE f L q ≤ L := tE_le hM.1.2
  have hg0 := hM.1
  obtain ⟨⟨d1, d2, d3, -⟩, -, d5, -, -, -⟩ := id hD
  obtain ⟨b4, b5, b6, -⟩ := id hB
  have jn17 : ∀ (k : Int), k = wdT f L q → E X G 0 0 1000 v 17 [some (vr 119), none] [vi k] := by
    intro k hJ17
    have hkr : Hid (k = -4 ∨ (0 ≤ k ∧ k ≤ 5)) := by rw [hJ17]; exact wdT_rng
    have hc := hdP_c (k := k) (B := B) k4
    have hch : Hid _ := hc
    clear hc
    refine N.ist_1 C dX9_readLine_17 (hN 1 (by decide)) rfl ?_
    refine E.aload_n C dX9_readLine_18 rfl rfl ?_
    have jn30 : ∀ (g : Int), Hid ((g = 1 ∧ ¬ k = -4) ∨ (g = 0 ∧ k = -4)) → E X G 0 0 1000 v 30 [some (vr 119), some (vi k)] [vi g, vr 119] := by
      intro g hJ30
      refine E.iconst C dX9_readLine_30 (by decide) ?_
      refine N.callVv (S := []) (As := [vi g, vi 2]) C hX (ok_X9_needs G g 2 v (by unfold Hid at hJ30; omega)) yf_X9_needs yv_X9_needs ml_X9_135 rfl rfl rfl kd_119 (by decide) (by decide) (Nat.le_of_ble_eq_true rfl) dX9_readLine_31 rfl (fun w31 hp31 => ?_)
      have hF31 := (hp31).fm
      have hT31 := TapM.fm hT hF31
      have e0_31 := (hp31).1 122 0 (Or.inl (by decide))
      have e41_31 := (hp31).1 122 41 (Or.inl (by decide))
      have e112_31 := (hp31).1 122 112 (Or.inl (by decide))
      have e5_31 := (hp31).1 119 5 (by decide)
      have e10_31 := (hp31).1 119 10 (by decide)
      refine E.aload_n C dX9_readLine_34 rfl rfl ?_
      have jn94 : ∀ (g2 : Int), Hid ((g2 = 1 ∧ ¬ ((k = 3 ∧ 8 ≤ B 0 4) ∨ ((k = 0 ∨ k = 1) ∧ 10 ≤ B 0 5) ∨ (k = 5 ∧ 6 ≤ B 0 6))) ∨ (g2 = 0 ∧ ((k = 3 ∧ 8 ≤ B 0 4) ∨ ((k = 0 ∨ k = 1) ∧ 10 ≤ B 0 5) ∨ (k = 5 ∧ 6 ≤ B 0 6)))) → E X G 0 0 1000 w31 94 [some (vr 119), some (vi k)] [vi g2, vr 119] := by
        intro g2 hJ94
        refine E.iconst C dX9_readLine_94 (by decide) ?_
        refine N.callVv (S := []) (As := [vi g2, vi 5]) C hX (ok_X9_needs G g2 5 w31 (by unfold Hid at hJ94; omega)) yf_X9_needs yv_X9_needs ml_X9_135 rfl rfl rfl kd_119 (by decide) (by decide) (Nat.le_of_ble_eq_true rfl) dX9_readLine_95 rfl (fun w95 hp95 => ?_)
        have hF95 := (hp95).fm
        have hT95 := TapM.fm hT31 hF95
        have e0_95 := (hp95).1 122 0 (Or.inl (by decide))
        have e41_95 := (hp95).1 122 41 (Or.inl (by decide))
        have e112_95 := (hp95).1 122 112 (Or.inl (by decide))
        have e5_95 := (hp95).1 119 5 (by decide)
        have e10_95 := (hp95).1 119 10 (by decide)
        refine E.aload_n C dX9_readLine_98 rfl rfl ?_
        have jn116 : ∀ (g3 : Int), Hid ((g3 = 1 ∧ ¬ (k = 2 ∧ ¬ B 23 7 = 0)) ∨ (g3 = 0 ∧ (k = 2 ∧ ¬ B 23 7 = 0))) → E X G 0 0 1000 w95 116 [some (vr 119), some (vi k)] [vi g3, vr 119] := by
          intro g3 hJ116
          refine E.iconst C dX9_readLine_116 (by decide) ?_
          refine N.callVv (S := []) (As := [vi g3, vi 4]) C hX (ok_X9_needs G g3 4 w95 (by unfold Hid at hJ116; omega)) yf_X9_needs yv_X9_needs ml_X9_135 rfl rfl rfl kd_119 (by decide) (by decide) (Nat.le_of_ble_eq_true rfl) dX9_readLine_117 rfl (fun w117 hp117 => ?_)
          have hF117 := (hp117).fm
          have hT117 := TapM.fm hT95 hF117
          have e0_117 := (hp117).1 122 0 (Or.inl (by decide))
          have e41_117 := (hp117).1 122 41 (Or.inl (by decide))
          have e112_117 := (hp117).1 122 112 (Or.inl (by decide))
          have e5_117 := (hp117).1 119 5 (by decide)
          have e10_117 := (hp117).1 119 10 (by decide)
          refine E.aload_n C dX9_readLine_120 rfl rfl ?_
          have jn138 : ∀ (z : Int), Hid ((z = 1 ∧ (¬ B 23 7 = 0 ∨ k = 2)) ∨ (z = 0 ∧ B 23 7 = 0 ∧ ¬ k = 2)) → E X G 0 0 1000 w117 138 [some (vr 119), some (vi k)] [vi z, vr 119] := by
            intro z hJ138
            refine N.putZ C fp_X9_75 rfl dX9_readLine_138 kd_119 (by unfold Hid at hJ138; omega) ?_
            have hFy : FrM v w117 := (hF31.tr hF95).tr hF117
            have hTy : TapM f L (upd2 w117 119 5 z) := TapM.up (by omega) (hT.fm hFy)
            have hyy : Hid ((¬ (hdP f L B q k).1 = 0 ∧ upd2 w117 119 5 z 119 14 = (hdP f L B q k).1 ∧ upd2 w117 119 5 z 119 15 = tS f L q) ∨ ((hdP f L B q k).1 = 0 ∧ upd2 w117 119 5 z 119 14 = 0)) := by unfold Hid; rw [ux_ne (by decide), ux_ne (by decide)]; exact need3 hp31 hp95 hp117 h14 k11 hJ30 hJ94 hJ116 hch
            have ey10 : upd2 w117 119 5 z 119 10 = v 119 10 := (ux_ne (by decide)).trans (by omega)
            have ey14 : 0 ≤ upd2 w117 119 5 z 119 14 := by
              rcases hyy with ⟨-, gg, -⟩ | ⟨-, gg⟩
              · rw [gg]; exact hdP_nn k4
              · rw [gg]; exact Int.le_refl 0
            refine E.aload_n C dX9_readLine_141 rfl rfl ?_
            refine N.callVv (S := []) (As := []) C hX (ok_X9_next G f L (upd2 w117 119 5 z) hTy ey14 (fun _ => by omega)) yf_X9_next yv_X9_next ml_X9_139 rfl rfl rfl kd_119 (by decide) (by decide) (Nat.le_of_ble_eq_true rfl) dX9_readLine_142 rfl (fun w142 hp142 => ?_)
            have hF142 := (hp142).1
            have hM142 := hd_step hM h14 ey10 hyy hp142
            have hT142 := hTy.fm hF142
            have hL142 : FrL v w142 := (FrL.up hFy.toL (Or.inr (by decide))).tr hF142.toL
            have hD142 := (hD.sl hFy hJ138).fm hF142
            refine E.aload_n C dX9_readLine_145 rfl rfl ?_
            refine N.getI C fa_X9_97 rfl dX9_readLine_146 kd_119 (x := w142 119 14) rfl ?_
            refine E.if_le C dX9_readLine_149 (tgt := 153) (by decide) (fun h149 => ?_) (fun h149 => ?_)
            · skip
              have h14b : w142 119 14 = 0 := by have := hM142.nn.1; omega
              have hz0 := (hM142.w14 h14b).1
              have hM142z := hM142.z (H := (0, 0)) hz0 rfl
              have hc0 := hdP_0 k4 hz0
              have hc1 := hc0.1
              have hc2 : Hid _ := hc0.2
              clear hc0
              have hk05 : 0 ≤ k ∧ k ≤ 5 := by unfold Hid at hkr; omega
              have e0y : w142 122 0 = B 0 4 := (hF142 122 0 (Or.inl (by decide))).trans ((ux_ne (by decide)).trans (by omega))
              have e41y : w142 122 41 = B 0 5 := (hF142 122 41 (Or.inl (by decide))).trans ((ux_ne (by decide)).trans (by omega))
              have e112y : w142 122 112 = B 0 6 := (hF142 122 112 (Or.inl (by decide))).trans ((ux_ne (by decide)).trans (by omega))
              refine E.aload_n C dX9_readLine_153 rfl rfl ?_
              refine E.iload_n C dX9_readLine_154 rfl rfl ?_
              refine N.callVv (S := []) (As := [vi k]) C hX (ok_X9_readLineOf G f L k (tE f L q) w142 hT142 hM142z h14b hk05 (fun e => by have hu := (cnd_3 hc2).1 e; omega) (fun e => by have hu := (cnd_3 hc2).2.1 e; omega) (fun e => by have hu := (cnd_3 hc2).2.2 e; omega)) yf_X9_readLineOf yv_X9_readLineOf ml_X9_166 rfl rfl rfl kd_119 (by decide) (by decide) (Nat.le_of_ble_eq_true rfl) dX9_readLine_155 rfl (fun w155 hp155 => ?_)
              obtain ⟨hL155, hM155, hD155⟩ := hp155
              have hT155 := hT142.fl hL155
              have hnn := hM155.nn
              have jn183 : ∀ (y : VT), (FrM w155 y ∧ y 119 10 = w155 119 10 ∧ Hid ((¬ w155 119 14 = 0 ∧ y 119 14 = w155 119 14 ∧ y 119 15 = w155 119 15) ∨ (w155 119 14 = 0 ∧ w155 119 12 = 3 ∧ y 119 14 = 0) ∨ (w155 119 14 = 0 ∧ ¬ w155 119 12 = 3 ∧ y 119 14 = 2 ∧ y 119 15 = w155 119 11))) → E X G 0 0 1000 y 183 [some (vr 119), some (vi k)] [] := by
                intro y hJ183
                obtain ⟨hFz, e10z, hyz⟩ := hJ183
                refine E.aload_n C dX9_readLine_183 rfl rfl ?_
                refine N.callVv (S := []) (As := []) C hX (ok_X9_next G f L y (hT155.fm hFz) (by unfold Hid at hyz; omega) (fun z => by unfold Hid at hyz; omega)) yf_X9_next yv_X9_next ml_X9_139 rfl rfl rfl kd_119 (by decide) (by decide) (Nat.le_of_ble_eq_true rfl) dX9_readLine_184 rfl (fun w184 hp184 => ?_)
                have hM184 := sp_step hM155 e10z hyz hp184
                exact N.vret C hR dX9_readLine_187 (fun hi => by exact ⟨(hL142.tr hL155).tr (hFz.tr hp184.1).toL, ln_end hM184 hJ17 hz0 (fun zz => (dr_ln hD142 hB hJ17 hk05 hc2 zz).fm ((hD155 zz).tr (hFz.tr hp184.1)))⟩)
              refine E.aload_n C dX9_readLine_158 rfl rfl ?_
              refine N.getI C fa_X9_97 rfl dX9_readLine_159 kd_119 (x := w155 119 14) rfl ?_
              refine E.if_ne C dX9_readLine_162 (tgt := 183) (by decide) (fun h162 => ?_) (fun h162 => ?_)
              · skip
                exact jn183 w155 (by first | exact ⟨FrM.rf, rfl, Or.inl ⟨h162, rfl, rfl⟩⟩ | exact ⟨hp180.fm, hp180.1 119 10 (by decide), by have := hp180.2; unfold Hid at hJ179 ⊢; omega⟩)
              · skip
                refine E.aload_n C dX9_readLine_165 rfl rfl ?_
                have jn179 : ∀ (g4 : Int), Hid ((g4 = 1 ∧ w155 119 12 = 3) ∨ (g4 = 0 ∧ ¬ w155 119 12 = 3)) → E X G 0 0 1000 w155 179 [some (vr 119), some (vi k)] [vi g4, vr 119] := by
                  intro g4 hJ179
                  refine E.iconst C dX9_readLine_179 (by decide) ?_
                  refine N.callVv (S := []) (As := [vi g4, vi 2]) C hX (ok_X9_needs G g4 2 w155 (by unfold Hid at hJ179; omega)) yf_X9_needs yv_X9_needs ml_X9_135 rfl rfl rfl kd_119 (by decide) (by decide) (Nat.le_of_ble_eq_true rfl) dX9_readLine_180 rfl (fun w180 hp180 => ?_)
                  exact jn183 w180 (by first | exact ⟨FrM.rf, rfl, Or.inl ⟨h162, rfl, rfl⟩⟩ | exact ⟨hp180.fm, hp180.1 119 10 (by decide), by have := hp180.2; unfold Hid at hJ179 ⊢; omega⟩)
                refine E.aload_n C dX9_readLine_166 rfl rfl ?_
                refine N.getI C fa_X9_121 rfl dX9_readLine_167 kd_119 (x := w155 119 12) rfl ?_
                refine E.iconst C dX9_readLine_170 (by decide) ?_
                refine E.icmp_ne C dX9_readLine_171 (tgt := 178) (by decide) (fun h171 => ?_) (fun h171 => ?_)
                · skip
                  refine E.iconst C dX9_readLine_178 (by decide) ?_
                  exact jn179 0 (by unfold Hid; omega)
                · skip
                  refine E.iconst C dX9_readLine_174 (by decide) ?_
                  refine E.goto C dX9_readLine_175 (tgt := 179) (by decide) ?_
                  exact jn179 1 (by unfold Hid; omega)
            · skip
              exact N.vret C hR dX9_readLine_152 (fun hi => by exact ⟨hL142, Or.inl (ln_early hM142 hJ17 (by omega))⟩)
          refine E.aload_n C dX9_readLine_121 rfl rfl ?_
          refine N.getI C fa_X9_75 rfl dX9_readLine_122 kd_119 (x := w117 119 5) rfl ?_
          refine E.if_ne C dX9_readLine_125 (tgt := 133) (by decide) (fun h125 => ?_) (fun h125 => ?_)
          · skip
            refine E.iconst C dX9_readLine_133 (by decide) ?_
            refine E.goto C dX9_readLine_134 (tgt := 138) (by decide) ?_
            exact jn138 1 (by unfold Hid; omega)
          · skip
            refine E.iload_n C dX9_readLine_128 rfl rfl ?_
            refine E.iconst C dX9_readLine_129 (by decide) ?_
            refine E.icmp_ne C dX9_readLine_130 (tgt := 137) (by decide) (fun h130 => ?_) (fun h130 => ?_)
            · skip
              refine E.iconst C dX9_readLine_137 (by decide) ?_
              exact jn138 0 (by unfold Hid; omega)
            · skip
              refine E.iconst C dX9_readLine_133 (by decide) ?_
              refine E.goto C dX9_readLine_134 (tgt := 138) (by decide) ?_
              exact jn138 1 (by unfold Hid; omega)
        refine E.iload_n C dX9_readLine_99 rfl rfl ?_
        refine E.iconst C dX9_readLine_100 (by decide) ?_
        refine E.icmp_ne C dX9_readLine_101 (tgt := 111) (by decide) (fun h101 => ?_) (fun h101 => ?_)
        · skip
          refine E.iconst C dX9_readLine_111 (by decide) ?_
          refine E.goto C dX9_readLine_112 (tgt := 116) (by decide) ?_
          exact jn116 1 (by unfold Hid; omega)
        · skip
          refine E.aload_n C dX9_readLine_104 rfl rfl ?_
          refine N.getI C fa_X9_75 rfl dX9_readLine_105 kd_119 (x := w95 119 5) rfl ?_
          refine E.if_ne C dX9_readLine_108 (tgt := 115) (by decide) (fun h108 => ?_) (fun h108 => ?_)
          · skip
            refine E.iconst C dX9_readLine_115 (by decide) ?_
            exact jn116 0 (by unfold Hid; omega)
          · skip
            refine E.iconst C dX9_readLine_111 (by decide) ?_
            refine E.goto C dX9_readLine_112 (tgt := 116) (by decide) ?_
            exact jn116 1 (by unfold Hid; omega)
      refine E.iload_n C dX9_readLine_35 rfl rfl ?_
      refine E.iconst C dX9_readLine_36 (by decide) ?_
      refine E.icmp_ne C dX9_readLine_37 (tgt := 51) (by decide) (fun h37 => ?_) (fun h37 => ?_)
      · skip
        refine E.iload_n C dX9_readLine_51 rfl rfl ?_
        refine E.if_eq C dX9_readLine_52 (tgt := 60) (by decide) (fun h52 => ?_) (fun h52 => ?_)
        · skip
          refine E.aload_n C dX9_readLine_60 rfl rfl ?_
          refine N.getR C fa_X9_17 rfl dX9_readLine_61 kd_119 (x := 122) (by decide +kernel) (by decide) ?_
          refine E.bipush C dX9_readLine_64 (by decide) ?_
          refine N.iald C dX9_readLine_66 kd_122 ln_122 (by omega) (x := w31 122 41) rfl ?_
          refine E.bipush C dX9_readLine_67 (by decide) ?_
          refine E.icmp_ge C dX9_readLine_69 (tgt := 93) (by decide) (fun h69 => ?_) (fun h69 => ?_)
          · skip
            refine E.iconst C dX9_readLine_93 (by decide) ?_
            exact jn94 0 (by unfold Hid; omega)
          · skip
            refine E.iload_n C dX9_readLine_72 rfl rfl ?_
            refine E.iconst C dX9_readLine_73 (by decide) ?_
            refine E.icmp_ne C dX9_readLine_74 (tgt := 89) (by decide) (fun h74 => ?_) (fun h74 => ?_)
            · skip
              refine E.iconst C dX9_readLine_89 (by decide) ?_
              refine E.goto C dX9_readLine_90 (tgt := 94) (by decide) ?_
              exact jn94 1 (by unfold Hid; omega)
            · skip
              refine E.aload_n C dX9_readLine_77 rfl rfl ?_
              refine N.getR C fa_X9_17 rfl dX9_readLine_78 kd_119 (x := 122) (by decide +kernel) (by decide) ?_
              refine E.bipush C dX9_readLine_81 (by decide) ?_
              refine N.iald C dX9_readLine_83 kd_122 ln_122 (by omega) (x := w31 122 112) rfl ?_
              refine E.bipush C dX9_readLine_84 (by decide) ?_
              refine E.icmp_ge C dX9_readLine_86 (tgt := 93) (by decide) (fun h86 => ?_) (fun h86 => ?_)
              · skip
                refine E.iconst C dX9_readLine_93 (by decide) ?_
                exact jn94 0 (by unfold Hid; omega)
              · skip
                refine E.iconst C dX9_readLine_89 (by decide) ?_
                refine E.goto C dX9_readLine_90 (tgt := 94) (by decide) ?_
                exact jn94 1 (by unfold Hid; omega)
        · skip
          refine E.iload_n C dX9_readLine_55 rfl rfl ?_
          refine E.iconst C dX9_readLine_56 (by decide) ?_
          refine E.icmp_ne C dX9_readLine_57 (tgt := 72) (by decide) (fun h57 => ?_) (fun h57 => ?_)
          · skip
            refine E.iload_n C dX9_readLine_72 rfl rfl ?_
            refine E.iconst C dX9_readLine_73 (by decide) ?_
            refine E.icmp_ne C dX9_readLine_74 (tgt := 89) (by decide) (fun h74 => ?_) (fun h74 => ?_)
            · skip
              refine E.iconst C dX9_readLine_89 (by decide) ?_
              refine E.goto C dX9_readLine_90 (tgt := 94) (by decide) ?_
              exact jn94 1 (by unfold Hid; omega)
            · skip
              refine E.aload_n C dX9_readLine_77 rfl rfl ?_
              refine N.getR C fa_X9_17 rfl dX9_readLine_78 kd_119 (x := 122) (by decide +kernel) (by decide) ?_
              refine E.bipush C dX9_readLine_81 (by decide) ?_
              refine N.iald C dX9_readLine_83 kd_122 ln_122 (by omega) (x := w31 122 112) rfl ?_
              refine E.bipush C dX9_readLine_84 (by decide) ?_
              refine E.icmp_ge C dX9_readLine_86 (tgt := 93) (by decide) (fun h86 => ?_) (fun h86 => ?_)
              · skip
                refine E.iconst C dX9_readLine_93 (by decide) ?_
                exact jn94 0 (by unfold Hid; omega)
              · skip
                refine E.iconst C dX9_readLine_89 (by decide) ?_
                refine E.goto C dX9_readLine_90 (tgt := 94) (by decide) ?_
                exact jn94 1 (by unfold Hid; omega)
          · skip
            refine E.aload_n C dX9_readLine_60 rfl rfl ?_
            refine N.getR C fa_X9_17 rfl dX9_readLine_61 kd_119 (x := 122) (by decide +kernel) (by decide) ?_
            refine E.bipush C dX9_readLine_64 (by decide) ?_
            refine N.iald C dX9_readLine_66 kd_122 ln_122 (by omega) (x := w31 122 41) rfl ?_
            refine E.bipush C dX9_readLine_67 (by decide) ?_
            refine E.icmp_ge C dX9_readLine_69 (tgt := 93) (by decide) (fun h69 => ?_) (fun h69 => ?_)
            · skip
              refine E.iconst C dX9_readLine_93 (by decide) ?_
              exact jn94 0 (by unfold Hid; omega)
            · skip
              refine E.iload_n C dX9_readLine_72 rfl rfl ?_
              refine E.iconst C dX9_readLine_73 (by decide) ?_
              refine E.icmp_ne C dX9_readLine_74 (tgt := 89) (by decide) (fun h74 => ?_) (fun h74 => ?_)
              · skip
                refine E.iconst C dX9_readLine_89 (by decide) ?_
                refine E.goto C dX9_readLine_90 (tgt := 94) (by decide) ?_
                exact jn94 1 (by unfold Hid; omega)
              · skip
                refine E.aload_n C dX9_readLine_77 rfl rfl ?_
                refine N.getR C fa_X9_17 rfl dX9_readLine_78 kd_119 (x := 122) (by decide +kernel) (by decide) ?_
                refine E.bipush C dX9_readLine_81 (by decide) ?_
                refine N.iald C dX9_readLine_83 kd_122 ln_122 (by omega) (x := w31 122 112) rfl ?_
                refine E.bipush C dX9_readLine_84 (by decide) ?_
                refine E.icmp_ge C dX9_readLine_86 (tgt := 93) (by decide) (fun h86 => ?_) (fun h86 => ?_)
                · skip
                  refine E.iconst C dX9_readLine_93 (by decide) ?_
                  exact jn94 0 (by unfold Hid; omega)
                · skip
                  refine E.iconst C dX9_readLine_89 (by decide) ?_
                  refine E.goto C dX9_readLine_90 (tgt := 94) (by decide) ?_
                  exact jn94 1 (by unfold Hid; omega)
      · skip
        refine E.aload_n C dX9_readLine_40 rfl rfl ?_
        refine N.getR C fa_X9_17 rfl dX9_readLine_41 kd_119 (x := 122) (by decide +kernel) (by decide) ?_
        refine E.iconst C dX9_readLine_44 (by decide) ?_
        refine N.iald C dX9_readLine_45 kd_122 ln_122 (by omega) (x := w31 122 0) rfl ?_
        refine E.bipush C dX9_readLine_46 (by decide) ?_
        refine E.icmp_ge C dX9_readLine_48 (tgt := 93) (by decide) (fun h48 => ?_) (fun h48 => ?_)
        · skip
          refine E.iconst C dX9_readLine_93 (by decide) ?_
          exact jn94 0 (by unfold Hid; omega)
        · skip
          refine E.iload_n C dX9_readLine_51 rfl rfl ?_
          refine E.if_eq C dX9_readLine_52 (tgt := 60) (by decide) (fun h52 => ?_) (fun h52 => ?_)
          · skip
            refine E.aload_n C dX9_readLine_60 rfl rfl ?_
            refine N.getR C fa_X9_17 rfl dX9_readLine_61 kd_119 (x := 122) (by decide +kernel) (by decide) ?_
            refine E.bipush C dX9_readLine_64 (by decide) ?_
            refine N.iald C dX9_readLine_66 kd_122 ln_122 (by omega) (x := w31 122 41) rfl ?_
            refine E.bipush C dX9_readLine_67 (by decide) ?_
            refine E.icmp_ge C dX9_readLine_69 (tgt := 93) (by decide) (fun h69 => ?_) (fun h69 => ?_)
            · skip
              refine E.iconst C dX9_readLine_93 (by decide) ?_
              exact jn94 0 (by unfold Hid; omega)
            · skip
              refine E.iload_n C dX9_readLine_72 rfl rfl ?_
              refine E.iconst C dX9_readLine_73 (by decide) ?_
              refine E.icmp_ne C dX9_readLine_74 (tgt := 89) (by decide) (fun h74 => ?_) (fun h74 => ?_)
              · skip
                refine E.iconst C dX9_readLine_89 (by decide) ?_
                refine E.goto C dX9_readLine_90 (tgt := 94) (by decide) ?_
                exact jn94 1 (by unfold Hid; omega)
              · skip
                refine E.aload_n C dX9_readLine_77 rfl rfl ?_
                refine N.getR C fa_X9_17 rfl dX9_readLine_78 kd_119 (x := 122) (by decide +kernel) (by decide) ?_
                refine E.bipush C dX9_readLine_81 (by decide) ?_
                refine N.iald C dX9_readLine_83 kd_122 ln_122 (by omega) (x := w31 122 112) rfl ?_
                refine E.bipush C dX9_readLine_84 (by decide) ?_
                refine E.icmp_ge C dX9_readLine_86 (tgt := 93) (by decide) (fun h86 => ?_) (fun h86 => ?_)
                · skip
                  refine E.iconst C dX9_readLine_93 (by decide) ?_
                  exact jn94 0 (by unfold Hid; omega)
                · skip
                  refine E.iconst C dX9_readLine_89 (by decide) ?_
                  refine E.goto C dX9_readLine_90 (tgt := 94) (by decide) ?_
                  exact jn94 1 (by unfold Hid; omega)
          · skip
            refine E.iload_n C dX9_readLine_55 rfl rfl ?_
            refine E.iconst C dX9_readLine_56 (by decide) ?_
            refine E.icmp_ne C dX9_readLine_57 (tgt := 72) (by decide) (fun h57 => ?_) (fun h57 => ?_)
            · skip
              refine E.iload_n C dX9_readLine_72 rfl rfl ?_
              refine E.iconst C dX9_readLine_73 (by decide) ?_
              refine E.icmp_ne C dX9_readLine_74 (tgt := 89) (by decide) (fun h74 => ?_) (fun h74 => ?_)
              · skip
                refine E.iconst C dX9_readLine_89 (by decide) ?_
                refine E.goto C dX9_readLine_90 (tgt := 94) (by decide) ?_
                exact jn94 1 (by unfold Hid; omega)
              · skip
                refine E.aload_n C dX9_readLine_77 rfl rfl ?_
                refine N.getR C fa_X9_17 rfl dX9_readLine_78 kd_119 (x := 122) (by decide +kernel) (by decide) ?_
                refine E.bipush C dX9_readLine_81 (by decide) ?_
                refine N.iald C dX9_readLine_83 kd_122 ln_122 (by omega) (x := w31 122 112) rfl ?_
                refine E.bipush C dX9_readLine_84 (by decide) ?_
                refine E.icmp_ge C dX9_readLine_86 (tgt := 93) (by decide) (fun h86 => ?_) (fun h86 => ?_)
                · skip
                  refine E.iconst C dX9_readLine_93 (by decide) ?_
                  exact jn94 0 (by unfold Hid; omega)
                · skip
                  refine E.iconst C dX9_readLine_89 (by decide) ?_
                  refine E.goto C dX9_readLine_90 (tgt := 94) (by decide) ?_
                  exact jn94 1 (by unfold Hid; omega)
            · skip
              refine E.aload_n C dX9_readLine_60 rfl rfl ?_
              refine N.getR C fa_X9_17 rfl dX9_readLine_61 kd_119 (x := 122) (by decide +kernel) (by decide) ?_
              refine E.bipush C dX9_readLine_64 (by decide) ?_
              refine N.iald C dX9_readLine_66 kd_122 ln_122 (by omega) (x := w31 122 41) rfl ?_
              refine E.bipush C dX9_readLine_67 (by decide) ?_
              refine E.icmp_ge C dX9_readLine_69 (tgt := 93) (by decide) (fun h69 => ?_) (fun h69 => ?_)
              · skip
                refine E.iconst C dX9_readLine_93 (by decide) ?_
                exact jn94 0 (by unfold Hid; omega)
              · skip
                refine E.iload_n C dX9_readLine_72 rfl rfl ?_
                refine E.iconst C dX9_readLine_73 (by decide) ?_
                refine E.icmp_ne C dX9_readLine_74 (tgt := 89) (by decide) (fun h74 => ?_) (fun h74 => ?_)
                · skip
                  refine E.iconst C dX9_readLine_89 (by decide) ?_
                  refine E.goto C dX9_readLine_90 (tgt := 94) (by decide) ?_
                  exact jn94 1 (by unfold Hid; omega)
                · skip
                  refine E.aload_n C dX9_readLine_77 rfl rfl ?_
                  refine N.getR C fa_X9_17 rfl dX9_readLine_78 kd_119 (x := 122) (by decide +kernel) (by decide) ?_
                  refine E.bipush C dX9_readLine_81 (by decide) ?_
                  refine N.iald C dX9_readLine_83 kd_122 ln_122 (by omega) (x := w31 122 112) rfl ?_
                  refine E.bipush C dX9_readLine_84 (by decide) ?_
                  refine E.icmp_ge C dX9_readLine_86 (tgt := 93) (by decide) (fun h86 => ?_) (fun h86 => ?_)
                  · skip
                    refine E.iconst C dX9_readLine_93 (by decide) ?_
                    exact jn94 0 (by unfold Hid; omega)
                  · skip
                    refine E.iconst C dX9_readLine_89 (by decide) ?_
                    refine E.goto C dX9_readLine_90 (tgt := 94) (by decide) ?_
                    exact jn94 1 (by unfold Hid; omega)
    refine E.iload_n C dX9_readLine_19 rfl rfl ?_
    refine E.bipush C dX9_readLine_20 (by decide) ?_
    refine E.icmp_eq C dX9_readLine_22 (tgt := 29) (by decide) (fun h22 => ?_) (fun h22 => ?_)
    · skip
      refine E.iconst C dX9_readLine_29 (by decide) ?_
      exact jn30 0 (by unfold Hid; omega)
    · skip
      refine E.iconst C dX9_readLine_25 (by decide) ?_
      refine E.goto C dX9_readLine_26 (tgt := 30) (by decide) ?_
      exact jn30 1 (by unfold Hid; omega)
  refine E.aload_n C dX9_readLine_0 rfl rfl ?_
  refine N.getI C fa_X9_121 rfl dX9_readLine_1 kd_119 (x := v 119 12) rfl ?_
  refine E.iconst C dX9_readLine_4 (by decide) ?_
  refine E.icmp_ne C dX9_readLine_5 (tgt := 15) (by decide) (fun h5 => ?_) (fun h5 => ?_)
  · skip
    refine E.bipush C dX9_readLine_15 (by decide) ?_
    exact jn17 (-4) (by first | (unfold wdT; rw [if_pos (by omega), k11, k10]) | (unfold wdT; rw [if_neg (by omega)]))
  · skip
    refine E.aload_n C dX9_readLine_8 rfl rfl ?_
    refine N.callVp (S := []) (As := []) C hX (ok_X9_lineNow G f L v hT (by omega)) yf_X9_lineNow yv_X9_lineNow ml_X9_163 rfl rfl rfl kd_119 (by decide) (by decide) (Nat.le_of_ble_eq_true rfl) dX9_readLine_9 rfl ?_
    refine E.goto C dX9_readLine_12 (tgt := 17) (by decide) ?_
    exact jn17 (wdF f (v 119 11) (v 119 10)) (by first | (unfold wdT; rw [if_pos (by omega), k11, k10]) | (unfold wdT; rw [if_neg (by omega)]))
