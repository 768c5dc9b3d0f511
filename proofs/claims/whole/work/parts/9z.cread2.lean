set_option maxHeartbeats 4000000 in
set_option maxRecDepth 20000 in
theorem ok_X3_takeSlack (G : GT) (f : Int → Int) (L : Int) (v : VT) (hT : TapC f L v) (hp : 0 ≤ v 50 2 ∧ v 50 2 ≤ L) : MNi G yX3_takeSlack cX3_takeSlack 1 (some .boolean) 3 64 [vr 50] v (fun x w => FrV v w ∧ Out (if v 50 7 = 0 then slF f L (v 50 2) else (4, v 50 4)) v w x (w 50 2 = tE f L (tE f L (v 50 2)) ∧ shV w = slB f L (shV v) (v 50 2))) := by
  refine MN.of pn_X3_takeSlack [some (vr 50)] 0 rfl rfl (fun X C hX hn hR => ?_)
  have hN : ∀ i : Nat, i < 1 → i < xn X := fun i h => by rw [hn]; exact h
  refine E.rngk (fun hinv => ?_)
  refine E.loc (fun hloc => ?_)
  have hTL := hT.2.1
  have hq0 : 0 ≤ v 50 2 ∧ v 50 2 ≤ L := hp
  have hq1 : 0 ≤ (tE f L (v 50 2)) ∧ (tE f L (v 50 2)) ≤ L := ⟨Int.le_trans hq0.1 tE_ge, tE_le hq0.2⟩
  have hq2 : 0 ≤ (tE f L (tE f L (v 50 2))) ∧ (tE f L (tE f L (v 50 2))) ≤ L := ⟨Int.le_trans hq1.1 tE_ge, tE_le hq1.2⟩
  refine E.aload_n C dX3_takeSlack_0 rfl rfl ?_
  refine N.getI C fa_X3_31 rfl dX3_takeSlack_1 kd_50 (x := v 50 7) rfl ?_
  refine E.if_eq C dX3_takeSlack_4 (tgt := 13) (by decide) (fun h4 => ?_) (fun h4 => ?_)
  · skip
    refine E.aload_n C dX3_takeSlack_13 rfl rfl ?_
    refine E.iconst C dX3_takeSlack_14 (by decide) ?_
    refine N.putZ C fp_X3_31 rfl dX3_takeSlack_15 kd_50 (by omega) ?_
    refine E.aload_n C dX3_takeSlack_18 rfl rfl ?_
    refine E.iconst C dX3_takeSlack_19 (by decide) ?_
    refine E.iconst C dX3_takeSlack_20 (by decide) ?_
    refine N.callVi (S := []) (As := [vi 0, vi 4]) C hX (ok_X3_takeNumber G f L 0 4 (upd2 v 50 7 1) (TapC.up (by decide) hT) (by rw [show (upd2 v 50 7 1) 50 2 = (v 50 2) from (by first | assumption | rfl | ((repeat rw [ux_ne (by omega)]); first | assumption | rfl))]; omega)) yf_X3_takeNumber yv_X3_takeNumber ml_X3_101 rfl rfl rfl kd_50 (by decide) (by decide) (Nat.le_of_ble_eq_true rfl) dX3_takeSlack_21 rfl (fun t21 w21 hb21 hp21 => ?_)
    obtain ⟨hR21, hO21⟩ := NumQ.at_ (q := (v 50 2)) hp21 (by first | assumption | rfl | ((repeat rw [ux_ne (by omega)]); first | assumption | rfl))
    have hT21 := TapC.fr (TapC.up (by decide) hT) hR21
    refine E.if_ne C dX3_takeSlack_24 (tgt := 29) (by decide) (fun h24 => ?_) (fun h24 => ?_)
    · skip
      obtain ⟨hz, h10, h11, hE, hV, -, -, -⟩ := hO21.good h24
      refine E.aload_n C dX3_takeSlack_29 rfl rfl ?_
      refine E.aload_n C dX3_takeSlack_30 rfl rfl ?_
      refine N.getI C fa_X3_105 rfl dX3_takeSlack_31 kd_50 (x := w21 50 5) rfl ?_
      refine N.putI C fp_X3_28 rfl dX3_takeSlack_34 kd_50 ?_
      refine E.aload_n C dX3_takeSlack_37 rfl rfl ?_
      refine N.callVi (S := []) (As := []) C hX (ok_X3_takeStop G f L (upd2 w21 50 6 (w21 50 5)) (TapC.up (by decide) hT21) (by rw [show (upd2 w21 50 6 (w21 50 5)) 50 2 = (tE f L (v 50 2)) from (by first | assumption | rfl | ((repeat rw [ux_ne (by omega)]); first | assumption | rfl))]; omega)) yf_X3_takeStop yv_X3_takeStop ml_X3_108 rfl rfl rfl kd_50 (by decide) (by decide) (Nat.le_of_ble_eq_true rfl) dX3_takeSlack_38 rfl (fun t38 w38 hb38 hp38 => ?_)
      obtain ⟨hR38, hO38⟩ := EndQ.at_ (q := (tE f L (v 50 2))) hp38 (by first | assumption | rfl | ((repeat rw [ux_ne (by omega)]); first | assumption | rfl))
      exact N.zret C hR dX3_takeSlack_41 (hO38.bd) (fun hi => by refine ⟨((FrV.up (by decide) FrV.rf).tr hR21.toV).tr ((FrV.up (by decide) FrV.rf).tr hR38.toV), ?_⟩; rw [if_pos (by omega)]; unfold slF; rw [orF_0 hz]; refine hO38.mono ?_ ?_ (fun _ z => ⟨z, ?_⟩); (rw [ux_ne (by omega), h10, ux_ne (by omega)]); (rw [ux_ne (by omega), h11, ux_ne (by omega)]); (rw [sh_fr hR38, sh_u50 (by decide), sh_fr hR21, sh_u50 (by decide), hV]; rfl))
    · skip
      refine E.iconst C dX3_takeSlack_27 (by decide) ?_
      exact N.zret C hR dX3_takeSlack_28 (by omega) (fun hi => by refine ⟨(FrV.up (by decide) FrV.rf).tr hR21.toV, ?_⟩; rw [if_pos (by omega)]; have hb := hO21.bad h24; unfold slF; rw [orF_n hb.1]; exact Out.fin hb)
  · skip
    refine E.aload_n C dX3_takeSlack_7 rfl rfl ?_
    refine E.iconst C dX3_takeSlack_8 (by decide) ?_
    refine N.callVd (S := []) (As := [vi 4]) C hX (ok_X3_refuse G 4 v) yf_X3_refuse yv_X3_refuse ml_X3_63 rfl rfl rfl kd_50 (by decide) (by decide) (Nat.le_of_ble_eq_true rfl) dX3_takeSlack_9 rfl ?_
    exact N.zret C hR dX3_takeSlack_12 (by omega) (fun hi => by exact Out.refuse (by decide) (if_neg (by omega)))

set_option maxHeartbeats 4000000 in
set_option maxRecDepth 20000 in
theorem ok_X3_takeMark (G : GT) (f : Int → Int) (L : Int) (v : VT) (hT : TapC f L v) (hp : 0 ≤ v 50 2 ∧ v 50 2 ≤ L) (hm : 0 ≤ v 27 6 ∧ v 27 6 ≤ 6) : MNi G yX3_takeMark cX3_takeMark 1 (some .boolean) 3 64 [vr 50] v (fun x w => FrV v w ∧ Out (if 6 ≤ v 27 6 then (5, v 50 4) else maF f L (v 50 2)) v w x (w 50 2 = tE f L (tE f L (v 50 2)) ∧ shV w = maB f L (shV v) (v 50 2))) := by
  refine MN.of pn_X3_takeMark [some (vr 50)] 0 rfl rfl (fun X C hX hn hR => ?_)
  have hN : ∀ i : Nat, i < 1 → i < xn X := fun i h => by rw [hn]; exact h
  refine E.rngk (fun hinv => ?_)
  refine E.loc (fun hloc => ?_)
  have hTL := hT.2.1
  have hv27 : isV 27 := by unfold isV; omega
  have hq0 : 0 ≤ v 50 2 ∧ v 50 2 ≤ L := hp
  have hq1 : 0 ≤ (tE f L (v 50 2)) ∧ (tE f L (v 50 2)) ≤ L := ⟨Int.le_trans hq0.1 tE_ge, tE_le hq0.2⟩
  have hq2 : 0 ≤ (tE f L (tE f L (v 50 2))) ∧ (tE f L (tE f L (v 50 2))) ≤ L := ⟨Int.le_trans hq1.1 tE_ge, tE_le hq1.2⟩
  refine E.aload_n C dX3_takeMark_0 rfl rfl ?_
  refine N.getR C fa_X3_15 rfl dX3_takeMark_1 kd_50 (x := 27) (by decide +kernel) (by decide) ?_
  refine N.getI C fa_X3_157 rfl dX3_takeMark_4 (kdV hv27) (x := v 27 6) rfl ?_
  refine E.bipush C dX3_takeMark_7 (by decide) ?_
  refine E.icmp_lt C dX3_takeMark_9 (tgt := 18) (by decide) (fun h9 => ?_) (fun h9 => ?_)
  · skip
    refine E.aload_n C dX3_takeMark_18 rfl rfl ?_
    refine E.iconst C dX3_takeMark_19 (by decide) ?_
    refine E.bipush C dX3_takeMark_20 (by decide) ?_
    refine N.callVi (S := []) (As := [vi 1, vi 40]) C hX (ok_X3_takeNumber G f L 1 40 v hT (by rw [show v 50 2 = (v 50 2) from (by first | assumption | rfl | ((repeat rw [ux_ne (by omega)]); first | assumption | rfl))]; omega)) yf_X3_takeNumber yv_X3_takeNumber ml_X3_101 rfl rfl rfl kd_50 (by decide) (by decide) (Nat.le_of_ble_eq_true rfl) dX3_takeMark_22 rfl (fun t22 w22 hb22 hp22 => ?_)
    obtain ⟨hR22, hO22⟩ := NumQ.at_ (q := (v 50 2)) hp22 (by first | assumption | rfl | ((repeat rw [ux_ne (by omega)]); first | assumption | rfl))
    have hT22 := TapC.fr hT hR22
    refine E.if_ne C dX3_takeMark_25 (tgt := 30) (by decide) (fun h25 => ?_) (fun h25 => ?_)
    · skip
      obtain ⟨hz, h10, h11, hE, hV, -, -, -⟩ := hO22.good h25
      have e6 : w22 27 6 = v 27 6 := hR22 27 6 (Or.inl (by decide))
      refine E.aload_n C dX3_takeMark_30 rfl rfl ?_
      refine N.getR C fa_X3_15 rfl dX3_takeMark_31 kd_50 (x := 27) (by decide +kernel) (by decide) ?_
      refine E.aload_n C dX3_takeMark_34 rfl rfl ?_
      refine N.getI C fa_X3_105 rfl dX3_takeMark_35 kd_50 (x := w22 50 5) rfl ?_
      refine N.callVe (S := []) (As := [vi (w22 50 5)]) C hX (ok_X7_addMarkT G 27 (w22 50 5) w22 hv27 (by omega)) yf_X7_addMark yv_X7_addMark ml_X3_160 rfl rfl rfl (kdV hv27) (by decide) (by decide) (Nat.le_of_ble_eq_true rfl) dX3_takeMark_38 rfl ?_
      refine E.aload_n C dX3_takeMark_41 rfl rfl ?_
      refine N.callVi (S := []) (As := []) C hX (ok_X3_takeStop G f L (upd2 (upd2 w22 (27 + 4) (w22 27 6) (w22 50 5)) 27 6 (w22 27 6 + 1)) (TapC.up (by decide) (TapC.up (by decide) hT22)) (by rw [show (upd2 (upd2 w22 (27 + 4) (w22 27 6) (w22 50 5)) 27 6 (w22 27 6 + 1)) 50 2 = (tE f L (v 50 2)) from (by first | assumption | rfl | ((repeat rw [ux_ne (by omega)]); first | assumption | rfl))]; omega)) yf_X3_takeStop yv_X3_takeStop ml_X3_108 rfl rfl rfl kd_50 (by decide) (by decide) (Nat.le_of_ble_eq_true rfl) dX3_takeMark_42 rfl (fun t42 w42 hb42 hp42 => ?_)
      obtain ⟨hR42, hO42⟩ := EndQ.at_ (q := (tE f L (v 50 2))) hp42 (by first | assumption | rfl | ((repeat rw [ux_ne (by omega)]); first | assumption | rfl))
      exact N.zret C hR dX3_takeMark_45 (hO42.bd) (fun hi => by refine ⟨hR22.toV.tr ((FrV.up (by decide) (FrV.up (by decide) FrV.rf)).tr hR42.toV), ?_⟩; rw [if_neg (by omega)]; unfold maF; rw [orF_0 hz]; refine hO42.mono ?_ ?_ (fun _ z => ⟨z, ?_⟩); (rw [ux_ne (by omega), ux_ne (by omega), h10]); (rw [ux_ne (by omega), ux_ne (by omega), h11]); (rw [sh_fr hR42, sh_up (r := 0) (by decide) (by decide), sh_up (r := 4) (by decide) (by decide), sh_fr hR22, hV, e6]; rfl))
    · skip
      refine E.iconst C dX3_takeMark_28 (by decide) ?_
      exact N.zret C hR dX3_takeMark_29 (by omega) (fun hi => by refine ⟨hR22.toV, ?_⟩; rw [if_neg (by omega)]; have hb := hO22.bad h25; unfold maF; rw [orF_n hb.1]; exact Out.fin hb)
  · skip
    refine E.aload_n C dX3_takeMark_12 rfl rfl ?_
    refine E.iconst C dX3_takeMark_13 (by decide) ?_
    refine N.callVd (S := []) (As := [vi 5]) C hX (ok_X3_refuse G 5 v) yf_X3_refuse yv_X3_refuse ml_X3_63 rfl rfl rfl kd_50 (by decide) (by decide) (Nat.le_of_ble_eq_true rfl) dX3_takeMark_14 rfl ?_
    exact N.zret C hR dX3_takeMark_17 (by omega) (fun hi => by exact Out.refuse (by decide) (if_pos (by omega)))

set_option maxHeartbeats 4000000 in
set_option maxRecDepth 20000 in
theorem ok_X3_takeChild (G : GT) (f : Int → Int) (L : Int) (v : VT) (hT : TapC f L v) (hp : 0 ≤ v 50 2 ∧ v 50 2 ≤ L) (hm : 0 ≤ v 27 4 ∧ v 27 4 ≤ 8) : MNi G yX3_takeChild cX3_takeChild 3 (some .boolean) 3 64 [vr 50] v (fun x w => FrV v w ∧ Out (if 8 ≤ v 27 4 then (5, v 50 4) else chF f L (v 50 2)) v w x (w 50 2 = tE f L (tE f L (tE f L (tE f L (v 50 2)))) ∧ shV w = chB f L (shV v) (v 50 2))) := by
  refine MN.of pn_X3_takeChild [some (vr 50), none, none] 2 rfl rfl (fun X C hX hn hR => ?_)
  have hN : ∀ i : Nat, i < 3 → i < xn X := fun i h => by rw [hn]; exact h
  refine E.rngk (fun hinv => ?_)
  refine E.loc (fun hloc => ?_)
  have hTL := hT.2.1
  have hv27 : isV 27 := by unfold isV; omega
  have hq0 : 0 ≤ v 50 2 ∧ v 50 2 ≤ L := hp
  have hq1 : 0 ≤ (tE f L (v 50 2)) ∧ (tE f L (v 50 2)) ≤ L := ⟨Int.le_trans hq0.1 tE_ge, tE_le hq0.2⟩
  have hq2 : 0 ≤ (tE f L (tE f L (v 50 2))) ∧ (tE f L (tE f L (v 50 2))) ≤ L := ⟨Int.le_trans hq1.1 tE_ge, tE_le hq1.2⟩
  have hq3 : 0 ≤ (tE f L (tE f L (tE f L (v 50 2)))) ∧ (tE f L (tE f L (tE f L (v 50 2)))) ≤ L := ⟨Int.le_trans hq2.1 tE_ge, tE_le hq2.2⟩
  have hq4 : 0 ≤ (tE f L (tE f L (tE f L (tE f L (v 50 2))))) ∧ (tE f L (tE f L (tE f L (tE f L (v 50 2))))) ≤ L := ⟨Int.le_trans hq3.1 tE_ge, tE_le hq3.2⟩
  refine E.aload_n C dX3_takeChild_0 rfl rfl ?_
  refine N.getR C fa_X3_15 rfl dX3_takeChild_1 kd_50 (x := 27) (by decide +kernel) (by decide) ?_
  refine N.getI C fa_X3_57 rfl dX3_takeChild_4 (kdV hv27) (x := v 27 4) rfl ?_
  refine E.bipush C dX3_takeChild_7 (by decide) ?_
  refine E.icmp_lt C dX3_takeChild_9 (tgt := 18) (by decide) (fun h9 => ?_) (fun h9 => ?_)
  · skip
    refine E.aload_n C dX3_takeChild_18 rfl rfl ?_
    refine E.iconst C dX3_takeChild_19 (by decide) ?_
    refine E.bipush C dX3_takeChild_20 (by decide) ?_
    refine N.callVi (S := []) (As := [vi 1, vi 40]) C hX (ok_X3_takeNumber G f L 1 40 v hT (by rw [show v 50 2 = (v 50 2) from (by first | assumption | rfl | ((repeat rw [ux_ne (by omega)]); first | assumption | rfl))]; omega)) yf_X3_takeNumber yv_X3_takeNumber ml_X3_101 rfl rfl rfl kd_50 (by decide) (by decide) (Nat.le_of_ble_eq_true rfl) dX3_takeChild_22 rfl (fun t22 w22 hb22 hp22 => ?_)
    obtain ⟨hR22, hO22⟩ := NumQ.at_ (q := (v 50 2)) hp22 (by first | assumption | rfl | ((repeat rw [ux_ne (by omega)]); first | assumption | rfl))
    have hT22 := TapC.fr hT hR22
    refine E.if_ne C dX3_takeChild_25 (tgt := 30) (by decide) (fun h25 => ?_) (fun h25 => ?_)
    · skip
      obtain ⟨hz1, h10, h11, hE1, hV1, -, -, -⟩ := hO22.good h25
      refine E.aload_n C dX3_takeChild_30 rfl rfl ?_
      refine N.getI C fa_X3_105 rfl dX3_takeChild_31 kd_50 (x := w22 50 5) rfl ?_
      refine N.ist_1 C dX3_takeChild_34 (hN 1 (by decide)) rfl ?_
      refine E.aload_n C dX3_takeChild_35 rfl rfl ?_
      refine E.iconst C dX3_takeChild_36 (by decide) ?_
      refine E.iconst C dX3_takeChild_37 (by decide) ?_
      refine N.callVi (S := []) (As := [vi 0, vi 4]) C hX (ok_X3_takeNumber G f L 0 4 w22 hT22 (by rw [show w22 50 2 = (tE f L (v 50 2)) from (by first | assumption | rfl | ((repeat rw [ux_ne (by omega)]); first | assumption | rfl))]; omega)) yf_X3_takeNumber yv_X3_takeNumber ml_X3_101 rfl rfl rfl kd_50 (by decide) (by decide) (Nat.le_of_ble_eq_true rfl) dX3_takeChild_38 rfl (fun t38 w38 hb38 hp38 => ?_)
      obtain ⟨hR38, hO38⟩ := NumQ.at_ (q := (tE f L (v 50 2))) hp38 (by first | assumption | rfl | ((repeat rw [ux_ne (by omega)]); first | assumption | rfl))
      have hT38 := TapC.fr hT22 hR38
      refine E.if_ne C dX3_takeChild_41 (tgt := 46) (by decide) (fun h41 => ?_) (fun h41 => ?_)
      · skip
        obtain ⟨hz2, h20, h21, hE2, hV2, -, -, -⟩ := hO38.good h41
        refine E.aload_n C dX3_takeChild_46 rfl rfl ?_
        refine N.getI C fa_X3_105 rfl dX3_takeChild_47 kd_50 (x := w38 50 5) rfl ?_
        refine N.ist_2 C dX3_takeChild_50 (hN 2 (by decide)) rfl ?_
        refine E.aload_n C dX3_takeChild_51 rfl rfl ?_
        refine E.iload_n C dX3_takeChild_52 rfl rfl ?_
        refine E.iconst C dX3_takeChild_53 (by decide) ?_
        refine N.callVi (S := []) (As := [vi (w38 50 5), vi 4]) C hX (ok_X3_takeNumber G f L (w38 50 5) 4 w38 hT38 (by rw [show w38 50 2 = (tE f L (tE f L (v 50 2))) from (by first | assumption | rfl | ((repeat rw [ux_ne (by omega)]); first | assumption | rfl))]; omega)) yf_X3_takeNumber yv_X3_takeNumber ml_X3_101 rfl rfl rfl kd_50 (by decide) (by decide) (Nat.le_of_ble_eq_true rfl) dX3_takeChild_54 rfl (fun t54 w54 hb54 hp54 => ?_)
        obtain ⟨hR54, hO54⟩ := NumQ.at_ (q := (tE f L (tE f L (v 50 2)))) hp54 (by first | assumption | rfl | ((repeat rw [ux_ne (by omega)]); first | assumption | rfl))
        have hT54 := TapC.fr hT38 hR54
        refine E.if_ne C dX3_takeChild_57 (tgt := 62) (by decide) (fun h57 => ?_) (fun h57 => ?_)
        · skip
          obtain ⟨hz3, h30, h31, hE3, hV3, -, -, -⟩ := hO54.good h57
          rw [hV2] at hz3
          have e4 : w54 27 4 = v 27 4 := (hR54 27 4 (Or.inl (by decide))).trans ((hR38 27 4 (Or.inl (by decide))).trans (hR22 27 4 (Or.inl (by decide))))
          refine E.aload_n C dX3_takeChild_62 rfl rfl ?_
          refine N.getR C fa_X3_15 rfl dX3_takeChild_63 kd_50 (x := 27) (by decide +kernel) (by decide) ?_
          refine E.iload_n C dX3_takeChild_66 rfl rfl ?_
          refine E.iload_n C dX3_takeChild_67 rfl rfl ?_
          refine E.aload_n C dX3_takeChild_68 rfl rfl ?_
          refine N.getI C fa_X3_105 rfl dX3_takeChild_69 kd_50 (x := w54 50 5) rfl ?_
          refine N.callVe (S := []) (As := [vi (w22 50 5), vi (w38 50 5), vi (w54 50 5)]) C hX (ok_X7_addChildT G 27 (w22 50 5) (w38 50 5) (w54 50 5) w54 hv27 (by omega)) yf_X7_addChild yv_X7_addChild ml_X3_111 rfl rfl rfl (kdV hv27) (by decide) (by decide) (Nat.le_of_ble_eq_true rfl) dX3_takeChild_72 rfl ?_
          refine E.aload_n C dX3_takeChild_75 rfl rfl ?_
          refine N.callVi (S := []) (As := []) C hX (ok_X3_takeStop G f L (upd2 (upd2 (upd2 (upd2 w54 (27 + 5 + w54 27 4) 0 (w22 50 5)) (27 + 5 + w54 27 4) 1 (w38 50 5)) (27 + 5 + w54 27 4) 2 (w54 50 5)) 27 4 (w54 27 4 + 1)) (TapC.up (by decide) (TapC.up (by omega) (TapC.up (by omega) (TapC.up (by omega) hT54)))) (by rw [show (upd2 (upd2 (upd2 (upd2 w54 (27 + 5 + w54 27 4) 0 (w22 50 5)) (27 + 5 + w54 27 4) 1 (w38 50 5)) (27 + 5 + w54 27 4) 2 (w54 50 5)) 27 4 (w54 27 4 + 1)) 50 2 = (tE f L (tE f L (tE f L (v 50 2)))) from (by first | assumption | rfl | ((repeat rw [ux_ne (by omega)]); first | assumption | rfl))]; omega)) yf_X3_takeStop yv_X3_takeStop ml_X3_108 rfl rfl rfl kd_50 (by decide) (by decide) (Nat.le_of_ble_eq_true rfl) dX3_takeChild_76 rfl (fun t76 w76 hb76 hp76 => ?_)
          obtain ⟨hR76, hO76⟩ := EndQ.at_ (q := (tE f L (tE f L (tE f L (v 50 2))))) hp76 (by first | assumption | rfl | ((repeat rw [ux_ne (by omega)]); first | assumption | rfl))
          exact N.zret C hR dX3_takeChild_79 (hO76.bd) (fun hi => by refine ⟨((hR22.toV.tr hR38.toV).tr hR54.toV).tr ((FrV.up (by decide) (FrV.up (by omega) (FrV.up (by omega) (FrV.up (by omega) FrV.rf)))).tr hR76.toV), ?_⟩; rw [if_neg (by omega)]; unfold chF; rw [orF_0 hz1, orF_0 hz2, orF_0 hz3]; refine hO76.mono ?_ ?_ (fun _ z => ⟨z, ?_⟩); (rw [ux_ne (by omega), ux_ne (by omega), ux_ne (by omega), ux_ne (by omega), h30, h20, h10]); (rw [ux_ne (by omega), ux_ne (by omega), ux_ne (by omega), ux_ne (by omega), h31, h21, h11]); (rw [sh_fr hR76, sh_up (r := 0) (by decide) (by decide), sh_up (r := 5 + w54 27 4) (by omega) (by omega), sh_up (r := 5 + w54 27 4) (by omega) (by omega), sh_up (r := 5 + w54 27 4) (by omega) (by omega), sh_fr hR54, sh_fr hR38, sh_fr hR22, hV1, hV2, hV3, e4]; rfl))
        · skip
          refine E.iconst C dX3_takeChild_60 (by decide) ?_
          exact N.zret C hR dX3_takeChild_61 (by omega) (fun hi => by refine ⟨(hR22.toV.tr hR38.toV).tr hR54.toV, ?_⟩; rw [if_neg (by omega)]; have hb := hO54.bad h57; rw [hV2] at hb; unfold chF; rw [orF_0 hz1, orF_0 hz2, orF_n hb.1]; exact Out.fin hb)
      · skip
        refine E.iconst C dX3_takeChild_44 (by decide) ?_
        exact N.zret C hR dX3_takeChild_45 (by omega) (fun hi => by refine ⟨hR22.toV.tr hR38.toV, ?_⟩; rw [if_neg (by omega)]; have hb := hO38.bad h41; unfold chF; rw [orF_0 hz1, orF_n hb.1, orF_n hb.1]; exact Out.fin hb)
    · skip
      refine E.iconst C dX3_takeChild_28 (by decide) ?_
      exact N.zret C hR dX3_takeChild_29 (by omega) (fun hi => by refine ⟨hR22.toV, ?_⟩; rw [if_neg (by omega)]; have hb := hO22.bad h25; unfold chF; rw [orF_n hb.1, orF_n hb.1, orF_n hb.1]; exact Out.fin hb)
  · skip
    refine E.aload_n C dX3_takeChild_12 rfl rfl ?_
    refine E.iconst C dX3_takeChild_13 (by decide) ?_
    refine N.callVd (S := []) (As := [vi 5]) C hX (ok_X3_refuse G 5 v) yf_X3_refuse yv_X3_refuse ml_X3_63 rfl rfl rfl kd_50 (by decide) (by decide) (Nat.le_of_ble_eq_true rfl) dX3_takeChild_14 rfl ?_
    exact N.zret C hR dX3_takeChild_17 (by omega) (fun hi => by exact Out.refuse (by decide) (if_pos (by omega)))

set_option maxHeartbeats 4000000 in
set_option maxRecDepth 20000 in
theorem ok_X3_takeLiking (G : GT) (f : Int → Int) (L : Int) (v : VT) (hT : TapC f L v) (hp : 0 ≤ v 50 2 ∧ v 50 2 ≤ L) (hb8 : 0 ≤ v 50 8 ∧ v 50 8 ≤ 8) (hb9 : 0 ≤ v 50 9 ∧ v 50 9 ≤ 10) : MNi G yX3_takeLiking cX3_takeLiking 3 (some .boolean) 3 64 [vr 50] v (fun x w => FrV v w ∧ Out (liF f L (v 50 2)) v w x (w 50 2 = tE f L (tE f L (tE f L (tE f L (v 50 2)))) ∧ shV w = liB f L (shV v) (v 50 2))) := by
  refine MN.of pn_X3_takeLiking [some (vr 50), none, none] 2 rfl rfl (fun X C hX hn hR => ?_)
  have hN : ∀ i : Nat, i < 3 → i < xn X := fun i h => by rw [hn]; exact h
  refine E.rngk (fun hinv => ?_)
  refine E.loc (fun hloc => ?_)
  have hTL := hT.2.1
  have hv27 : isV 27 := by unfold isV; omega
  have hq0 : 0 ≤ v 50 2 ∧ v 50 2 ≤ L := hp
  have hq1 : 0 ≤ (tE f L (v 50 2)) ∧ (tE f L (v 50 2)) ≤ L := ⟨Int.le_trans hq0.1 tE_ge, tE_le hq0.2⟩
  have hq2 : 0 ≤ (tE f L (tE f L (v 50 2))) ∧ (tE f L (tE f L (v 50 2))) ≤ L := ⟨Int.le_trans hq1.1 tE_ge, tE_le hq1.2⟩
  have hq3 : 0 ≤ (tE f L (tE f L (tE f L (v 50 2)))) ∧ (tE f L (tE f L (tE f L (v 50 2)))) ≤ L := ⟨Int.le_trans hq2.1 tE_ge, tE_le hq2.2⟩
  have hq4 : 0 ≤ (tE f L (tE f L (tE f L (tE f L (v 50 2))))) ∧ (tE f L (tE f L (tE f L (tE f L (v 50 2))))) ≤ L := ⟨Int.le_trans hq3.1 tE_ge, tE_le hq3.2⟩
  refine E.aload_n C dX3_takeLiking_0 rfl rfl ?_
  refine E.iconst C dX3_takeLiking_1 (by decide) ?_
  refine E.bipush C dX3_takeLiking_2 (by decide) ?_
  refine N.callVi (S := []) (As := [vi 0, vi 7]) C hX (ok_X3_takeNumber G f L 0 7 v hT (by rw [show v 50 2 = (v 50 2) from (by first | assumption | rfl | ((repeat rw [ux_ne (by omega)]); first | assumption | rfl))]; omega)) yf_X3_takeNumber yv_X3_takeNumber ml_X3_101 rfl rfl rfl kd_50 (by decide) (by decide) (Nat.le_of_ble_eq_true rfl) dX3_takeLiking_4 rfl (fun t4 w4 hb4 hp4 => ?_)
  obtain ⟨hR4, hO4⟩ := NumQ.at_ (q := (v 50 2)) hp4 (by first | assumption | rfl | ((repeat rw [ux_ne (by omega)]); first | assumption | rfl))
  have hT4 := TapC.fr hT hR4
  refine E.if_ne C dX3_takeLiking_7 (tgt := 12) (by decide) (fun h7 => ?_) (fun h7 => ?_)
  · skip
    obtain ⟨hz1, h10, h11, hE1, hV1, -, hl1, hh1⟩ := hO4.good h7
    rw [← hV1] at hl1 hh1
    refine E.aload_n C dX3_takeLiking_12 rfl rfl ?_
    refine N.getI C fa_X3_105 rfl dX3_takeLiking_13 kd_50 (x := w4 50 5) rfl ?_
    refine N.ist_1 C dX3_takeLiking_16 (hN 1 (by decide)) rfl ?_
    refine E.aload_n C dX3_takeLiking_17 rfl rfl ?_
    refine E.iconst C dX3_takeLiking_18 (by decide) ?_
    refine E.bipush C dX3_takeLiking_19 (by decide) ?_
    refine N.callVi (S := []) (As := [vi 0, vi 9]) C hX (ok_X3_takeNumber G f L 0 9 w4 hT4 (by rw [show w4 50 2 = (tE f L (v 50 2)) from (by first | assumption | rfl | ((repeat rw [ux_ne (by omega)]); first | assumption | rfl))]; omega)) yf_X3_takeNumber yv_X3_takeNumber ml_X3_101 rfl rfl rfl kd_50 (by decide) (by decide) (Nat.le_of_ble_eq_true rfl) dX3_takeLiking_21 rfl (fun t21 w21 hb21 hp21 => ?_)
    obtain ⟨hR21, hO21⟩ := NumQ.at_ (q := (tE f L (v 50 2))) hp21 (by first | assumption | rfl | ((repeat rw [ux_ne (by omega)]); first | assumption | rfl))
    have hT21 := TapC.fr hT4 hR21
    refine E.if_ne C dX3_takeLiking_24 (tgt := 29) (by decide) (fun h24 => ?_) (fun h24 => ?_)
    · skip
      obtain ⟨hz2, h20, h21, hE2, hV2, -, hl2, hh2⟩ := hO21.good h24
      rw [← hV2] at hl2 hh2
      refine E.aload_n C dX3_takeLiking_29 rfl rfl ?_
      refine N.getI C fa_X3_105 rfl dX3_takeLiking_30 kd_50 (x := w21 50 5) rfl ?_
      refine N.ist_2 C dX3_takeLiking_33 (hN 2 (by decide)) rfl ?_
      refine E.aload_n C dX3_takeLiking_34 rfl rfl ?_
      refine E.iconst C dX3_takeLiking_35 (by decide) ?_
      refine E.bipush C dX3_takeLiking_36 (by decide) ?_
      refine N.callVi (S := []) (As := [vi 0, vi 9]) C hX (ok_X3_takeNumber G f L 0 9 w21 hT21 (by rw [show w21 50 2 = (tE f L (tE f L (v 50 2))) from (by first | assumption | rfl | ((repeat rw [ux_ne (by omega)]); first | assumption | rfl))]; omega)) yf_X3_takeNumber yv_X3_takeNumber ml_X3_101 rfl rfl rfl kd_50 (by decide) (by decide) (Nat.le_of_ble_eq_true rfl) dX3_takeLiking_38 rfl (fun t38 w38 hb38 hp38 => ?_)
      obtain ⟨hR38, hO38⟩ := NumQ.at_ (q := (tE f L (tE f L (v 50 2)))) hp38 (by first | assumption | rfl | ((repeat rw [ux_ne (by omega)]); first | assumption | rfl))
      have hT38 := TapC.fr hT21 hR38
      refine E.if_ne C dX3_takeLiking_41 (tgt := 46) (by decide) (fun h41 => ?_) (fun h41 => ?_)
      · skip
        obtain ⟨hz3, h30, h31, hE3, hV3, -, hl3, hh3⟩ := hO38.good h41
        have e8 : w38 50 8 = v 50 8 := (hR38 50 8 (by decide)).trans ((hR21 50 8 (by decide)).trans (hR4 50 8 (by decide)))
        have e9 : w38 50 9 = v 50 9 := (hR38 50 9 (by decide)).trans ((hR21 50 9 (by decide)).trans (hR4 50 9 (by decide)))
        refine E.aload_n C dX3_takeLiking_46 rfl rfl ?_
        refine E.aload_n C dX3_takeLiking_47 rfl rfl ?_
        refine N.getI C fa_X3_35 rfl dX3_takeLiking_48 kd_50 (x := w38 50 8) rfl ?_
        refine E.iload_n C dX3_takeLiking_51 rfl rfl ?_
        refine E.iconst C dX3_takeLiking_52 (by decide) ?_
        refine E.iadd C dX3_takeLiking_53 (by omega) ?_
        refine N.mmax (S := [vr 50]) C hX mm_X3_119 mmaxR dX3_takeLiking_54 (by decide) (Nat.le_of_ble_eq_true rfl) ?_
        refine N.putI C fp_X3_35 rfl dX3_takeLiking_57 kd_50 ?_
        refine E.aload_n C dX3_takeLiking_60 rfl rfl ?_
        refine E.aload_n C dX3_takeLiking_61 rfl rfl ?_
        refine N.getI C fa_X3_38 rfl dX3_takeLiking_62 kd_50 (x := w38 50 9) (upd2_ne _ _ _ _ _ _ (Or.inr (by decide))) ?_
        refine E.iload_n C dX3_takeLiking_65 rfl rfl ?_
        refine E.iconst C dX3_takeLiking_66 (by decide) ?_
        refine E.iadd C dX3_takeLiking_67 (by omega) ?_
        refine N.mmax (S := [vr 50]) C hX mm_X3_119 mmaxR dX3_takeLiking_68 (by decide) (Nat.le_of_ble_eq_true rfl) ?_
        refine N.putI C fp_X3_38 rfl dX3_takeLiking_71 kd_50 ?_
        refine E.aload_n C dX3_takeLiking_74 rfl rfl ?_
        refine N.getR C fa_X3_15 rfl dX3_takeLiking_75 kd_50 (x := 27) (by decide +kernel) (by decide) ?_
        refine E.iload_n C dX3_takeLiking_78 rfl rfl ?_
        refine E.iload_n C dX3_takeLiking_79 rfl rfl ?_
        refine E.aload_n C dX3_takeLiking_80 rfl rfl ?_
        refine N.getI C fa_X3_105 rfl dX3_takeLiking_81 kd_50 (x := w38 50 5) ((upd2_ne _ _ _ _ _ _ (Or.inr (by decide))).trans (upd2_ne _ _ _ _ _ _ (Or.inr (by decide)))) ?_
        refine N.callVe (S := []) (As := [vi (w4 50 5), vi (w21 50 5), vi (w38 50 5)]) C hX (ok_X7_setLiking G 27 (w4 50 5) (w21 50 5) (w38 50 5) (upd2 (upd2 w38 50 8 (if (w38 50 8) < ((w4 50 5) + 1) then ((w4 50 5) + 1) else (w38 50 8))) 50 9 (if (w38 50 9) < ((w21 50 5) + 1) then ((w21 50 5) + 1) else (w38 50 9))) hv27 (by omega)) yf_X7_setLiking yv_X7_setLiking ml_X3_154 rfl rfl rfl (kdV hv27) (by decide) (by decide) (Nat.le_of_ble_eq_true rfl) dX3_takeLiking_84 rfl ?_
        refine E.aload_n C dX3_takeLiking_87 rfl rfl ?_
        refine N.callVi (S := []) (As := []) C hX (ok_X3_takeStop G f L (upd2 (upd2 (upd2 w38 50 8 (if (w38 50 8) < ((w4 50 5) + 1) then ((w4 50 5) + 1) else (w38 50 8))) 50 9 (if (w38 50 9) < ((w21 50 5) + 1) then ((w21 50 5) + 1) else (w38 50 9))) (27 + 3) ((w4 50 5) * 10 + (w21 50 5)) (w38 50 5)) (TapC.up (by decide) (TapC.up (by decide) (TapC.up (by decide) hT38))) (by rw [show (upd2 (upd2 (upd2 w38 50 8 (if (w38 50 8) < ((w4 50 5) + 1) then ((w4 50 5) + 1) else (w38 50 8))) 50 9 (if (w38 50 9) < ((w21 50 5) + 1) then ((w21 50 5) + 1) else (w38 50 9))) (27 + 3) ((w4 50 5) * 10 + (w21 50 5)) (w38 50 5)) 50 2 = (tE f L (tE f L (tE f L (v 50 2)))) from (by first | assumption | rfl | ((repeat rw [ux_ne (by omega)]); first | assumption | rfl))]; omega)) yf_X3_takeStop yv_X3_takeStop ml_X3_108 rfl rfl rfl kd_50 (by decide) (by decide) (Nat.le_of_ble_eq_true rfl) dX3_takeLiking_88 rfl (fun t88 w88 hb88 hp88 => ?_)
        obtain ⟨hR88, hO88⟩ := EndQ.at_ (q := (tE f L (tE f L (tE f L (v 50 2))))) hp88 (by first | assumption | rfl | ((repeat rw [ux_ne (by omega)]); first | assumption | rfl))
        exact N.zret C hR dX3_takeLiking_91 (hO88.bd) (fun hi => by refine ⟨((hR4.toV.tr hR21.toV).tr hR38.toV).tr ((FrV.up (by decide) (FrV.up (by decide) (FrV.up (by decide) FrV.rf))).tr hR88.toV), ?_⟩; unfold liF; rw [orF_0 hz1, orF_0 hz2, orF_0 hz3]; refine hO88.mono ?_ ?_ (fun _ z => ⟨z, ?_⟩); (rw [ux_ne (by omega), ux_ne (by omega), ux_ne (by omega), h30, h20, h10]); (rw [ux_ne (by omega), ux_ne (by omega), ux_ne (by omega), h31, h21, h11]); (rw [sh_fr hR88, sh_up (r := 3) (by decide) (by decide), sh_u50 (by decide), sh_u50 (by decide), sh_fr hR38, sh_fr hR21, sh_fr hR4, hV1, hV2, hV3, e8, e9]; rfl))
      · skip
        refine E.iconst C dX3_takeLiking_44 (by decide) ?_
        exact N.zret C hR dX3_takeLiking_45 (by omega) (fun hi => by refine ⟨(hR4.toV.tr hR21.toV).tr hR38.toV, ?_⟩; have hb := hO38.bad h41; unfold liF; rw [orF_0 hz1, orF_0 hz2, orF_n hb.1]; exact Out.fin hb)
    · skip
      refine E.iconst C dX3_takeLiking_27 (by decide) ?_
      exact N.zret C hR dX3_takeLiking_28 (by omega) (fun hi => by refine ⟨hR4.toV.tr hR21.toV, ?_⟩; have hb := hO21.bad h24; unfold liF; rw [orF_0 hz1, orF_n hb.1, orF_n hb.1]; exact Out.fin hb)
  · skip
    refine E.iconst C dX3_takeLiking_10 (by decide) ?_
    exact N.zret C hR dX3_takeLiking_11 (by omega) (fun hi => by refine ⟨hR4.toV, ?_⟩; have hb := hO4.bad h7; unfold liF; rw [orF_n hb.1, orF_n hb.1, orF_n hb.1]; exact Out.fin hb)
