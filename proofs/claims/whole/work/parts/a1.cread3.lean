set_option maxHeartbeats 4000000 in
set_option maxRecDepth 20000 in
theorem ok_X3_takeThing (G : GT) (f : Int → Int) (L : Int) (s : Int) (v : VT) (hT : TapC f L v) (hp : 0 ≤ v 50 2 ∧ v 50 2 ≤ L) (hm : 0 ≤ v 27 5 ∧ v 27 5 ≤ 10) (hb8 : 0 ≤ v 50 8 ∧ v 50 8 ≤ 8) : MNi G yX3_takeThing cX3_takeThing 6 (some .boolean) 7 148 [vr 50, vi s] v (fun x w => FrV v w ∧ Out (if 10 ≤ v 27 5 then (5, v 50 4) else tgF f L (v 50 2)) v w x (w 50 2 = tE f L (tE f L (tE f L (thS f L (v 50 2)))) ∧ shV w = tgB f L (shV v) s (v 50 2))) := by
  refine MN.of pn_X3_takeThing [some (vr 50), some (vi s), none, none, none, none] 4 rfl rfl (fun X C hX hn hR => ?_)
  have hN : ∀ i : Nat, i < 6 → i < xn X := fun i h => by rw [hn]; exact h
  refine E.rngk (fun hinv => ?_)
  refine E.loc (fun hloc => ?_)
  have hin_1 : in32 s := hloc _ (List.mem_of_getElem? (i := 1) rfl)
  have hTL := hT.2.1
  have hv27 : isV 27 := by unfold isV; omega
  have hq0 : 0 ≤ v 50 2 ∧ v 50 2 ≤ L := hp
  have hq1 : 0 ≤ (tE f L (v 50 2)) ∧ (tE f L (v 50 2)) ≤ L := ⟨Int.le_trans hq0.1 tE_ge, tE_le hq0.2⟩
  have hq2 : 0 ≤ (tE f L (tE f L (v 50 2))) ∧ (tE f L (tE f L (v 50 2))) ≤ L := ⟨Int.le_trans hq1.1 tE_ge, tE_le hq1.2⟩
  have hs0 : 0 ≤ thS f L (v 50 2) ∧ thS f L (v 50 2) ≤ L := by have := thS_rng (f := f) hq0; omega
  have hs1 : 0 ≤ (tE f L (thS f L (v 50 2))) ∧ (tE f L (thS f L (v 50 2))) ≤ L := ⟨Int.le_trans hs0.1 tE_ge, tE_le hs0.2⟩
  have hs2 : 0 ≤ (tE f L (tE f L (thS f L (v 50 2)))) ∧ (tE f L (tE f L (thS f L (v 50 2)))) ≤ L := ⟨Int.le_trans hs1.1 tE_ge, tE_le hs1.2⟩
  have hs3 : 0 ≤ (tE f L (tE f L (tE f L (thS f L (v 50 2))))) ∧ (tE f L (tE f L (tE f L (thS f L (v 50 2))))) ≤ L := ⟨Int.le_trans hs2.1 tE_ge, tE_le hs2.2⟩
  refine E.aload_n C dX3_takeThing_0 rfl rfl ?_
  refine N.getR C fa_X3_15 rfl dX3_takeThing_1 kd_50 (x := 27) (by decide +kernel) (by decide) ?_
  refine N.getI C fa_X3_60 rfl dX3_takeThing_4 (kdV hv27) (x := v 27 5) rfl ?_
  refine E.bipush C dX3_takeThing_7 (by decide) ?_
  refine E.icmp_lt C dX3_takeThing_9 (tgt := 18) (by decide) (fun h9 => ?_) (fun h9 => ?_)
  · skip
    refine E.aload_n C dX3_takeThing_18 rfl rfl ?_
    refine N.callVv (S := []) (As := []) C hX (ok_X3_nextToken G f L v (by assumption) (by omega)) yf_X3_nextToken yv_X3_nextToken ml_X3_47 rfl rfl rfl kd_50 (by decide) (by decide) (Nat.le_of_ble_eq_true rfl) dX3_takeThing_19 rfl (fun w19 hp19 => ?_)
    have hq19 := hp19
    obtain ⟨hF19, hk19, hs19, he19, hv19⟩ := hq19
    have hT19 := hT.fn hF19
    refine E.aload_n C dX3_takeThing_22 rfl rfl ?_
    refine N.getI C fa_X3_50 rfl dX3_takeThing_23 kd_50 (x := w19 50 3) rfl ?_
    refine E.iconst C dX3_takeThing_26 (by decide) ?_
    refine E.icmp_ne C dX3_takeThing_27 (tgt := 36) (by decide) (fun h27 => ?_) (fun h27 => ?_)
    · skip
      have jn53 : ∀ (kd : Int), kd = kdT f L (v 50 2) → E X G 0 0 1000 w19 53 [some (vr 50), some (vi s), none, none, none, none] [vi kd] := by
        intro kd hJ53
        refine N.ist_2 C dX3_takeThing_53 (hN 2 (by decide)) rfl ?_
        refine E.iload_n C dX3_takeThing_54 rfl rfl ?_
        refine E.bipush C dX3_takeThing_55 (by decide) ?_
        refine E.icmp_ne C dX3_takeThing_57 (tgt := 66) (by decide) (fun h57 => ?_) (fun h57 => ?_)
        · skip
          have jn105 : ∀ (hr : Int) (u : VT), JT f L v hr u → E X G 0 0 1000 u 105 [some (vr 50), some (vi s), some (vi kd), some (vi hr), none, none] [] := by
            intro hr u hJ105
            obtain ⟨hFu, hTu, hu2, huh, hush, hu10, hu11, hu5, huz⟩ := hJ105
            refine E.aload_n C dX3_takeThing_105 rfl rfl ?_
            refine E.iconst C dX3_takeThing_106 (by decide) ?_
            refine E.bipush C dX3_takeThing_107 (by decide) ?_
            refine N.callVi (S := []) (As := [vi 1, vi 40]) C hX (ok_X3_takeNumber G f L 1 40 u hTu (by rw [show u 50 2 = (thS f L (v 50 2)) from (by first | assumption | rfl | ((repeat rw [ux_ne (by omega)]); first | assumption | rfl))]; omega)) yf_X3_takeNumber yv_X3_takeNumber ml_X3_101 rfl rfl rfl kd_50 (by decide) (by decide) (Nat.le_of_ble_eq_true rfl) dX3_takeThing_109 rfl (fun t109 w109 hb109 hp109 => ?_)
            obtain ⟨hR109, hO109⟩ := NumQ.at_ (q := (thS f L (v 50 2))) hp109 (by first | assumption | rfl | ((repeat rw [ux_ne (by omega)]); first | assumption | rfl))
            have hT109 := TapC.fr hTu hR109
            refine E.if_ne C dX3_takeThing_112 (tgt := 117) (by decide) (fun h112 => ?_) (fun h112 => ?_)
            · skip
              obtain ⟨hz1, h10, h11, hE1, hV1, -, -, -⟩ := hO109.good h112
              refine E.aload_n C dX3_takeThing_117 rfl rfl ?_
              refine N.getI C fa_X3_105 rfl dX3_takeThing_118 kd_50 (x := w109 50 5) rfl ?_
              refine N.ist_4 C dX3_takeThing_121 (hN 4 (by decide)) rfl ?_
              refine E.aload_n C dX3_takeThing_123 rfl rfl ?_
              refine E.iconst C dX3_takeThing_124 (by decide) ?_
              refine E.bipush C dX3_takeThing_125 (by decide) ?_
              refine N.callVi (S := []) (As := [vi 1, vi 9]) C hX (ok_X3_takeNumber G f L 1 9 w109 hT109 (by rw [show w109 50 2 = (tE f L (thS f L (v 50 2))) from (by first | assumption | rfl | ((repeat rw [ux_ne (by omega)]); first | assumption | rfl))]; omega)) yf_X3_takeNumber yv_X3_takeNumber ml_X3_101 rfl rfl rfl kd_50 (by decide) (by decide) (Nat.le_of_ble_eq_true rfl) dX3_takeThing_127 rfl (fun t127 w127 hb127 hp127 => ?_)
              obtain ⟨hR127, hO127⟩ := NumQ.at_ (q := (tE f L (thS f L (v 50 2)))) hp127 (by first | assumption | rfl | ((repeat rw [ux_ne (by omega)]); first | assumption | rfl))
              have hT127 := TapC.fr hT109 hR127
              refine E.if_ne C dX3_takeThing_130 (tgt := 135) (by decide) (fun h130 => ?_) (fun h130 => ?_)
              · skip
                obtain ⟨hz2, h20, h21, hE127, hV2, -, -, -⟩ := hO127.good h130
                have e5 : w127 27 5 = v 27 5 := (hR127 27 5 (Or.inl (by decide))).trans ((hR109 27 5 (Or.inl (by decide))).trans hu5)
                refine E.aload_n C dX3_takeThing_135 rfl rfl ?_
                refine N.getR C fa_X3_15 rfl dX3_takeThing_136 kd_50 (x := 27) (by decide +kernel) (by decide) ?_
                refine E.iload_n C dX3_takeThing_139 rfl rfl ?_
                refine E.iload C dX3_takeThing_140 rfl ?_
                refine E.aload_n C dX3_takeThing_142 rfl rfl ?_
                refine N.getI C fa_X3_105 rfl dX3_takeThing_143 kd_50 (x := w127 50 5) rfl ?_
                refine N.callVd (S := []) (As := [vi s, vi (w109 50 5), vi (w127 50 5)]) C hX (ok_X7_addPlainT G 27 s (w109 50 5) (w127 50 5) w127 hv27 (by omega)) yf_X7_addPlain yv_X7_addPlain ml_X3_125 rfl rfl rfl (kdV hv27) (by decide) (by decide) (Nat.le_of_ble_eq_true rfl) dX3_takeThing_146 rfl ?_
                obtain ⟨x, hx⟩ : ∃ zqv, zqv = (upd2 (plainF w127 (27 + 13 + w127 27 5) s (w109 50 5) (w127 50 5)) 27 5 (w127 27 5 + 1)) := ⟨_, rfl⟩
                refine E.heq hx.symm ?_
                have ex5 : x 27 5 = w127 27 5 + 1 := by rw [hx]; exact ux_at rfl
                have hTx : TapC f L x := by rw [hx]; exact TapC.up (by decide) (TapC.plain (by omega) hT127)
                have hFx : FrV w127 x := by rw [hx]; exact FrV.up (by decide) (FrV.plain (by omega) FrV.rf)
                have hx2 : ∀ j, x 50 j = w127 50 j := fun j => by rw [hx, ux_ne (by omega), plain_ne (by omega)]
                have hx22 : x 50 2 = (tE f L (tE f L (thS f L (v 50 2)))) := (hx2 2).trans hE127
                have hxs : shV x = upd2 (plainF (shV w127) (13 + w127 27 5) s (w109 50 5) (w127 50 5)) 0 5 (w127 27 5 + 1) := by rw [hx, sh_up (r := 0) (by decide) (by decide), sh_plain (r := 13 + w127 27 5) (by omega) (by omega)]
                refine N.ist_5 C dX3_takeThing_149 (hN 5 (by decide)) rfl ?_
                refine E.aload_n C dX3_takeThing_151 rfl rfl ?_
                refine N.getR C fa_X3_15 rfl dX3_takeThing_152 kd_50 (x := 27) (by decide +kernel) (by decide) ?_
                refine E.iload C dX3_takeThing_155 rfl ?_
                refine N.callVp (S := []) (As := [vi (w127 27 5)]) C hX (ok_X7_hasThing G 27 (w127 27 5) x hv27) yf_X7_hasThing yv_X7_hasThing ml_X3_129 rfl rfl rfl (kdV hv27) (by decide) (by decide) (Nat.le_of_ble_eq_true rfl) dX3_takeThing_157 rfl ?_
                refine E.if_eq C dX3_takeThing_160 (tgt := 191) (by decide) (fun h160 => by exfalso; have g := b0.mp h160; omega) (fun h160 => ?_)
                refine E.aload_n C dX3_takeThing_163 rfl rfl ?_
                refine N.getR C fa_X3_15 rfl dX3_takeThing_164 kd_50 (x := 27) (by decide +kernel) (by decide) ?_
                refine N.getR C fa_X3_132 rfl dX3_takeThing_167 (kdV hv27) (x := 27 + 2) (rvV1 hv27) (by have := posVk hv27; omega) ?_
                refine E.iload C dX3_takeThing_170 rfl ?_
                refine N.aald C (t := 5) (by decide) dX3_takeThing_172 (kdVt hv27) (lnVt hv27) (by omega) (x := 27 + 13 + (w127 27 5)) (rvVt hv27 (by omega)) (by have := posVk hv27; omega) ?_
                refine E.iload_n C dX3_takeThing_173 rfl rfl ?_
                refine N.putI C fp_X3_136 rfl dX3_takeThing_174 (kdVT hv27 (by omega)) ?_
                refine E.aload_n C dX3_takeThing_177 rfl rfl ?_
                refine N.getR C fa_X3_15 rfl dX3_takeThing_178 kd_50 (x := 27) (by decide +kernel) (by decide) ?_
                refine N.getR C fa_X3_132 rfl dX3_takeThing_181 (kdV hv27) (x := 27 + 2) (rvV1 hv27) (by have := posVk hv27; omega) ?_
                refine E.iload C dX3_takeThing_184 rfl ?_
                refine N.aald C (t := 5) (by decide) dX3_takeThing_186 (kdVt hv27) (lnVt hv27) (by omega) (x := 27 + 13 + (w127 27 5)) (rvVt hv27 (by omega)) (by have := posVk hv27; omega) ?_
                refine E.iload_n C dX3_takeThing_187 rfl rfl ?_
                refine N.putI C fp_X3_141 rfl dX3_takeThing_188 (kdVT hv27 (by omega)) ?_
                refine E.aload_n C dX3_takeThing_191 rfl rfl ?_
                refine N.callVi (S := []) (As := []) C hX (ok_X3_takeStop G f L (upd2 (upd2 x (27 + 13 + (w127 27 5)) 1 kd) (27 + 13 + (w127 27 5)) 6 hr) (TapC.up (by omega) (TapC.up (by omega) hTx)) (by rw [show (upd2 (upd2 x (27 + 13 + (w127 27 5)) 1 kd) (27 + 13 + (w127 27 5)) 6 hr) 50 2 = (tE f L (tE f L (thS f L (v 50 2)))) from (by first | assumption | rfl | ((repeat rw [ux_ne (by omega)]); first | assumption | rfl))]; omega)) yf_X3_takeStop yv_X3_takeStop ml_X3_108 rfl rfl rfl kd_50 (by decide) (by decide) (Nat.le_of_ble_eq_true rfl) dX3_takeThing_192 rfl (fun t192 w192 hb192 hp192 => ?_)
                obtain ⟨hR192, hO192⟩ := EndQ.at_ (q := (tE f L (tE f L (thS f L (v 50 2))))) hp192 (by first | assumption | rfl | ((repeat rw [ux_ne (by omega)]); first | assumption | rfl))
                exact N.zret C hR dX3_takeThing_195 (hO192.bd) (fun hi => by refine ⟨((hFu.tr hR109.toV).tr hR127.toV).tr (hFx.tr ((FrV.up (by omega) (FrV.up (by omega) FrV.rf)).tr hR192.toV)), ?_⟩; rw [if_neg (by omega)]; unfold tgF; rw [orF_0 huz]; unfold thF; rw [orF_0 hz1, orF_0 hz2]; refine hO192.mono ?_ ?_ (fun _ z => ⟨z, ?_⟩); (rw [ux_ne (by omega), ux_ne (by omega), hx2, h20, h10, hu10]); (rw [ux_ne (by omega), ux_ne (by omega), hx2, h21, h11, hu11]); (rw [sh_fr hR192, sh_up (r := 13 + w127 27 5) (by omega) (by omega), sh_up (r := 13 + w127 27 5) (by omega) (by omega), hxs, sh_fr hR127, sh_fr hR109, hush, hV1, hV2, hJ53, huh, e5]; rfl))
              · skip
                refine E.iconst C dX3_takeThing_133 (by decide) ?_
                exact N.zret C hR dX3_takeThing_134 (by omega) (fun hi => by refine ⟨(hFu.tr hR109.toV).tr hR127.toV, ?_⟩; rw [if_neg (by omega)]; have hb := hO127.bad h130; unfold tgF; rw [orF_0 huz]; unfold thF; rw [orF_0 hz1, orF_n hb.1]; exact Out.fin hb)
            · skip
              refine E.iconst C dX3_takeThing_115 (by decide) ?_
              exact N.zret C hR dX3_takeThing_116 (by omega) (fun hi => by refine ⟨hFu.tr hR109.toV, ?_⟩; rw [if_neg (by omega)]; have hb := hO109.bad h112; unfold tgF; rw [orF_0 huz]; unfold thF; rw [orF_n hb.1, orF_n hb.1]; exact Out.fin hb)
          refine E.bipush C dX3_takeThing_66 (by decide) ?_
          refine N.ist_3 C dX3_takeThing_68 (hN 3 (by decide)) rfl ?_
          refine E.iload_n C dX3_takeThing_69 rfl rfl ?_
          refine E.iconst C dX3_takeThing_70 (by decide) ?_
          refine E.icmp_ne C dX3_takeThing_71 (tgt := 105) (by decide) (fun h71 => ?_) (fun h71 => ?_)
          · skip
            exact jn105 (-4) w19 (by first | exact JT.a hT hp19 (by omega) (by omega) | exact JT.b hT hp19 (by omega) hp78 h81)
          · skip
            have hee := he19 (by have := kdT_1 (kd_no4 (hJ53.symm.trans h71)); omega)
            refine E.aload_n C dX3_takeThing_74 rfl rfl ?_
            refine E.iconst C dX3_takeThing_75 (by decide) ?_
            refine E.bipush C dX3_takeThing_76 (by decide) ?_
            refine N.callVi (S := []) (As := [vi 0, vi 7]) C hX (ok_X3_takeNumber G f L 0 7 w19 hT19 (by rw [show w19 50 2 = (tE f L (v 50 2)) from (by first | assumption | rfl | ((repeat rw [ux_ne (by omega)]); first | assumption | rfl))]; omega)) yf_X3_takeNumber yv_X3_takeNumber ml_X3_101 rfl rfl rfl kd_50 (by decide) (by decide) (Nat.le_of_ble_eq_true rfl) dX3_takeThing_78 rfl (fun t78 w78 hb78 hp78 => ?_)
            obtain ⟨hR78, hO78⟩ := NumQ.at_ (q := (tE f L (v 50 2))) hp78 (by first | assumption | rfl | ((repeat rw [ux_ne (by omega)]); first | assumption | rfl))
            have hT78 := TapC.fr hT19 hR78
            refine E.if_ne C dX3_takeThing_81 (tgt := 86) (by decide) (fun h81 => ?_) (fun h81 => ?_)
            · skip
              obtain ⟨hz7, h70, h71x, hE7, hV7, hK7, hl7, hh7⟩ := hO78.good h81
              have e58 : w78 50 8 = v 50 8 := (hR78 50 8 (by decide)).trans (hF19 50 8 (by decide))
              rw [← hV7] at hl7 hh7
              refine E.aload_n C dX3_takeThing_86 rfl rfl ?_
              refine N.getI C fa_X3_105 rfl dX3_takeThing_87 kd_50 (x := w78 50 5) rfl ?_
              refine N.ist_3 C dX3_takeThing_90 (hN 3 (by decide)) rfl ?_
              refine E.aload_n C dX3_takeThing_91 rfl rfl ?_
              refine E.aload_n C dX3_takeThing_92 rfl rfl ?_
              refine N.getI C fa_X3_35 rfl dX3_takeThing_93 kd_50 (x := w78 50 8) rfl ?_
              refine E.iload_n C dX3_takeThing_96 rfl rfl ?_
              refine E.iconst C dX3_takeThing_97 (by decide) ?_
              refine E.iadd C dX3_takeThing_98 (by omega) ?_
              refine N.mmax (S := [vr 50]) C hX mm_X3_119 mmaxR dX3_takeThing_99 (by decide) (Nat.le_of_ble_eq_true rfl) ?_
              refine N.putI C fp_X3_35 rfl dX3_takeThing_102 kd_50 ?_
              exact jn105 (w78 50 5) (upd2 w78 50 8 (if (w78 50 8) < ((w78 50 5) + 1) then ((w78 50 5) + 1) else (w78 50 8))) (by first | exact JT.a hT hp19 (by omega) (by omega) | exact JT.b hT hp19 (by omega) hp78 h81)
            · skip
              refine E.iconst C dX3_takeThing_84 (by decide) ?_
              exact N.zret C hR dX3_takeThing_85 (by omega) (fun hi => by refine ⟨hF19.toR.toV.tr hR78.toV, ?_⟩; rw [if_neg (by omega)]; have hb := hO78.bad h81; rw [tg_h (by omega) hb.1]; exact Out.fin hb)
        · skip
          refine E.aload_n C dX3_takeThing_60 rfl rfl ?_
          refine E.iconst C dX3_takeThing_61 (by decide) ?_
          refine N.callVd (S := []) (As := [vi 2]) C hX (ok_X3_refuse G 2 w19) yf_X3_refuse yv_X3_refuse ml_X3_63 rfl rfl rfl kd_50 (by decide) (by decide) (Nat.le_of_ble_eq_true rfl) dX3_takeThing_62 rfl ?_
          exact N.zret C hR dX3_takeThing_65 (by omega) (fun hi => by rw [if_neg (by omega)]; exact tg_bad hp19 (by omega) (by rw [if_neg (by omega)]))
      refine E.aload_n C dX3_takeThing_36 rfl rfl ?_
      refine N.getI C fa_X3_50 rfl dX3_takeThing_37 kd_50 (x := w19 50 3) rfl ?_
      refine E.iconst C dX3_takeThing_40 (by decide) ?_
      refine E.icmp_ne C dX3_takeThing_41 (tgt := 51) (by decide) (fun h41 => ?_) (fun h41 => ?_)
      · skip
        refine E.bipush C dX3_takeThing_51 (by decide) ?_
        exact jn53 (-4) (by first | (unfold kdT; rw [if_pos (by omega), ← hs19, ← he19 (by omega)]) | (unfold kdT; rw [if_neg (by omega)]))
      · skip
        have hee := he19 (by omega)
        have hg1 : v 50 2 ≤ tS f L (v 50 2) := tS_ge
        have hg2 : tS f L (v 50 2) ≤ tE f L (v 50 2) := tE_gS
        refine E.aload_n C dX3_takeThing_44 rfl rfl ?_
        refine N.callVp (S := []) (As := []) C hX (ok_X3_kindNamed G f L w19 (by assumption) (by omega)) yf_X3_kindNamed yv_X3_kindNamed ml_X3_115 rfl rfl rfl kd_50 (by decide) (by decide) (Nat.le_of_ble_eq_true rfl) dX3_takeThing_45 rfl ?_
        refine E.goto C dX3_takeThing_48 (tgt := 53) (by decide) ?_
        exact jn53 (kdF f (w19 50 4) (w19 50 2)) (by first | (unfold kdT; rw [if_pos (by omega), ← hs19, ← he19 (by omega)]) | (unfold kdT; rw [if_neg (by omega)]))
    · skip
      refine E.aload_n C dX3_takeThing_30 rfl rfl ?_
      refine E.iconst C dX3_takeThing_31 (by decide) ?_
      refine N.callVd (S := []) (As := [vi 1]) C hX (ok_X3_refuse G 1 w19) yf_X3_refuse yv_X3_refuse ml_X3_63 rfl rfl rfl kd_50 (by decide) (by decide) (Nat.le_of_ble_eq_true rfl) dX3_takeThing_32 rfl ?_
      exact N.zret C hR dX3_takeThing_35 (by omega) (fun hi => by rw [if_neg (by omega)]; exact tg_bad hp19 (by unfold kdT; rw [if_neg (by omega)]) (by rw [if_pos (by omega)]))
  · skip
    refine E.aload_n C dX3_takeThing_12 rfl rfl ?_
    refine E.iconst C dX3_takeThing_13 (by decide) ?_
    refine N.callVd (S := []) (As := [vi 5]) C hX (ok_X3_refuse G 5 v) yf_X3_refuse yv_X3_refuse ml_X3_63 rfl rfl rfl kd_50 (by decide) (by decide) (Nat.le_of_ble_eq_true rfl) dX3_takeThing_14 rfl ?_
    exact N.zret C hR dX3_takeThing_17 (by omega) (fun hi => by exact Out.refuse (by decide) (if_pos (by omega)))

set_option maxHeartbeats 4000000 in
set_option maxRecDepth 20000 in
theorem ok_X3_takeLine (G : GT) (f : Int → Int) (L : Int) (q : Int) (v : VT) (hT : TapC f L v) (hq : 0 ≤ q ∧ q ≤ L) (h3 : v 50 3 = tK f L q) (h4 : v 50 4 = tS f L q) (h2 : ¬ tK f L q = 4 → v 50 2 = tE f L q) (hbd : BdB (shV v)) : MNi G yX3_takeLine cX3_takeLine 1 (some .boolean) 8 173 [vr 50] v (fun x w => FrV v w ∧ Out (linF f L (shV v) q) v w x (w 50 2 = linE f L q ∧ shV w = linB f L (shV v) q)) := by
  refine MN.of pn_X3_takeLine [some (vr 50)] 0 rfl rfl (fun X C hX hn hR => ?_)
  have hN : ∀ i : Nat, i < 1 → i < xn X := fun i h => by rw [hn]; exact h
  refine E.rngk (fun hinv => ?_)
  refine E.loc (fun hloc => ?_)
  have hTL := hT.2.1
  obtain ⟨b4, b5, b6, b8, b9⟩ := hbd
  rw [sh04] at b4
  rw [sh05] at b5
  rw [sh06] at b6
  rw [sh28] at b8
  rw [sh29] at b9
  have hg1 : q ≤ tS f L q := tS_ge
  have hg2 : tS f L q ≤ tE f L q := tE_gS
  have hg3 : tE f L q ≤ L := tE_le hq.2
  refine E.aload_n C dX3_takeLine_0 rfl rfl ?_
  refine N.getI C fa_X3_50 rfl dX3_takeLine_1 kd_50 (x := v 50 3) rfl ?_
  refine E.iconst C dX3_takeLine_4 (by decide) ?_
  refine E.icmp_eq C dX3_takeLine_5 (tgt := 26) (by decide) (fun h5 => ?_) (fun h5 => ?_)
  · skip
    have hk1 : tK f L q = 1 := by omega
    have he2 := h2 (by omega)
    have hwd : wdT f L q = wdF f (v 50 4) (v 50 2) := by unfold wdT; rw [if_pos hk1, h4, he2]
    refine E.aload_n C dX3_takeLine_26 rfl rfl ?_
    refine E.ldcS (i := 0) C (by decide) rfl dX3_takeLine_27 ?_
    refine N.callVp (S := []) (As := [sr 0]) C hX (ok_X3_isNamed G f L 0 (by decide) v (by assumption) (by omega)) yf_X3_isNamed yv_X3_isNamed ml_X3_72 rfl rfl rfl kd_50 (by decide) (by decide) (Nat.le_of_ble_eq_true rfl) dX3_takeLine_29 rfl ?_
    refine E.if_eq C dX3_takeLine_32 (tgt := 40) (by decide) (fun h32 => ?_) (fun h32 => ?_)
    · have h32 := b0.mp h32
      refine E.aload_n C dX3_takeLine_40 rfl rfl ?_
      refine E.ldcS (i := 1) C (by decide) rfl dX3_takeLine_41 ?_
      refine N.callVp (S := []) (As := [sr 1]) C hX (ok_X3_isNamed G f L 1 (by decide) v (by assumption) (by omega)) yf_X3_isNamed yv_X3_isNamed ml_X3_72 rfl rfl rfl kd_50 (by decide) (by decide) (Nat.le_of_ble_eq_true rfl) dX3_takeLine_43 rfl ?_
      refine E.if_eq C dX3_takeLine_46 (tgt := 54) (by decide) (fun h46 => ?_) (fun h46 => ?_)
      · have h46 := b0.mp h46
        refine E.aload_n C dX3_takeLine_54 rfl rfl ?_
        refine E.ldcS (i := 2) C (by decide) rfl dX3_takeLine_55 ?_
        refine N.callVp (S := []) (As := [sr 2]) C hX (ok_X3_isNamed G f L 2 (by decide) v (by assumption) (by omega)) yf_X3_isNamed yv_X3_isNamed ml_X3_72 rfl rfl rfl kd_50 (by decide) (by decide) (Nat.le_of_ble_eq_true rfl) dX3_takeLine_57 rfl ?_
        refine E.if_eq C dX3_takeLine_60 (tgt := 69) (by decide) (fun h60 => ?_) (fun h60 => ?_)
        · have h60 := b0.mp h60
          refine E.aload_n C dX3_takeLine_69 rfl rfl ?_
          refine E.ldcS (i := 3) C (by decide) rfl dX3_takeLine_70 ?_
          refine N.callVp (S := []) (As := [sr 3]) C hX (ok_X3_isNamed G f L 3 (by decide) v (by assumption) (by omega)) yf_X3_isNamed yv_X3_isNamed ml_X3_72 rfl rfl rfl kd_50 (by decide) (by decide) (Nat.le_of_ble_eq_true rfl) dX3_takeLine_72 rfl ?_
          refine E.if_eq C dX3_takeLine_75 (tgt := 84) (by decide) (fun h75 => ?_) (fun h75 => ?_)
          · have h75 := b0.mp h75
            refine E.aload_n C dX3_takeLine_84 rfl rfl ?_
            refine E.ldcS (i := 4) C (by decide) rfl dX3_takeLine_85 ?_
            refine N.callVp (S := []) (As := [sr 4]) C hX (ok_X3_isNamed G f L 4 (by decide) v (by assumption) (by omega)) yf_X3_isNamed yv_X3_isNamed ml_X3_72 rfl rfl rfl kd_50 (by decide) (by decide) (Nat.le_of_ble_eq_true rfl) dX3_takeLine_87 rfl ?_
            refine E.if_eq C dX3_takeLine_90 (tgt := 98) (by decide) (fun h90 => ?_) (fun h90 => ?_)
            · have h90 := b0.mp h90
              refine E.aload_n C dX3_takeLine_98 rfl rfl ?_
              refine E.ldcS (i := 5) C (by decide) rfl dX3_takeLine_99 ?_
              refine N.callVp (S := []) (As := [sr 5]) C hX (ok_X3_isNamed G f L 5 (by decide) v (by assumption) (by omega)) yf_X3_isNamed yv_X3_isNamed ml_X3_72 rfl rfl rfl kd_50 (by decide) (by decide) (Nat.le_of_ble_eq_true rfl) dX3_takeLine_101 rfl ?_
              refine E.if_eq C dX3_takeLine_104 (tgt := 114) (by decide) (fun h104 => ?_) (fun h104 => ?_)
              · have h104 := b0.mp h104
                refine E.aload_n C dX3_takeLine_114 rfl rfl ?_
                refine E.iconst C dX3_takeLine_115 (by decide) ?_
                refine N.callVd (S := []) (As := [vi 2]) C hX (ok_X3_refuse G 2 v) yf_X3_refuse yv_X3_refuse ml_X3_63 rfl rfl rfl kd_50 (by decide) (by decide) (Nat.le_of_ble_eq_true rfl) dX3_takeLine_116 rfl ?_
                exact N.zret C hR dX3_takeLine_119 (by first | exact hp108.2.bd | omega) (fun hi => by first | (have hz := lin_ma (B := shV v) (hwd.trans (wd_5 h104)); rw [hz.1, hz.2.1, hz.2.2, sh06, ← h4, ← he2]; exact hp108) | exact Out.refuse (by decide) (by rw [lin_no (hwd.trans (wd_n h32 h46 h60 h75 h90 h104)), h4, if_neg (by omega)]))
              · have h104 := b0n.mp h104
                refine E.aload_n C dX3_takeLine_107 rfl rfl ?_
                refine N.callVi (S := []) (As := []) C hX (ok_X3_takeMark G f L v (by assumption) (by omega) (by omega)) yf_X3_takeMark yv_X3_takeMark ml_X3_98 rfl rfl rfl kd_50 (by decide) (by decide) (Nat.le_of_ble_eq_true rfl) dX3_takeLine_108 rfl (fun t108 w108 hb108 hp108 => ?_)
                refine E.goto C dX3_takeLine_111 (tgt := 119) (by decide) ?_
                exact N.zret C hR dX3_takeLine_119 (by first | exact hp108.2.bd | omega) (fun hi => by first | (have hz := lin_ma (B := shV v) (hwd.trans (wd_5 h104)); rw [hz.1, hz.2.1, hz.2.2, sh06, ← h4, ← he2]; exact hp108) | exact Out.refuse (by decide) (by rw [lin_no (hwd.trans (wd_n h32 h46 h60 h75 h90 h104)), h4, if_neg (by omega)]))
            · have h90 := b0n.mp h90
              refine E.aload_n C dX3_takeLine_93 rfl rfl ?_
              refine N.callVi (S := []) (As := []) C hX (ok_X3_takeLiking G f L v (by assumption) (by omega) (by omega) (by omega)) yf_X3_takeLiking yv_X3_takeLiking ml_X3_93 rfl rfl rfl kd_50 (by decide) (by decide) (Nat.le_of_ble_eq_true rfl) dX3_takeLine_94 rfl (fun t94 w94 hb94 hp94 => ?_)
              exact N.zret C hR dX3_takeLine_97 (hp94.2.bd) (fun hi => by have hz := lin_li (B := shV v) (hwd.trans (wd_4 h90)); rw [hz.1, hz.2.1, hz.2.2, ← he2]; exact hp94)
          · have h75 := b0n.mp h75
            refine E.aload_n C dX3_takeLine_78 rfl rfl ?_
            refine E.iconst C dX3_takeLine_79 (by decide) ?_
            refine N.callVi (S := []) (As := [vi 1]) C hX (ok_X3_takeThing G f L 1 v (by assumption) (by omega) (by omega) (by omega)) yf_X3_takeThing yv_X3_takeThing ml_X3_86 rfl rfl rfl kd_50 (by decide) (by decide) (Nat.le_of_ble_eq_true rfl) dX3_takeLine_80 rfl (fun t80 w80 hb80 hp80 => ?_)
            exact N.zret C hR dX3_takeLine_83 (hp80.2.bd) (fun hi => by have hw0 := hwd.trans (wd_3 h75); have hz := lin_tg (B := shV v) (Or.inr hw0); rw [hz.1, hz.2.1, hz.2.2, hw0, sh05, ← h4, ← he2]; exact hp80)
        · have h60 := b0n.mp h60
          refine E.aload_n C dX3_takeLine_63 rfl rfl ?_
          refine E.iconst C dX3_takeLine_64 (by decide) ?_
          refine N.callVi (S := []) (As := [vi 0]) C hX (ok_X3_takeThing G f L 0 v (by assumption) (by omega) (by omega) (by omega)) yf_X3_takeThing yv_X3_takeThing ml_X3_86 rfl rfl rfl kd_50 (by decide) (by decide) (Nat.le_of_ble_eq_true rfl) dX3_takeLine_65 rfl (fun t65 w65 hb65 hp65 => ?_)
          exact N.zret C hR dX3_takeLine_68 (hp65.2.bd) (fun hi => by have hw0 := hwd.trans (wd_2 h60); have hz := lin_tg (B := shV v) (Or.inl hw0); rw [hz.1, hz.2.1, hz.2.2, hw0, sh05, ← h4, ← he2]; exact hp65)
      · have h46 := b0n.mp h46
        refine E.aload_n C dX3_takeLine_49 rfl rfl ?_
        refine N.callVi (S := []) (As := []) C hX (ok_X3_takeChild G f L v (by assumption) (by omega) (by omega)) yf_X3_takeChild yv_X3_takeChild ml_X3_81 rfl rfl rfl kd_50 (by decide) (by decide) (Nat.le_of_ble_eq_true rfl) dX3_takeLine_50 rfl (fun t50 w50 hb50 hp50 => ?_)
        exact N.zret C hR dX3_takeLine_53 (hp50.2.bd) (fun hi => by have hz := lin_ch (B := shV v) (hwd.trans (wd_1 h46)); rw [hz.1, hz.2.1, hz.2.2, sh04, ← h4, ← he2]; exact hp50)
    · have h32 := b0n.mp h32
      refine E.aload_n C dX3_takeLine_35 rfl rfl ?_
      refine N.callVi (S := []) (As := []) C hX (ok_X3_takeSlack G f L v (by assumption) (by omega)) yf_X3_takeSlack yv_X3_takeSlack ml_X3_76 rfl rfl rfl kd_50 (by decide) (by decide) (Nat.le_of_ble_eq_true rfl) dX3_takeLine_36 rfl (fun t36 w36 hb36 hp36 => ?_)
      exact N.zret C hR dX3_takeLine_39 (hp36.2.bd) (fun hi => by have hz := lin_sl (B := shV v) (hwd.trans (wd_0 h32)); rw [hz.1, hz.2.1, hz.2.2, sh27, ← h4, ← he2]; exact hp36)
  · skip
    refine E.aload_n C dX3_takeLine_8 rfl rfl ?_
    refine E.aload_n C dX3_takeLine_9 rfl rfl ?_
    refine N.getI C fa_X3_50 rfl dX3_takeLine_10 kd_50 (x := v 50 3) rfl ?_
    refine E.iconst C dX3_takeLine_13 (by decide) ?_
    refine E.icmp_ne C dX3_takeLine_14 (tgt := 21) (by decide) (fun h14 => ?_) (fun h14 => ?_)
    · skip
      refine E.iconst C dX3_takeLine_21 (by decide) ?_
      refine N.callVd (S := []) (As := [vi 2]) C hX (ok_X3_refuse G 2 v) yf_X3_refuse yv_X3_refuse ml_X3_63 rfl rfl rfl kd_50 (by decide) (by decide) (Nat.le_of_ble_eq_true rfl) dX3_takeLine_22 rfl ?_
      exact N.zret C hR dX3_takeLine_25 (by omega) (fun hi => by first | exact Out.refuse (by decide) (by rw [lin_no (by unfold wdT; rw [if_neg (by omega)]), h4, if_pos (by omega)]) | exact Out.refuse (by decide) (by rw [lin_no (by unfold wdT; rw [if_neg (by omega)]), h4, if_neg (by omega)]))
    · skip
      refine E.iconst C dX3_takeLine_17 (by decide) ?_
      refine E.goto C dX3_takeLine_18 (tgt := 22) (by decide) ?_
      refine N.callVd (S := []) (As := [vi 1]) C hX (ok_X3_refuse G 1 v) yf_X3_refuse yv_X3_refuse ml_X3_63 rfl rfl rfl kd_50 (by decide) (by decide) (Nat.le_of_ble_eq_true rfl) dX3_takeLine_22 rfl ?_
      exact N.zret C hR dX3_takeLine_25 (by omega) (fun hi => by first | exact Out.refuse (by decide) (by rw [lin_no (by unfold wdT; rw [if_neg (by omega)]), h4, if_pos (by omega)]) | exact Out.refuse (by decide) (by rw [lin_no (by unfold wdT; rw [if_neg (by omega)]), h4, if_neg (by omega)]))

set_option maxHeartbeats 4000000 in
set_option maxRecDepth 20000 in
theorem ok_X3_readAll (G : GT) (f : Int → Int) (L : Int) (v : VT) (hT : TapC f L v)  : MNi G yX3_readAll cX3_readAll 2 (some .int) 9 193 [vr 50] v (fun x w => FrV v w ∧ w 50 10 = (parN f L 401 0 (strtB (shV v)) 0).1.1 ∧ (¬ (parN f L 401 0 (strtB (shV v)) 0).1.1 = 0 → w 50 11 = (parN f L 401 0 (strtB (shV v)) 0).1.2) ∧ ((parN f L 401 0 (strtB (shV v)) 0).1.1 = 0 → x = (parN f L 401 0 (strtB (shV v)) 0).2.1 ∧ shV w = (parN f L 401 0 (strtB (shV v)) 0).2.2)) := by
  refine MN.of pn_X3_readAll [some (vr 50), none] 1 rfl rfl (fun X C hX hn hR => ?_)
  have hN : ∀ i : Nat, i < 2 → i < xn X := fun i h => by rw [hn]; exact h
  refine E.rngk (fun hinv => ?_)
  refine E.loc (fun hloc => ?_)
  have hTL := hT.2.1
  have hv27 : isV 27 := by unfold isV; omega
  refine E.aload_n C dX3_readAll_0 rfl rfl ?_
  refine N.getR C fa_X3_15 rfl dX3_readAll_1 kd_50 (x := 27) (by decide +kernel) (by decide) ?_
  refine N.callVe (S := []) (As := []) C hX (ok_X7_clear G 27 v hv27) yf_X7_clear yv_X7_clear ml_X3_19 rfl rfl rfl (kdV hv27) (by decide) (by decide) (Nat.le_of_ble_eq_true rfl) dX3_readAll_4 rfl ?_
  refine E.aload_n C dX3_readAll_7 rfl rfl ?_
  refine E.iconst C dX3_readAll_8 (by decide) ?_
  refine N.putI C fp_X3_24 rfl dX3_readAll_9 kd_50 ?_
  refine E.aload_n C dX3_readAll_12 rfl rfl ?_
  refine E.iconst C dX3_readAll_13 (by decide) ?_
  refine N.putI C fp_X3_28 rfl dX3_readAll_14 kd_50 ?_
  refine E.aload_n C dX3_readAll_17 rfl rfl ?_
  refine E.iconst C dX3_readAll_18 (by decide) ?_
  refine N.putZ C fp_X3_31 rfl dX3_readAll_19 kd_50 (by omega) ?_
  refine E.aload_n C dX3_readAll_22 rfl rfl ?_
  refine E.iconst C dX3_readAll_23 (by decide) ?_
  refine N.putI C fp_X3_35 rfl dX3_readAll_24 kd_50 ?_
  refine E.aload_n C dX3_readAll_27 rfl rfl ?_
  refine E.iconst C dX3_readAll_28 (by decide) ?_
  refine N.putI C fp_X3_38 rfl dX3_readAll_29 kd_50 ?_
  refine E.aload_n C dX3_readAll_32 rfl rfl ?_
  refine E.iconst C dX3_readAll_33 (by decide) ?_
  refine N.putI C fp_X3_41 rfl dX3_readAll_34 kd_50 ?_
  refine E.aload_n C dX3_readAll_37 rfl rfl ?_
  refine E.iconst C dX3_readAll_38 (by decide) ?_
  refine N.putI C fp_X3_44 rfl dX3_readAll_39 kd_50 ?_
  refine E.iconst C dX3_readAll_42 (by decide) ?_
  refine N.ist_1 C dX3_readAll_43 (hN 1 (by decide)) rfl ?_
  have lp44 : ∀ (k44 : Nat) (n : Int) (w : VT), (401 - n).toNat = k44 → (FrV v w ∧ 0 ≤ n ∧ n ≤ w 50 2 ∧ w 50 2 ≤ L ∧ w 50 10 = 0 ∧ w 50 11 = 0 ∧ BdB (shV w) ∧ parN f L (401 - n).toNat (w 50 2) (shV w) n = parN f L 401 0 (strtB (shV v)) 0) → E X G 0 0 1000 w 44 [some (vr 50), some (vi n)] [] := by
    intro k44
    induction k44 using Nat.strongRecOn with
    | ind k44 ih44 =>
      intro n w hk44 hI44
      obtain ⟨hF, hn0, hn1, hn2, hw10, hw11, hbd, hpar⟩ := hI44
      have hTw := hT.fv hF
      rw [par_s ⟨hn0, by omega⟩] at hpar
      refine E.iload_n C dX3_readAll_44 rfl rfl ?_
      refine E.sipush C dX3_readAll_45 (by decide) ?_
      refine E.icmp_gt C dX3_readAll_48 (tgt := 78) (by decide) (fun h48 => by exfalso; omega) (fun h48 => ?_)
      refine E.aload_n C dX3_readAll_51 rfl rfl ?_
      refine N.callVv (S := []) (As := []) C hX (ok_X3_nextToken G f L w (by assumption) (by omega)) yf_X3_nextToken yv_X3_nextToken ml_X3_47 rfl rfl rfl kd_50 (by decide) (by decide) (Nat.le_of_ble_eq_true rfl) dX3_readAll_52 rfl (fun w52 hp52 => ?_)
      have hq52 := hp52
      obtain ⟨hF52, hk52, hs52, he52, hv52⟩ := hq52
      have hT52 := hTw.fn hF52
      have hs52w : shV w52 = shV w := sh_fr hF52.toR
      have h520 : w52 50 10 = w 50 10 := hF52 50 10 (by decide)
      have h521 : w52 50 11 = w 50 11 := hF52 50 11 (by decide)
      refine E.aload_n C dX3_readAll_55 rfl rfl ?_
      refine N.getI C fa_X3_50 rfl dX3_readAll_56 kd_50 (x := w52 50 3) rfl ?_
      refine E.if_eq C dX3_readAll_59 (tgt := 78) (by decide) (fun h59 => ?_) (fun h59 => ?_)
      · skip
        refine E.aload_n C dX3_readAll_78 rfl rfl ?_
        refine N.getI C fa_X3_41 rfl dX3_readAll_79 kd_50 (x := w52 50 10) rfl ?_
        refine E.if_ne C dX3_readAll_82 (tgt := 120) (by decide) (fun h82 => ?_) (fun h82 => ?_)
        · skip
          refine E.iload_n C dX3_readAll_120 rfl rfl ?_
          exact N.iret C hR dX3_readAll_121 (fun hi hx => by first | (exfalso; have hb := hp63.2.bad h66; omega) | (have hb := hp63.2.bad h66; rw [par_2 (by omega) (by rw [← hs52w]; exact hb.1)] at hpar; rw [← hpar, ← hs52w]; exact ⟨(hF.tr hF52.toR.toV).tr hp63.1, hb.2.1, fun _ => hb.2.2, fun z => absurd z hb.1⟩) | (exfalso; omega) | (have g4 : w52 27 4 = w 27 4 := hF52 27 4 (by decide); have g5 : w52 27 5 = w 27 5 := hF52 27 5 (by decide); have g8 : w52 50 8 = w 50 8 := hF52 50 8 (by decide); have g9 : w52 50 9 = w 50 9 := hF52 50 9 (by decide); rw [par_0 (by omega), if_pos (by rw [sh04, sh05, sh28, sh29]; omega)] at hpar; rw [← hpar]; exact ⟨FrV.up (by decide) (FrV.up (by decide) (hF.tr hF52.toR.toV)), (ux_ne (by decide)).trans (ux_at rfl), fun _ => (ux_at rfl).trans hs52, fun z => absurd (show (6 : Int) = 0 from z) (by decide)⟩) | (have g4 : w52 27 4 = w 27 4 := hF52 27 4 (by decide); have g5 : w52 27 5 = w 27 5 := hF52 27 5 (by decide); have g8 : w52 50 8 = w 50 8 := hF52 50 8 (by decide); have g9 : w52 50 9 = w 50 9 := hF52 50 9 (by decide); rw [par_0 (by omega), if_neg (by rw [sh04, sh05, sh28, sh29]; omega)] at hpar; rw [← hpar]; exact ⟨hF.tr hF52.toR.toV, h520.trans hw10, fun z => absurd rfl z, fun _ => ⟨rfl, hs52w⟩⟩))
        · skip
          refine E.aload_n C dX3_readAll_85 rfl rfl ?_
          refine N.getI C fa_X3_35 rfl dX3_readAll_86 kd_50 (x := w52 50 8) rfl ?_
          refine E.aload_n C dX3_readAll_89 rfl rfl ?_
          refine N.getR C fa_X3_15 rfl dX3_readAll_90 kd_50 (x := 27) (by decide +kernel) (by decide) ?_
          refine N.getI C fa_X3_57 rfl dX3_readAll_93 (kdV hv27) (x := w52 27 4) rfl ?_
          refine E.icmp_gt C dX3_readAll_96 (tgt := 113) (by decide) (fun h96 => ?_) (fun h96 => ?_)
          · skip
            refine E.aload_n C dX3_readAll_113 rfl rfl ?_
            refine E.bipush C dX3_readAll_114 (by decide) ?_
            refine N.callVd (S := []) (As := [vi 6]) C hX (ok_X3_refuse G 6 w52) yf_X3_refuse yv_X3_refuse ml_X3_63 rfl rfl rfl kd_50 (by decide) (by decide) (Nat.le_of_ble_eq_true rfl) dX3_readAll_116 rfl ?_
            refine E.popI C dX3_readAll_119 ?_
            refine E.iload_n C dX3_readAll_120 rfl rfl ?_
            exact N.iret C hR dX3_readAll_121 (fun hi hx => by first | (exfalso; have hb := hp63.2.bad h66; omega) | (have hb := hp63.2.bad h66; rw [par_2 (by omega) (by rw [← hs52w]; exact hb.1)] at hpar; rw [← hpar, ← hs52w]; exact ⟨(hF.tr hF52.toR.toV).tr hp63.1, hb.2.1, fun _ => hb.2.2, fun z => absurd z hb.1⟩) | (exfalso; omega) | (have g4 : w52 27 4 = w 27 4 := hF52 27 4 (by decide); have g5 : w52 27 5 = w 27 5 := hF52 27 5 (by decide); have g8 : w52 50 8 = w 50 8 := hF52 50 8 (by decide); have g9 : w52 50 9 = w 50 9 := hF52 50 9 (by decide); rw [par_0 (by omega), if_pos (by rw [sh04, sh05, sh28, sh29]; omega)] at hpar; rw [← hpar]; exact ⟨FrV.up (by decide) (FrV.up (by decide) (hF.tr hF52.toR.toV)), (ux_ne (by decide)).trans (ux_at rfl), fun _ => (ux_at rfl).trans hs52, fun z => absurd (show (6 : Int) = 0 from z) (by decide)⟩) | (have g4 : w52 27 4 = w 27 4 := hF52 27 4 (by decide); have g5 : w52 27 5 = w 27 5 := hF52 27 5 (by decide); have g8 : w52 50 8 = w 50 8 := hF52 50 8 (by decide); have g9 : w52 50 9 = w 50 9 := hF52 50 9 (by decide); rw [par_0 (by omega), if_neg (by rw [sh04, sh05, sh28, sh29]; omega)] at hpar; rw [← hpar]; exact ⟨hF.tr hF52.toR.toV, h520.trans hw10, fun z => absurd rfl z, fun _ => ⟨rfl, hs52w⟩⟩))
          · skip
            refine E.aload_n C dX3_readAll_99 rfl rfl ?_
            refine N.getI C fa_X3_38 rfl dX3_readAll_100 kd_50 (x := w52 50 9) rfl ?_
            refine E.aload_n C dX3_readAll_103 rfl rfl ?_
            refine N.getR C fa_X3_15 rfl dX3_readAll_104 kd_50 (x := 27) (by decide +kernel) (by decide) ?_
            refine N.getI C fa_X3_60 rfl dX3_readAll_107 (kdV hv27) (x := w52 27 5) rfl ?_
            refine E.icmp_le C dX3_readAll_110 (tgt := 120) (by decide) (fun h110 => ?_) (fun h110 => ?_)
            · skip
              refine E.iload_n C dX3_readAll_120 rfl rfl ?_
              exact N.iret C hR dX3_readAll_121 (fun hi hx => by first | (exfalso; have hb := hp63.2.bad h66; omega) | (have hb := hp63.2.bad h66; rw [par_2 (by omega) (by rw [← hs52w]; exact hb.1)] at hpar; rw [← hpar, ← hs52w]; exact ⟨(hF.tr hF52.toR.toV).tr hp63.1, hb.2.1, fun _ => hb.2.2, fun z => absurd z hb.1⟩) | (exfalso; omega) | (have g4 : w52 27 4 = w 27 4 := hF52 27 4 (by decide); have g5 : w52 27 5 = w 27 5 := hF52 27 5 (by decide); have g8 : w52 50 8 = w 50 8 := hF52 50 8 (by decide); have g9 : w52 50 9 = w 50 9 := hF52 50 9 (by decide); rw [par_0 (by omega), if_pos (by rw [sh04, sh05, sh28, sh29]; omega)] at hpar; rw [← hpar]; exact ⟨FrV.up (by decide) (FrV.up (by decide) (hF.tr hF52.toR.toV)), (ux_ne (by decide)).trans (ux_at rfl), fun _ => (ux_at rfl).trans hs52, fun z => absurd (show (6 : Int) = 0 from z) (by decide)⟩) | (have g4 : w52 27 4 = w 27 4 := hF52 27 4 (by decide); have g5 : w52 27 5 = w 27 5 := hF52 27 5 (by decide); have g8 : w52 50 8 = w 50 8 := hF52 50 8 (by decide); have g9 : w52 50 9 = w 50 9 := hF52 50 9 (by decide); rw [par_0 (by omega), if_neg (by rw [sh04, sh05, sh28, sh29]; omega)] at hpar; rw [← hpar]; exact ⟨hF.tr hF52.toR.toV, h520.trans hw10, fun z => absurd rfl z, fun _ => ⟨rfl, hs52w⟩⟩))
            · skip
              refine E.aload_n C dX3_readAll_113 rfl rfl ?_
              refine E.bipush C dX3_readAll_114 (by decide) ?_
              refine N.callVd (S := []) (As := [vi 6]) C hX (ok_X3_refuse G 6 w52) yf_X3_refuse yv_X3_refuse ml_X3_63 rfl rfl rfl kd_50 (by decide) (by decide) (Nat.le_of_ble_eq_true rfl) dX3_readAll_116 rfl ?_
              refine E.popI C dX3_readAll_119 ?_
              refine E.iload_n C dX3_readAll_120 rfl rfl ?_
              exact N.iret C hR dX3_readAll_121 (fun hi hx => by first | (exfalso; have hb := hp63.2.bad h66; omega) | (have hb := hp63.2.bad h66; rw [par_2 (by omega) (by rw [← hs52w]; exact hb.1)] at hpar; rw [← hpar, ← hs52w]; exact ⟨(hF.tr hF52.toR.toV).tr hp63.1, hb.2.1, fun _ => hb.2.2, fun z => absurd z hb.1⟩) | (exfalso; omega) | (have g4 : w52 27 4 = w 27 4 := hF52 27 4 (by decide); have g5 : w52 27 5 = w 27 5 := hF52 27 5 (by decide); have g8 : w52 50 8 = w 50 8 := hF52 50 8 (by decide); have g9 : w52 50 9 = w 50 9 := hF52 50 9 (by decide); rw [par_0 (by omega), if_pos (by rw [sh04, sh05, sh28, sh29]; omega)] at hpar; rw [← hpar]; exact ⟨FrV.up (by decide) (FrV.up (by decide) (hF.tr hF52.toR.toV)), (ux_ne (by decide)).trans (ux_at rfl), fun _ => (ux_at rfl).trans hs52, fun z => absurd (show (6 : Int) = 0 from z) (by decide)⟩) | (have g4 : w52 27 4 = w 27 4 := hF52 27 4 (by decide); have g5 : w52 27 5 = w 27 5 := hF52 27 5 (by decide); have g8 : w52 50 8 = w 50 8 := hF52 50 8 (by decide); have g9 : w52 50 9 = w 50 9 := hF52 50 9 (by decide); rw [par_0 (by omega), if_neg (by rw [sh04, sh05, sh28, sh29]; omega)] at hpar; rw [← hpar]; exact ⟨hF.tr hF52.toR.toV, h520.trans hw10, fun z => absurd rfl z, fun _ => ⟨rfl, hs52w⟩⟩))
      · skip
        refine E.aload_n C dX3_readAll_62 rfl rfl ?_
        refine N.callVi (S := []) (As := []) C hX (ok_X3_takeLine G f L (w 50 2) w52 hT52 (by omega) hk52 hs52 he52 (by rw [hs52w]; exact hbd)) yf_X3_takeLine yv_X3_takeLine ml_X3_53 rfl rfl rfl kd_50 (by decide) (by decide) (Nat.le_of_ble_eq_true rfl) dX3_readAll_63 rfl (fun t63 w63 hb63 hp63 => ?_)
        refine E.if_ne C dX3_readAll_66 (tgt := 72) (by decide) (fun h66 => ?_) (fun h66 => ?_)
        · skip
          obtain ⟨hz, h60, h61, hE63, hsh⟩ := hp63.2.good h66
          rw [hs52w] at hsh
          have hadv := lin_adv (f := f) (L := L) (q := w 50 2) (B := shV w) (by omega) (by rw [← hs52w]; exact hz)
          refine N.iinc_1 C dX3_readAll_72 (hN 1 (by decide)) rfl (by omega) ?_
          refine E.goto C dX3_readAll_75 (tgt := 44) (by decide) ?_
          exact ih44 _ (by omega) (n + 1) w63 rfl (by exact ⟨(hF.tr hF52.toR.toV).tr hp63.1, by omega, by omega, by omega, h60.trans (h520.trans hw10), h61.trans (h521.trans hw11), by rw [hsh]; exact lin_bd hbd (by rw [← hs52w]; exact hz), by rw [hE63, hsh]; rw [par_1 (by omega) (by rw [← hs52w]; exact hz)] at hpar; exact hpar⟩)
        · skip
          refine E.goto C dX3_readAll_69 (tgt := 78) (by decide) ?_
          refine E.aload_n C dX3_readAll_78 rfl rfl ?_
          refine N.getI C fa_X3_41 rfl dX3_readAll_79 kd_50 (x := w63 50 10) rfl ?_
          refine E.if_ne C dX3_readAll_82 (tgt := 120) (by decide) (fun h82 => ?_) (fun h82 => ?_)
          · skip
            refine E.iload_n C dX3_readAll_120 rfl rfl ?_
            exact N.iret C hR dX3_readAll_121 (fun hi hx => by first | (exfalso; have hb := hp63.2.bad h66; omega) | (have hb := hp63.2.bad h66; rw [par_2 (by omega) (by rw [← hs52w]; exact hb.1)] at hpar; rw [← hpar, ← hs52w]; exact ⟨(hF.tr hF52.toR.toV).tr hp63.1, hb.2.1, fun _ => hb.2.2, fun z => absurd z hb.1⟩) | (exfalso; omega) | (have g4 : w52 27 4 = w 27 4 := hF52 27 4 (by decide); have g5 : w52 27 5 = w 27 5 := hF52 27 5 (by decide); have g8 : w52 50 8 = w 50 8 := hF52 50 8 (by decide); have g9 : w52 50 9 = w 50 9 := hF52 50 9 (by decide); rw [par_0 (by omega), if_pos (by rw [sh04, sh05, sh28, sh29]; omega)] at hpar; rw [← hpar]; exact ⟨FrV.up (by decide) (FrV.up (by decide) (hF.tr hF52.toR.toV)), (ux_ne (by decide)).trans (ux_at rfl), fun _ => (ux_at rfl).trans hs52, fun z => absurd (show (6 : Int) = 0 from z) (by decide)⟩) | (have g4 : w52 27 4 = w 27 4 := hF52 27 4 (by decide); have g5 : w52 27 5 = w 27 5 := hF52 27 5 (by decide); have g8 : w52 50 8 = w 50 8 := hF52 50 8 (by decide); have g9 : w52 50 9 = w 50 9 := hF52 50 9 (by decide); rw [par_0 (by omega), if_neg (by rw [sh04, sh05, sh28, sh29]; omega)] at hpar; rw [← hpar]; exact ⟨hF.tr hF52.toR.toV, h520.trans hw10, fun z => absurd rfl z, fun _ => ⟨rfl, hs52w⟩⟩))
          · skip
            refine E.aload_n C dX3_readAll_85 rfl rfl ?_
            refine N.getI C fa_X3_35 rfl dX3_readAll_86 kd_50 (x := w63 50 8) rfl ?_
            refine E.aload_n C dX3_readAll_89 rfl rfl ?_
            refine N.getR C fa_X3_15 rfl dX3_readAll_90 kd_50 (x := 27) (by decide +kernel) (by decide) ?_
            refine N.getI C fa_X3_57 rfl dX3_readAll_93 (kdV hv27) (x := w63 27 4) rfl ?_
            refine E.icmp_gt C dX3_readAll_96 (tgt := 113) (by decide) (fun h96 => ?_) (fun h96 => ?_)
            · skip
              refine E.aload_n C dX3_readAll_113 rfl rfl ?_
              refine E.bipush C dX3_readAll_114 (by decide) ?_
              refine N.callVd (S := []) (As := [vi 6]) C hX (ok_X3_refuse G 6 w63) yf_X3_refuse yv_X3_refuse ml_X3_63 rfl rfl rfl kd_50 (by decide) (by decide) (Nat.le_of_ble_eq_true rfl) dX3_readAll_116 rfl ?_
              refine E.popI C dX3_readAll_119 ?_
              refine E.iload_n C dX3_readAll_120 rfl rfl ?_
              exact N.iret C hR dX3_readAll_121 (fun hi hx => by first | (exfalso; have hb := hp63.2.bad h66; omega) | (have hb := hp63.2.bad h66; rw [par_2 (by omega) (by rw [← hs52w]; exact hb.1)] at hpar; rw [← hpar, ← hs52w]; exact ⟨(hF.tr hF52.toR.toV).tr hp63.1, hb.2.1, fun _ => hb.2.2, fun z => absurd z hb.1⟩) | (exfalso; omega) | (have g4 : w52 27 4 = w 27 4 := hF52 27 4 (by decide); have g5 : w52 27 5 = w 27 5 := hF52 27 5 (by decide); have g8 : w52 50 8 = w 50 8 := hF52 50 8 (by decide); have g9 : w52 50 9 = w 50 9 := hF52 50 9 (by decide); rw [par_0 (by omega), if_pos (by rw [sh04, sh05, sh28, sh29]; omega)] at hpar; rw [← hpar]; exact ⟨FrV.up (by decide) (FrV.up (by decide) (hF.tr hF52.toR.toV)), (ux_ne (by decide)).trans (ux_at rfl), fun _ => (ux_at rfl).trans hs52, fun z => absurd (show (6 : Int) = 0 from z) (by decide)⟩) | (have g4 : w52 27 4 = w 27 4 := hF52 27 4 (by decide); have g5 : w52 27 5 = w 27 5 := hF52 27 5 (by decide); have g8 : w52 50 8 = w 50 8 := hF52 50 8 (by decide); have g9 : w52 50 9 = w 50 9 := hF52 50 9 (by decide); rw [par_0 (by omega), if_neg (by rw [sh04, sh05, sh28, sh29]; omega)] at hpar; rw [← hpar]; exact ⟨hF.tr hF52.toR.toV, h520.trans hw10, fun z => absurd rfl z, fun _ => ⟨rfl, hs52w⟩⟩))
            · skip
              refine E.aload_n C dX3_readAll_99 rfl rfl ?_
              refine N.getI C fa_X3_38 rfl dX3_readAll_100 kd_50 (x := w63 50 9) rfl ?_
              refine E.aload_n C dX3_readAll_103 rfl rfl ?_
              refine N.getR C fa_X3_15 rfl dX3_readAll_104 kd_50 (x := 27) (by decide +kernel) (by decide) ?_
              refine N.getI C fa_X3_60 rfl dX3_readAll_107 (kdV hv27) (x := w63 27 5) rfl ?_
              refine E.icmp_le C dX3_readAll_110 (tgt := 120) (by decide) (fun h110 => ?_) (fun h110 => ?_)
              · skip
                refine E.iload_n C dX3_readAll_120 rfl rfl ?_
                exact N.iret C hR dX3_readAll_121 (fun hi hx => by first | (exfalso; have hb := hp63.2.bad h66; omega) | (have hb := hp63.2.bad h66; rw [par_2 (by omega) (by rw [← hs52w]; exact hb.1)] at hpar; rw [← hpar, ← hs52w]; exact ⟨(hF.tr hF52.toR.toV).tr hp63.1, hb.2.1, fun _ => hb.2.2, fun z => absurd z hb.1⟩) | (exfalso; omega) | (have g4 : w52 27 4 = w 27 4 := hF52 27 4 (by decide); have g5 : w52 27 5 = w 27 5 := hF52 27 5 (by decide); have g8 : w52 50 8 = w 50 8 := hF52 50 8 (by decide); have g9 : w52 50 9 = w 50 9 := hF52 50 9 (by decide); rw [par_0 (by omega), if_pos (by rw [sh04, sh05, sh28, sh29]; omega)] at hpar; rw [← hpar]; exact ⟨FrV.up (by decide) (FrV.up (by decide) (hF.tr hF52.toR.toV)), (ux_ne (by decide)).trans (ux_at rfl), fun _ => (ux_at rfl).trans hs52, fun z => absurd (show (6 : Int) = 0 from z) (by decide)⟩) | (have g4 : w52 27 4 = w 27 4 := hF52 27 4 (by decide); have g5 : w52 27 5 = w 27 5 := hF52 27 5 (by decide); have g8 : w52 50 8 = w 50 8 := hF52 50 8 (by decide); have g9 : w52 50 9 = w 50 9 := hF52 50 9 (by decide); rw [par_0 (by omega), if_neg (by rw [sh04, sh05, sh28, sh29]; omega)] at hpar; rw [← hpar]; exact ⟨hF.tr hF52.toR.toV, h520.trans hw10, fun z => absurd rfl z, fun _ => ⟨rfl, hs52w⟩⟩))
              · skip
                refine E.aload_n C dX3_readAll_113 rfl rfl ?_
                refine E.bipush C dX3_readAll_114 (by decide) ?_
                refine N.callVd (S := []) (As := [vi 6]) C hX (ok_X3_refuse G 6 w63) yf_X3_refuse yv_X3_refuse ml_X3_63 rfl rfl rfl kd_50 (by decide) (by decide) (Nat.le_of_ble_eq_true rfl) dX3_readAll_116 rfl ?_
                refine E.popI C dX3_readAll_119 ?_
                refine E.iload_n C dX3_readAll_120 rfl rfl ?_
                exact N.iret C hR dX3_readAll_121 (fun hi hx => by first | (exfalso; have hb := hp63.2.bad h66; omega) | (have hb := hp63.2.bad h66; rw [par_2 (by omega) (by rw [← hs52w]; exact hb.1)] at hpar; rw [← hpar, ← hs52w]; exact ⟨(hF.tr hF52.toR.toV).tr hp63.1, hb.2.1, fun _ => hb.2.2, fun z => absurd z hb.1⟩) | (exfalso; omega) | (have g4 : w52 27 4 = w 27 4 := hF52 27 4 (by decide); have g5 : w52 27 5 = w 27 5 := hF52 27 5 (by decide); have g8 : w52 50 8 = w 50 8 := hF52 50 8 (by decide); have g9 : w52 50 9 = w 50 9 := hF52 50 9 (by decide); rw [par_0 (by omega), if_pos (by rw [sh04, sh05, sh28, sh29]; omega)] at hpar; rw [← hpar]; exact ⟨FrV.up (by decide) (FrV.up (by decide) (hF.tr hF52.toR.toV)), (ux_ne (by decide)).trans (ux_at rfl), fun _ => (ux_at rfl).trans hs52, fun z => absurd (show (6 : Int) = 0 from z) (by decide)⟩) | (have g4 : w52 27 4 = w 27 4 := hF52 27 4 (by decide); have g5 : w52 27 5 = w 27 5 := hF52 27 5 (by decide); have g8 : w52 50 8 = w 50 8 := hF52 50 8 (by decide); have g9 : w52 50 9 = w 50 9 := hF52 50 9 (by decide); rw [par_0 (by omega), if_neg (by rw [sh04, sh05, sh28, sh29]; omega)] at hpar; rw [← hpar]; exact ⟨hF.tr hF52.toR.toV, h520.trans hw10, fun z => absurd rfl z, fun _ => ⟨rfl, hs52w⟩⟩))
  exact lp44 _ 0 (upd2 (upd2 (upd2 (upd2 (upd2 (upd2 (upd2 (fillF (upd2 (upd2 (upd2 v 27 4 0) 27 5 0) 27 6 0) (27 + 3) 0 80) 50 2 0) 50 6 2) 50 7 0) 50 8 0) 50 9 0) 50 10 0) 50 11 0) rfl (by refine ⟨FrV.up (by decide) (FrV.up (by decide) (FrV.up (by decide) (FrV.up (by decide) (FrV.up (by decide) (FrV.up (by decide) (FrV.up (by decide) (fun a j g => ?_))))))), Int.le_refl 0, ?_, ?_, ?_, ux_at rfl, ?_, ?_⟩; (rw [congrFun (fillF_row (by omega)) j, ux_ne (by omega), ux_ne (by omega), ux_ne (by omega)]); (rw [ux_ne (by decide), ux_ne (by decide), ux_ne (by decide), ux_ne (by decide), ux_ne (by decide), ux_ne (by decide), ux_at rfl]; omega); (rw [ux_ne (by decide), ux_ne (by decide), ux_ne (by decide), ux_ne (by decide), ux_ne (by decide), ux_ne (by decide), ux_at rfl]; omega); (rw [ux_ne (by decide), ux_at rfl]); (rw [sh_strt]; exact strt_bd); (rw [sh_strt, ux_ne (by decide), ux_ne (by decide), ux_ne (by decide), ux_ne (by decide), ux_ne (by decide), ux_ne (by decide), ux_at rfl]; rfl))
