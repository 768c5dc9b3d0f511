set_option maxHeartbeats 4000000 in
set_option maxRecDepth 20000 in
theorem ok_X9_findMost (G : GT) (v : VT) (hc : 0 ≤ v 119 16 ∧ v 119 16 ≤ 8) : MNi G yX9_findMost cX9_findMost 3 (some .int) 2 53 [vr 119] v (fun x w => (∀ a j, (a < 125 ∨ 128 < a) → w a j = v a j) ∧ Con (w 125) (w 126) (v 119 16) 20 ∧ MaxM (v 119 16) (mayT (v 124) 20) x (w 125)) := by
  refine MN.of pn_X9_findMost [some (vr 119), none, none] 2 rfl rfl (fun X C hX hn hR => ?_)
  have hN : ∀ i : Nat, i < 3 → i < xn X := fun i h => by rw [hn]; exact h
  refine E.rngk (fun hinv => ?_)
  refine E.loc (fun hloc => ?_)
  refine E.iconst C dX9_findMost_0 (by decide) ?_
  refine N.ist_1 C dX9_findMost_1 (hN 1 (by decide)) rfl ?_
  refine E.iconst C dX9_findMost_2 (by decide) ?_
  refine N.ist_2 C dX9_findMost_3 (hN 2 (by decide)) rfl ?_
  have lp4 : ∀ (k4 : Nat) (t : Int), (8 - t).toNat = k4 → (0 ≤ t ∧ t ≤ 8) → E X G 0 0 1000 (fillF v 125 (-4) t) 4 [some (vr 119), some (vi 0), some (vi t)] [] := by
    intro k4
    induction k4 using Nat.strongRecOn with
    | ind k4 ih4 =>
      intro t hk4 hI4
      obtain ⟨ha0, ha1⟩ := hI4
      refine E.iload_n C dX9_findMost_4 rfl rfl ?_
      refine E.bipush C dX9_findMost_5 (by decide) ?_
      refine E.icmp_ge C dX9_findMost_7 (tgt := 24) (by decide) (fun h7 => ?_) (fun h7 => ?_)
      · skip
        refine E.iconst C dX9_findMost_24 (by decide) ?_
        refine N.ist_2 C dX9_findMost_25 (hN 2 (by decide)) rfl ?_
        have lp26 : ∀ (k26 : Nat) (u : Int), (20 - u).toNat = k26 → (0 ≤ u ∧ u ≤ 20) → E X G 0 0 1000 (fillF (fillF v 125 (-4) 8) 126 (-4) u) 26 [some (vr 119), some (vi 0), some (vi u)] [] := by
          intro k26
          induction k26 using Nat.strongRecOn with
          | ind k26 ih26 =>
            intro u hk26 hI26
            obtain ⟨hb0, hb1⟩ := hI26
            refine E.iload_n C dX9_findMost_26 rfl rfl ?_
            refine E.bipush C dX9_findMost_27 (by decide) ?_
            refine E.icmp_ge C dX9_findMost_29 (tgt := 46) (by decide) (fun h29 => ?_) (fun h29 => ?_)
            · skip
              refine E.iconst C dX9_findMost_46 (by decide) ?_
              refine N.ist_2 C dX9_findMost_47 (hN 2 (by decide)) rfl ?_
              have lp48 : ∀ (k48 : Nat) (x : Int) (c : Int) (w : VT), (v 119 16 - c).toNat = k48 → (0 ≤ c ∧ c ≤ v 119 16 ∧ (∀ a j, (a < 125 ∨ 128 < a) → w a j = v a j) ∧ Con (w 125) (w 126) (v 119 16) 20 ∧ Leg (w 125) (v 124) (v 119 16) ∧ x = wrmN (v 119 16) 0 (w 125) ∧ (∀ d, c ≤ d → d < v 119 16 → w 125 d = -4) ∧ ∃ R, CertI (w 125) (w 126) (v 124) (v 119 16) 20 c R) → E X G 0 0 1000 w 48 [some (vr 119), some (vi x), some (vi c)] [] := by
                intro k48
                induction k48 using Nat.strongRecOn with
                | ind k48 ih48 =>
                  intro x c w hk48 hI48
                  obtain ⟨hc0, hc1, hfr, hcn, hlg, hxw, hcold, R, hct⟩ := hI48; have e16 : w 119 16 = v 119 16 := hfr _ _ (by decide); have e124 : w 124 = v 124 := funext (fun j => hfr _ _ (by decide)); have hwl := wrm_le (v 119 16) 0 (w 125) hc.1
                  refine E.iload_n C dX9_findMost_48 rfl rfl ?_
                  refine E.aload_n C dX9_findMost_49 rfl rfl ?_
                  refine N.getI C fa_X9_223 rfl dX9_findMost_50 kd_119 (x := v 119 16) (hfr _ _ (by decide)) ?_
                  refine E.icmp_ge C dX9_findMost_53 (tgt := 74) (by decide) (fun h53 => ?_) (fun h53 => ?_)
                  · skip
                    refine E.iload_n C dX9_findMost_74 rfl rfl ?_
                    exact N.iret C hR dX9_findMost_75 (fun hi hx => by have e : c = v 119 16 := (by omega); subst e; exact ⟨hfr, hcn, by rw [hxw]; exact cert_end hcn hlg hct⟩)
                  · skip
                    refine E.iload_n C dX9_findMost_56 rfl rfl ?_
                    refine E.aload_n C dX9_findMost_57 rfl rfl ?_
                    refine E.iload_n C dX9_findMost_58 rfl rfl ?_
                    refine E.iconst C dX9_findMost_59 (by decide) ?_
                    refine N.callVi (S := [vi x]) (As := [vi c, vi 0]) C hX (ok_X9_getsOne G c 0 R w (by rw [e16]; exact hc) (by rw [e16]; exact hcn) (by rw [e16]; omega) (hcold c (Int.le_refl _) (by omega)) (by rw [e124]; exact hct.2.2) (fun d hd hz => by have := (hct.2.1 d hd).2.2; rw [hz, hcold c (Int.le_refl _) (by omega)] at this; omega)) yf_X9_getsOne yv_X9_getsOne ml_X9_229 rfl rfl rfl kd_119 (by decide) (by decide) (Nat.le_of_ble_eq_true rfl) dX9_findMost_60 rfl (fun t60 w60 hb60 hp60 => ?_)
                    have hq60 := hp60.2
                    rw [e16, e124] at hq60
                    have hr60 : t60 = 0 ∨ t60 = 1 := by
                      rcases hq60 with hq | hq
                      · exact Or.inl hq.1
                      · exact Or.inr hq.1
                    refine N.callSp (S := [vi x]) (As := [vi t60]) C hX (ok_X9_flag G t60 w60 hr60) yf_X9_flag yv_X9_flag ml_X9_219 rfl (by decide) (Nat.le_of_ble_eq_true rfl) dX9_findMost_63 rfl ?_
                    refine E.iadd C dX9_findMost_66 (by omega) ?_
                    refine N.ist_1 C dX9_findMost_67 (hN 1 (by decide)) rfl ?_
                    refine N.iinc_2 C dX9_findMost_68 (hN 2 (by decide)) rfl (by omega) ?_
                    refine E.goto C dX9_findMost_71 (tgt := 48) (by decide) ?_
                    exact ih48 _ (by omega) (x + t60) (c + 1) w60 rfl (by rcases hq60 with ⟨q1, q2, q3, q4⟩ | ⟨q1, q2, q3, q4⟩; (rw [q1, q2, q3]; refine ⟨by omega, by omega, fun a j g => (hp60.1 a j g).trans (hfr a j g), hcn, hlg, by omega, fun d g1 g2 => hcold d (by omega) g2, cert_fail hct q4⟩); (have hcd := flip_cold q3 (hcold c (Int.le_refl _) (by omega)) q2; exact ⟨by omega, by omega, fun a j g => (hp60.1 a j g).trans (hfr a j g), q2.1, flip_leg q2 hlg, by rw [flip_cnt q2 hc0]; omega, fun d g1 g2 => (hcd d (by omega)).mpr (hcold d (by omega) g2), R, cert_flip hct hcn q2.1 q4 q3 hcd⟩))
              exact lp48 _ 0 0 (fillF (fillF v 125 (-4) 8) 126 (-4) u) rfl (by have e : u = 20 := (by omega); subst e; obtain ⟨f1, f2, f3⟩ := fill2 (v := v); exact ⟨by omega, by omega, fun a j g => f3 a j (by omega) (by omega), ⟨fun d g1 g2 => Or.inl (f1 d g1 (by omega)), fun y g1 g2 => Or.inl (f2 y g1 g2)⟩, fun d g1 g2 g3 => absurd (f1 d g1 (by omega)) g3, (wrm_0 (fun d g1 g2 => f1 d g1 (by omega))).symm, fun d g1 g2 => f1 d (by omega) (by omega), _, cert_0⟩)
            · skip
              refine E.aload_n C dX9_findMost_32 rfl rfl ?_
              refine N.getR C fa_X9_29 rfl dX9_findMost_33 kd_119 (x := 126) (by decide +kernel) (by decide) ?_
              refine E.iload_n C dX9_findMost_36 rfl rfl ?_
              refine E.bipush C dX9_findMost_37 (by decide) ?_
              refine N.iast C dX9_findMost_39 kd_126 ln_126 (by omega) ?_
              refine N.iinc_2 C dX9_findMost_40 (hN 2 (by decide)) rfl (by omega) ?_
              refine E.goto C dX9_findMost_43 (tgt := 26) (by decide) ?_
              refine E.heq (h' := fillF (fillF v 125 (-4) 8) 126 (-4) (u + 1)) (fillF_s hb0) ?_
              exact ih26 _ (by omega) (u + 1) rfl (by omega)
        refine E.heq (h' := fillF (fillF v 125 (-4) 8) 126 (-4) 0) (by rw [show t = 8 by omega]; exact fillF_0) ?_
        exact lp26 _ 0 rfl (by omega)
      · skip
        refine E.aload_n C dX9_findMost_10 rfl rfl ?_
        refine N.getR C fa_X9_26 rfl dX9_findMost_11 kd_119 (x := 125) (by decide +kernel) (by decide) ?_
        refine E.iload_n C dX9_findMost_14 rfl rfl ?_
        refine E.bipush C dX9_findMost_15 (by decide) ?_
        refine N.iast C dX9_findMost_17 kd_125 ln_125 (by omega) ?_
        refine N.iinc_2 C dX9_findMost_18 (hN 2 (by decide)) rfl (by omega) ?_
        refine E.goto C dX9_findMost_21 (tgt := 4) (by decide) ?_
        refine E.heq (h' := fillF v 125 (-4) (t + 1)) (fillF_s ha0) ?_
        exact ih4 _ (by omega) (t + 1) rfl (by omega)
  refine E.heq (h' := fillF v 125 (-4) 0) (fillF_0) ?_
  exact lp4 _ 0 rfl (by omega)

set_option maxHeartbeats 4000000 in
set_option maxRecDepth 20000 in
theorem ok_X9_canGet (G : GT) (c t sd W : Int) (v : VT) (hc : 0 ≤ v 119 16 ∧ v 119 16 ≤ 8) (hcon : Con (v 125) (v 126) (v 119 16) 20) (hM : MaxM (v 119 16) (mayT (v 124) 20) W (v 125)) (hcc : 0 ≤ c ∧ c < v 119 16) (htt : 0 ≤ t ∧ t < 20) (hsd : Sd (v 125) sd c) (hst : bt sd t = false) (hm : bt (v 124 c) t = true) : MNi G yX9_canGet cX9_canGet 8 (some .boolean) 2 53 [vr 119, vi c, vi t, vi sd] v (fun r w => (∀ a j, (a < 125 ∨ 130 < a) → w a j = v a j) ∧ ((r = 1 ∧ HaveQ (v 119 16) 20 W (v 124) (v 125) c t (w 125) (w 126)) ∨ (r = 0 ∧ w 125 = v 125 ∧ w 126 = v 126 ∧ (∀ g', Mtc (v 119 16) (mayT (v 124) 20) g' → wrmN (v 119 16) 0 g' = W → (∀ i, 0 ≤ i → i < c → g' i = v 125 i) → ¬ g' c = t)))) := by
  refine MN.of pn_X9_canGet [some (vr 119), some (vi c), some (vi t), some (vi sd), none, none, none, none] 4 rfl rfl (fun X C hX hn hR => ?_)
  have hN : ∀ i : Nat, i < 8 → i < xn X := fun i h => by rw [hn]; exact h
  refine E.rngk (fun hinv => ?_)
  refine E.loc (fun hloc => ?_)
  have hin_1 : in32 c := hloc _ (List.mem_of_getElem? (i := 1) rfl)
  have hin_2 : in32 t := hloc _ (List.mem_of_getElem? (i := 2) rfl)
  have hin_3 : in32 sd := hloc _ (List.mem_of_getElem? (i := 3) rfl)
  have htgc := hcon.1 c hcc.1 hcc.2
  have htot := hcon.2 t htt.1 htt.2
  refine E.aload_n C dX9_canGet_0 rfl rfl ?_
  refine N.getR C fa_X9_26 rfl dX9_canGet_1 kd_119 (x := 125) (by decide +kernel) (by decide) ?_
  refine E.iload_n C dX9_canGet_4 rfl rfl ?_
  refine N.iald C dX9_canGet_5 kd_125 ln_125 (by omega) (x := v 125 c) rfl ?_
  refine E.iload_n C dX9_canGet_6 rfl rfl ?_
  refine E.icmp_ne C dX9_canGet_7 (tgt := 12) (by decide) (fun h7 => ?_) (fun h7 => ?_)
  · skip
    refine E.aload_n C dX9_canGet_12 rfl rfl ?_
    refine N.callVe (S := []) (As := []) C hX (ok_X9_keepsDeal G v) yf_X9_keepsDeal yv_X9_keepsDeal ml_X9_232 rfl rfl rfl kd_119 (by decide) (by decide) (Nat.le_of_ble_eq_true rfl) dX9_canGet_13 rfl ?_
    obtain ⟨w16, hw16⟩ : ∃ z, z = (cpyF (cpyF v 129 125 8) 130 126 20) := ⟨_, rfl⟩
    refine E.heq hw16.symm ?_
    obtain ⟨fB1, fB2, fB3⟩ := kept16 (v := v)
    rw [← hw16] at fB1 fB2 fB3
    have hne : ¬ v 125 c = t := h7
    have g125 : w16 125 = v 125 := funext (fun j => fB1 _ _ (by decide))
    have g126 : w16 126 = v 126 := funext (fun j => fB1 _ _ (by decide))
    refine E.aload_n C dX9_canGet_16 rfl rfl ?_
    refine N.getR C fa_X9_26 rfl dX9_canGet_17 kd_119 (x := 125) (by decide +kernel) (by decide) ?_
    refine E.iload_n C dX9_canGet_20 rfl rfl ?_
    refine N.iald C dX9_canGet_21 kd_125 ln_125 (by omega) (x := v 125 c) (fB1 _ _ (by decide)) ?_
    refine N.ist_4 C dX9_canGet_22 (hN 4 (by decide)) rfl ?_
    refine E.aload_n C dX9_canGet_24 rfl rfl ?_
    refine N.getR C fa_X9_29 rfl dX9_canGet_25 kd_119 (x := 126) (by decide +kernel) (by decide) ?_
    refine E.iload_n C dX9_canGet_28 rfl rfl ?_
    refine N.iald C dX9_canGet_29 kd_126 ln_126 (by omega) (x := v 126 t) (fB1 _ _ (by decide)) ?_
    refine N.ist_5 C dX9_canGet_30 (hN 5 (by decide)) rfl ?_
    have jn97 : ∀ (is : Int) (w : VT), (∀ a j, ¬ a = 125 → ¬ a = 126 → w a j = w16 a j) ∧ ((is = 1 ∧ (v 125 c = -4 ∨ v 126 t = -4) ∧ (∀ j, 0 ≤ j → j < v 119 16 → w 125 j = tkP (v 125) c t (v 126 t) j) ∧ (∀ x, 0 ≤ x → x < 20 → w 126 x = tkQ (v 126) c t (v 125 c) x)) ∨ (is = 0 ∧ ¬ v 125 c = -4 ∧ ¬ v 126 t = -4 ∧ w 125 = tkP (v 125) c t (v 126 t) ∧ w 126 = tkQ (v 126) c t (v 125 c))) → E X G 0 0 1000 w 97 [some (vr 119), some (vi c), some (vi t), some (vi sd), some (vi (v 125 c)), some (vi (v 126 t)), none, none] [vi is] := by
      intro is w hJ97
      obtain ⟨hfr, hjj⟩ := hJ97; have e16 : w 119 16 = v 119 16 := (hfr _ _ (by decide) (by decide)).trans (fB1 _ _ (by decide)); have e124 : w 124 = v 124 := funext (fun j => (hfr _ _ (by decide) (by decide)).trans (fB1 _ _ (by decide)))
      refine N.ist_6 C dX9_canGet_97 (hN 6 (by decide)) rfl ?_
      refine E.iload_n C dX9_canGet_99 rfl rfl ?_
      refine E.iconst C dX9_canGet_100 (by decide) ?_
      refine E.iadd C dX9_canGet_101 (by omega) ?_
      refine N.ist_7 C dX9_canGet_102 (hN 7 (by decide)) rfl ?_
      have lp104 : ∀ (k104 : Nat) (is2 : Int) (x : Int) (w2 : VT), (v 119 16 - x).toNat = k104 → (c + 1 ≤ x ∧ x ≤ v 119 16 ∧ (∀ a j, (a < 125 ∨ 128 < a) → w2 a j = w16 a j) ∧ ((is2 = 1 ∧ HaveQ (v 119 16) 20 W (v 124) (v 125) c t (w2 125) (w2 126)) ∨ (is2 = 0 ∧ ¬ v 125 c = -4 ∧ ¬ v 126 t = -4 ∧ w2 125 = tkP (v 125) c t (v 126 t) ∧ w2 126 = tkQ (v 126) c t (v 125 c) ∧ ∃ R, CertT (tkP (v 125) c t (v 126 t)) (tkQ (v 126) c t (v 125 c)) (v 124) (v 119 16) 20 (c + 1) (jor sd (jshl 1 t)) x R))) → E X G 0 0 1000 w2 104 [some (vr 119), some (vi c), some (vi t), some (vi sd), none, none, some (vi is2), some (vi x)] [] := by
        intro k104
        induction k104 using Nat.strongRecOn with
        | ind k104 ih104 =>
          intro is2 x w2 hk104 hI104
          obtain ⟨hx0, hx1, hfr2, hjj2⟩ := hI104; have e162 : w2 119 16 = v 119 16 := (hfr2 _ _ (by decide)).trans (fB1 _ _ (by decide)); have e1242 : w2 124 = v 124 := funext (fun j => (hfr2 _ _ (by decide)).trans (fB1 _ _ (by decide)))
          refine E.iload C dX9_canGet_104 rfl ?_
          refine E.aload_n C dX9_canGet_106 rfl rfl ?_
          refine N.getI C fa_X9_223 rfl dX9_canGet_107 kd_119 (x := v 119 16) ((hfr2 _ _ (by decide)).trans (fB1 _ _ (by decide))) ?_
          refine E.icmp_ge C dX9_canGet_110 (tgt := 157) (by decide) (fun h110 => ?_) (fun h110 => ?_)
          · skip
            refine E.iload C dX9_canGet_157 rfl ?_
            refine E.if_ne C dX9_canGet_159 (tgt := 166) (by decide) (fun h159 => ?_) (fun h159 => ?_)
            · skip
              refine E.iload C dX9_canGet_166 rfl ?_
              exact N.zret C hR dX9_canGet_168 (by omega) (fun hi => by first | exact ⟨fun a j g => (hfr2 a j (by omega)).trans (fB1 a j (by omega)), Or.inl ⟨by omega, (hjj2.resolve_right (fun hq => by have := hq.1; omega)).2⟩⟩ | (obtain ⟨k1, k2, k3, k4, k5, R, hR⟩ := hjj2.resolve_left (fun hq => by have := hq.1; omega); have e : x = v 119 16 := (by omega); subst e; refine ⟨fun a j g => by rw [cpyF_row (by omega), cpyF_row (by omega)]; exact (hfr2 a j (by omega)).trans (fB1 a j (by omega)), Or.inr ⟨by omega, keptP (fun j g1 g2 => (hfr2 _ _ (by decide)).trans (fB2 j g1 g2)) k4 (by omega) (by omega), keptQ (fun j g1 g2 => (hfr2 _ _ (by decide)).trans (fB3 j g1 g2)) k5 htt (by omega), tk_no hcon hM hcc htt (by omega) hne hsd hst k2 k3 (certT_seek hR)⟩⟩))
            · skip
              refine E.aload_n C dX9_canGet_162 rfl rfl ?_
              refine N.callVe (S := []) (As := []) C hX (ok_X9_asKept G w2) yf_X9_asKept yv_X9_asKept ml_X9_235 rfl rfl rfl kd_119 (by decide) (by decide) (Nat.le_of_ble_eq_true rfl) dX9_canGet_163 rfl ?_
              refine E.iload C dX9_canGet_166 rfl ?_
              exact N.zret C hR dX9_canGet_168 (by omega) (fun hi => by first | exact ⟨fun a j g => (hfr2 a j (by omega)).trans (fB1 a j (by omega)), Or.inl ⟨by omega, (hjj2.resolve_right (fun hq => by have := hq.1; omega)).2⟩⟩ | (obtain ⟨k1, k2, k3, k4, k5, R, hR⟩ := hjj2.resolve_left (fun hq => by have := hq.1; omega); have e : x = v 119 16 := (by omega); subst e; refine ⟨fun a j g => by rw [cpyF_row (by omega), cpyF_row (by omega)]; exact (hfr2 a j (by omega)).trans (fB1 a j (by omega)), Or.inr ⟨by omega, keptP (fun j g1 g2 => (hfr2 _ _ (by decide)).trans (fB2 j g1 g2)) k4 (by omega) (by omega), keptQ (fun j g1 g2 => (hfr2 _ _ (by decide)).trans (fB3 j g1 g2)) k5 htt (by omega), tk_no hcon hM hcc htt (by omega) hne hsd hst k2 k3 (certT_seek hR)⟩⟩))
          · skip
            refine E.iload C dX9_canGet_113 rfl ?_
            refine E.if_ne C dX9_canGet_115 (tgt := 157) (by decide) (fun h115 => ?_) (fun h115 => ?_)
            · skip
              refine E.iload C dX9_canGet_157 rfl ?_
              refine E.if_ne C dX9_canGet_159 (tgt := 166) (by decide) (fun h159 => ?_) (fun h159 => ?_)
              · skip
                refine E.iload C dX9_canGet_166 rfl ?_
                exact N.zret C hR dX9_canGet_168 (by omega) (fun hi => by first | exact ⟨fun a j g => (hfr2 a j (by omega)).trans (fB1 a j (by omega)), Or.inl ⟨by omega, (hjj2.resolve_right (fun hq => by have := hq.1; omega)).2⟩⟩ | (obtain ⟨k1, k2, k3, k4, k5, R, hR⟩ := hjj2.resolve_left (fun hq => by have := hq.1; omega); have e : x = v 119 16 := (by omega); subst e; refine ⟨fun a j g => by rw [cpyF_row (by omega), cpyF_row (by omega)]; exact (hfr2 a j (by omega)).trans (fB1 a j (by omega)), Or.inr ⟨by omega, keptP (fun j g1 g2 => (hfr2 _ _ (by decide)).trans (fB2 j g1 g2)) k4 (by omega) (by omega), keptQ (fun j g1 g2 => (hfr2 _ _ (by decide)).trans (fB3 j g1 g2)) k5 htt (by omega), tk_no hcon hM hcc htt (by omega) hne hsd hst k2 k3 (certT_seek hR)⟩⟩))
              · skip
                refine E.aload_n C dX9_canGet_162 rfl rfl ?_
                refine N.callVe (S := []) (As := []) C hX (ok_X9_asKept G w2) yf_X9_asKept yv_X9_asKept ml_X9_235 rfl rfl rfl kd_119 (by decide) (by decide) (Nat.le_of_ble_eq_true rfl) dX9_canGet_163 rfl ?_
                refine E.iload C dX9_canGet_166 rfl ?_
                exact N.zret C hR dX9_canGet_168 (by omega) (fun hi => by first | exact ⟨fun a j g => (hfr2 a j (by omega)).trans (fB1 a j (by omega)), Or.inl ⟨by omega, (hjj2.resolve_right (fun hq => by have := hq.1; omega)).2⟩⟩ | (obtain ⟨k1, k2, k3, k4, k5, R, hR⟩ := hjj2.resolve_left (fun hq => by have := hq.1; omega); have e : x = v 119 16 := (by omega); subst e; refine ⟨fun a j g => by rw [cpyF_row (by omega), cpyF_row (by omega)]; exact (hfr2 a j (by omega)).trans (fB1 a j (by omega)), Or.inr ⟨by omega, keptP (fun j g1 g2 => (hfr2 _ _ (by decide)).trans (fB2 j g1 g2)) k4 (by omega) (by omega), keptQ (fun j g1 g2 => (hfr2 _ _ (by decide)).trans (fB3 j g1 g2)) k5 htt (by omega), tk_no hcon hM hcc htt (by omega) hne hsd hst k2 k3 (certT_seek hR)⟩⟩))
            · skip
              obtain ⟨k1, k2, k3, k4, k5, R, hR⟩ := hjj2.resolve_left (fun hq => by have := hq.1; omega)
              have htk := tk_con hcon hcc htt hne
              refine E.aload_n C dX9_canGet_118 rfl rfl ?_
              refine N.getR C fa_X9_26 rfl dX9_canGet_119 kd_119 (x := 125) (by decide +kernel) (by decide) ?_
              refine E.iload C dX9_canGet_122 rfl ?_
              refine N.iald C dX9_canGet_124 kd_125 ln_125 (by omega) (x := w2 125 x) rfl ?_
              refine E.bipush C dX9_canGet_125 (by decide) ?_
              refine E.icmp_ne C dX9_canGet_127 (tgt := 148) (by decide) (fun h127 => ?_) (fun h127 => ?_)
              · skip
                refine E.iconst C dX9_canGet_148 (by decide) ?_
                refine N.ist_6 C dX9_canGet_149 (hN 6 (by decide)) rfl ?_
                refine N.iinc_7 C dX9_canGet_151 (hN 7 (by decide)) rfl (by omega) ?_
                refine E.goto C dX9_canGet_154 (tgt := 104) (by decide) ?_
                exact ih104 _ (by omega) 0 (x + 1) w2 rfl (by first | exact ⟨by omega, by omega, hfr2, Or.inr ⟨rfl, k2, k3, k4, k5, R, certT_warm hR (by rw [← k4]; exact h127)⟩⟩ | (refine ⟨by omega, by omega, fun a j g => (hp138.1 a j g).trans (hfr2 a j g), ?_⟩; rcases hq138 with ⟨q1, q2, q3, q4⟩ | ⟨q1, q2, q3, q4⟩; (first | (exfalso; omega) | exact Or.inr ⟨rfl, k2, k3, q2, q3, certT_fail hR (by omega) (by rw [← k4]; exact h127) q4⟩); (first | (exfalso; omega) | exact Or.inl ⟨rfl, have_2 hcon hM hcc htt (by omega) hne hsd hst hm k2 k3 (flip_mono (by omega) htk (by omega) (fun y _ _ hy => hy) q2)⟩)))
              · skip
                refine E.aload_n C dX9_canGet_130 rfl rfl ?_
                refine E.iload C dX9_canGet_131 rfl ?_
                refine E.iload_n C dX9_canGet_133 rfl rfl ?_
                refine E.iconst C dX9_canGet_134 (by decide) ?_
                refine E.iload_n C dX9_canGet_135 rfl rfl ?_
                refine E.ishl C dX9_canGet_136 ?_
                refine E.ior C dX9_canGet_137 ?_
                refine N.callVi (S := []) (As := [vi x, vi (jor sd (jshl 1 t))]) C hX (ok_X9_getsOne G x (jor sd (jshl 1 t)) (fun _ => False) w2 (by rw [e162]; exact hc) (by rw [e162, k4, k5]; exact htk) (by rw [e162]; omega) h127 (fun d y hd => hd.elim) (fun d hd => hd.elim)) yf_X9_getsOne yv_X9_getsOne ml_X9_229 rfl rfl rfl kd_119 (by decide) (by decide) (Nat.le_of_ble_eq_true rfl) dX9_canGet_138 rfl (fun t138 w138 hb138 hp138 => ?_)
                have hq138 := hp138.2
                rw [e162, e1242, k4, k5] at hq138
                refine E.if_eq C dX9_canGet_141 (tgt := 148) (by decide) (fun h141 => ?_) (fun h141 => ?_)
                · skip
                  refine E.iconst C dX9_canGet_148 (by decide) ?_
                  refine N.ist_6 C dX9_canGet_149 (hN 6 (by decide)) rfl ?_
                  refine N.iinc_7 C dX9_canGet_151 (hN 7 (by decide)) rfl (by omega) ?_
                  refine E.goto C dX9_canGet_154 (tgt := 104) (by decide) ?_
                  exact ih104 _ (by omega) 0 (x + 1) w138 rfl (by first | exact ⟨by omega, by omega, hfr2, Or.inr ⟨rfl, k2, k3, k4, k5, R, certT_warm hR (by rw [← k4]; exact h127)⟩⟩ | (refine ⟨by omega, by omega, fun a j g => (hp138.1 a j g).trans (hfr2 a j g), ?_⟩; rcases hq138 with ⟨q1, q2, q3, q4⟩ | ⟨q1, q2, q3, q4⟩; (first | (exfalso; omega) | exact Or.inr ⟨rfl, k2, k3, q2, q3, certT_fail hR (by omega) (by rw [← k4]; exact h127) q4⟩); (first | (exfalso; omega) | exact Or.inl ⟨rfl, have_2 hcon hM hcc htt (by omega) hne hsd hst hm k2 k3 (flip_mono (by omega) htk (by omega) (fun y _ _ hy => hy) q2)⟩)))
                · skip
                  refine E.iconst C dX9_canGet_144 (by decide) ?_
                  refine E.goto C dX9_canGet_145 (tgt := 149) (by decide) ?_
                  refine N.ist_6 C dX9_canGet_149 (hN 6 (by decide)) rfl ?_
                  refine N.iinc_7 C dX9_canGet_151 (hN 7 (by decide)) rfl (by omega) ?_
                  refine E.goto C dX9_canGet_154 (tgt := 104) (by decide) ?_
                  exact ih104 _ (by omega) 1 (x + 1) w138 rfl (by first | exact ⟨by omega, by omega, hfr2, Or.inr ⟨rfl, k2, k3, k4, k5, R, certT_warm hR (by rw [← k4]; exact h127)⟩⟩ | (refine ⟨by omega, by omega, fun a j g => (hp138.1 a j g).trans (hfr2 a j g), ?_⟩; rcases hq138 with ⟨q1, q2, q3, q4⟩ | ⟨q1, q2, q3, q4⟩; (first | (exfalso; omega) | exact Or.inr ⟨rfl, k2, k3, q2, q3, certT_fail hR (by omega) (by rw [← k4]; exact h127) q4⟩); (first | (exfalso; omega) | exact Or.inl ⟨rfl, have_2 hcon hM hcc htt (by omega) hne hsd hst hm k2 k3 (flip_mono (by omega) htk (by omega) (fun y _ _ hy => hy) q2)⟩)))
      refine E.drop (i := 4) ?_
      refine E.drop (i := 5) ?_
      exact lp104 _ is (c + 1) w rfl (by refine ⟨by omega, by omega, fun a j g => hfr a j (by omega) (by omega), ?_⟩; rcases hjj with ⟨j1, j2, j3, j4⟩ | ⟨j1, j2, j3, j4, j5⟩; (exact Or.inl ⟨j1, have_1 hcon hM hcc htt (by omega) hne hsd hst hm j2 j3 j4⟩); (exact Or.inr ⟨j1, j2, j3, j4, j5, _, certT_0⟩))
    refine E.iload C dX9_canGet_32 rfl ?_
    refine E.bipush C dX9_canGet_34 (by decide) ?_
    refine E.icmp_eq C dX9_canGet_36 (tgt := 48) (by decide) (fun h36 => ?_) (fun h36 => ?_)
    · skip
      refine E.aload_n C dX9_canGet_48 rfl rfl ?_
      refine N.getR C fa_X9_26 rfl dX9_canGet_49 kd_119 (x := 125) (by decide +kernel) (by decide) ?_
      refine E.iload_n C dX9_canGet_52 rfl rfl ?_
      refine E.iload_n C dX9_canGet_53 rfl rfl ?_
      refine N.iast C dX9_canGet_54 kd_125 ln_125 (by omega) ?_
      refine E.aload_n C dX9_canGet_55 rfl rfl ?_
      refine N.getR C fa_X9_29 rfl dX9_canGet_56 kd_119 (x := 126) (by decide +kernel) (by decide) ?_
      refine E.iload_n C dX9_canGet_59 rfl rfl ?_
      refine E.iload_n C dX9_canGet_60 rfl rfl ?_
      refine N.iast C dX9_canGet_61 kd_126 ln_126 (by omega) ?_
      refine E.iload C dX9_canGet_62 rfl ?_
      refine E.bipush C dX9_canGet_64 (by decide) ?_
      refine E.icmp_eq C dX9_canGet_66 (tgt := 78) (by decide) (fun h66 => ?_) (fun h66 => ?_)
      · skip
        refine E.iload C dX9_canGet_78 rfl ?_
        refine E.bipush C dX9_canGet_80 (by decide) ?_
        refine E.icmp_eq C dX9_canGet_82 (tgt := 92) (by decide) (fun h82 => ?_) (fun h82 => ?_)
        · skip
          refine E.iconst C dX9_canGet_92 (by decide) ?_
          refine E.goto C dX9_canGet_93 (tgt := 97) (by decide) ?_
          exact jn97 1 (upd2 (upd2 w16 125 c t) 126 t c) (by first | (exfalso; omega) | exact ⟨(fun a j g1 g2 => by repeat rw [upd2_ne _ _ _ _ _ _ (by omega)]), Or.inr ⟨rfl, by omega, by omega, by rw [tkP_row, g125], by rw [tkQ_row hne, g126]⟩⟩ | exact ⟨(fun a j g1 g2 => by repeat rw [upd2_ne _ _ _ _ _ _ (by omega)]), Or.inl ⟨rfl, by omega, fun j k1 k2 => by unfold tkP; simp only [upd2, true_and, false_and, if_false, if_true]; (repeat' split) <;> first | rfl | omega | exact fB1 125 _ (by decide) | exact fB1 126 _ (by decide), fun x k1 k2 => by unfold tkQ; simp only [upd2, true_and, false_and, if_false, if_true]; (repeat' split) <;> first | rfl | omega | exact fB1 125 _ (by decide) | exact fB1 126 _ (by decide)⟩⟩)
        · skip
          refine E.iload C dX9_canGet_85 rfl ?_
          refine E.bipush C dX9_canGet_87 (by decide) ?_
          refine E.icmp_ne C dX9_canGet_89 (tgt := 96) (by decide) (fun h89 => ?_) (fun h89 => ?_)
          · skip
            refine E.iconst C dX9_canGet_96 (by decide) ?_
            exact jn97 0 (upd2 (upd2 w16 125 c t) 126 t c) (by first | (exfalso; omega) | exact ⟨(fun a j g1 g2 => by repeat rw [upd2_ne _ _ _ _ _ _ (by omega)]), Or.inr ⟨rfl, by omega, by omega, by rw [tkP_row, g125], by rw [tkQ_row hne, g126]⟩⟩ | exact ⟨(fun a j g1 g2 => by repeat rw [upd2_ne _ _ _ _ _ _ (by omega)]), Or.inl ⟨rfl, by omega, fun j k1 k2 => by unfold tkP; simp only [upd2, true_and, false_and, if_false, if_true]; (repeat' split) <;> first | rfl | omega | exact fB1 125 _ (by decide) | exact fB1 126 _ (by decide), fun x k1 k2 => by unfold tkQ; simp only [upd2, true_and, false_and, if_false, if_true]; (repeat' split) <;> first | rfl | omega | exact fB1 125 _ (by decide) | exact fB1 126 _ (by decide)⟩⟩)
          · skip
            refine E.iconst C dX9_canGet_92 (by decide) ?_
            refine E.goto C dX9_canGet_93 (tgt := 97) (by decide) ?_
            exact jn97 1 (upd2 (upd2 w16 125 c t) 126 t c) (by first | (exfalso; omega) | exact ⟨(fun a j g1 g2 => by repeat rw [upd2_ne _ _ _ _ _ _ (by omega)]), Or.inr ⟨rfl, by omega, by omega, by rw [tkP_row, g125], by rw [tkQ_row hne, g126]⟩⟩ | exact ⟨(fun a j g1 g2 => by repeat rw [upd2_ne _ _ _ _ _ _ (by omega)]), Or.inl ⟨rfl, by omega, fun j k1 k2 => by unfold tkP; simp only [upd2, true_and, false_and, if_false, if_true]; (repeat' split) <;> first | rfl | omega | exact fB1 125 _ (by decide) | exact fB1 126 _ (by decide), fun x k1 k2 => by unfold tkQ; simp only [upd2, true_and, false_and, if_false, if_true]; (repeat' split) <;> first | rfl | omega | exact fB1 125 _ (by decide) | exact fB1 126 _ (by decide)⟩⟩)
      · skip
        refine E.aload_n C dX9_canGet_69 rfl rfl ?_
        refine N.getR C fa_X9_26 rfl dX9_canGet_70 kd_119 (x := 125) (by decide +kernel) (by decide) ?_
        refine E.iload C dX9_canGet_73 rfl ?_
        refine E.bipush C dX9_canGet_75 (by decide) ?_
        refine N.iast C dX9_canGet_77 kd_125 ln_125 (by omega) ?_
        refine E.iload C dX9_canGet_78 rfl ?_
        refine E.bipush C dX9_canGet_80 (by decide) ?_
        refine E.icmp_eq C dX9_canGet_82 (tgt := 92) (by decide) (fun h82 => ?_) (fun h82 => ?_)
        · skip
          refine E.iconst C dX9_canGet_92 (by decide) ?_
          refine E.goto C dX9_canGet_93 (tgt := 97) (by decide) ?_
          exact jn97 1 (upd2 (upd2 (upd2 w16 125 c t) 126 t c) 125 (v 126 t) (-4)) (by first | (exfalso; omega) | exact ⟨(fun a j g1 g2 => by repeat rw [upd2_ne _ _ _ _ _ _ (by omega)]), Or.inr ⟨rfl, by omega, by omega, by rw [tkP_row, g125], by rw [tkQ_row hne, g126]⟩⟩ | exact ⟨(fun a j g1 g2 => by repeat rw [upd2_ne _ _ _ _ _ _ (by omega)]), Or.inl ⟨rfl, by omega, fun j k1 k2 => by unfold tkP; simp only [upd2, true_and, false_and, if_false, if_true]; (repeat' split) <;> first | rfl | omega | exact fB1 125 _ (by decide) | exact fB1 126 _ (by decide), fun x k1 k2 => by unfold tkQ; simp only [upd2, true_and, false_and, if_false, if_true]; (repeat' split) <;> first | rfl | omega | exact fB1 125 _ (by decide) | exact fB1 126 _ (by decide)⟩⟩)
        · skip
          refine E.iload C dX9_canGet_85 rfl ?_
          refine E.bipush C dX9_canGet_87 (by decide) ?_
          refine E.icmp_ne C dX9_canGet_89 (tgt := 96) (by decide) (fun h89 => ?_) (fun h89 => ?_)
          · skip
            refine E.iconst C dX9_canGet_96 (by decide) ?_
            exact jn97 0 (upd2 (upd2 (upd2 w16 125 c t) 126 t c) 125 (v 126 t) (-4)) (by first | (exfalso; omega) | exact ⟨(fun a j g1 g2 => by repeat rw [upd2_ne _ _ _ _ _ _ (by omega)]), Or.inr ⟨rfl, by omega, by omega, by rw [tkP_row, g125], by rw [tkQ_row hne, g126]⟩⟩ | exact ⟨(fun a j g1 g2 => by repeat rw [upd2_ne _ _ _ _ _ _ (by omega)]), Or.inl ⟨rfl, by omega, fun j k1 k2 => by unfold tkP; simp only [upd2, true_and, false_and, if_false, if_true]; (repeat' split) <;> first | rfl | omega | exact fB1 125 _ (by decide) | exact fB1 126 _ (by decide), fun x k1 k2 => by unfold tkQ; simp only [upd2, true_and, false_and, if_false, if_true]; (repeat' split) <;> first | rfl | omega | exact fB1 125 _ (by decide) | exact fB1 126 _ (by decide)⟩⟩)
          · skip
            refine E.iconst C dX9_canGet_92 (by decide) ?_
            refine E.goto C dX9_canGet_93 (tgt := 97) (by decide) ?_
            exact jn97 1 (upd2 (upd2 (upd2 w16 125 c t) 126 t c) 125 (v 126 t) (-4)) (by first | (exfalso; omega) | exact ⟨(fun a j g1 g2 => by repeat rw [upd2_ne _ _ _ _ _ _ (by omega)]), Or.inr ⟨rfl, by omega, by omega, by rw [tkP_row, g125], by rw [tkQ_row hne, g126]⟩⟩ | exact ⟨(fun a j g1 g2 => by repeat rw [upd2_ne _ _ _ _ _ _ (by omega)]), Or.inl ⟨rfl, by omega, fun j k1 k2 => by unfold tkP; simp only [upd2, true_and, false_and, if_false, if_true]; (repeat' split) <;> first | rfl | omega | exact fB1 125 _ (by decide) | exact fB1 126 _ (by decide), fun x k1 k2 => by unfold tkQ; simp only [upd2, true_and, false_and, if_false, if_true]; (repeat' split) <;> first | rfl | omega | exact fB1 125 _ (by decide) | exact fB1 126 _ (by decide)⟩⟩)
    · skip
      refine E.aload_n C dX9_canGet_39 rfl rfl ?_
      refine N.getR C fa_X9_29 rfl dX9_canGet_40 kd_119 (x := 126) (by decide +kernel) (by decide) ?_
      refine E.iload C dX9_canGet_43 rfl ?_
      refine E.bipush C dX9_canGet_45 (by decide) ?_
      refine N.iast C dX9_canGet_47 kd_126 ln_126 (by omega) ?_
      refine E.aload_n C dX9_canGet_48 rfl rfl ?_
      refine N.getR C fa_X9_26 rfl dX9_canGet_49 kd_119 (x := 125) (by decide +kernel) (by decide) ?_
      refine E.iload_n C dX9_canGet_52 rfl rfl ?_
      refine E.iload_n C dX9_canGet_53 rfl rfl ?_
      refine N.iast C dX9_canGet_54 kd_125 ln_125 (by omega) ?_
      refine E.aload_n C dX9_canGet_55 rfl rfl ?_
      refine N.getR C fa_X9_29 rfl dX9_canGet_56 kd_119 (x := 126) (by decide +kernel) (by decide) ?_
      refine E.iload_n C dX9_canGet_59 rfl rfl ?_
      refine E.iload_n C dX9_canGet_60 rfl rfl ?_
      refine N.iast C dX9_canGet_61 kd_126 ln_126 (by omega) ?_
      refine E.iload C dX9_canGet_62 rfl ?_
      refine E.bipush C dX9_canGet_64 (by decide) ?_
      refine E.icmp_eq C dX9_canGet_66 (tgt := 78) (by decide) (fun h66 => ?_) (fun h66 => ?_)
      · skip
        refine E.iload C dX9_canGet_78 rfl ?_
        refine E.bipush C dX9_canGet_80 (by decide) ?_
        refine E.icmp_eq C dX9_canGet_82 (tgt := 92) (by decide) (fun h82 => ?_) (fun h82 => ?_)
        · skip
          refine E.iconst C dX9_canGet_92 (by decide) ?_
          refine E.goto C dX9_canGet_93 (tgt := 97) (by decide) ?_
          exact jn97 1 (upd2 (upd2 (upd2 w16 126 (v 125 c) (-4)) 125 c t) 126 t c) (by first | (exfalso; omega) | exact ⟨(fun a j g1 g2 => by repeat rw [upd2_ne _ _ _ _ _ _ (by omega)]), Or.inr ⟨rfl, by omega, by omega, by rw [tkP_row, g125], by rw [tkQ_row hne, g126]⟩⟩ | exact ⟨(fun a j g1 g2 => by repeat rw [upd2_ne _ _ _ _ _ _ (by omega)]), Or.inl ⟨rfl, by omega, fun j k1 k2 => by unfold tkP; simp only [upd2, true_and, false_and, if_false, if_true]; (repeat' split) <;> first | rfl | omega | exact fB1 125 _ (by decide) | exact fB1 126 _ (by decide), fun x k1 k2 => by unfold tkQ; simp only [upd2, true_and, false_and, if_false, if_true]; (repeat' split) <;> first | rfl | omega | exact fB1 125 _ (by decide) | exact fB1 126 _ (by decide)⟩⟩)
        · skip
          refine E.iload C dX9_canGet_85 rfl ?_
          refine E.bipush C dX9_canGet_87 (by decide) ?_
          refine E.icmp_ne C dX9_canGet_89 (tgt := 96) (by decide) (fun h89 => ?_) (fun h89 => ?_)
          · skip
            refine E.iconst C dX9_canGet_96 (by decide) ?_
            exact jn97 0 (upd2 (upd2 (upd2 w16 126 (v 125 c) (-4)) 125 c t) 126 t c) (by first | (exfalso; omega) | exact ⟨(fun a j g1 g2 => by repeat rw [upd2_ne _ _ _ _ _ _ (by omega)]), Or.inr ⟨rfl, by omega, by omega, by rw [tkP_row, g125], by rw [tkQ_row hne, g126]⟩⟩ | exact ⟨(fun a j g1 g2 => by repeat rw [upd2_ne _ _ _ _ _ _ (by omega)]), Or.inl ⟨rfl, by omega, fun j k1 k2 => by unfold tkP; simp only [upd2, true_and, false_and, if_false, if_true]; (repeat' split) <;> first | rfl | omega | exact fB1 125 _ (by decide) | exact fB1 126 _ (by decide), fun x k1 k2 => by unfold tkQ; simp only [upd2, true_and, false_and, if_false, if_true]; (repeat' split) <;> first | rfl | omega | exact fB1 125 _ (by decide) | exact fB1 126 _ (by decide)⟩⟩)
          · skip
            refine E.iconst C dX9_canGet_92 (by decide) ?_
            refine E.goto C dX9_canGet_93 (tgt := 97) (by decide) ?_
            exact jn97 1 (upd2 (upd2 (upd2 w16 126 (v 125 c) (-4)) 125 c t) 126 t c) (by first | (exfalso; omega) | exact ⟨(fun a j g1 g2 => by repeat rw [upd2_ne _ _ _ _ _ _ (by omega)]), Or.inr ⟨rfl, by omega, by omega, by rw [tkP_row, g125], by rw [tkQ_row hne, g126]⟩⟩ | exact ⟨(fun a j g1 g2 => by repeat rw [upd2_ne _ _ _ _ _ _ (by omega)]), Or.inl ⟨rfl, by omega, fun j k1 k2 => by unfold tkP; simp only [upd2, true_and, false_and, if_false, if_true]; (repeat' split) <;> first | rfl | omega | exact fB1 125 _ (by decide) | exact fB1 126 _ (by decide), fun x k1 k2 => by unfold tkQ; simp only [upd2, true_and, false_and, if_false, if_true]; (repeat' split) <;> first | rfl | omega | exact fB1 125 _ (by decide) | exact fB1 126 _ (by decide)⟩⟩)
      · skip
        refine E.aload_n C dX9_canGet_69 rfl rfl ?_
        refine N.getR C fa_X9_26 rfl dX9_canGet_70 kd_119 (x := 125) (by decide +kernel) (by decide) ?_
        refine E.iload C dX9_canGet_73 rfl ?_
        refine E.bipush C dX9_canGet_75 (by decide) ?_
        refine N.iast C dX9_canGet_77 kd_125 ln_125 (by omega) ?_
        refine E.iload C dX9_canGet_78 rfl ?_
        refine E.bipush C dX9_canGet_80 (by decide) ?_
        refine E.icmp_eq C dX9_canGet_82 (tgt := 92) (by decide) (fun h82 => ?_) (fun h82 => ?_)
        · skip
          refine E.iconst C dX9_canGet_92 (by decide) ?_
          refine E.goto C dX9_canGet_93 (tgt := 97) (by decide) ?_
          exact jn97 1 (upd2 (upd2 (upd2 (upd2 w16 126 (v 125 c) (-4)) 125 c t) 126 t c) 125 (v 126 t) (-4)) (by first | (exfalso; omega) | exact ⟨(fun a j g1 g2 => by repeat rw [upd2_ne _ _ _ _ _ _ (by omega)]), Or.inr ⟨rfl, by omega, by omega, by rw [tkP_row, g125], by rw [tkQ_row hne, g126]⟩⟩ | exact ⟨(fun a j g1 g2 => by repeat rw [upd2_ne _ _ _ _ _ _ (by omega)]), Or.inl ⟨rfl, by omega, fun j k1 k2 => by unfold tkP; simp only [upd2, true_and, false_and, if_false, if_true]; (repeat' split) <;> first | rfl | omega | exact fB1 125 _ (by decide) | exact fB1 126 _ (by decide), fun x k1 k2 => by unfold tkQ; simp only [upd2, true_and, false_and, if_false, if_true]; (repeat' split) <;> first | rfl | omega | exact fB1 125 _ (by decide) | exact fB1 126 _ (by decide)⟩⟩)
        · skip
          refine E.iload C dX9_canGet_85 rfl ?_
          refine E.bipush C dX9_canGet_87 (by decide) ?_
          refine E.icmp_ne C dX9_canGet_89 (tgt := 96) (by decide) (fun h89 => ?_) (fun h89 => ?_)
          · skip
            refine E.iconst C dX9_canGet_96 (by decide) ?_
            exact jn97 0 (upd2 (upd2 (upd2 (upd2 w16 126 (v 125 c) (-4)) 125 c t) 126 t c) 125 (v 126 t) (-4)) (by first | (exfalso; omega) | exact ⟨(fun a j g1 g2 => by repeat rw [upd2_ne _ _ _ _ _ _ (by omega)]), Or.inr ⟨rfl, by omega, by omega, by rw [tkP_row, g125], by rw [tkQ_row hne, g126]⟩⟩ | exact ⟨(fun a j g1 g2 => by repeat rw [upd2_ne _ _ _ _ _ _ (by omega)]), Or.inl ⟨rfl, by omega, fun j k1 k2 => by unfold tkP; simp only [upd2, true_and, false_and, if_false, if_true]; (repeat' split) <;> first | rfl | omega | exact fB1 125 _ (by decide) | exact fB1 126 _ (by decide), fun x k1 k2 => by unfold tkQ; simp only [upd2, true_and, false_and, if_false, if_true]; (repeat' split) <;> first | rfl | omega | exact fB1 125 _ (by decide) | exact fB1 126 _ (by decide)⟩⟩)
          · skip
            refine E.iconst C dX9_canGet_92 (by decide) ?_
            refine E.goto C dX9_canGet_93 (tgt := 97) (by decide) ?_
            exact jn97 1 (upd2 (upd2 (upd2 (upd2 w16 126 (v 125 c) (-4)) 125 c t) 126 t c) 125 (v 126 t) (-4)) (by first | (exfalso; omega) | exact ⟨(fun a j g1 g2 => by repeat rw [upd2_ne _ _ _ _ _ _ (by omega)]), Or.inr ⟨rfl, by omega, by omega, by rw [tkP_row, g125], by rw [tkQ_row hne, g126]⟩⟩ | exact ⟨(fun a j g1 g2 => by repeat rw [upd2_ne _ _ _ _ _ _ (by omega)]), Or.inl ⟨rfl, by omega, fun j k1 k2 => by unfold tkP; simp only [upd2, true_and, false_and, if_false, if_true]; (repeat' split) <;> first | rfl | omega | exact fB1 125 _ (by decide) | exact fB1 126 _ (by decide), fun x k1 k2 => by unfold tkQ; simp only [upd2, true_and, false_and, if_false, if_true]; (repeat' split) <;> first | rfl | omega | exact fB1 125 _ (by decide) | exact fB1 126 _ (by decide)⟩⟩)
  · skip
    refine E.iconst C dX9_canGet_10 (by decide) ?_
    exact N.zret C hR dX9_canGet_11 (by omega) (fun hi => by exact ⟨fun a j _ => rfl, Or.inl ⟨rfl, have_same hcon hM h7⟩⟩)
