set_option maxHeartbeats 4000000 in
set_option maxRecDepth 20000 in
theorem ok_X7_becomeAll (G : GT) (o o2 : Int) (v : VT) (ho : isV o) (ho2 : isV o2) (hsep : o + 23 ≤ o2 ∨ o2 + 23 ≤ o) (hc : 0 ≤ v o2 4 ∧ v o2 4 ≤ 8) (hb : 0 ≤ v o2 5 ∧ v o2 5 ≤ 10) (hlz : ∀ t, 0 ≤ t → t < v o2 5 → v (o2 + 13 + t) 5 = 0 ∨ v (o2 + 13 + t) 5 = 1) : MVe G yX7_becomeAll cX7_becomeAll 2 none 2 43 [vr o, vr o2] v (upd2 (cpyF (cpyF (bodF v o o2 (v o2 4) (v o2 5)) (o + 3) (o2 + 3) 80) (o + 4) (o2 + 4) 6) o 6 (v o2 6)) := by
  refine MN.of pn_X7_becomeAll [some (vr o), some (vr o2)] 0 rfl rfl (fun X C hX hn hR => ?_)
  have hN : ∀ i : Nat, i < 2 → i < xn X := fun i h => by rw [hn]; exact h
  refine E.rngk (fun hinv => ?_)
  refine E.loc (fun hloc => ?_)
  refine E.aload_n C dX7_becomeAll_0 rfl rfl ?_
  refine E.aload_n C dX7_becomeAll_1 rfl rfl ?_
  refine N.callVe (S := []) (As := [vr o2]) C hX (ok_X7_becomeBodies G o o2 v ho ho2 hsep hc hb hlz) yf_X7_becomeBodies yv_X7_becomeBodies ml_X7_48 rfl rfl rfl (kdV ho) (by decide) (by decide) (Nat.le_of_ble_eq_true rfl) dX7_becomeAll_2 rfl ?_
  refine E.aload_n C dX7_becomeAll_5 rfl rfl ?_
  refine N.getR C fa_X7_23 rfl dX7_becomeAll_6 (kdV ho2) (x := o2 + 3) (rvV2 ho2) (by have := posVk ho2; omega) ?_
  refine E.iconst C dX7_becomeAll_9 (by decide) ?_
  refine E.aload_n C dX7_becomeAll_10 rfl rfl ?_
  refine N.getR C fa_X7_23 rfl dX7_becomeAll_11 (kdV ho) (x := o + 3) (rvV2 ho) (by have := posVk ho; omega) ?_
  refine E.iconst C dX7_becomeAll_14 (by decide) ?_
  refine E.bipush C dX7_becomeAll_15 (by decide) ?_
  refine N.acopy (m := 80) (S := []) C hX mc_X7_52 cpyRR (kdVl ho2) (kdVl ho) (lnVl ho2) (lnVl ho) (by decide) rfl (by decide) (Nat.le_of_ble_eq_true rfl) dX7_becomeAll_17 ?_
  refine E.aload_n C dX7_becomeAll_20 rfl rfl ?_
  refine N.getR C fa_X7_27 rfl dX7_becomeAll_21 (kdV ho2) (x := o2 + 4) (rvV3 ho2) (by have := posVk ho2; omega) ?_
  refine E.iconst C dX7_becomeAll_24 (by decide) ?_
  refine E.aload_n C dX7_becomeAll_25 rfl rfl ?_
  refine N.getR C fa_X7_27 rfl dX7_becomeAll_26 (kdV ho) (x := o + 4) (rvV3 ho) (by have := posVk ho; omega) ?_
  refine E.iconst C dX7_becomeAll_29 (by decide) ?_
  refine E.bipush C dX7_becomeAll_30 (by decide) ?_
  refine N.acopy (m := 6) (S := []) C hX mc_X7_52 cpyRR (kdVm ho2) (kdVm ho) (lnVm ho2) (lnVm ho) (by decide) rfl (by decide) (Nat.le_of_ble_eq_true rfl) dX7_becomeAll_32 ?_
  refine E.aload_n C dX7_becomeAll_35 rfl rfl ?_
  refine E.aload_n C dX7_becomeAll_36 rfl rfl ?_
  refine N.getI C fa_X7_37 rfl dX7_becomeAll_37 (kdV ho2) (x := v o2 6) ((congrFun (cpyF_row (by omega)) _).trans ((congrFun (cpyF_row (by omega)) _).trans (bodF_out (by omega) (by omega) (by omega)))) ?_
  refine N.putI C fp_X7_37 rfl dX7_becomeAll_40 (kdV ho) ?_
  exact N.vret C hR dX7_becomeAll_43 (fun hi => by rfl)

set_option maxHeartbeats 4000000 in
set_option maxRecDepth 20000 in
theorem ok_X7_bothWant (G : GT) (o a x b y sl : Int) (v : VT) (ho : isV o) (hc : 0 ≤ v o 4 ∧ v o 4 ≤ 8) (hb : 0 ≤ v o 5 ∧ v o 5 ≤ 10) (hth : ∀ t, 0 ≤ t → t < v o 5 → thOK v (o + 13 + t)) (hfz : ∀ c, 0 ≤ c → c < v o 4 → -1000 ≤ v (o + 5 + c) 0 ∧ v (o + 5 + c) 0 ≤ 1000) (hsl : -1000 ≤ sl ∧ sl ≤ 1000) (ha : 0 ≤ a ∧ a < v o 4 ∧ 0 ≤ b ∧ b < v o 4) (hx : 0 ≤ x ∧ x < v o 5 ∧ 0 ≤ y ∧ y < v o 5) : MP G yX7_bothWant cX7_bothWant 6 (some .boolean) 3 69 [vr o, vi a, vi x, vi b, vi y, vi sl] v (wantI v o a x b y sl) := by
  refine MN.of pn_X7_bothWant [some (vr o), some (vi a), some (vi x), some (vi b), some (vi y), some (vi sl)] 0 rfl rfl (fun X C hX hn hR => ?_)
  have hN : ∀ i : Nat, i < 6 → i < xn X := fun i h => by rw [hn]; exact h
  refine E.rngk (fun hinv => ?_)
  refine E.loc (fun hloc => ?_)
  have hin_1 : in32 a := hloc _ (List.mem_of_getElem? (i := 1) rfl)
  have hin_2 : in32 x := hloc _ (List.mem_of_getElem? (i := 2) rfl)
  have hin_3 : in32 b := hloc _ (List.mem_of_getElem? (i := 3) rfl)
  have hin_4 : in32 y := hloc _ (List.mem_of_getElem? (i := 4) rfl)
  have hin_5 : in32 sl := hloc _ (List.mem_of_getElem? (i := 5) rfl)
  refine E.aload_n C dX7_bothWant_0 rfl rfl ?_
  refine E.iload_n C dX7_bothWant_1 rfl rfl ?_
  refine E.iload C dX7_bothWant_2 rfl ?_
  refine E.iload C dX7_bothWant_4 rfl ?_
  refine N.callVp (S := []) (As := [vi a, vi y, vi sl]) C hX (ok_X7_fitOf G o a y sl v ho (by omega) (hth _ (by omega) (by omega)) ⟨(hfz _ (by omega) (by omega)).1, (hfz _ (by omega) (by omega)).2, hsl.1, hsl.2⟩) yf_X7_fitOf yv_X7_fitOf ml_X7_117 rfl rfl rfl (kdV ho) (by decide) (by decide) (Nat.le_of_ble_eq_true rfl) dX7_bothWant_6 rfl ?_
  refine E.iconst C dX7_bothWant_9 (by decide) ?_
  refine E.icmp_ne C dX7_bothWant_10 (tgt := 61) (by decide) (fun h10 => ?_) (fun h10 => ?_)
  · skip
    refine E.iconst C dX7_bothWant_61 (by decide) ?_
    exact N.zret C hR dX7_bothWant_62 (by omega) (fun hi => by refine ⟨?_, rfl⟩; unfold wantI fitV; first | (rw [if_pos (by omega)]) | (rw [if_neg (by omega)]))
  · skip
    refine E.aload_n C dX7_bothWant_13 rfl rfl ?_
    refine E.iload_n C dX7_bothWant_14 rfl rfl ?_
    refine E.iload_n C dX7_bothWant_15 rfl rfl ?_
    refine E.iload C dX7_bothWant_16 rfl ?_
    refine N.callVp (S := []) (As := [vi b, vi x, vi sl]) C hX (ok_X7_fitOf G o b x sl v ho (by omega) (hth _ (by omega) (by omega)) ⟨(hfz _ (by omega) (by omega)).1, (hfz _ (by omega) (by omega)).2, hsl.1, hsl.2⟩) yf_X7_fitOf yv_X7_fitOf ml_X7_117 rfl rfl rfl (kdV ho) (by decide) (by decide) (Nat.le_of_ble_eq_true rfl) dX7_bothWant_18 rfl ?_
    refine E.iconst C dX7_bothWant_21 (by decide) ?_
    refine E.icmp_ne C dX7_bothWant_22 (tgt := 61) (by decide) (fun h22 => ?_) (fun h22 => ?_)
    · skip
      refine E.iconst C dX7_bothWant_61 (by decide) ?_
      exact N.zret C hR dX7_bothWant_62 (by omega) (fun hi => by refine ⟨?_, rfl⟩; unfold wantI fitV; first | (rw [if_pos (by omega)]) | (rw [if_neg (by omega)]))
    · skip
      refine E.aload_n C dX7_bothWant_25 rfl rfl ?_
      refine E.iload_n C dX7_bothWant_26 rfl rfl ?_
      refine E.iload C dX7_bothWant_27 rfl ?_
      refine N.callVp (S := []) (As := [vi a, vi y]) C hX (ok_X7_likingOf G o a y v ho (by omega)) yf_X7_likingOf yv_X7_likingOf ml_X7_130 rfl rfl rfl (kdV ho) (by decide) (by decide) (Nat.le_of_ble_eq_true rfl) dX7_bothWant_29 rfl ?_
      refine E.aload_n C dX7_bothWant_32 rfl rfl ?_
      refine E.iload_n C dX7_bothWant_33 rfl rfl ?_
      refine E.iload_n C dX7_bothWant_34 rfl rfl ?_
      refine N.callVp (S := [vi (v (o + 3) (a * 10 + y))]) (As := [vi a, vi x]) C hX (ok_X7_likingOf G o a x v ho (by omega)) yf_X7_likingOf yv_X7_likingOf ml_X7_130 rfl rfl rfl (kdV ho) (by decide) (by decide) (Nat.le_of_ble_eq_true rfl) dX7_bothWant_35 rfl ?_
      refine E.icmp_le C dX7_bothWant_38 (tgt := 61) (by decide) (fun h38 => ?_) (fun h38 => ?_)
      · skip
        refine E.iconst C dX7_bothWant_61 (by decide) ?_
        exact N.zret C hR dX7_bothWant_62 (by omega) (fun hi => by refine ⟨?_, rfl⟩; unfold wantI fitV; first | (rw [if_pos (by omega)]) | (rw [if_neg (by omega)]))
      · skip
        refine E.aload_n C dX7_bothWant_41 rfl rfl ?_
        refine E.iload_n C dX7_bothWant_42 rfl rfl ?_
        refine E.iload_n C dX7_bothWant_43 rfl rfl ?_
        refine N.callVp (S := []) (As := [vi b, vi x]) C hX (ok_X7_likingOf G o b x v ho (by omega)) yf_X7_likingOf yv_X7_likingOf ml_X7_130 rfl rfl rfl (kdV ho) (by decide) (by decide) (Nat.le_of_ble_eq_true rfl) dX7_bothWant_44 rfl ?_
        refine E.aload_n C dX7_bothWant_47 rfl rfl ?_
        refine E.iload_n C dX7_bothWant_48 rfl rfl ?_
        refine E.iload C dX7_bothWant_49 rfl ?_
        refine N.callVp (S := [vi (v (o + 3) (b * 10 + x))]) (As := [vi b, vi y]) C hX (ok_X7_likingOf G o b y v ho (by omega)) yf_X7_likingOf yv_X7_likingOf ml_X7_130 rfl rfl rfl (kdV ho) (by decide) (by decide) (Nat.le_of_ble_eq_true rfl) dX7_bothWant_51 rfl ?_
        refine E.icmp_le C dX7_bothWant_54 (tgt := 61) (by decide) (fun h54 => ?_) (fun h54 => ?_)
        · skip
          refine E.iconst C dX7_bothWant_61 (by decide) ?_
          exact N.zret C hR dX7_bothWant_62 (by omega) (fun hi => by refine ⟨?_, rfl⟩; unfold wantI fitV; first | (rw [if_pos (by omega)]) | (rw [if_neg (by omega)]))
        · skip
          refine E.iconst C dX7_bothWant_57 (by decide) ?_
          refine E.goto C dX7_bothWant_58 (tgt := 62) (by decide) ?_
          exact N.zret C hR dX7_bothWant_62 (by omega) (fun hi => by refine ⟨?_, rfl⟩; unfold wantI fitV; first | (rw [if_pos (by omega)]) | (rw [if_neg (by omega)]))

set_option maxHeartbeats 4000000 in
set_option maxRecDepth 20000 in
theorem ok_X7_firstSwap (G : GT) (o sl : Int) (v : VT) (ho : isV o) (hc : 0 ≤ v o 4 ∧ v o 4 ≤ 8) (hb : 0 ≤ v o 5 ∧ v o 5 ≤ 10) (hth : ∀ t, 0 ≤ t → t < v o 5 → thOK v (o + 13 + t)) (hfz : ∀ c, 0 ≤ c → c < v o 4 → -1000 ≤ v (o + 5 + c) 0 ∧ v (o + 5 + c) 0 ≤ 1000) (hsl : -1000 ≤ sl ∧ sl ≤ 1000) : MI G yX7_firstSwap cX7_firstSwap 7 (some .int) 4 94 [vr o, vi sl] v (fun x => swapQ (swp v o sl) (v o 4) x) := by
  refine MN.of pn_X7_firstSwap [some (vr o), some (vi sl), none, none, none, none, none] 5 rfl rfl (fun X C hX hn hR => ?_)
  have hN : ∀ i : Nat, i < 7 → i < xn X := fun i h => by rw [hn]; exact h
  refine E.rngk (fun hinv => ?_)
  refine E.loc (fun hloc => ?_)
  have hin_1 : in32 sl := hloc _ (List.mem_of_getElem? (i := 1) rfl)
  refine E.iconst C dX7_firstSwap_0 (by decide) ?_
  refine N.ist_2 C dX7_firstSwap_1 (hN 2 (by decide)) rfl ?_
  have lp2 : ∀ (k2 : Nat) (s : Int), (2 - s).toNat = k2 → (0 ≤ s ∧ s ≤ 2 ∧ ∀ s1 a1 b1, 0 ≤ s1 → s1 < s → 0 ≤ a1 → a1 < b1 → b1 < v o 4 → ¬ swp v o sl s1 a1 b1) → E X G 0 0 1000 v 2 [some (vr o), some (vi sl), some (vi s), none, none, none, none] [] := by
    intro k2
    induction k2 using Nat.strongRecOn with
    | ind k2 ih2 =>
      intro s hk2 hI2
      obtain ⟨hs0, hs1, hs2⟩ := hI2
      refine E.iload_n C dX7_firstSwap_2 rfl rfl ?_
      refine E.iconst C dX7_firstSwap_3 (by decide) ?_
      refine E.icmp_ge C dX7_firstSwap_4 (tgt := 108) (by decide) (fun h4 => ?_) (fun h4 => ?_)
      · skip
        refine E.bipush C dX7_firstSwap_108 (by decide) ?_
        exact N.iret C hR dX7_firstSwap_110 (fun hi hx => by exact ⟨Or.inl ⟨rfl, fun s1 a1 b1 g1 g2 g3 g4 g5 => hs2 s1 a1 b1 g1 (by omega) g3 g4 g5⟩, rfl⟩)
      · skip
        refine E.iconst C dX7_firstSwap_7 (by decide) ?_
        refine N.ist_3 C dX7_firstSwap_8 (hN 3 (by decide)) rfl ?_
        have lp9 : ∀ (k9 : Nat) (a : Int), (v o 4 - a).toNat = k9 → (0 ≤ a ∧ a ≤ v o 4 ∧ ∀ a1 b1, 0 ≤ a1 → a1 < a → a1 < b1 → b1 < v o 4 → ¬ swp v o sl s a1 b1) → E X G 0 0 1000 v 9 [some (vr o), some (vi sl), some (vi s), some (vi a), none, none, none] [] := by
          intro k9
          induction k9 using Nat.strongRecOn with
          | ind k9 ih9 =>
            intro a hk9 hI9
            obtain ⟨ha0, ha1, ha2⟩ := hI9
            refine E.iload_n C dX7_firstSwap_9 rfl rfl ?_
            refine E.aload_n C dX7_firstSwap_10 rfl rfl ?_
            refine N.getI C fa_X7_30 rfl dX7_firstSwap_11 (kdV ho) (x := v o 4) rfl ?_
            refine E.icmp_ge C dX7_firstSwap_14 (tgt := 102) (by decide) (fun h14 => ?_) (fun h14 => ?_)
            · skip
              refine N.iinc_2 C dX7_firstSwap_102 (hN 2 (by decide)) rfl (by omega) ?_
              refine E.goto C dX7_firstSwap_105 (tgt := 2) (by decide) ?_
              refine E.drop (i := 3) ?_
              exact ih2 _ (by omega) (s + 1) rfl (by refine ⟨by omega, by omega, fun s1 a1 b1 g1 g2 g3 g4 g5 => ?_⟩; by_cases hz : s1 = s; (subst hz; exact ha2 a1 b1 g3 (by omega) g4 g5); exact hs2 s1 a1 b1 g1 (by omega) g3 g4 g5)
            · skip
              refine E.aload_n C dX7_firstSwap_17 rfl rfl ?_
              refine E.iload_n C dX7_firstSwap_18 rfl rfl ?_
              refine E.iload_n C dX7_firstSwap_19 rfl rfl ?_
              refine N.callVp (S := []) (As := [vi a, vi s]) C hX (ok_X7_wornBy G o a s v ho hb) yf_X7_wornBy yv_X7_wornBy ml_X7_99 rfl rfl rfl (kdV ho) (by decide) (by decide) (Nat.le_of_ble_eq_true rfl) dX7_firstSwap_20 rfl ?_
              refine N.ist_4 C dX7_firstSwap_23 (hN 4 (by decide)) rfl ?_
              refine E.iload_n C dX7_firstSwap_25 rfl rfl ?_
              refine E.iconst C dX7_firstSwap_26 (by decide) ?_
              refine E.iadd C dX7_firstSwap_27 (by omega) ?_
              refine N.ist_5 C dX7_firstSwap_28 (hN 5 (by decide)) rfl ?_
              have lp30 : ∀ (k30 : Nat) (b : Int), (v o 4 - b).toNat = k30 → (a < b ∧ b ≤ v o 4 ∧ ∀ b1, a < b1 → b1 < b → ¬ swp v o sl s a b1) → E X G 0 0 1000 v 30 [some (vr o), some (vi sl), some (vi s), some (vi a), some (vi (wornI v o a s)), some (vi b), none] [] := by
                intro k30
                induction k30 using Nat.strongRecOn with
                | ind k30 ih30 =>
                  intro b hk30 hI30
                  obtain ⟨hb0, hb1, hb2⟩ := hI30
                  refine E.iload C dX7_firstSwap_30 rfl ?_
                  refine E.aload_n C dX7_firstSwap_32 rfl rfl ?_
                  refine N.getI C fa_X7_30 rfl dX7_firstSwap_33 (kdV ho) (x := v o 4) rfl ?_
                  refine E.icmp_ge C dX7_firstSwap_36 (tgt := 96) (by decide) (fun h36 => ?_) (fun h36 => ?_)
                  · skip
                    refine N.iinc_3 C dX7_firstSwap_96 (hN 3 (by decide)) rfl (by omega) ?_
                    refine E.goto C dX7_firstSwap_99 (tgt := 9) (by decide) ?_
                    refine E.drop (i := 4) ?_
                    refine E.drop (i := 5) ?_
                    exact ih9 _ (by omega) (a + 1) rfl (by refine ⟨by omega, by omega, fun a1 b1 h1 h2 h3 h4 => ?_⟩; by_cases hz : a1 = a; (subst hz; first | exact hb2 b1 h3 (by omega) | exact fun hq => hq.1 h43); exact ha2 a1 b1 h1 (by omega) h3 h4)
                  · skip
                    refine E.iload C dX7_firstSwap_39 rfl ?_
                    refine E.bipush C dX7_firstSwap_41 (by decide) ?_
                    refine E.icmp_eq C dX7_firstSwap_43 (tgt := 96) (by decide) (fun h43 => ?_) (fun h43 => ?_)
                    · skip
                      refine N.iinc_3 C dX7_firstSwap_96 (hN 3 (by decide)) rfl (by omega) ?_
                      refine E.goto C dX7_firstSwap_99 (tgt := 9) (by decide) ?_
                      refine E.drop (i := 4) ?_
                      refine E.drop (i := 5) ?_
                      exact ih9 _ (by omega) (a + 1) rfl (by refine ⟨by omega, by omega, fun a1 b1 h1 h2 h3 h4 => ?_⟩; by_cases hz : a1 = a; (subst hz; first | exact hb2 b1 h3 (by omega) | exact fun hq => hq.1 h43); exact ha2 a1 b1 h1 (by omega) h3 h4)
                    · skip
                      refine E.aload_n C dX7_firstSwap_46 rfl rfl ?_
                      refine E.iload C dX7_firstSwap_47 rfl ?_
                      refine E.iload_n C dX7_firstSwap_49 rfl rfl ?_
                      refine N.callVp (S := []) (As := [vi b, vi s]) C hX (ok_X7_wornBy G o b s v ho hb) yf_X7_wornBy yv_X7_wornBy ml_X7_99 rfl rfl rfl (kdV ho) (by decide) (by decide) (Nat.le_of_ble_eq_true rfl) dX7_firstSwap_50 rfl ?_
                      refine N.ist_6 C dX7_firstSwap_53 (hN 6 (by decide)) rfl ?_
                      refine E.iload C dX7_firstSwap_55 rfl ?_
                      refine E.bipush C dX7_firstSwap_57 (by decide) ?_
                      refine E.icmp_eq C dX7_firstSwap_59 (tgt := 90) (by decide) (fun h59 => ?_) (fun h59 => ?_)
                      · skip
                        refine N.iinc_5 C dX7_firstSwap_90 (hN 5 (by decide)) rfl (by omega) ?_
                        refine E.goto C dX7_firstSwap_93 (tgt := 30) (by decide) ?_
                        refine E.drop (i := 6) ?_
                        exact ih30 _ (by omega) (b + 1) rfl (by refine ⟨by omega, by omega, fun b1 h1 h2 => ?_⟩; by_cases hz : b1 = b; (subst hz; first | exact fun hq => hq.2.1 h59 | exact fun hq => absurd hq.2.2 (by omega)); exact hb2 b1 h1 (by omega))
                      · skip
                        have hm1 := wornI_rng hb.1 h43
                        have hm2 := wornI_rng hb.1 h59
                        refine E.aload_n C dX7_firstSwap_62 rfl rfl ?_
                        refine E.iload_n C dX7_firstSwap_63 rfl rfl ?_
                        refine E.iload C dX7_firstSwap_64 rfl ?_
                        refine E.iload C dX7_firstSwap_66 rfl ?_
                        refine E.iload C dX7_firstSwap_68 rfl ?_
                        refine E.iload_n C dX7_firstSwap_70 rfl rfl ?_
                        refine N.callVp (S := []) (As := [vi a, vi (wornI v o a s), vi b, vi (wornI v o b s), vi sl]) C hX (ok_X7_bothWant G o a (wornI v o a s) b (wornI v o b s) sl v ho hc hb hth hfz hsl (by omega) ⟨hm1.1, hm1.2.1, hm2.1, hm2.2.1⟩) yf_X7_bothWant yv_X7_bothWant ml_X7_126 rfl rfl rfl (kdV ho) (by decide) (by decide) (Nat.le_of_ble_eq_true rfl) dX7_firstSwap_71 rfl ?_
                        refine E.if_eq C dX7_firstSwap_74 (tgt := 90) (by decide) (fun h74 => ?_) (fun h74 => ?_)
                        · skip
                          refine N.iinc_5 C dX7_firstSwap_90 (hN 5 (by decide)) rfl (by omega) ?_
                          refine E.goto C dX7_firstSwap_93 (tgt := 30) (by decide) ?_
                          refine E.drop (i := 6) ?_
                          exact ih30 _ (by omega) (b + 1) rfl (by refine ⟨by omega, by omega, fun b1 h1 h2 => ?_⟩; by_cases hz : b1 = b; (subst hz; first | exact fun hq => hq.2.1 h59 | exact fun hq => absurd hq.2.2 (by omega)); exact hb2 b1 h1 (by omega))
                        · skip
                          have hw1 := wantI_01 v o a (wornI v o a s) b (wornI v o b s) sl
                          refine E.bipush C dX7_firstSwap_77 (by decide) ?_
                          refine E.iload_n C dX7_firstSwap_79 rfl rfl ?_
                          refine E.imul C dX7_firstSwap_80 (by omega) ?_
                          refine E.bipush C dX7_firstSwap_81 (by decide) ?_
                          refine E.iload_n C dX7_firstSwap_83 rfl rfl ?_
                          refine E.imul C dX7_firstSwap_84 (by omega) ?_
                          refine E.iadd C dX7_firstSwap_85 (by omega) ?_
                          refine E.iload C dX7_firstSwap_86 rfl ?_
                          refine E.iadd C dX7_firstSwap_88 (by omega) ?_
                          exact N.iret C hR dX7_firstSwap_89 (fun hi hx => by refine ⟨Or.inr ⟨s, a, b, rfl, hs0, by omega, ha0, hb0, by omega, ⟨h43, h59, by omega⟩, fun s1 a1 b1 g1 g2 g3 g4 g5 => ?_⟩, rfl⟩; rcases g5 with g5 | ⟨rfl, g5 | ⟨rfl, g5⟩⟩; (exact hs2 s1 a1 b1 g1 g5 g2 g3 g4); (exact ha2 a1 b1 g2 g5 g3 g4); exact hb2 b1 g3 g5)
              exact lp30 _ (a + 1) rfl (by exact ⟨by omega, by omega, fun b1 h1 h2 => by omega⟩)
        exact lp9 _ 0 rfl (by exact ⟨by omega, by omega, fun a1 b1 h1 h2 => by omega⟩)
  exact lp2 _ 0 rfl (by exact ⟨by omega, by omega, fun s1 a1 b1 h1 h2 => by omega⟩)

set_option maxHeartbeats 4000000 in
set_option maxRecDepth 20000 in
theorem ok_X7_makeSwap (G : GT) (o s a b : Int) (v : VT) (ho : isV o) (hb : 0 ≤ v o 5 ∧ v o 5 ≤ 10) : MVe G yX7_makeSwap cX7_makeSwap 6 none 1 23 [vr o, vi s, vi a, vi b] v (swF v o s a b) := by
  refine MN.of pn_X7_makeSwap [some (vr o), some (vi s), some (vi a), some (vi b), none, none] 2 rfl rfl (fun X C hX hn hR => ?_)
  have hN : ∀ i : Nat, i < 6 → i < xn X := fun i h => by rw [hn]; exact h
  refine E.rngk (fun hinv => ?_)
  refine E.loc (fun hloc => ?_)
  have hin_1 : in32 s := hloc _ (List.mem_of_getElem? (i := 1) rfl)
  have hin_2 : in32 a := hloc _ (List.mem_of_getElem? (i := 2) rfl)
  have hin_3 : in32 b := hloc _ (List.mem_of_getElem? (i := 3) rfl)
  refine E.aload_n C dX7_makeSwap_0 rfl rfl ?_
  refine E.iload_n C dX7_makeSwap_1 rfl rfl ?_
  refine E.iload_n C dX7_makeSwap_2 rfl rfl ?_
  refine N.callVp (S := []) (As := [vi a, vi s]) C hX (ok_X7_wornBy G o a s v ho hb) yf_X7_wornBy yv_X7_wornBy ml_X7_99 rfl rfl rfl (kdV ho) (by decide) (by decide) (Nat.le_of_ble_eq_true rfl) dX7_makeSwap_3 rfl ?_
  refine N.ist_4 C dX7_makeSwap_6 (hN 4 (by decide)) rfl ?_
  refine E.aload_n C dX7_makeSwap_8 rfl rfl ?_
  refine E.iload_n C dX7_makeSwap_9 rfl rfl ?_
  refine E.iload_n C dX7_makeSwap_10 rfl rfl ?_
  refine N.callVp (S := []) (As := [vi b, vi s]) C hX (ok_X7_wornBy G o b s v ho hb) yf_X7_wornBy yv_X7_wornBy ml_X7_99 rfl rfl rfl (kdV ho) (by decide) (by decide) (Nat.le_of_ble_eq_true rfl) dX7_makeSwap_11 rfl ?_
  refine N.ist_5 C dX7_makeSwap_14 (hN 5 (by decide)) rfl ?_
  refine E.aload_n C dX7_makeSwap_16 rfl rfl ?_
  refine E.iload C dX7_makeSwap_17 rfl ?_
  refine N.callVp (S := []) (As := [vi (wornI v o a s)]) C hX (ok_X7_hasThing G o (wornI v o a s) v ho) yf_X7_hasThing yv_X7_hasThing ml_X7_133 rfl rfl rfl (kdV ho) (by decide) (by decide) (Nat.le_of_ble_eq_true rfl) dX7_makeSwap_19 rfl ?_
  refine E.if_eq C dX7_makeSwap_22 (tgt := 56) (by decide) (fun h22 => ?_) (fun h22 => ?_)
  · have h22 := b0.mp h22
    exact N.vret C hR dX7_makeSwap_56 (fun hi => by unfold swF; first | (rw [if_pos ⟨by omega, by omega⟩]; rfl) | (rw [if_neg (fun hq => by omega)]))
  · have h22 := b0n.mp h22
    refine E.aload_n C dX7_makeSwap_25 rfl rfl ?_
    refine E.iload C dX7_makeSwap_26 rfl ?_
    refine N.callVp (S := []) (As := [vi (wornI v o b s)]) C hX (ok_X7_hasThing G o (wornI v o b s) v ho) yf_X7_hasThing yv_X7_hasThing ml_X7_133 rfl rfl rfl (kdV ho) (by decide) (by decide) (Nat.le_of_ble_eq_true rfl) dX7_makeSwap_28 rfl ?_
    refine E.if_eq C dX7_makeSwap_31 (tgt := 56) (by decide) (fun h31 => ?_) (fun h31 => ?_)
    · have h31 := b0.mp h31
      exact N.vret C hR dX7_makeSwap_56 (fun hi => by unfold swF; first | (rw [if_pos ⟨by omega, by omega⟩]; rfl) | (rw [if_neg (fun hq => by omega)]))
    · have h31 := b0n.mp h31
      refine E.aload_n C dX7_makeSwap_34 rfl rfl ?_
      refine N.getR C fa_X7_19 rfl dX7_makeSwap_35 (kdV ho) (x := o + 2) (rvV1 ho) (by have := posVk ho; omega) ?_
      refine E.iload C dX7_makeSwap_38 rfl ?_
      refine N.aald C (t := 5) (by decide) dX7_makeSwap_40 (kdVt ho) (lnVt ho) (by omega) (x := o + 13 + (wornI v o a s)) (rvVt ho (by omega)) (by have := posVk ho; omega) ?_
      refine E.iload_n C dX7_makeSwap_41 rfl rfl ?_
      refine N.putI C fp_X7_91 rfl dX7_makeSwap_42 (kdVT ho (by omega)) ?_
      refine E.aload_n C dX7_makeSwap_45 rfl rfl ?_
      refine N.getR C fa_X7_19 rfl dX7_makeSwap_46 (kdV ho) (x := o + 2) (rvV1 ho) (by have := posVk ho; omega) ?_
      refine E.iload C dX7_makeSwap_49 rfl ?_
      refine N.aald C (t := 5) (by decide) dX7_makeSwap_51 (kdVt ho) (lnVt ho) (by omega) (x := o + 13 + (wornI v o b s)) (rvVt ho (by omega)) (by have := posVk ho; omega) ?_
      refine E.iload_n C dX7_makeSwap_52 rfl rfl ?_
      refine N.putI C fp_X7_91 rfl dX7_makeSwap_53 (kdVT ho (by omega)) ?_
      exact N.vret C hR dX7_makeSwap_56 (fun hi => by unfold swF; first | (rw [if_pos ⟨by omega, by omega⟩]; rfl) | (rw [if_neg (fun hq => by omega)]))
