set_option maxHeartbeats 4000000 in
set_option maxRecDepth 20000 in
theorem ok_X1_addLent (G : GT) (o o2 q sl : Int) (v : VT) (ho : isV o) (ho2 : isV o2) (hc : 0 ≤ v 54 5 ∧ v 54 5 ≤ 8) (hb : 0 ≤ v o2 5 ∧ v o2 5 ≤ 10) (hth : ∀ t, 0 ≤ t → t < v o2 5 → thOK v (o2 + 13 + t)) (hfz : ∀ c, 0 ≤ c → c < v 54 5 → -1000 ≤ v (o + 5 + c) 0 ∧ v (o + 5 + c) 0 ≤ 1000) (hsl : -1000 ≤ sl ∧ sl ≤ 1000) : MNv G yX1_addLent cX1_addLent 8 none 2 46 [vr 54, vr o, vr o2, vi q, vi sl] v (fun w => (∀ a j, (¬ a = 54 ∨ ¬ j = 6) → ¬ a = 55 → w a j = v a j) ∧ w 54 6 = 10 + v o2 5 ∧ ∀ d, 0 ≤ d → d < v 54 5 → LentM (v 55 d) (lenP v o o2 q sl d) (v o2 5) (w 55 d)) := by
  refine MN.of pn_X1_addLent [some (vr 54), some (vr o), some (vr o2), some (vi q), some (vi sl), none, none, none] 3 rfl rfl (fun X C hX hn hR => ?_)
  have hN : ∀ i : Nat, i < 8 → i < xn X := fun i h => by rw [hn]; exact h
  refine E.rngk (fun hinv => ?_)
  refine E.loc (fun hloc => ?_)
  have hin_3 : in32 q := hloc _ (List.mem_of_getElem? (i := 3) rfl)
  have hin_4 : in32 sl := hloc _ (List.mem_of_getElem? (i := 4) rfl)
  have hov := ho
  unfold isV at hov
  have hov2 := ho2
  unfold isV at hov2
  refine E.aload_n C dX1_addLent_0 rfl rfl ?_
  refine E.bipush C dX1_addLent_1 (by decide) ?_
  refine E.aload_n C dX1_addLent_3 rfl rfl ?_
  refine N.getI C fa_X1_44 rfl dX1_addLent_4 (kdV ho2) (x := v o2 5) rfl ?_
  refine E.iadd C dX1_addLent_7 (by omega) ?_
  refine N.putI C fp_X1_47 rfl dX1_addLent_8 kd_54 ?_
  refine E.iconst C dX1_addLent_11 (by decide) ?_
  refine N.ist_5 C dX1_addLent_12 (hN 5 (by decide)) rfl ?_
  have lp14 : ∀ (k14 : Nat) (c : Int) (w : VT), (v 54 5 - c).toNat = k14 → (0 ≤ c ∧ c ≤ v 54 5 ∧ (∀ a j, (¬ a = 54 ∨ ¬ j = 6) → ¬ a = 55 → w a j = v a j) ∧ w 54 6 = 10 + v o2 5 ∧ (∀ d, 0 ≤ d → d < c → LentM (v 55 d) (lenP v o o2 q sl d) (v o2 5) (w 55 d)) ∧ (∀ d, c ≤ d → w 55 d = v 55 d)) → E X G 0 0 1000 w 14 [some (vr 54), some (vr o), some (vr o2), some (vi q), some (vi sl), some (vi c), none, none] [] := by
    intro k14
    induction k14 using Nat.strongRecOn with
    | ind k14 ih14 =>
      intro c w hk14 hI14
      obtain ⟨hc0, hc1, hfr, h6, hlm, hre⟩ := hI14
      refine E.iload C dX1_addLent_14 rfl ?_
      refine E.aload_n C dX1_addLent_16 rfl rfl ?_
      refine N.getI C fa_X1_43 rfl dX1_addLent_17 kd_54 (x := v 54 5) (hfr _ _ (by omega) (by omega)) ?_
      refine E.icmp_ge C dX1_addLent_20 (tgt := 105) (by decide) (fun h20 => ?_) (fun h20 => ?_)
      · skip
        exact N.vret C hR dX1_addLent_105 (fun hi => by exact ⟨hfr, h6, fun d g1 g2 => hlm d g1 (by omega)⟩)
      · skip
        refine E.aload_n C dX1_addLent_23 rfl rfl ?_
        refine N.getR C fa_X1_57 rfl dX1_addLent_24 (kdV ho) (x := o + 1) (rvV0 ho) (by have := posVk ho; omega) ?_
        refine E.iload C dX1_addLent_27 rfl ?_
        refine N.aald C (t := 3) (by decide) dX1_addLent_29 (kdVc ho) (lnVc ho) (by omega) (x := o + 5 + c) (rvVc ho (by omega)) (by have := posVk ho; omega) ?_
        refine N.getI C fa_X1_61 rfl dX1_addLent_30 (kdVC ho (by omega)) (x := v (o + 5 + c) 0) (hfr _ _ (by omega) (by omega)) ?_
        refine N.ist_6 C dX1_addLent_33 (hN 6 (by decide)) rfl ?_
        refine E.iconst C dX1_addLent_35 (by decide) ?_
        refine N.ist_7 C dX1_addLent_36 (hN 7 (by decide)) rfl ?_
        have lp38 : ∀ (k38 : Nat) (t : Int) (y : VT), (v o2 5 - t).toNat = k38 → (0 ≤ t ∧ t ≤ v o2 5 ∧ (∀ a j, (¬ a = 54 ∨ ¬ j = 6) → ¬ a = 55 → y a j = v a j) ∧ y 54 6 = 10 + v o2 5 ∧ (∀ d, 0 ≤ d → d < c → LentM (v 55 d) (lenP v o o2 q sl d) (v o2 5) (y 55 d)) ∧ (∀ d, c < d → y 55 d = v 55 d) ∧ LentM (v 55 c) (lenP v o o2 q sl c) t (y 55 c)) → E X G 0 0 1000 y 38 [some (vr 54), some (vr o), some (vr o2), some (vi q), some (vi sl), some (vi c), some (vi (v (o + 5 + c) 0)), some (vi t)] [] := by
          intro k38
          induction k38 using Nat.strongRecOn with
          | ind k38 ih38 =>
            intro t y hk38 hI38
            obtain ⟨ht0, ht1, hyf, hy6, hym, hyr, hyl⟩ := hI38
            refine E.iload C dX1_addLent_38 rfl ?_
            refine E.aload_n C dX1_addLent_40 rfl rfl ?_
            refine N.getI C fa_X1_44 rfl dX1_addLent_41 (kdV ho2) (x := v o2 5) (hyf _ _ (by omega) (by omega)) ?_
            refine E.icmp_ge C dX1_addLent_44 (tgt := 99) (by decide) (fun h44 => ?_) (fun h44 => ?_)
            · skip
              refine N.iinc_5 C dX1_addLent_99 (hN 5 (by decide)) rfl (by omega) ?_
              refine E.goto C dX1_addLent_102 (tgt := 14) (by decide) ?_
              refine E.drop (i := 6) ?_
              refine E.drop (i := 7) ?_
              exact ih14 _ (by omega) (c + 1) y rfl (by exact ⟨by omega, by omega, hyf, hy6, fun d g1 g2 => by by_cases e : d = c; (rw [e, show v o2 5 = t by omega]; exact hyl); (exact hym d g1 (by omega)), fun d g => hyr d (by omega)⟩)
            · skip
              refine E.iload_n C dX1_addLent_47 rfl rfl ?_
              refine E.iload C dX1_addLent_48 rfl ?_
              refine E.ishr C dX1_addLent_50 ?_
              refine E.iconst C dX1_addLent_51 (by decide) ?_
              refine E.iand C dX1_addLent_52 ?_
              refine E.iconst C dX1_addLent_53 (by decide) ?_
              refine E.icmp_ne C dX1_addLent_54 (tgt := 93) (by decide) (fun h54 => ?_) (fun h54 => ?_)
              · skip
                refine N.iinc_7 C dX1_addLent_93 (hN 7 (by decide)) rfl (by omega) ?_
                refine E.goto C dX1_addLent_96 (tgt := 38) (by decide) ?_
                exact ih38 _ (by omega) (t + 1) y rfl (by first | exact ⟨by omega, by omega, hyf, hy6, hym, hyr, hyl.no (fun z => h54 ((bitI_1 ⟨by omega, by omega⟩).mpr z.1))⟩ | exact ⟨by omega, by omega, hyf, hy6, hym, hyr, hyl.no (fun z => z.2 h73)⟩ | (refine ⟨by omega, by omega, fun a j g1 g2 => (u_ne (Or.inl g2)).trans (hyf a j g1 g2), (u_ne (Or.inl (by decide))).trans hy6, fun d g1 g2 => by rw [u_ne (Or.inr (by omega))]; exact hym d g1 g2, fun d g => (u_ne (Or.inr (by omega))).trans (hyr d g), ?_⟩; rw [u_at rfl]; exact hyl.yes ⟨by omega, by omega⟩ ⟨(bitI_1 ⟨by omega, by omega⟩).mp h54, h73⟩))
              · skip
                refine E.aload_n C dX1_addLent_57 rfl rfl ?_
                refine N.getR C fa_X1_66 rfl dX1_addLent_58 (kdV ho2) (x := o2 + 2) (rvV1 ho2) (by have := posVk ho2; omega) ?_
                refine E.iload C dX1_addLent_61 rfl ?_
                refine N.aald C (t := 5) (by decide) dX1_addLent_63 (kdVt ho2) (lnVt ho2) (by omega) (x := o2 + 13 + t) (rvVt ho2 (by omega)) (by have := posVk ho2; omega) ?_
                refine E.iload C dX1_addLent_64 rfl ?_
                refine E.iload C dX1_addLent_66 rfl ?_
                refine E.iload C dX1_addLent_68 rfl ?_
                refine N.callVp (S := []) (As := [vi c, vi (v (o + 5 + c) 0), vi sl]) C hX (ok_X6_fitFor G (o2 + 13 + t) c (v (o + 5 + c) 0) sl y (kdVT ho2 (by omega)) (by have q1 := hth t ht0 (by omega); have q2 := hyf (o2 + 13 + t); unfold thOK at q1 ⊢; rw [q2 _ (by omega) (by omega), q2 _ (by omega) (by omega)]; exact q1) (by have := hfz c hc0 (by omega); omega)) yf_X6_fitFor yv_X6_fitFor ml_X1_75 rfl rfl rfl (kdVT ho2 (by omega)) (by decide) (by decide) (Nat.le_of_ble_eq_true rfl) dX1_addLent_70 rfl ?_
                refine E.veq (x' := fitI (v (o2 + 13 + t) 1) (v (o2 + 13 + t) 2) (v (o2 + 13 + t) 3) (v (o2 + 13 + t) 4) (v (o2 + 13 + t) 5) (v (o2 + 13 + t) 6) c (v (o + 5 + c) 0) sl) (by rw [show y (o2 + 13 + t) 1 = v (o2 + 13 + t) 1 from (hyf _ _ (by omega) (by omega)), show y (o2 + 13 + t) 2 = v (o2 + 13 + t) 2 from (hyf _ _ (by omega) (by omega)), show y (o2 + 13 + t) 3 = v (o2 + 13 + t) 3 from (hyf _ _ (by omega) (by omega)), show y (o2 + 13 + t) 4 = v (o2 + 13 + t) 4 from (hyf _ _ (by omega) (by omega)), show y (o2 + 13 + t) 5 = v (o2 + 13 + t) 5 from (hyf _ _ (by omega) (by omega)), show y (o2 + 13 + t) 6 = v (o2 + 13 + t) 6 from (hyf _ _ (by omega) (by omega))]) ?_
                refine E.if_eq C dX1_addLent_73 (tgt := 93) (by decide) (fun h73 => ?_) (fun h73 => ?_)
                · skip
                  refine N.iinc_7 C dX1_addLent_93 (hN 7 (by decide)) rfl (by omega) ?_
                  refine E.goto C dX1_addLent_96 (tgt := 38) (by decide) ?_
                  exact ih38 _ (by omega) (t + 1) y rfl (by first | exact ⟨by omega, by omega, hyf, hy6, hym, hyr, hyl.no (fun z => h54 ((bitI_1 ⟨by omega, by omega⟩).mpr z.1))⟩ | exact ⟨by omega, by omega, hyf, hy6, hym, hyr, hyl.no (fun z => z.2 h73)⟩ | (refine ⟨by omega, by omega, fun a j g1 g2 => (u_ne (Or.inl g2)).trans (hyf a j g1 g2), (u_ne (Or.inl (by decide))).trans hy6, fun d g1 g2 => by rw [u_ne (Or.inr (by omega))]; exact hym d g1 g2, fun d g => (u_ne (Or.inr (by omega))).trans (hyr d g), ?_⟩; rw [u_at rfl]; exact hyl.yes ⟨by omega, by omega⟩ ⟨(bitI_1 ⟨by omega, by omega⟩).mp h54, h73⟩))
                · skip
                  refine E.aload_n C dX1_addLent_76 rfl rfl ?_
                  refine N.getR C fa_X1_9 rfl dX1_addLent_77 kd_54 (x := 55) (by decide +kernel) (by decide) ?_
                  refine E.iload C dX1_addLent_80 rfl ?_
                  refine E.dup2 C dX1_addLent_82 ?_
                  refine N.iald C dX1_addLent_83 kd_55 ln_55 (by omega) (x := y 55 c) rfl ?_
                  refine E.iconst C dX1_addLent_84 (by decide) ?_
                  refine E.bipush C dX1_addLent_85 (by decide) ?_
                  refine E.iload C dX1_addLent_87 rfl ?_
                  refine E.iadd C dX1_addLent_89 (by omega) ?_
                  refine E.ishl C dX1_addLent_90 ?_
                  refine E.ior C dX1_addLent_91 ?_
                  refine N.iast C dX1_addLent_92 kd_55 ln_55 (by omega) ?_
                  refine N.iinc_7 C dX1_addLent_93 (hN 7 (by decide)) rfl (by omega) ?_
                  refine E.goto C dX1_addLent_96 (tgt := 38) (by decide) ?_
                  exact ih38 _ (by omega) (t + 1) (upd2 y 55 c (jor (y 55 c) (jshl 1 (10 + t)))) rfl (by first | exact ⟨by omega, by omega, hyf, hy6, hym, hyr, hyl.no (fun z => h54 ((bitI_1 ⟨by omega, by omega⟩).mpr z.1))⟩ | exact ⟨by omega, by omega, hyf, hy6, hym, hyr, hyl.no (fun z => z.2 h73)⟩ | (refine ⟨by omega, by omega, fun a j g1 g2 => (u_ne (Or.inl g2)).trans (hyf a j g1 g2), (u_ne (Or.inl (by decide))).trans hy6, fun d g1 g2 => by rw [u_ne (Or.inr (by omega))]; exact hym d g1 g2, fun d g => (u_ne (Or.inr (by omega))).trans (hyr d g), ?_⟩; rw [u_at rfl]; exact hyl.yes ⟨by omega, by omega⟩ ⟨(bitI_1 ⟨by omega, by omega⟩).mp h54, h73⟩))
        exact lp38 _ 0 w rfl (by exact ⟨by omega, by omega, hfr, h6, hlm, fun d g => hre d (by omega), by rw [hre c (by omega)]; exact LentM.zero⟩)
  exact lp14 _ 0 (upd2 v 54 6 (10 + (v o2 5))) rfl (by exact ⟨by omega, by omega, fun a j g1 g2 => u_ne (by omega), u_at rfl, fun d g1 g2 => by omega, fun d g => u_ne (Or.inl (by decide))⟩)

set_option maxHeartbeats 4000000 in
set_option maxRecDepth 20000 in
theorem ok_X1_warmAllW (G : GT) (v : VT) (hc : 0 ≤ v 54 5 ∧ v 54 5 ≤ 8) (hT : 0 ≤ v 54 6 ∧ v 54 6 ≤ 20) (hcon : Con (v 56) (v 57) (v 54 5) (v 54 6)) (hleg : Leg (v 56) (v 55) (v 54 5)) (hwm : v 54 7 = wrmN (v 54 5) 0 (v 56)) (hmb : ∀ c, 0 ≤ c → c < v 54 5 → ∀ x, v 54 6 ≤ x → x < 32 → bt (v 55 c) x = false) : MNv G yX1_warmAll cX1_warmAll 3 none 2 47 [vr 54] v (fun w => (∀ a j, (¬ a = 54 ∨ ¬ j = 7) → (a < 56 ∨ 59 < a) → w a j = v a j) ∧ Con (w 56) (w 57) (v 54 5) (v 54 6) ∧ MaxM (v 54 5) (mayT (v 55) (v 54 6)) (w 54 7) (w 56) ∧ ∀ x, v 54 6 ≤ x → w 57 x = v 57 x) := by
  refine MN.of pn_X1_warmAll [some (vr 54), none, none] 2 rfl rfl (fun X C hX hn hR => ?_)
  have hN : ∀ i : Nat, i < 3 → i < xn X := fun i h => by rw [hn]; exact h
  refine E.rngk (fun hinv => ?_)
  refine E.loc (fun hloc => ?_)
  refine E.iconst C dX1_warmAll_0 (by decide) ?_
  refine N.ist_1 C dX1_warmAll_1 (hN 1 (by decide)) rfl ?_
  have lp2 : ∀ (k2 : Nat) (c : Int) (w : VT), (v 54 5 - c).toNat = k2 → (0 ≤ c ∧ c ≤ v 54 5 ∧ (∀ a j, (¬ a = 54 ∨ ¬ j = 7) → (a < 56 ∨ 59 < a) → w a j = v a j) ∧ Con (w 56) (w 57) (v 54 5) (v 54 6) ∧ Leg (w 56) (v 55) (v 54 5) ∧ w 54 7 = wrmN (v 54 5) 0 (w 56) ∧ c ≤ wrmN (v 54 5) 0 (w 56) ∧ (∀ x, v 54 6 ≤ x → w 57 x = v 57 x)) → E X G 0 0 1000 w 2 [some (vr 54), some (vi c), none] [] := by
    intro k2
    induction k2 using Nat.strongRecOn with
    | ind k2 ih2 =>
      intro c w hk2 hI2
      obtain ⟨hc0, hc1, hfr, hcn, hlg, hwn, hcw, how⟩ := hI2; have e5 : w 54 5 = v 54 5 := hfr _ _ (by decide) (by decide); have e6 : w 54 6 = v 54 6 := hfr _ _ (by decide) (by decide); have e55 : w 55 = v 55 := funext (fun j => hfr _ _ (Or.inl (by decide)) (by decide)); have hwl := wrm_le (v 54 5) 0 (w 56) hc.1
      refine E.iload_n C dX1_warmAll_2 rfl rfl ?_
      refine E.aload_n C dX1_warmAll_3 rfl rfl ?_
      refine N.getI C fa_X1_43 rfl dX1_warmAll_4 kd_54 (x := v 54 5) (hfr _ _ (by decide) (by decide)) ?_
      refine E.icmp_ge C dX1_warmAll_7 (tgt := 47) (by decide) (fun h7 => ?_) (fun h7 => ?_)
      · skip
        exact N.vret C hR dX1_warmAll_47 (fun hi => by first | exact ⟨fun a j g1 g2 => (hp13.1 a j (by omega) (by omega)).trans (hfr a j g1 g2), by rw [f56, f57]; exact hcn, by rw [f56, hp13.1 _ _ (by decide) (by decide), hwn]; exact max_0 hcn hlg (by rw [h20] at hsq; exact hsq), by rw [f57]; exact how⟩ | exact ⟨hfr, hcn, by rw [hwn]; exact max_all hc.1 hcn hlg (by omega), how⟩)
      · skip
        refine E.aload_n C dX1_warmAll_10 rfl rfl ?_
        refine E.iconst C dX1_warmAll_11 (by decide) ?_
        refine E.iconst C dX1_warmAll_12 (by decide) ?_
        refine N.callVi (S := []) (As := [vi 0, vi 0]) C hX (ok_X1_seekFree G 0 0 w (by rw [e5]; exact hc) (by rw [e6]; exact hT) (by rw [e5]; omega) (by rw [e5, e6]; exact hcn.2) (by rw [e5, e6, e55]; exact hmb)) yf_X1_seekFree yv_X1_seekFree ml_X1_79 rfl rfl rfl kd_54 (by decide) (by decide) (Nat.le_of_ble_eq_true rfl) dX1_warmAll_13 rfl (fun t13 w13 hb13 hp13 => ?_)
        have f56 : w13 56 = w 56 := funext (fun j => hp13.1 _ _ (by decide) (by decide))
        have f57 : w13 57 = w 57 := funext (fun j => hp13.1 _ _ (by decide) (by decide))
        have f55 : w13 55 = v 55 := (funext (fun j => hp13.1 _ _ (by decide) (by decide))).trans e55
        have f5 : w13 54 5 = v 54 5 := (hp13.1 _ _ (by decide) (by decide)).trans e5
        have f6 : w13 54 6 = v 54 6 := (hp13.1 _ _ (by decide) (by decide)).trans e6
        have hsq := hp13.2
        rw [e5, e6, e55] at hsq
        refine N.ist_2 C dX1_warmAll_16 (hN 2 (by decide)) rfl ?_
        refine E.iload_n C dX1_warmAll_17 rfl rfl ?_
        refine E.bipush C dX1_warmAll_18 (by decide) ?_
        refine E.icmp_ne C dX1_warmAll_20 (tgt := 26) (by decide) (fun h20 => ?_) (fun h20 => ?_)
        · skip
          obtain ⟨hr0, hr1, hfree13, D13, rk13, hD13, hway13⟩ := hsq.resolve_left (fun hq => h20 hq.1)
          refine E.aload_n C dX1_warmAll_26 rfl rfl ?_
          refine E.iload_n C dX1_warmAll_27 rfl rfl ?_
          refine N.callVv (S := []) (As := [vi t13]) C hX (ok_X1_passAlong G t13 0 0 D13 rk13 w13 (by rw [f5]; exact hc) (by rw [f6]; exact hT) (by rw [f56, f57, f5, f6]; exact hcn) (by rw [f56, f55, f5, f6]; exact hway13) hD13 (by rw [f57]; exact hfree13)) yf_X1_passAlong yv_X1_passAlong ml_X1_83 rfl rfl rfl kd_54 (by decide) (by decide) (Nat.le_of_ble_eq_true rfl) dX1_warmAll_28 rfl (fun w28 hp28 => ?_)
          have hfl := hp28.2
          rw [f56, f57, f55, f5, f6] at hfl
          have hwl2 := wrm_le (v 54 5) 0 (w28 56) hc.1
          refine E.aload_n C dX1_warmAll_31 rfl rfl ?_
          refine E.dupR C dX1_warmAll_32 ?_
          refine N.getI C fa_X1_48 rfl dX1_warmAll_33 kd_54 (x := w 54 7) ((hp28.1 _ _ (by decide) (by decide)).trans (hp13.1 _ _ (by decide) (by decide))) ?_
          refine E.iconst C dX1_warmAll_36 (by decide) ?_
          refine E.iadd C dX1_warmAll_37 (by omega) ?_
          refine N.putI C fp_X1_48 rfl dX1_warmAll_38 kd_54 ?_
          refine N.iinc_1 C dX1_warmAll_41 (hN 1 (by decide)) rfl (by omega) ?_
          refine E.goto C dX1_warmAll_44 (tgt := 2) (by decide) ?_
          refine E.drop (i := 2) ?_
          exact ih2 _ (by omega) (c + 1) (upd2 w28 54 7 ((w 54 7) + 1)) rfl (by refine ⟨by omega, by omega, fun a j g1 g2 => ?_, hfl.1, flip_leg hfl hlg, ?_, ?_, fun x g => (u_ne (Or.inl (by decide))).trans (Eq.trans (Classical.byContradiction (fun z => by have := hfl.2.2.2 x z; omega)) (how x g))⟩; (rw [upd2_ne _ _ _ _ _ _ (by omega), hp28.1 a j (by omega) (by omega), hp13.1 a j (by omega) (by omega)]; exact hfr a j g1 g2); (rw [upd2_same, upd2_rowne (by decide), flip_cnt hfl (Int.le_refl _), ← hwn]); (rw [upd2_rowne (by decide), flip_cnt hfl (Int.le_refl _)]; omega))
        · skip
          refine E.goto C dX1_warmAll_23 (tgt := 47) (by decide) ?_
          exact N.vret C hR dX1_warmAll_47 (fun hi => by first | exact ⟨fun a j g1 g2 => (hp13.1 a j (by omega) (by omega)).trans (hfr a j g1 g2), by rw [f56, f57]; exact hcn, by rw [f56, hp13.1 _ _ (by decide) (by decide), hwn]; exact max_0 hcn hlg (by rw [h20] at hsq; exact hsq), by rw [f57]; exact how⟩ | exact ⟨hfr, hcn, by rw [hwn]; exact max_all hc.1 hcn hlg (by omega), how⟩)
  exact lp2 _ 0 v rfl (by exact ⟨by omega, by omega, fun a j _ _ => rfl, hcon, hleg, hwm, (wrm_le _ _ _ hc.1).1, fun _ _ => rfl⟩)
