set_option maxHeartbeats 4000000 in
set_option maxRecDepth 20000 in
theorem ok_X9_findDeal (G : GT) (s sl : Int) (A v : VT) (hA : WFV A 0) (hM : MR A (v 120)) (hal : v 119 2 = sl) (hsl : 0 ≤ sl ∧ sl ≤ 4) : MNi G yX9_findDeal cX9_findDeal 7 (some .int) 4 95 [vr 119, vi s] v (fun x w => (∀ a j, (¬ a = 119 ∨ ¬ j = 16) → (a < 124 ∨ 130 < a) → w a j = v a j) ∧ x = warmV A 0 s sl ∧ (∀ c, 0 ≤ c → c < A 0 4 → w 125 c = dealV A 0 s sl c) ∧ Con (w 125) (w 126) (A 0 4) 20 ∧ IsDeal (A 0 4) (mayA A 0 s sl) (warmV A 0 s sl) (dealV A 0 s sl)) := by
  refine MN.of pn_X9_findDeal [some (vr 119), some (vi s), none, none, none, none, none] 5 rfl rfl (fun X C hX hn hR => ?_)
  have hN : ∀ i : Nat, i < 7 → i < xn X := fun i h => by rw [hn]; exact h
  refine E.rngk (fun hinv => ?_)
  refine E.loc (fun hloc => ?_)
  have hin_1 : in32 s := hloc _ (List.mem_of_getElem? (i := 1) rfl)
  have hc := hM.1
  have hb := hM.2.1
  have hA1 := hA.1
  have hA2 := hA.2.1
  refine E.aload_n C dX9_findDeal_0 rfl rfl ?_
  refine E.iload_n C dX9_findDeal_1 rfl rfl ?_
  refine N.callVe (S := []) (As := [vi s]) C hX (ok_X9_findCanHave G s v (by omega) (by omega) (hM.th hA) (hM.fz hA) (by omega)) yf_X9_findCanHave yv_X9_findCanHave ml_X9_238 rfl rfl rfl kd_119 (by decide) (by decide) (Nat.le_of_ble_eq_true rfl) dX9_findDeal_2 rfl ?_
  obtain ⟨w5, hw5⟩ : ∃ z, z = (canF v s (v 120 0) (v 120 0) 0) := ⟨_, rfl⟩
  refine E.heq hw5.symm ?_
  have hq5 := can_all (s := s) hA hM hal
  rw [← hw5] at hq5
  obtain ⟨q1, q2, q3, q4, q5⟩ := id hq5
  refine E.aload_n C dX9_findDeal_5 rfl rfl ?_
  refine N.callVi (S := []) (As := []) C hX (ok_X9_findMost G w5 (by rw [q1]; exact hA1)) yf_X9_findMost yv_X9_findMost ml_X9_241 rfl rfl rfl kd_119 (by decide) (by decide) (Nat.le_of_ble_eq_true rfl) dX9_findDeal_6 rfl (fun t6 w6 hb6 hp6 => ?_)
  rw [q1] at hp6
  have e16 : w6 119 16 = A 0 4 := (hp6.1 _ _ (by decide)).trans q1
  have e124 : w6 124 = w5 124 := funext (fun j => hp6.1 _ _ (by decide))
  refine N.ist_2 C dX9_findDeal_9 (hN 2 (by decide)) rfl ?_
  refine E.iconst C dX9_findDeal_10 (by decide) ?_
  refine N.ist_3 C dX9_findDeal_11 (hN 3 (by decide)) rfl ?_
  refine E.iconst C dX9_findDeal_12 (by decide) ?_
  refine N.ist_4 C dX9_findDeal_13 (hN 4 (by decide)) rfl ?_
  have lp15 : ∀ (k15 : Nat) (sd : Int) (c : Int) (w : VT), (A 0 4 - c).toNat = k15 → (0 ≤ c ∧ c ≤ A 0 4 ∧ (∀ a j, (a < 125 ∨ 130 < a) → w a j = w6 a j) ∧ OrdI (A 0 4) 20 t6 (w5 124) (w 125) (w 126) sd c) → E X G 0 0 1000 w 15 [some (vr 119), some (vi s), some (vi t6), some (vi sd), some (vi c), none, none] [] := by
    intro k15
    induction k15 using Nat.strongRecOn with
    | ind k15 ih15 =>
      intro sd c w hk15 hI15
      obtain ⟨hc0, hc1, hfr, ho⟩ := hI15
      refine E.iload C dX9_findDeal_15 rfl ?_
      refine E.aload_n C dX9_findDeal_17 rfl rfl ?_
      refine N.getI C fa_X9_223 rfl dX9_findDeal_18 kd_119 (x := A 0 4) ((hfr _ _ (by decide)).trans ((hp6.1 _ _ (by decide)).trans hq5.1)) ?_
      refine E.icmp_ge C dX9_findDeal_21 (tgt := 122) (by decide) (fun h21 => ?_) (fun h21 => ?_)
      · skip
        refine E.iload_n C dX9_findDeal_122 rfl rfl ?_
        exact N.iret C hR dX9_findDeal_123 (fun hi hx => by have e : c = A 0 4 := (by omega); rw [e] at ho; have hid := deal_is (deal_may q3 ⟨ho.2.1, ho.2.2.1⟩); refine ⟨fun a j g1 g2 => ((hfr a j (by omega)).trans (hp6.1 a j (by omega))).trans (q2 a j g1 (by omega)), hid.1, hid.2.1, ho.1, ?_⟩; have := hid.2.2; rw [hid.1] at this; exact this)
      · skip
        have jn51 : ∀ (on0 : Int), (on0 = 1 ∨ (on0 = 0 ∧ w 125 c = -4 ∧ w5 124 c = 0)) → E X G 0 0 1000 w 51 [some (vr 119), some (vi s), some (vi t6), some (vi sd), some (vi c), none, none] [vi on0] := by
          intro on0 hJ51
          refine N.ist_5 C dX9_findDeal_51 (hN 5 (by decide)) rfl ?_
          refine E.iconst C dX9_findDeal_53 (by decide) ?_
          refine N.ist_6 C dX9_findDeal_54 (hN 6 (by decide)) rfl ?_
          have lp56 : ∀ (k56 : Nat) (on_ : Int) (t : Int) (sd2 : Int) (w3 : VT), (10 - t).toNat = k56 → (0 ≤ t ∧ t ≤ 10 ∧ (∀ a j, (a < 125 ∨ 130 < a) → w3 a j = w6 a j) ∧ ((on_ = 1 ∧ sd2 = sd ∧ OrdI (A 0 4) 20 t6 (w5 124) (w3 125) (w3 126) sd2 c ∧ Rej (A 0 4) 20 t6 (w5 124) (w3 125) c t) ∨ (on_ = 0 ∧ OrdI (A 0 4) 20 t6 (w5 124) (w3 125) (w3 126) sd2 (c + 1)))) → E X G 0 0 1000 w3 56 [some (vr 119), some (vi s), some (vi t6), some (vi sd2), some (vi c), some (vi on_), some (vi t)] [] := by
            intro k56
            induction k56 using Nat.strongRecOn with
            | ind k56 ih56 =>
              intro on_ t sd2 w3 hk56 hI56
              obtain ⟨ht0, ht1, hfr3, hst⟩ := hI56; have e163 : w3 119 16 = A 0 4 := (hfr3 _ _ (by decide)).trans e16; have e1243 : w3 124 = w5 124 := (funext (fun j => hfr3 _ _ (by decide))).trans e124
              refine E.iload C dX9_findDeal_56 rfl ?_
              refine E.bipush C dX9_findDeal_58 (by decide) ?_
              refine E.icmp_ge C dX9_findDeal_60 (tgt := 116) (by decide) (fun h60 => ?_) (fun h60 => ?_)
              · skip
                refine N.iinc_4 C dX9_findDeal_116 (hN 4 (by decide)) rfl (by omega) ?_
                refine E.goto C dX9_findDeal_119 (tgt := 15) (by decide) ?_
                refine E.drop (i := 5) ?_
                refine E.drop (i := 6) ?_
                exact ih15 _ (by omega) sd2 (c + 1) w3 rfl (by refine ⟨by omega, by omega, hfr3, ?_⟩; rcases hst with ⟨s1, s2, s3, s4⟩ | ⟨s1, s2⟩; (subst s2; exact ord_none s3 (by omega) (rej_all s3 (by omega) (by omega) s4 (fun y g1 g2 g3 => by rw [q4 c hc0 (by omega) y (by omega) (by omega)]; exact fun z => by cases z.1))); exact s2)
              · skip
                refine E.iload C dX9_findDeal_63 rfl ?_
                refine E.if_eq C dX9_findDeal_65 (tgt := 116) (by decide) (fun h65 => ?_) (fun h65 => ?_)
                · skip
                  refine N.iinc_4 C dX9_findDeal_116 (hN 4 (by decide)) rfl (by omega) ?_
                  refine E.goto C dX9_findDeal_119 (tgt := 15) (by decide) ?_
                  refine E.drop (i := 5) ?_
                  refine E.drop (i := 6) ?_
                  exact ih15 _ (by omega) sd2 (c + 1) w3 rfl (by refine ⟨by omega, by omega, hfr3, ?_⟩; rcases hst with ⟨s1, s2, s3, s4⟩ | ⟨s1, s2⟩; (subst s2; exact ord_none s3 (by omega) (rej_all s3 (by omega) (by omega) s4 (fun y g1 g2 g3 => by rw [q4 c hc0 (by omega) y (by omega) (by omega)]; exact fun z => by cases z.1))); exact s2)
                · skip
                  obtain ⟨s1, s2, o3, rj3⟩ := hst.resolve_right (fun hq => by have := hq.1; omega)
                  have hbo : bitI (jand (w5 124 c) (jxor sd2 (-1))) t = 1 ↔ (bt (w5 124 c) t = true ∧ bt sd2 t = false) := (bitI_1 (x := jand (w5 124 c) (jxor sd2 (-1))) (t := t) ⟨ht0, by omega⟩).trans (bt_open (by omega) ht0)
                  refine E.aload_n C dX9_findDeal_68 rfl rfl ?_
                  refine N.getR C fa_X9_23 rfl dX9_findDeal_69 kd_119 (x := 124) (by decide +kernel) (by decide) ?_
                  refine E.iload C dX9_findDeal_72 rfl ?_
                  refine N.iald C dX9_findDeal_74 kd_124 ln_124 (by omega) (x := w5 124 c) ((hfr3 _ _ (by decide)).trans (hp6.1 _ _ (by decide))) ?_
                  refine E.iload_n C dX9_findDeal_75 rfl rfl ?_
                  refine E.iconst C dX9_findDeal_76 (by decide) ?_
                  refine E.ixor C dX9_findDeal_77 ?_
                  refine E.iand C dX9_findDeal_78 ?_
                  refine E.iload C dX9_findDeal_79 rfl ?_
                  refine E.ishr C dX9_findDeal_81 ?_
                  refine E.iconst C dX9_findDeal_82 (by decide) ?_
                  refine E.iand C dX9_findDeal_83 ?_
                  refine E.iconst C dX9_findDeal_84 (by decide) ?_
                  refine E.icmp_ne C dX9_findDeal_85 (tgt := 110) (by decide) (fun h85 => ?_) (fun h85 => ?_)
                  · skip
                    refine N.iinc_6 C dX9_findDeal_110 (hN 6 (by decide)) rfl (by omega) ?_
                    refine E.goto C dX9_findDeal_113 (tgt := 56) (by decide) ?_
                    exact ih56 _ (by omega) on_ (t + 1) sd2 w3 rfl (by first | exact ⟨by omega, by omega, hfr3, Or.inl ⟨s1, s2, o3, rej_step rj3 (rej_shut o3 (by omega) ⟨ht0, by omega⟩ (by omega) (fun hq => h85 (hbo.mpr hq)))⟩⟩ | (rcases hcq with ⟨k1, k2⟩ | ⟨k1, k2, k3, k4⟩; (first | (exfalso; omega) | exact ⟨by omega, by omega, fun a j g => (hp94.1 a j g).trans (hfr3 a j g), Or.inr ⟨rfl, ord_take o3 (by omega) ⟨ht0, by omega⟩ (by omega) rj3 k2⟩⟩); (first | (exfalso; omega) | exact ⟨by omega, by omega, fun a j g => (hp94.1 a j g).trans (hfr3 a j g), Or.inl ⟨s1, s2, by rw [k2, k3]; exact o3, by rw [k2]; exact rej_step rj3 k4⟩⟩)))
                  · skip
                    have hbt := hbo.mp h85
                    refine E.aload_n C dX9_findDeal_88 rfl rfl ?_
                    refine E.iload C dX9_findDeal_89 rfl ?_
                    refine E.iload C dX9_findDeal_91 rfl ?_
                    refine E.iload_n C dX9_findDeal_93 rfl rfl ?_
                    refine N.callVi (S := []) (As := [vi c, vi t, vi sd2]) C hX (ok_X9_canGet G c t sd2 t6 w3 (by rw [e163]; exact hA1) (by rw [e163]; exact o3.1) (by rw [e163, e1243]; exact o3.2.1) (by rw [e163]; omega) ⟨ht0, by omega⟩ (by exact o3.2.2.2) hbt.2 (by rw [e1243]; exact hbt.1)) yf_X9_canGet yv_X9_canGet ml_X9_244 rfl rfl rfl kd_119 (by decide) (by decide) (Nat.le_of_ble_eq_true rfl) dX9_findDeal_94 rfl (fun t94 w94 hb94 hp94 => ?_)
                    have hcq := hp94.2
                    rw [e163, e1243] at hcq
                    refine E.if_eq C dX9_findDeal_97 (tgt := 110) (by decide) (fun h97 => ?_) (fun h97 => ?_)
                    · skip
                      refine N.iinc_6 C dX9_findDeal_110 (hN 6 (by decide)) rfl (by omega) ?_
                      refine E.goto C dX9_findDeal_113 (tgt := 56) (by decide) ?_
                      exact ih56 _ (by omega) on_ (t + 1) sd2 w94 rfl (by first | exact ⟨by omega, by omega, hfr3, Or.inl ⟨s1, s2, o3, rej_step rj3 (rej_shut o3 (by omega) ⟨ht0, by omega⟩ (by omega) (fun hq => h85 (hbo.mpr hq)))⟩⟩ | (rcases hcq with ⟨k1, k2⟩ | ⟨k1, k2, k3, k4⟩; (first | (exfalso; omega) | exact ⟨by omega, by omega, fun a j g => (hp94.1 a j g).trans (hfr3 a j g), Or.inr ⟨rfl, ord_take o3 (by omega) ⟨ht0, by omega⟩ (by omega) rj3 k2⟩⟩); (first | (exfalso; omega) | exact ⟨by omega, by omega, fun a j g => (hp94.1 a j g).trans (hfr3 a j g), Or.inl ⟨s1, s2, by rw [k2, k3]; exact o3, by rw [k2]; exact rej_step rj3 k4⟩⟩)))
                    · skip
                      refine E.iload_n C dX9_findDeal_100 rfl rfl ?_
                      refine E.iconst C dX9_findDeal_101 (by decide) ?_
                      refine E.iload C dX9_findDeal_102 rfl ?_
                      refine E.ishl C dX9_findDeal_104 ?_
                      refine E.ior C dX9_findDeal_105 ?_
                      refine N.ist_3 C dX9_findDeal_106 (hN 3 (by decide)) rfl ?_
                      refine E.iconst C dX9_findDeal_107 (by decide) ?_
                      refine N.ist_5 C dX9_findDeal_108 (hN 5 (by decide)) rfl ?_
                      refine N.iinc_6 C dX9_findDeal_110 (hN 6 (by decide)) rfl (by omega) ?_
                      refine E.goto C dX9_findDeal_113 (tgt := 56) (by decide) ?_
                      exact ih56 _ (by omega) 0 (t + 1) (jor sd2 (jshl 1 t)) w94 rfl (by first | exact ⟨by omega, by omega, hfr3, Or.inl ⟨s1, s2, o3, rej_step rj3 (rej_shut o3 (by omega) ⟨ht0, by omega⟩ (by omega) (fun hq => h85 (hbo.mpr hq)))⟩⟩ | (rcases hcq with ⟨k1, k2⟩ | ⟨k1, k2, k3, k4⟩; (first | (exfalso; omega) | exact ⟨by omega, by omega, fun a j g => (hp94.1 a j g).trans (hfr3 a j g), Or.inr ⟨rfl, ord_take o3 (by omega) ⟨ht0, by omega⟩ (by omega) rj3 k2⟩⟩); (first | (exfalso; omega) | exact ⟨by omega, by omega, fun a j g => (hp94.1 a j g).trans (hfr3 a j g), Or.inl ⟨s1, s2, by rw [k2, k3]; exact o3, by rw [k2]; exact rej_step rj3 k4⟩⟩)))
          exact lp56 _ on0 0 sd w rfl (by refine ⟨by omega, by omega, hfr, ?_⟩; rcases hJ51 with j1 | ⟨j1, j2, j3⟩; (exact Or.inl ⟨j1, rfl, ho, rej_0⟩); (exact Or.inr ⟨j1, ord_none ho (by omega) (rej_all ho (by omega) (by omega) rej_0 (fun y g1 g2 g3 => by rw [j3, bt_0]; exact fun z => by cases z.1))⟩))
        refine E.aload_n C dX9_findDeal_24 rfl rfl ?_
        refine N.getR C fa_X9_26 rfl dX9_findDeal_25 kd_119 (x := 125) (by decide +kernel) (by decide) ?_
        refine E.iload C dX9_findDeal_28 rfl ?_
        refine N.iald C dX9_findDeal_30 kd_125 ln_125 (by omega) (x := w 125 c) rfl ?_
        refine E.bipush C dX9_findDeal_31 (by decide) ?_
        refine E.icmp_ne C dX9_findDeal_33 (tgt := 46) (by decide) (fun h33 => ?_) (fun h33 => ?_)
        · skip
          refine E.iconst C dX9_findDeal_46 (by decide) ?_
          refine E.goto C dX9_findDeal_47 (tgt := 51) (by decide) ?_
          exact jn51 1 (by omega)
        · skip
          refine E.aload_n C dX9_findDeal_36 rfl rfl ?_
          refine N.getR C fa_X9_23 rfl dX9_findDeal_37 kd_119 (x := 124) (by decide +kernel) (by decide) ?_
          refine E.iload C dX9_findDeal_40 rfl ?_
          refine N.iald C dX9_findDeal_42 kd_124 ln_124 (by omega) (x := w5 124 c) ((hfr _ _ (by decide)).trans (hp6.1 _ _ (by decide))) ?_
          refine E.if_eq C dX9_findDeal_43 (tgt := 50) (by decide) (fun h43 => ?_) (fun h43 => ?_)
          · skip
            refine E.iconst C dX9_findDeal_50 (by decide) ?_
            exact jn51 0 (by omega)
          · skip
            refine E.iconst C dX9_findDeal_46 (by decide) ?_
            refine E.goto C dX9_findDeal_47 (tgt := 51) (by decide) ?_
            exact jn51 1 (by omega)
  exact lp15 _ 0 0 w6 rfl (by exact ⟨by omega, by omega, fun a j _ => rfl, ord_0 hp6.2.1 hp6.2.2⟩)
