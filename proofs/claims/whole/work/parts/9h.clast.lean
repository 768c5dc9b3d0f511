set_option maxHeartbeats 4000000 in
set_option maxRecDepth 20000 in
theorem ok_X2_lastOnes (G : GT) (f : Int → Int → Bool) (n K : Int) (v : VT) (hT : TrQ f n K v) (hK1 : 0 < K) : MNi G yX2_lastOnes cX2_lastOnes 5 (some .int) 1 23 [vr 60] v (fun x w => (∀ a j, ¬ a = 63 → w a j = v a j) ∧ in32 x ∧ ∀ d, 0 ≤ d → d < 32 → (bt x d = true ↔ LasB f n K (pwI n.toNat) 0 d)) := by
  refine MN.of pn_X2_lastOnes [some (vr 60), none, none, none, none] 4 rfl rfl (fun X C hX hn hR => ?_)
  have hN : ∀ i : Nat, i < 5 → i < xn X := fun i h => by rw [hn]; exact h
  refine E.rngk (fun hinv => ?_)
  refine E.loc (fun hloc => ?_)
  obtain ⟨hnn, hKK, e3, e4, hft, hen⟩ := id hT
  have h8 := pw_8 hnn
  have hpw := pw_pos n.toNat
  refine E.aload_n C dX2_lastOnes_0 rfl rfl ?_
  refine N.getR C fa_X2_18 rfl dX2_lastOnes_1 kd_60 (x := 63) (by decide +kernel) (by decide) ?_
  refine E.iconst C dX2_lastOnes_4 (by decide) ?_
  refine N.callSe (S := []) (As := [vr 63, vi 0]) C hX (ok_J7_fill_53178 G 63 0 256 v kd_63 ln_63 (by decide)) yf_J7_fill_53178 yv_J7_fill_53178 ml_X2_76 rfl (by decide) (Nat.le_of_ble_eq_true rfl) dX2_lastOnes_5 rfl ?_
  refine E.aload_n C dX2_lastOnes_8 rfl rfl ?_
  refine N.getR C fa_X2_18 rfl dX2_lastOnes_9 kd_60 (x := 63) (by decide +kernel) (by decide) ?_
  refine E.iconst C dX2_lastOnes_12 (by decide) ?_
  refine E.iconst C dX2_lastOnes_13 (by decide) ?_
  refine N.iast C dX2_lastOnes_14 kd_63 ln_63 (by omega) ?_
  refine E.iconst C dX2_lastOnes_15 (by decide) ?_
  refine N.ist_1 C dX2_lastOnes_16 (hN 1 (by decide)) rfl ?_
  refine E.iconst C dX2_lastOnes_17 (by decide) ?_
  refine N.ist_2 C dX2_lastOnes_18 (hN 2 (by decide)) rfl ?_
  have lp19 : ∀ (k19 : Nat) (x : Int) (u : Int) (w : VT), (pwI n.toNat - u).toNat = k19 → (0 ≤ u ∧ u ≤ pwI n.toNat ∧ (∀ a j, ¬ a = 63 → w a j = v a j) ∧ (∀ i, 0 ≤ i → i < pwI n.toNat → (w 63 i = 0 ∨ w 63 i = 1) ∧ (w 63 i = 1 ↔ RchB f n K u 0 i)) ∧ (∀ d, 0 ≤ d → d < 32 → (bt x d = true ↔ LasB f n K u 0 d))) → E X G 0 0 1000 w 19 [some (vr 60), some (vi x), some (vi u), none, none] [] := by
    intro k19
    induction k19 using Nat.strongRecOn with
    | ind k19 ih19 =>
      intro x u w hk19 hI19
      obtain ⟨hu0, hu1, hfr, hRR, hB⟩ := hI19
      refine E.iload_n C dX2_lastOnes_19 rfl rfl ?_
      refine E.iconst C dX2_lastOnes_20 (by decide) ?_
      refine E.aload_n C dX2_lastOnes_21 rfl rfl ?_
      refine N.getI C fa_X2_27 rfl dX2_lastOnes_22 kd_60 (x := v 60 3) (hfr _ _ (by decide)) ?_
      refine E.veq (x' := n) (e3) ?_
      refine E.ishl C dX2_lastOnes_25 ?_
      refine E.veq (x' := pwI n.toNat) (h8.1) ?_
      refine E.icmp_ge C dX2_lastOnes_26 (tgt := 120) (by decide) (fun h26 => ?_) (fun h26 => ?_)
      · skip
        refine E.iload_n C dX2_lastOnes_120 rfl rfl ?_
        exact N.iret C hR dX2_lastOnes_121 (fun hi hx => by have e : u = pwI n.toNat := (by omega); rw [e] at hB; exact ⟨hfr, hx, hB⟩)
      · skip
        have hpu := bc_pop (x := u) ⟨hu0, by omega⟩
        refine E.iload_n C dX2_lastOnes_29 rfl rfl ?_
        refine N.callSp (S := []) (As := [vi u]) C hX (ok_J6_bitCount_0f7a4 G u w ⟨hu0, by omega⟩) yf_J6_bitCount_0f7a4 yv_J6_bitCount_0f7a4 ml_X2_65 rfl (by decide) (Nat.le_of_ble_eq_true rfl) dX2_lastOnes_30 rfl ?_
        refine N.ist_3 C dX2_lastOnes_33 (hN 3 (by decide)) rfl ?_
        refine E.iconst C dX2_lastOnes_34 (by decide) ?_
        refine N.ist_4 C dX2_lastOnes_35 (hN 4 (by decide)) rfl ?_
        have lp37 : ∀ (k37 : Nat) (z : Int) (c : Int) (y : VT), (n - c).toNat = k37 → (0 ≤ c ∧ c ≤ n ∧ (∀ a j, ¬ a = 63 → y a j = v a j) ∧ (∀ i, 0 ≤ i → i < pwI n.toNat → (y 63 i = 0 ∨ y 63 i = 1) ∧ (y 63 i = 1 ↔ RchB f n K u c i)) ∧ (∀ d, 0 ≤ d → d < 32 → (bt z d = true ↔ LasB f n K u c d))) → E X G 0 0 1000 y 37 [some (vr 60), some (vi z), some (vi u), some (vi (popI u)), some (vi c)] [] := by
          intro k37
          induction k37 using Nat.strongRecOn with
          | ind k37 ih37 =>
            intro z c y hk37 hI37
            obtain ⟨hc0, hc1, hyf, hyR, hyB⟩ := hI37; have hyu := hyR u hu0 (by omega); rw [rchB_at hnn (Int.le_refl _)] at hyu
            refine E.iload C dX2_lastOnes_37 rfl ?_
            refine E.aload_n C dX2_lastOnes_39 rfl rfl ?_
            refine N.getI C fa_X2_27 rfl dX2_lastOnes_40 kd_60 (x := v 60 3) (hyf _ _ (by decide)) ?_
            refine E.icmp_ge C dX2_lastOnes_43 (tgt := 114) (by decide) (fun h43 => ?_) (fun h43 => ?_)
            · skip
              have hstop : n ≤ c ∨ ¬ (Rch f n K u ∧ popI u < K) := by first | exact Or.inl (by omega) | exact Or.inr (fun q => by have := hyu.2.mpr q.1; omega)
              refine N.iinc_2 C dX2_lastOnes_114 (hN 2 (by decide)) rfl (by omega) ?_
              refine E.goto C dX2_lastOnes_117 (tgt := 19) (by decide) ?_
              refine E.drop (i := 3) ?_
              refine E.drop (i := 4) ?_
              exact ih19 _ (by omega) z (u + 1) y rfl (by refine ⟨by omega, by omega, hyf, fun i g1 g2 => ?_, fun d g1 g2 => ?_⟩; (rw [← rchB_next (C := c) hstop]; exact hyR i g1 g2); (rw [← lasB_next (C := c) hstop]; exact hyB d g1 g2))
            · skip
              refine E.aload_n C dX2_lastOnes_46 rfl rfl ?_
              refine N.getR C fa_X2_18 rfl dX2_lastOnes_47 kd_60 (x := 63) (by decide +kernel) (by decide) ?_
              refine E.iload_n C dX2_lastOnes_50 rfl rfl ?_
              refine N.iald C dX2_lastOnes_51 kd_63 ln_63 (by omega) (x := y 63 u) rfl ?_
              refine E.iconst C dX2_lastOnes_52 (by decide) ?_
              refine E.icmp_ne C dX2_lastOnes_53 (tgt := 114) (by decide) (fun h53 => ?_) (fun h53 => ?_)
              · skip
                have hstop : n ≤ c ∨ ¬ (Rch f n K u ∧ popI u < K) := by first | exact Or.inl (by omega) | exact Or.inr (fun q => by have := hyu.2.mpr q.1; omega)
                refine N.iinc_2 C dX2_lastOnes_114 (hN 2 (by decide)) rfl (by omega) ?_
                refine E.goto C dX2_lastOnes_117 (tgt := 19) (by decide) ?_
                refine E.drop (i := 3) ?_
                refine E.drop (i := 4) ?_
                exact ih19 _ (by omega) z (u + 1) y rfl (by refine ⟨by omega, by omega, hyf, fun i g1 g2 => ?_, fun d g1 g2 => ?_⟩; (rw [← rchB_next (C := c) hstop]; exact hyR i g1 g2); (rw [← lasB_next (C := c) hstop]; exact hyB d g1 g2))
              · skip
                refine E.iload_n C dX2_lastOnes_56 rfl rfl ?_
                refine E.aload_n C dX2_lastOnes_57 rfl rfl ?_
                refine N.getI C fa_X2_31 rfl dX2_lastOnes_58 kd_60 (x := v 60 4) (hyf _ _ (by decide)) ?_
                refine E.icmp_ge C dX2_lastOnes_61 (tgt := 114) (by decide) (fun h61 => ?_) (fun h61 => ?_)
                · skip
                  have hstop : n ≤ c ∨ ¬ (Rch f n K u ∧ popI u < K) := by first | exact Or.inl (by omega) | exact Or.inr (fun q => by have := hyu.2.mpr q.1; omega)
                  refine N.iinc_2 C dX2_lastOnes_114 (hN 2 (by decide)) rfl (by omega) ?_
                  refine E.goto C dX2_lastOnes_117 (tgt := 19) (by decide) ?_
                  refine E.drop (i := 3) ?_
                  refine E.drop (i := 4) ?_
                  exact ih19 _ (by omega) z (u + 1) y rfl (by refine ⟨by omega, by omega, hyf, fun i g1 g2 => ?_, fun d g1 g2 => ?_⟩; (rw [← rchB_next (C := c) hstop]; exact hyR i g1 g2); (rw [← lasB_next (C := c) hstop]; exact hyB d g1 g2))
                · skip
                  refine E.aload_n C dX2_lastOnes_64 rfl rfl ?_
                  refine E.iload C dX2_lastOnes_65 rfl ?_
                  refine E.iload_n C dX2_lastOnes_67 rfl rfl ?_
                  refine E.iload_n C dX2_lastOnes_68 rfl rfl ?_
                  refine N.callVp (S := []) (As := [vi c, vi (popI u), vi u]) C hX (ok_X2_canFollow G c (popI u) u y (by omega)) yf_X2_canFollow yv_X2_canFollow ml_X2_70 rfl rfl rfl kd_60 (by decide) (by decide) (Nat.le_of_ble_eq_true rfl) dX2_lastOnes_69 rfl ?_
                  refine E.veq (x' := (if bt (v 61 (popI u)) c = true ∧ bt u c = false then 1 else 0)) (by rw [show y 61 = v 61 from funext (fun j => hyf _ _ (by decide))]) ?_
                  refine E.if_eq C dX2_lastOnes_72 (tgt := 108) (by decide) (fun h72 => ?_) (fun h72 => ?_)
                  · have h72 := b0.mp h72
                    refine N.iinc_4 C dX2_lastOnes_108 (hN 4 (by decide)) rfl (by omega) ?_
                    refine E.goto C dX2_lastOnes_111 (tgt := 37) (by decide) ?_
                    exact ih37 _ (by omega) z (c + 1) y rfl (by first | (refine ⟨by omega, by omega, hyf, fun i g1 g2 => ?_, fun d g1 g2 => ?_⟩; (rw [← rchB_no (fun q => h72 ⟨by rw [hft _ _ (by omega) (by omega) hc0 (by omega)]; exact (okR_iff.mp q.2.2.2).1, (okR_iff.mp q.2.2.2).2⟩)]; exact hyR i g1 g2); (rw [← lasB_no (fun q => h72 ⟨by rw [hft _ _ (by omega) (by omega) hc0 (by omega), q.2.1]; exact (okR_iff.mp q.2.2.2).1, (okR_iff.mp q.2.2.2).2⟩)]; exact hyB d g1 g2)) | (refine ⟨by omega, by omega, fun a j g => (u_ne (Or.inl g)).trans (hyf a j g), fun i g1 g2 => ?_, fun d g1 g2 => ?_⟩; (rw [rchB_yes hyes]; by_cases e : i = jor u (jshl 1 c); (rw [e, u_at rfl]; exact ⟨Or.inr rfl, fun _ => Or.inr rfl, fun _ => rfl⟩); (rw [u_ne (Or.inr e)]; have := hyR i g1 g2; exact ⟨this.1, fun q => Or.inl (this.2.mp q), fun q => this.2.mpr (q.resolve_right e)⟩)); (first | (rw [lasB_yes ⟨hyes.1, by omega, hyes.2.2.1, by rw [← show popI u = K - 1 by omega]; exact hyes.2.2.2⟩, bt_or, bt_shl ⟨hc0, by omega⟩ ⟨g1, g2⟩, Bool.or_eq_true, hyB d g1 g2, decide_eq_true_eq]) | (rw [← lasB_no (fun q => by have := q.2.1; omega), bt_or, bt_0, Bool.or_false]; exact hyB d g1 g2))))
                  · have h72 := b0n.mp h72
                    have hyes : Rch f n K u ∧ popI u < K ∧ (0 ≤ c ∧ c < n) ∧ okR f (popI u) c u = true := ⟨hyu.2.mp (by omega), by omega, ⟨hc0, by omega⟩, okR_iff.mpr ⟨by rw [← hft _ _ (by omega) (by omega) hc0 (by omega)]; exact h72.1, h72.2⟩⟩
                    have hup := or_up hnn ⟨hu0, by omega⟩ ⟨hc0, by omega⟩
                    refine E.aload_n C dX2_lastOnes_75 rfl rfl ?_
                    refine N.getR C fa_X2_18 rfl dX2_lastOnes_76 kd_60 (x := 63) (by decide +kernel) (by decide) ?_
                    refine E.iload_n C dX2_lastOnes_79 rfl rfl ?_
                    refine E.iconst C dX2_lastOnes_80 (by decide) ?_
                    refine E.iload C dX2_lastOnes_81 rfl ?_
                    refine E.ishl C dX2_lastOnes_83 ?_
                    refine E.ior C dX2_lastOnes_84 ?_
                    refine E.iconst C dX2_lastOnes_85 (by decide) ?_
                    refine N.iast C dX2_lastOnes_86 kd_63 ln_63 (by omega) ?_
                    refine E.iload_n C dX2_lastOnes_87 rfl rfl ?_
                    refine E.iload_n C dX2_lastOnes_88 rfl rfl ?_
                    refine E.aload_n C dX2_lastOnes_89 rfl rfl ?_
                    refine N.getI C fa_X2_31 rfl dX2_lastOnes_90 kd_60 (x := v 60 4) ((upd2_ne _ _ _ _ _ _ (Or.inl (by decide))).trans (hyf _ _ (by decide))) ?_
                    refine E.iconst C dX2_lastOnes_93 (by decide) ?_
                    refine E.isub C dX2_lastOnes_94 (by omega) ?_
                    refine E.icmp_ne C dX2_lastOnes_95 (tgt := 105) (by decide) (fun h95 => ?_) (fun h95 => ?_)
                    · skip
                      refine E.iconst C dX2_lastOnes_105 (by decide) ?_
                      refine E.ior C dX2_lastOnes_106 ?_
                      refine N.ist_1 C dX2_lastOnes_107 (hN 1 (by decide)) rfl ?_
                      refine N.iinc_4 C dX2_lastOnes_108 (hN 4 (by decide)) rfl (by omega) ?_
                      refine E.goto C dX2_lastOnes_111 (tgt := 37) (by decide) ?_
                      exact ih37 _ (by omega) (jor z 0) (c + 1) (upd2 y 63 (jor u (jshl 1 c)) 1) rfl (by first | (refine ⟨by omega, by omega, hyf, fun i g1 g2 => ?_, fun d g1 g2 => ?_⟩; (rw [← rchB_no (fun q => h72 ⟨by rw [hft _ _ (by omega) (by omega) hc0 (by omega)]; exact (okR_iff.mp q.2.2.2).1, (okR_iff.mp q.2.2.2).2⟩)]; exact hyR i g1 g2); (rw [← lasB_no (fun q => h72 ⟨by rw [hft _ _ (by omega) (by omega) hc0 (by omega), q.2.1]; exact (okR_iff.mp q.2.2.2).1, (okR_iff.mp q.2.2.2).2⟩)]; exact hyB d g1 g2)) | (refine ⟨by omega, by omega, fun a j g => (u_ne (Or.inl g)).trans (hyf a j g), fun i g1 g2 => ?_, fun d g1 g2 => ?_⟩; (rw [rchB_yes hyes]; by_cases e : i = jor u (jshl 1 c); (rw [e, u_at rfl]; exact ⟨Or.inr rfl, fun _ => Or.inr rfl, fun _ => rfl⟩); (rw [u_ne (Or.inr e)]; have := hyR i g1 g2; exact ⟨this.1, fun q => Or.inl (this.2.mp q), fun q => this.2.mpr (q.resolve_right e)⟩)); (first | (rw [lasB_yes ⟨hyes.1, by omega, hyes.2.2.1, by rw [← show popI u = K - 1 by omega]; exact hyes.2.2.2⟩, bt_or, bt_shl ⟨hc0, by omega⟩ ⟨g1, g2⟩, Bool.or_eq_true, hyB d g1 g2, decide_eq_true_eq]) | (rw [← lasB_no (fun q => by have := q.2.1; omega), bt_or, bt_0, Bool.or_false]; exact hyB d g1 g2))))
                    · skip
                      refine E.iconst C dX2_lastOnes_98 (by decide) ?_
                      refine E.iload C dX2_lastOnes_99 rfl ?_
                      refine E.ishl C dX2_lastOnes_101 ?_
                      refine E.goto C dX2_lastOnes_102 (tgt := 106) (by decide) ?_
                      refine E.ior C dX2_lastOnes_106 ?_
                      refine N.ist_1 C dX2_lastOnes_107 (hN 1 (by decide)) rfl ?_
                      refine N.iinc_4 C dX2_lastOnes_108 (hN 4 (by decide)) rfl (by omega) ?_
                      refine E.goto C dX2_lastOnes_111 (tgt := 37) (by decide) ?_
                      exact ih37 _ (by omega) (jor z (jshl 1 c)) (c + 1) (upd2 y 63 (jor u (jshl 1 c)) 1) rfl (by first | (refine ⟨by omega, by omega, hyf, fun i g1 g2 => ?_, fun d g1 g2 => ?_⟩; (rw [← rchB_no (fun q => h72 ⟨by rw [hft _ _ (by omega) (by omega) hc0 (by omega)]; exact (okR_iff.mp q.2.2.2).1, (okR_iff.mp q.2.2.2).2⟩)]; exact hyR i g1 g2); (rw [← lasB_no (fun q => h72 ⟨by rw [hft _ _ (by omega) (by omega) hc0 (by omega), q.2.1]; exact (okR_iff.mp q.2.2.2).1, (okR_iff.mp q.2.2.2).2⟩)]; exact hyB d g1 g2)) | (refine ⟨by omega, by omega, fun a j g => (u_ne (Or.inl g)).trans (hyf a j g), fun i g1 g2 => ?_, fun d g1 g2 => ?_⟩; (rw [rchB_yes hyes]; by_cases e : i = jor u (jshl 1 c); (rw [e, u_at rfl]; exact ⟨Or.inr rfl, fun _ => Or.inr rfl, fun _ => rfl⟩); (rw [u_ne (Or.inr e)]; have := hyR i g1 g2; exact ⟨this.1, fun q => Or.inl (this.2.mp q), fun q => this.2.mpr (q.resolve_right e)⟩)); (first | (rw [lasB_yes ⟨hyes.1, by omega, hyes.2.2.1, by rw [← show popI u = K - 1 by omega]; exact hyes.2.2.2⟩, bt_or, bt_shl ⟨hc0, by omega⟩ ⟨g1, g2⟩, Bool.or_eq_true, hyB d g1 g2, decide_eq_true_eq]) | (rw [← lasB_no (fun q => by have := q.2.1; omega), bt_or, bt_0, Bool.or_false]; exact hyB d g1 g2))))
        exact lp37 _ x 0 w rfl (by exact ⟨by omega, by omega, hfr, hRR, hB⟩)
  exact lp19 _ 0 0 (upd2 (fillF v 63 0 256) 63 0 1) rfl (by refine ⟨by omega, by omega, fun a j g => (u_ne (Or.inl g)).trans (by unfold fillF; rw [if_neg (fun q => g q.1)]), fun i g1 g2 => ?_, fun d g1 g2 => ?_⟩; (have hz : RchB f n K 0 0 i ↔ i = 0 := ⟨fun q => by rcases q with q | ⟨j, c, q1, q2⟩ | ⟨c, q1, q2⟩; exact q; (have := (q2.1.rng hnn).1; omega); (have := q2.2.2.1.1; omega), Or.inl⟩; rw [hz]; by_cases e : i = 0; (rw [e, u_at rfl]; exact ⟨Or.inr rfl, fun _ => rfl, fun _ => rfl⟩); (rw [u_ne (Or.inr e)]; have e0 : fillF v 63 0 256 63 i = 0 := (by unfold fillF; rw [if_pos ⟨rfl, g1, by omega⟩]); rw [e0]; exact ⟨Or.inl rfl, fun q => by omega, fun q => absurd q e⟩)); (rw [bt_0]; exact ⟨fun q => absurd q (by decide), fun ⟨_, j, q1, q2, _⟩ => by have := (q2.rng hnn).1; omega⟩))
