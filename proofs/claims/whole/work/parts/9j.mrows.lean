set_option maxHeartbeats 4000000 in
set_option maxRecDepth 20000 in
theorem ok_X9_takesRow (G : GT) (K : Int) (v : VT) (hK : 0 ≤ K ∧ K ≤ 6) (hm : 0 ≤ v 119 30 ∧ v 119 30 ≤ 1000000) : MNv G yX9_takesRow cX9_takesRow 3 none 0 0 [vr 119, vi K] v (fun w => (∀ a j, (¬ a = 119 ∨ (¬ j = 30 ∧ ¬ j = 31 ∧ ¬ j = 32)) → ¬ a = 134 → w a j = v a j) ∧ w 119 30 = v 119 30 + 1 ∧ w 119 31 = jor (v 119 31) (if K = 0 then 0 else jshl 1 (v 133 0)) ∧ w 119 32 = jor (v 119 32) (if K = 0 then 0 else jshl 1 (v 133 (K - 1))) ∧ (∀ i, 0 ≤ i → i < K → w 134 i = (if v 119 30 = 0 then v 133 i else v 134 i))) := by
  refine MN.of pn_X9_takesRow [some (vr 119), some (vi K), none] 1 rfl rfl (fun X C hX hn hR => ?_)
  have hN : ∀ i : Nat, i < 3 → i < xn X := fun i h => by rw [hn]; exact h
  refine E.rngk (fun hinv => ?_)
  refine E.loc (fun hloc => ?_)
  have hin_1 : in32 K := hloc _ (List.mem_of_getElem? (i := 1) rfl)
  refine E.iconst C dX9_takesRow_0 (by decide) ?_
  refine N.ist_2 C dX9_takesRow_1 (hN 2 (by decide)) rfl ?_
  have lp2 : ∀ (k2 : Nat) (t : Int) (w : VT), (K - t).toNat = k2 → (0 ≤ t ∧ t ≤ K ∧ (∀ a j, ¬ a = 134 → w a j = v a j) ∧ (∀ i, 0 ≤ i → i < t → w 134 i = (if v 119 30 = 0 then v 133 i else v 134 i)) ∧ (∀ i, t ≤ i → w 134 i = v 134 i)) → E X G 0 0 1000 w 2 [some (vr 119), some (vi K), some (vi t)] [] := by
    intro k2
    induction k2 using Nat.strongRecOn with
    | ind k2 ih2 =>
      intro t w hk2 hI2
      obtain ⟨ht0, ht1, hfr, hnw, hod⟩ := hI2
      refine E.iload_n C dX9_takesRow_2 rfl rfl ?_
      refine E.iload_n C dX9_takesRow_3 rfl rfl ?_
      refine E.icmp_ge C dX9_takesRow_4 (tgt := 41) (by decide) (fun h4 => ?_) (fun h4 => ?_)
      · skip
        refine E.aload_n C dX9_takesRow_41 rfl rfl ?_
        refine E.dupR C dX9_takesRow_42 ?_
        refine N.getI C fa_X9_305 rfl dX9_takesRow_43 kd_119 (x := v 119 30) (hfr _ _ (by decide)) ?_
        refine E.iconst C dX9_takesRow_46 (by decide) ?_
        refine E.iadd C dX9_takesRow_47 (by omega) ?_
        refine N.putI C fp_X9_305 rfl dX9_takesRow_48 kd_119 ?_
        refine E.aload_n C dX9_takesRow_51 rfl rfl ?_
        refine E.dupR C dX9_takesRow_52 ?_
        refine N.getI C fa_X9_308 rfl dX9_takesRow_53 kd_119 (x := v 119 31) ((upd2_ne _ _ _ _ _ _ (Or.inr (by decide))).trans (hfr _ _ (by decide))) ?_
        refine E.iload_n C dX9_takesRow_56 rfl rfl ?_
        refine E.if_ne C dX9_takesRow_57 (tgt := 64) (by decide) (fun h57 => ?_) (fun h57 => ?_)
        · skip
          refine E.iconst C dX9_takesRow_64 (by decide) ?_
          refine E.aload_n C dX9_takesRow_65 rfl rfl ?_
          refine N.getR C fa_X9_50 rfl dX9_takesRow_66 kd_119 (x := 133) (by decide +kernel) (by decide) ?_
          refine E.iconst C dX9_takesRow_69 (by decide) ?_
          refine N.iald C dX9_takesRow_70 kd_133 ln_133 (by omega) (x := v 133 0) ((upd2_ne _ _ _ _ _ _ (Or.inr (by decide))).trans (hfr _ _ (by decide))) ?_
          refine E.ishl C dX9_takesRow_71 ?_
          refine E.ior C dX9_takesRow_72 ?_
          refine N.putI C fp_X9_308 rfl dX9_takesRow_73 kd_119 ?_
          refine E.aload_n C dX9_takesRow_76 rfl rfl ?_
          refine E.dupR C dX9_takesRow_77 ?_
          refine N.getI C fa_X9_311 rfl dX9_takesRow_78 kd_119 (x := v 119 32) ((upd2_ne _ _ _ _ _ _ (Or.inr (by decide))).trans ((upd2_ne _ _ _ _ _ _ (Or.inr (by decide))).trans (hfr _ _ (by decide)))) ?_
          refine E.iload_n C dX9_takesRow_81 rfl rfl ?_
          refine E.if_ne C dX9_takesRow_82 (tgt := 89) (by decide) (fun h82 => ?_) (fun h82 => ?_)
          · skip
            refine E.iconst C dX9_takesRow_89 (by decide) ?_
            refine E.aload_n C dX9_takesRow_90 rfl rfl ?_
            refine N.getR C fa_X9_50 rfl dX9_takesRow_91 kd_119 (x := 133) (by decide +kernel) (by decide) ?_
            refine E.iload_n C dX9_takesRow_94 rfl rfl ?_
            refine E.iconst C dX9_takesRow_95 (by decide) ?_
            refine E.isub C dX9_takesRow_96 (by omega) ?_
            refine N.iald C dX9_takesRow_97 kd_133 ln_133 (by omega) (x := v 133 (K - 1)) ((upd2_ne _ _ _ _ _ _ (Or.inl (by decide))).trans ((upd2_ne _ _ _ _ _ _ (Or.inl (by decide))).trans (hfr _ _ (by decide)))) ?_
            refine E.ishl C dX9_takesRow_98 ?_
            refine E.ior C dX9_takesRow_99 ?_
            refine N.putI C fp_X9_311 rfl dX9_takesRow_100 kd_119 ?_
            exact N.vret C hR dX9_takesRow_103 (fun hi => by first | (exfalso; omega) | (refine ⟨fun a j g1 g2 => by rw [u_ne (by omega), u_ne (by omega), u_ne (by omega)]; exact hfr a j g2, ?_, ?_, ?_, fun i g1 g2 => by rw [u_ne (Or.inl (by decide)), u_ne (Or.inl (by decide)), u_ne (Or.inl (by decide))]; exact hnw i g1 (by omega)⟩; (exact (u_ne (by decide)).trans ((u_ne (by decide)).trans (u_at (by decide)))); (refine ((u_ne (by decide)).trans (u_at (by decide))).trans ?_; first | rw [if_pos (by omega)] | rw [if_neg (by omega)]); (refine (u_at (by decide)).trans ?_; first | rw [if_pos (by omega)] | rw [if_neg (by omega)])))
          · skip
            refine E.iconst C dX9_takesRow_85 (by decide) ?_
            refine E.goto C dX9_takesRow_86 (tgt := 99) (by decide) ?_
            refine E.ior C dX9_takesRow_99 ?_
            refine N.putI C fp_X9_311 rfl dX9_takesRow_100 kd_119 ?_
            exact N.vret C hR dX9_takesRow_103 (fun hi => by first | (exfalso; omega) | (refine ⟨fun a j g1 g2 => by rw [u_ne (by omega), u_ne (by omega), u_ne (by omega)]; exact hfr a j g2, ?_, ?_, ?_, fun i g1 g2 => by rw [u_ne (Or.inl (by decide)), u_ne (Or.inl (by decide)), u_ne (Or.inl (by decide))]; exact hnw i g1 (by omega)⟩; (exact (u_ne (by decide)).trans ((u_ne (by decide)).trans (u_at (by decide)))); (refine ((u_ne (by decide)).trans (u_at (by decide))).trans ?_; first | rw [if_pos (by omega)] | rw [if_neg (by omega)]); (refine (u_at (by decide)).trans ?_; first | rw [if_pos (by omega)] | rw [if_neg (by omega)])))
        · skip
          refine E.iconst C dX9_takesRow_60 (by decide) ?_
          refine E.goto C dX9_takesRow_61 (tgt := 72) (by decide) ?_
          refine E.ior C dX9_takesRow_72 ?_
          refine N.putI C fp_X9_308 rfl dX9_takesRow_73 kd_119 ?_
          refine E.aload_n C dX9_takesRow_76 rfl rfl ?_
          refine E.dupR C dX9_takesRow_77 ?_
          refine N.getI C fa_X9_311 rfl dX9_takesRow_78 kd_119 (x := v 119 32) ((upd2_ne _ _ _ _ _ _ (Or.inr (by decide))).trans ((upd2_ne _ _ _ _ _ _ (Or.inr (by decide))).trans (hfr _ _ (by decide)))) ?_
          refine E.iload_n C dX9_takesRow_81 rfl rfl ?_
          refine E.if_ne C dX9_takesRow_82 (tgt := 89) (by decide) (fun h82 => ?_) (fun h82 => ?_)
          · skip
            refine E.iconst C dX9_takesRow_89 (by decide) ?_
            refine E.aload_n C dX9_takesRow_90 rfl rfl ?_
            refine N.getR C fa_X9_50 rfl dX9_takesRow_91 kd_119 (x := 133) (by decide +kernel) (by decide) ?_
            refine E.iload_n C dX9_takesRow_94 rfl rfl ?_
            refine E.iconst C dX9_takesRow_95 (by decide) ?_
            refine E.isub C dX9_takesRow_96 (by omega) ?_
            refine N.iald C dX9_takesRow_97 kd_133 ln_133 (by omega) (x := v 133 (K - 1)) ((upd2_ne _ _ _ _ _ _ (Or.inl (by decide))).trans ((upd2_ne _ _ _ _ _ _ (Or.inl (by decide))).trans (hfr _ _ (by decide)))) ?_
            refine E.ishl C dX9_takesRow_98 ?_
            refine E.ior C dX9_takesRow_99 ?_
            refine N.putI C fp_X9_311 rfl dX9_takesRow_100 kd_119 ?_
            exact N.vret C hR dX9_takesRow_103 (fun hi => by first | (exfalso; omega) | (refine ⟨fun a j g1 g2 => by rw [u_ne (by omega), u_ne (by omega), u_ne (by omega)]; exact hfr a j g2, ?_, ?_, ?_, fun i g1 g2 => by rw [u_ne (Or.inl (by decide)), u_ne (Or.inl (by decide)), u_ne (Or.inl (by decide))]; exact hnw i g1 (by omega)⟩; (exact (u_ne (by decide)).trans ((u_ne (by decide)).trans (u_at (by decide)))); (refine ((u_ne (by decide)).trans (u_at (by decide))).trans ?_; first | rw [if_pos (by omega)] | rw [if_neg (by omega)]); (refine (u_at (by decide)).trans ?_; first | rw [if_pos (by omega)] | rw [if_neg (by omega)])))
          · skip
            refine E.iconst C dX9_takesRow_85 (by decide) ?_
            refine E.goto C dX9_takesRow_86 (tgt := 99) (by decide) ?_
            refine E.ior C dX9_takesRow_99 ?_
            refine N.putI C fp_X9_311 rfl dX9_takesRow_100 kd_119 ?_
            exact N.vret C hR dX9_takesRow_103 (fun hi => by first | (exfalso; omega) | (refine ⟨fun a j g1 g2 => by rw [u_ne (by omega), u_ne (by omega), u_ne (by omega)]; exact hfr a j g2, ?_, ?_, ?_, fun i g1 g2 => by rw [u_ne (Or.inl (by decide)), u_ne (Or.inl (by decide)), u_ne (Or.inl (by decide))]; exact hnw i g1 (by omega)⟩; (exact (u_ne (by decide)).trans ((u_ne (by decide)).trans (u_at (by decide)))); (refine ((u_ne (by decide)).trans (u_at (by decide))).trans ?_; first | rw [if_pos (by omega)] | rw [if_neg (by omega)]); (refine (u_at (by decide)).trans ?_; first | rw [if_pos (by omega)] | rw [if_neg (by omega)])))
      · skip
        refine E.aload_n C dX9_takesRow_7 rfl rfl ?_
        refine N.getR C fa_X9_53 rfl dX9_takesRow_8 kd_119 (x := 134) (by decide +kernel) (by decide) ?_
        refine E.iload_n C dX9_takesRow_11 rfl rfl ?_
        refine E.aload_n C dX9_takesRow_12 rfl rfl ?_
        refine N.getI C fa_X9_305 rfl dX9_takesRow_13 kd_119 (x := v 119 30) (hfr _ _ (by decide)) ?_
        refine E.if_ne C dX9_takesRow_16 (tgt := 28) (by decide) (fun h16 => ?_) (fun h16 => ?_)
        · skip
          refine E.aload_n C dX9_takesRow_28 rfl rfl ?_
          refine N.getR C fa_X9_53 rfl dX9_takesRow_29 kd_119 (x := 134) (by decide +kernel) (by decide) ?_
          refine E.iload_n C dX9_takesRow_32 rfl rfl ?_
          refine N.iald C dX9_takesRow_33 kd_134 ln_134 (by omega) (x := w 134 t) rfl ?_
          refine N.iast C dX9_takesRow_34 kd_134 ln_134 (by omega) ?_
          refine N.iinc_2 C dX9_takesRow_35 (hN 2 (by decide)) rfl (by omega) ?_
          refine E.goto C dX9_takesRow_38 (tgt := 2) (by decide) ?_
          exact ih2 _ (by omega) (t + 1) (upd2 w 134 t (w 134 t)) rfl (by refine ⟨by omega, by omega, fun a j g => (u_ne (Or.inl g)).trans (hfr a j g), fun i g1 g2 => ?_, fun i g => (u_ne (Or.inr (by omega))).trans (hod i (by omega))⟩; by_cases e : i = t; (rw [e, u_at rfl]; first | rw [if_pos (by omega)] | (rw [if_neg (by omega)]; exact hod t (by omega))); (rw [u_ne (Or.inr e)]; exact hnw i g1 (by omega)))
        · skip
          refine E.aload_n C dX9_takesRow_19 rfl rfl ?_
          refine N.getR C fa_X9_50 rfl dX9_takesRow_20 kd_119 (x := 133) (by decide +kernel) (by decide) ?_
          refine E.iload_n C dX9_takesRow_23 rfl rfl ?_
          refine N.iald C dX9_takesRow_24 kd_133 ln_133 (by omega) (x := v 133 t) (hfr _ _ (by decide)) ?_
          refine E.goto C dX9_takesRow_25 (tgt := 34) (by decide) ?_
          refine N.iast C dX9_takesRow_34 kd_134 ln_134 (by omega) ?_
          refine N.iinc_2 C dX9_takesRow_35 (hN 2 (by decide)) rfl (by omega) ?_
          refine E.goto C dX9_takesRow_38 (tgt := 2) (by decide) ?_
          exact ih2 _ (by omega) (t + 1) (upd2 w 134 t (v 133 t)) rfl (by refine ⟨by omega, by omega, fun a j g => (u_ne (Or.inl g)).trans (hfr a j g), fun i g1 g2 => ?_, fun i g => (u_ne (Or.inr (by omega))).trans (hod i (by omega))⟩; by_cases e : i = t; (rw [e, u_at rfl]; first | rw [if_pos (by omega)] | (rw [if_neg (by omega)]; exact hod t (by omega))); (rw [u_ne (Or.inr e)]; exact hnw i g1 (by omega)))
  exact lp2 _ 0 v rfl (by exact ⟨by omega, by omega, fun a j _ => rfl, fun i h1 h2 => by omega, fun i _ => rfl⟩)
