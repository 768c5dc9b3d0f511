set_option maxHeartbeats 4000000 in
set_option maxRecDepth 20000 in
theorem ok_X9_keepsDeal (G : GT) (v : VT) : MVe G yX9_keepsDeal cX9_keepsDeal 2 none 0 0 [vr 119] v (cpyF (cpyF v 129 125 8) 130 126 20) := by
  refine MN.of pn_X9_keepsDeal [some (vr 119), none] 1 rfl rfl (fun X C hX hn hR => ?_)
  have hN : ∀ i : Nat, i < 2 → i < xn X := fun i h => by rw [hn]; exact h
  refine E.rngk (fun hinv => ?_)
  refine E.loc (fun hloc => ?_)
  refine E.iconst C dX9_keepsDeal_0 (by decide) ?_
  refine N.ist_1 C dX9_keepsDeal_1 (hN 1 (by decide)) rfl ?_
  have lp2 : ∀ (k2 : Nat) (c : Int), (8 - c).toNat = k2 → (0 ≤ c ∧ c ≤ 8) → E X G 0 0 1000 (cpyF v 129 125 c) 2 [some (vr 119), some (vi c)] [] := by
    intro k2
    induction k2 using Nat.strongRecOn with
    | ind k2 ih2 =>
      intro c hk2 hI2
      obtain ⟨h0c, h1c⟩ := hI2
      refine E.iload_n C dX9_keepsDeal_2 rfl rfl ?_
      refine E.bipush C dX9_keepsDeal_3 (by decide) ?_
      refine E.icmp_ge C dX9_keepsDeal_5 (tgt := 26) (by decide) (fun h5 => ?_) (fun h5 => ?_)
      · skip
        refine E.iconst C dX9_keepsDeal_26 (by decide) ?_
        refine N.ist_1 C dX9_keepsDeal_27 (hN 1 (by decide)) rfl ?_
        have lp28 : ∀ (k28 : Nat) (t : Int), (20 - t).toNat = k28 → (0 ≤ t ∧ t ≤ 20) → E X G 0 0 1000 (cpyF (cpyF v 129 125 8) 130 126 t) 28 [some (vr 119), some (vi t)] [] := by
          intro k28
          induction k28 using Nat.strongRecOn with
          | ind k28 ih28 =>
            intro t hk28 hI28
            obtain ⟨h0t, h1t⟩ := hI28
            refine E.iload_n C dX9_keepsDeal_28 rfl rfl ?_
            refine E.bipush C dX9_keepsDeal_29 (by decide) ?_
            refine E.icmp_ge C dX9_keepsDeal_31 (tgt := 52) (by decide) (fun h31 => ?_) (fun h31 => ?_)
            · skip
              exact N.vret C hR dX9_keepsDeal_52 (fun hi => by rw [show t = 20 by omega])
            · skip
              refine E.aload_n C dX9_keepsDeal_34 rfl rfl ?_
              refine N.getR C fa_X9_41 rfl dX9_keepsDeal_35 kd_119 (x := 130) (by decide +kernel) (by decide) ?_
              refine E.iload_n C dX9_keepsDeal_38 rfl rfl ?_
              refine E.aload_n C dX9_keepsDeal_39 rfl rfl ?_
              refine N.getR C fa_X9_29 rfl dX9_keepsDeal_40 kd_119 (x := 126) (by decide +kernel) (by decide) ?_
              refine E.iload_n C dX9_keepsDeal_43 rfl rfl ?_
              refine N.iald C dX9_keepsDeal_44 kd_126 ln_126 (by omega) (x := v 126 t) ((congrFun (cpyF_row (by decide)) _).trans (congrFun (cpyF_row (by decide)) _)) ?_
              refine N.iast C dX9_keepsDeal_45 kd_130 ln_130 (by omega) ?_
              refine N.iinc_1 C dX9_keepsDeal_46 (hN 1 (by decide)) rfl (by omega) ?_
              refine E.goto C dX9_keepsDeal_49 (tgt := 28) (by decide) ?_
              refine E.heq (h' := cpyF (cpyF v 129 125 8) 130 126 (t + 1)) (cpyF_s h0t) ?_
              exact ih28 _ (by omega) (t + 1) rfl (by omega)
        refine E.heq (h' := cpyF (cpyF v 129 125 8) 130 126 0) (by rw [show c = 8 by omega]; exact cpyF_0) ?_
        exact lp28 _ 0 rfl (by omega)
      · skip
        refine E.aload_n C dX9_keepsDeal_8 rfl rfl ?_
        refine N.getR C fa_X9_38 rfl dX9_keepsDeal_9 kd_119 (x := 129) (by decide +kernel) (by decide) ?_
        refine E.iload_n C dX9_keepsDeal_12 rfl rfl ?_
        refine E.aload_n C dX9_keepsDeal_13 rfl rfl ?_
        refine N.getR C fa_X9_26 rfl dX9_keepsDeal_14 kd_119 (x := 125) (by decide +kernel) (by decide) ?_
        refine E.iload_n C dX9_keepsDeal_17 rfl rfl ?_
        refine N.iald C dX9_keepsDeal_18 kd_125 ln_125 (by omega) (x := v 125 c) (congrFun (cpyF_row (by decide)) _) ?_
        refine N.iast C dX9_keepsDeal_19 kd_129 ln_129 (by omega) ?_
        refine N.iinc_1 C dX9_keepsDeal_20 (hN 1 (by decide)) rfl (by omega) ?_
        refine E.goto C dX9_keepsDeal_23 (tgt := 2) (by decide) ?_
        refine E.heq (h' := cpyF v 129 125 (c + 1)) (cpyF_s h0c) ?_
        exact ih2 _ (by omega) (c + 1) rfl (by omega)
  refine E.heq (h' := cpyF v 129 125 0) (cpyF_0) ?_
  exact lp2 _ 0 rfl (by omega)

set_option maxHeartbeats 4000000 in
set_option maxRecDepth 20000 in
theorem ok_X9_asKept (G : GT) (v : VT) : MVe G yX9_asKept cX9_asKept 2 none 0 0 [vr 119] v (cpyF (cpyF v 125 129 8) 126 130 20) := by
  refine MN.of pn_X9_asKept [some (vr 119), none] 1 rfl rfl (fun X C hX hn hR => ?_)
  have hN : ∀ i : Nat, i < 2 → i < xn X := fun i h => by rw [hn]; exact h
  refine E.rngk (fun hinv => ?_)
  refine E.loc (fun hloc => ?_)
  refine E.iconst C dX9_asKept_0 (by decide) ?_
  refine N.ist_1 C dX9_asKept_1 (hN 1 (by decide)) rfl ?_
  have lp2 : ∀ (k2 : Nat) (c : Int), (8 - c).toNat = k2 → (0 ≤ c ∧ c ≤ 8) → E X G 0 0 1000 (cpyF v 125 129 c) 2 [some (vr 119), some (vi c)] [] := by
    intro k2
    induction k2 using Nat.strongRecOn with
    | ind k2 ih2 =>
      intro c hk2 hI2
      obtain ⟨h0c, h1c⟩ := hI2
      refine E.iload_n C dX9_asKept_2 rfl rfl ?_
      refine E.bipush C dX9_asKept_3 (by decide) ?_
      refine E.icmp_ge C dX9_asKept_5 (tgt := 26) (by decide) (fun h5 => ?_) (fun h5 => ?_)
      · skip
        refine E.iconst C dX9_asKept_26 (by decide) ?_
        refine N.ist_1 C dX9_asKept_27 (hN 1 (by decide)) rfl ?_
        have lp28 : ∀ (k28 : Nat) (t : Int), (20 - t).toNat = k28 → (0 ≤ t ∧ t ≤ 20) → E X G 0 0 1000 (cpyF (cpyF v 125 129 8) 126 130 t) 28 [some (vr 119), some (vi t)] [] := by
          intro k28
          induction k28 using Nat.strongRecOn with
          | ind k28 ih28 =>
            intro t hk28 hI28
            obtain ⟨h0t, h1t⟩ := hI28
            refine E.iload_n C dX9_asKept_28 rfl rfl ?_
            refine E.bipush C dX9_asKept_29 (by decide) ?_
            refine E.icmp_ge C dX9_asKept_31 (tgt := 52) (by decide) (fun h31 => ?_) (fun h31 => ?_)
            · skip
              exact N.vret C hR dX9_asKept_52 (fun hi => by rw [show t = 20 by omega])
            · skip
              refine E.aload_n C dX9_asKept_34 rfl rfl ?_
              refine N.getR C fa_X9_29 rfl dX9_asKept_35 kd_119 (x := 126) (by decide +kernel) (by decide) ?_
              refine E.iload_n C dX9_asKept_38 rfl rfl ?_
              refine E.aload_n C dX9_asKept_39 rfl rfl ?_
              refine N.getR C fa_X9_41 rfl dX9_asKept_40 kd_119 (x := 130) (by decide +kernel) (by decide) ?_
              refine E.iload_n C dX9_asKept_43 rfl rfl ?_
              refine N.iald C dX9_asKept_44 kd_130 ln_130 (by omega) (x := v 130 t) ((congrFun (cpyF_row (by decide)) _).trans (congrFun (cpyF_row (by decide)) _)) ?_
              refine N.iast C dX9_asKept_45 kd_126 ln_126 (by omega) ?_
              refine N.iinc_1 C dX9_asKept_46 (hN 1 (by decide)) rfl (by omega) ?_
              refine E.goto C dX9_asKept_49 (tgt := 28) (by decide) ?_
              refine E.heq (h' := cpyF (cpyF v 125 129 8) 126 130 (t + 1)) (cpyF_s h0t) ?_
              exact ih28 _ (by omega) (t + 1) rfl (by omega)
        refine E.heq (h' := cpyF (cpyF v 125 129 8) 126 130 0) (by rw [show c = 8 by omega]; exact cpyF_0) ?_
        exact lp28 _ 0 rfl (by omega)
      · skip
        refine E.aload_n C dX9_asKept_8 rfl rfl ?_
        refine N.getR C fa_X9_26 rfl dX9_asKept_9 kd_119 (x := 125) (by decide +kernel) (by decide) ?_
        refine E.iload_n C dX9_asKept_12 rfl rfl ?_
        refine E.aload_n C dX9_asKept_13 rfl rfl ?_
        refine N.getR C fa_X9_38 rfl dX9_asKept_14 kd_119 (x := 129) (by decide +kernel) (by decide) ?_
        refine E.iload_n C dX9_asKept_17 rfl rfl ?_
        refine N.iald C dX9_asKept_18 kd_129 ln_129 (by omega) (x := v 129 c) (congrFun (cpyF_row (by decide)) _) ?_
        refine N.iast C dX9_asKept_19 kd_125 ln_125 (by omega) ?_
        refine N.iinc_1 C dX9_asKept_20 (hN 1 (by decide)) rfl (by omega) ?_
        refine E.goto C dX9_asKept_23 (tgt := 2) (by decide) ?_
        refine E.heq (h' := cpyF v 125 129 (c + 1)) (cpyF_s h0c) ?_
        exact ih2 _ (by omega) (c + 1) rfl (by omega)
  refine E.heq (h' := cpyF v 125 129 0) (cpyF_0) ?_
  exact lp2 _ 0 rfl (by omega)

set_option maxHeartbeats 4000000 in
set_option maxRecDepth 20000 in
theorem ok_X9_firstDraft (G : GT) (v : VT) : MVe G yX9_firstDraft cX9_firstDraft 2 none 0 0 [vr 119] v (upd2 (upd2 (upd2 (upd2 (fillF v 122 0 199) 119 4 2) 119 5 0) 119 6 (-4)) 119 7 (-4)) := by
  refine MN.of pn_X9_firstDraft [some (vr 119), none] 1 rfl rfl (fun X C hX hn hR => ?_)
  have hN : ∀ i : Nat, i < 2 → i < xn X := fun i h => by rw [hn]; exact h
  refine E.rngk (fun hinv => ?_)
  refine E.loc (fun hloc => ?_)
  refine E.iconst C dX9_firstDraft_0 (by decide) ?_
  refine N.ist_1 C dX9_firstDraft_1 (hN 1 (by decide)) rfl ?_
  have lp2 : ∀ (k2 : Nat) (t : Int), (199 - t).toNat = k2 → (0 ≤ t ∧ t ≤ 199) → E X G 0 0 1000 (fillF v 122 0 t) 2 [some (vr 119), some (vi t)] [] := by
    intro k2
    induction k2 using Nat.strongRecOn with
    | ind k2 ih2 =>
      intro t hk2 hI2
      obtain ⟨ht0, ht1⟩ := hI2
      refine E.iload_n C dX9_firstDraft_2 rfl rfl ?_
      refine E.sipush C dX9_firstDraft_3 (by decide) ?_
      refine E.icmp_ge C dX9_firstDraft_6 (tgt := 22) (by decide) (fun h6 => ?_) (fun h6 => ?_)
      · skip
        refine E.aload_n C dX9_firstDraft_22 rfl rfl ?_
        refine E.iconst C dX9_firstDraft_23 (by decide) ?_
        refine N.putI C fp_X9_71 rfl dX9_firstDraft_24 kd_119 ?_
        refine E.aload_n C dX9_firstDraft_27 rfl rfl ?_
        refine E.iconst C dX9_firstDraft_28 (by decide) ?_
        refine N.putZ C fp_X9_75 rfl dX9_firstDraft_29 kd_119 (by omega) ?_
        refine E.aload_n C dX9_firstDraft_32 rfl rfl ?_
        refine E.bipush C dX9_firstDraft_33 (by decide) ?_
        refine N.putI C fp_X9_79 rfl dX9_firstDraft_35 kd_119 ?_
        refine E.aload_n C dX9_firstDraft_38 rfl rfl ?_
        refine E.bipush C dX9_firstDraft_39 (by decide) ?_
        refine N.putI C fp_X9_82 rfl dX9_firstDraft_41 kd_119 ?_
        exact N.vret C hR dX9_firstDraft_44 (fun hi => by rw [show t = 199 by omega]; rfl)
      · skip
        refine E.aload_n C dX9_firstDraft_9 rfl rfl ?_
        refine N.getR C fa_X9_17 rfl dX9_firstDraft_10 kd_119 (x := 122) (by decide +kernel) (by decide) ?_
        refine E.iload_n C dX9_firstDraft_13 rfl rfl ?_
        refine E.iconst C dX9_firstDraft_14 (by decide) ?_
        refine N.iast C dX9_firstDraft_15 kd_122 ln_122 (by omega) ?_
        refine N.iinc_1 C dX9_firstDraft_16 (hN 1 (by decide)) rfl (by omega) ?_
        refine E.goto C dX9_firstDraft_19 (tgt := 2) (by decide) ?_
        refine E.heq (h' := fillF v 122 0 (t + 1)) (fillF_s ht0) ?_
        exact ih2 _ (by omega) (t + 1) rfl (by omega)
  refine E.heq (h' := fillF v 122 0 0) (fillF_0) ?_
  exact lp2 _ 0 rfl (by omega)

set_option maxHeartbeats 4000000 in
set_option maxRecDepth 20000 in
theorem ok_X9_keepDraft (G : GT) (v : VT) : MVe G yX9_keepDraft cX9_keepDraft 2 none 0 0 [vr 119] v (upd2 (upd2 (upd2 (cpyF v 120 122 199) 119 2 (v 119 4)) 121 0 0) 121 1 0) := by
  refine MN.of pn_X9_keepDraft [some (vr 119), none] 1 rfl rfl (fun X C hX hn hR => ?_)
  have hN : ∀ i : Nat, i < 2 → i < xn X := fun i h => by rw [hn]; exact h
  refine E.rngk (fun hinv => ?_)
  refine E.loc (fun hloc => ?_)
  refine E.iconst C dX9_keepDraft_0 (by decide) ?_
  refine N.ist_1 C dX9_keepDraft_1 (hN 1 (by decide)) rfl ?_
  have lp2 : ∀ (k2 : Nat) (t : Int), (199 - t).toNat = k2 → (0 ≤ t ∧ t ≤ 199) → E X G 0 0 1000 (cpyF v 120 122 t) 2 [some (vr 119), some (vi t)] [] := by
    intro k2
    induction k2 using Nat.strongRecOn with
    | ind k2 ih2 =>
      intro t hk2 hI2
      obtain ⟨h0t, h1t⟩ := hI2
      refine E.iload_n C dX9_keepDraft_2 rfl rfl ?_
      refine E.sipush C dX9_keepDraft_3 (by decide) ?_
      refine E.icmp_ge C dX9_keepDraft_6 (tgt := 27) (by decide) (fun h6 => ?_) (fun h6 => ?_)
      · skip
        refine E.aload_n C dX9_keepDraft_27 rfl rfl ?_
        refine E.aload_n C dX9_keepDraft_28 rfl rfl ?_
        refine N.getI C fa_X9_71 rfl dX9_keepDraft_29 kd_119 (x := v 119 4) (congrFun (cpyF_row (by decide)) _) ?_
        refine N.putI C fp_X9_85 rfl dX9_keepDraft_32 kd_119 ?_
        refine E.aload_n C dX9_keepDraft_35 rfl rfl ?_
        refine N.getR C fa_X9_13 rfl dX9_keepDraft_36 kd_119 (x := 121) (by decide +kernel) (by decide) ?_
        refine E.iconst C dX9_keepDraft_39 (by decide) ?_
        refine E.iconst C dX9_keepDraft_40 (by decide) ?_
        refine N.zast C dX9_keepDraft_41 kd_121 ln_121 (by omega) (by omega) ?_
        refine E.aload_n C dX9_keepDraft_42 rfl rfl ?_
        refine N.getR C fa_X9_13 rfl dX9_keepDraft_43 kd_119 (x := 121) (by decide +kernel) (by decide) ?_
        refine E.iconst C dX9_keepDraft_46 (by decide) ?_
        refine E.iconst C dX9_keepDraft_47 (by decide) ?_
        refine N.zast C dX9_keepDraft_48 kd_121 ln_121 (by omega) (by omega) ?_
        exact N.vret C hR dX9_keepDraft_49 (fun hi => by rw [show t = 199 by omega]; rfl)
      · skip
        refine E.aload_n C dX9_keepDraft_9 rfl rfl ?_
        refine N.getR C fa_X9_7 rfl dX9_keepDraft_10 kd_119 (x := 120) (by decide +kernel) (by decide) ?_
        refine E.iload_n C dX9_keepDraft_13 rfl rfl ?_
        refine E.aload_n C dX9_keepDraft_14 rfl rfl ?_
        refine N.getR C fa_X9_17 rfl dX9_keepDraft_15 kd_119 (x := 122) (by decide +kernel) (by decide) ?_
        refine E.iload_n C dX9_keepDraft_18 rfl rfl ?_
        refine N.iald C dX9_keepDraft_19 kd_122 ln_122 (by omega) (x := v 122 t) (congrFun (cpyF_row (by decide)) _) ?_
        refine N.iast C dX9_keepDraft_20 kd_120 ln_120 (by omega) ?_
        refine N.iinc_1 C dX9_keepDraft_21 (hN 1 (by decide)) rfl (by omega) ?_
        refine E.goto C dX9_keepDraft_24 (tgt := 2) (by decide) ?_
        refine E.heq (h' := cpyF v 120 122 (t + 1)) (cpyF_s h0t) ?_
        exact ih2 _ (by omega) (t + 1) rfl (by omega)
  refine E.heq (h' := cpyF v 120 122 0) (cpyF_0) ?_
  exact lp2 _ 0 rfl (by omega)

set_option maxHeartbeats 4000000 in
set_option maxRecDepth 20000 in
theorem ok_X9_findCanHave (G : GT) (s : Int) (v : VT) (hc : 0 ≤ v 120 0 ∧ v 120 0 ≤ 8) (hb : 0 ≤ v 120 41 ∧ v 120 41 ≤ 10) (hth : ∀ t, 0 ≤ t → t < v 120 41 → -1000 ≤ v 120 (42 + 7 * t + 2) ∧ v 120 (42 + 7 * t + 2) ≤ 1000 ∧ -1000 ≤ v 120 (42 + 7 * t + 3) ∧ v 120 (42 + 7 * t + 3) ≤ 1000) (hfz : ∀ c, 0 ≤ c → c < v 120 0 → -1000 ≤ v 120 (1 + 5 * c) ∧ v 120 (1 + 5 * c) ≤ 1000) (hsl : -1000 ≤ v 119 2 ∧ v 119 2 ≤ 1000) : MVe G yX9_findCanHave cX9_findCanHave 4 none 3 72 [vr 119, vi s] v (canF v s (v 120 0) (v 120 0) 0) := by
  refine MN.of pn_X9_findCanHave [some (vr 119), some (vi s), none, none] 2 rfl rfl (fun X C hX hn hR => ?_)
  have hN : ∀ i : Nat, i < 4 → i < xn X := fun i h => by rw [hn]; exact h
  refine E.rngk (fun hinv => ?_)
  refine E.loc (fun hloc => ?_)
  have hin_1 : in32 s := hloc _ (List.mem_of_getElem? (i := 1) rfl)
  refine E.aload_n C dX9_findCanHave_0 rfl rfl ?_
  refine E.aload_n C dX9_findCanHave_1 rfl rfl ?_
  refine N.getR C fa_X9_7 rfl dX9_findCanHave_2 kd_119 (x := 120) (by decide +kernel) (by decide) ?_
  refine E.iconst C dX9_findCanHave_5 (by decide) ?_
  refine N.iald C dX9_findCanHave_6 kd_120 ln_120 (by omega) (x := v 120 0) rfl ?_
  refine N.putI C fp_X9_223 rfl dX9_findCanHave_7 kd_119 ?_
  refine E.iconst C dX9_findCanHave_10 (by decide) ?_
  refine N.ist_2 C dX9_findCanHave_11 (hN 2 (by decide)) rfl ?_
  have lp12 : ∀ (k12 : Nat) (c : Int), (v 120 0 - c).toNat = k12 → (0 ≤ c ∧ c ≤ v 120 0) → E X G 0 0 1000 (canF v s c c 0) 12 [some (vr 119), some (vi s), some (vi c), none] [] := by
    intro k12
    induction k12 using Nat.strongRecOn with
    | ind k12 ih12 =>
      intro c hk12 hI12
      obtain ⟨ht0, ht1⟩ := hI12
      refine E.iload_n C dX9_findCanHave_12 rfl rfl ?_
      refine E.aload_n C dX9_findCanHave_13 rfl rfl ?_
      refine N.getI C fa_X9_223 rfl dX9_findCanHave_14 kd_119 (x := v 120 0) canF_16 ?_
      refine E.icmp_ge C dX9_findCanHave_17 (tgt := 90) (by decide) (fun h17 => ?_) (fun h17 => ?_)
      · skip
        exact N.vret C hR dX9_findCanHave_90 (fun hi => by rw [show c = v 120 0 by omega])
      · skip
        refine E.aload_n C dX9_findCanHave_20 rfl rfl ?_
        refine N.getR C fa_X9_23 rfl dX9_findCanHave_21 kd_119 (x := 124) (by decide +kernel) (by decide) ?_
        refine E.iload_n C dX9_findCanHave_24 rfl rfl ?_
        refine E.iconst C dX9_findCanHave_25 (by decide) ?_
        refine N.iast C dX9_findCanHave_26 kd_124 ln_124 (by omega) ?_
        refine E.iconst C dX9_findCanHave_27 (by decide) ?_
        refine N.ist_3 C dX9_findCanHave_28 (hN 3 (by decide)) rfl ?_
        have lp29 : ∀ (k29 : Nat) (t : Int), (v 120 41 - t).toNat = k29 → (0 ≤ t ∧ t ≤ v 120 41) → E X G 0 0 1000 (canF v s c (c + 1) t) 29 [some (vr 119), some (vi s), some (vi c), some (vi t)] [] := by
          intro k29
          induction k29 using Nat.strongRecOn with
          | ind k29 ih29 =>
            intro t hk29 hI29
            obtain ⟨ht2, ht3⟩ := hI29
            refine E.iload_n C dX9_findCanHave_29 rfl rfl ?_
            refine E.aload_n C dX9_findCanHave_30 rfl rfl ?_
            refine N.getR C fa_X9_7 rfl dX9_findCanHave_31 kd_119 (x := 120) (by decide +kernel) (by decide) ?_
            refine E.bipush C dX9_findCanHave_34 (by decide) ?_
            refine N.iald C dX9_findCanHave_36 kd_120 ln_120 (by omega) (x := v 120 41) (canF_out (by omega)) ?_
            refine E.icmp_ge C dX9_findCanHave_37 (tgt := 84) (by decide) (fun h37 => ?_) (fun h37 => ?_)
            · skip
              refine N.iinc_2 C dX9_findCanHave_84 (hN 2 (by decide)) rfl (by omega) ?_
              refine E.goto C dX9_findCanHave_87 (tgt := 12) (by decide) ?_
              refine E.heq (h' := canF v s (c + 1) (c + 1) 0) (canF_e (by omega)) ?_
              refine E.drop (i := 3) ?_
              exact ih12 _ (by omega) (c + 1) rfl (by omega)
            · skip
              have hmp : mayS v s c t = true ↔ (v 120 (42 + 7 * t + 0) = s ∧ 0 < fitI (v 120 (42 + 7 * t + 1)) (v 120 (42 + 7 * t + 2)) (v 120 (42 + 7 * t + 3)) (v 120 (42 + 7 * t + 4)) (v 120 (42 + 7 * t + 5)) (v 120 (42 + 7 * t + 6)) c (v 120 (1 + 5 * c)) (v 119 2)) := by unfold mayS fitS; simp only [Bool.and_eq_true, decide_eq_true_eq]
              have hq1 := hth t ht2
              have hq2 := hfz c ht0
              refine E.aload_n C dX9_findCanHave_40 rfl rfl ?_
              refine N.getR C fa_X9_23 rfl dX9_findCanHave_41 kd_119 (x := 124) (by decide +kernel) (by decide) ?_
              refine E.iload_n C dX9_findCanHave_44 rfl rfl ?_
              refine E.dup2 C dX9_findCanHave_45 ?_
              refine N.iald C dX9_findCanHave_46 kd_124 ln_124 (by omega) (x := orN (mayS v s c) t.toNat) (canF_m (by omega)) ?_
              refine E.aload_n C dX9_findCanHave_47 rfl rfl ?_
              refine E.iload_n C dX9_findCanHave_48 rfl rfl ?_
              refine E.iconst C dX9_findCanHave_49 (by decide) ?_
              refine N.callVp (S := [vi (orN (mayS v s c) t.toNat), vi c, vr 124]) (As := [vi t, vi 0]) C hX (ok_X9_of G t 0 (canF v s c (c + 1) t) (by omega)) yf_X9_of yv_X9_of ml_X9_172 rfl rfl rfl kd_119 (by decide) (by decide) (Nat.le_of_ble_eq_true rfl) dX9_findCanHave_50 rfl ?_
              refine E.veq (x' := (v 120 (42 + 7 * t + 0))) (by rw [show (canF v s c (c + 1) t) 120 (42 + 7 * t + 0) = v 120 (42 + 7 * t + 0) from (canF_out (by omega))]) ?_
              refine E.iload_n C dX9_findCanHave_53 rfl rfl ?_
              refine E.icmp_ne C dX9_findCanHave_54 (tgt := 70) (by decide) (fun h54 => ?_) (fun h54 => ?_)
              · skip
                refine E.iconst C dX9_findCanHave_70 (by decide) ?_
                refine N.callSp (S := [vi (orN (mayS v s c) t.toNat), vi c, vr 124]) (As := [vi 0]) C hX (ok_X9_flag G 0 (canF v s c (c + 1) t) (by first | omega | exact bdec)) yf_X9_flag yv_X9_flag ml_X9_219 rfl (by decide) (Nat.le_of_ble_eq_true rfl) dX9_findCanHave_71 rfl ?_
                refine E.iload_n C dX9_findCanHave_74 rfl rfl ?_
                refine E.ishl C dX9_findCanHave_75 ?_
                refine E.ior C dX9_findCanHave_76 ?_
                refine N.iast C dX9_findCanHave_77 kd_124 ln_124 (by omega) ?_
                refine N.iinc_3 C dX9_findCanHave_78 (hN 3 (by decide)) rfl (by omega) ?_
                refine E.goto C dX9_findCanHave_81 (tgt := 29) (by decide) ?_
                refine E.heq (h' := canF v s c (c + 1) (t + 1)) (by first | exact canF_t ht0 (by omega) (Or.inl ⟨hmp.mpr (by omega), rfl⟩) | exact canF_t ht0 (by omega) (Or.inr ⟨Bool.eq_false_iff.mpr (fun hq => by have := hmp.mp hq; omega), rfl⟩)) ?_
                exact ih29 _ (by omega) (t + 1) rfl (by omega)
              · skip
                refine E.aload_n C dX9_findCanHave_57 rfl rfl ?_
                refine E.iload_n C dX9_findCanHave_58 rfl rfl ?_
                refine E.iload_n C dX9_findCanHave_59 rfl rfl ?_
                refine N.callVp (S := [vi (orN (mayS v s c) t.toNat), vi c, vr 124]) (As := [vi c, vi t]) C hX (ok_X9_fitNow G c t (canF v s c (c + 1) t) (by omega) (by rw [canF_out (by omega), canF_out (by omega)]; exact hq1 (by omega)) (by rw [canF_out (by omega), canF_out (by omega)]; exact ⟨(hq2 (by omega)).1, (hq2 (by omega)).2, hsl.1, hsl.2⟩)) yf_X9_fitNow yv_X9_fitNow ml_X9_206 rfl rfl rfl kd_119 (by decide) (by decide) (Nat.le_of_ble_eq_true rfl) dX9_findCanHave_60 rfl ?_
                refine E.veq (x' := fitI (v 120 (42 + 7 * t + 1)) (v 120 (42 + 7 * t + 2)) (v 120 (42 + 7 * t + 3)) (v 120 (42 + 7 * t + 4)) (v 120 (42 + 7 * t + 5)) (v 120 (42 + 7 * t + 6)) c (v 120 (1 + 5 * c)) (v 119 2)) (by unfold fitS; rw [show (canF v s c (c + 1) t) 120 (42 + 7 * t + 1) = v 120 (42 + 7 * t + 1) from (canF_out (by omega)), show (canF v s c (c + 1) t) 120 (42 + 7 * t + 2) = v 120 (42 + 7 * t + 2) from (canF_out (by omega)), show (canF v s c (c + 1) t) 120 (42 + 7 * t + 3) = v 120 (42 + 7 * t + 3) from (canF_out (by omega)), show (canF v s c (c + 1) t) 120 (42 + 7 * t + 4) = v 120 (42 + 7 * t + 4) from (canF_out (by omega)), show (canF v s c (c + 1) t) 120 (42 + 7 * t + 5) = v 120 (42 + 7 * t + 5) from (canF_out (by omega)), show (canF v s c (c + 1) t) 120 (42 + 7 * t + 6) = v 120 (42 + 7 * t + 6) from (canF_out (by omega)), show (canF v s c (c + 1) t) 120 (1 + 5 * c) = v 120 (1 + 5 * c) from (canF_out (by omega)), show (canF v s c (c + 1) t) 119 2 = v 119 2 from (canF_out (by omega))]) ?_
                refine E.if_le C dX9_findCanHave_63 (tgt := 70) (by decide) (fun h63 => ?_) (fun h63 => ?_)
                · skip
                  refine E.iconst C dX9_findCanHave_70 (by decide) ?_
                  refine N.callSp (S := [vi (orN (mayS v s c) t.toNat), vi c, vr 124]) (As := [vi 0]) C hX (ok_X9_flag G 0 (canF v s c (c + 1) t) (by first | omega | exact bdec)) yf_X9_flag yv_X9_flag ml_X9_219 rfl (by decide) (Nat.le_of_ble_eq_true rfl) dX9_findCanHave_71 rfl ?_
                  refine E.iload_n C dX9_findCanHave_74 rfl rfl ?_
                  refine E.ishl C dX9_findCanHave_75 ?_
                  refine E.ior C dX9_findCanHave_76 ?_
                  refine N.iast C dX9_findCanHave_77 kd_124 ln_124 (by omega) ?_
                  refine N.iinc_3 C dX9_findCanHave_78 (hN 3 (by decide)) rfl (by omega) ?_
                  refine E.goto C dX9_findCanHave_81 (tgt := 29) (by decide) ?_
                  refine E.heq (h' := canF v s c (c + 1) (t + 1)) (by first | exact canF_t ht0 (by omega) (Or.inl ⟨hmp.mpr (by omega), rfl⟩) | exact canF_t ht0 (by omega) (Or.inr ⟨Bool.eq_false_iff.mpr (fun hq => by have := hmp.mp hq; omega), rfl⟩)) ?_
                  exact ih29 _ (by omega) (t + 1) rfl (by omega)
                · skip
                  refine E.iconst C dX9_findCanHave_66 (by decide) ?_
                  refine E.goto C dX9_findCanHave_67 (tgt := 71) (by decide) ?_
                  refine N.callSp (S := [vi (orN (mayS v s c) t.toNat), vi c, vr 124]) (As := [vi 1]) C hX (ok_X9_flag G 1 (canF v s c (c + 1) t) (by first | omega | exact bdec)) yf_X9_flag yv_X9_flag ml_X9_219 rfl (by decide) (Nat.le_of_ble_eq_true rfl) dX9_findCanHave_71 rfl ?_
                  refine E.iload_n C dX9_findCanHave_74 rfl rfl ?_
                  refine E.ishl C dX9_findCanHave_75 ?_
                  refine E.ior C dX9_findCanHave_76 ?_
                  refine N.iast C dX9_findCanHave_77 kd_124 ln_124 (by omega) ?_
                  refine N.iinc_3 C dX9_findCanHave_78 (hN 3 (by decide)) rfl (by omega) ?_
                  refine E.goto C dX9_findCanHave_81 (tgt := 29) (by decide) ?_
                  refine E.heq (h' := canF v s c (c + 1) (t + 1)) (by first | exact canF_t ht0 (by omega) (Or.inl ⟨hmp.mpr (by omega), rfl⟩) | exact canF_t ht0 (by omega) (Or.inr ⟨Bool.eq_false_iff.mpr (fun hq => by have := hmp.mp hq; omega), rfl⟩)) ?_
                  exact ih29 _ (by omega) (t + 1) rfl (by omega)
        refine E.heq (h' := canF v s c (c + 1) 0) (canF_c ht0) ?_
        exact lp29 _ 0 rfl (by omega)
  refine E.heq (h' := canF v s 0 0 0) (canF_0) ?_
  exact lp12 _ 0 rfl (by omega)
