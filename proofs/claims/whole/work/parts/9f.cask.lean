set_option maxHeartbeats 4000000 in
set_option maxRecDepth 20000 in
theorem ok_X2_howMany (G : GT) (f : Int → Int → Bool) (n K : Int) (v : VT) (hT : TrQ f n K v) : MP G yX2_howMany cX2_howMany 1 (some .int) 0 0 [vr 60] v (endR f n.toNat K 0) := by
  refine MN.of pn_X2_howMany [some (vr 60)] 0 rfl rfl (fun X C hX hn hR => ?_)
  have hN : ∀ i : Nat, i < 1 → i < xn X := fun i h => by rw [hn]; exact h
  refine E.rngk (fun hinv => ?_)
  refine E.loc (fun hloc => ?_)
  obtain ⟨hnn, hKK, e3, e4, hft, hen⟩ := id hT
  have h8 := pw_8 hnn
  refine E.aload_n C dX2_howMany_0 rfl rfl ?_
  refine N.getR C fa_X2_15 rfl dX2_howMany_1 kd_60 (x := 62) (by decide +kernel) (by decide) ?_
  refine E.iconst C dX2_howMany_4 (by decide) ?_
  refine N.iald C dX2_howMany_5 kd_62 ln_62 (by omega) (x := v 62 0) rfl ?_
  exact N.iret C hR dX2_howMany_6 (fun hi hx => by exact ⟨hen 0 (by omega) (by omega), rfl⟩)

set_option maxHeartbeats 4000000 in
set_option maxRecDepth 20000 in
theorem ok_X2_firstBehind (G : GT) (u k : Int) (f : Int → Int → Bool) (n K : Int) (v : VT) (hT : TrQ f n K v) (hu : 0 ≤ u ∧ u < pwI n.toNat) (hk : 0 ≤ k ∧ k < K) : MP G yX2_firstBehind cX2_firstBehind 4 (some .int) 1 23 [vr 60, vi u, vi k] v (fstB f n K k u) := by
  refine MN.of pn_X2_firstBehind [some (vr 60), some (vi u), some (vi k), none] 1 rfl rfl (fun X C hX hn hR => ?_)
  have hN : ∀ i : Nat, i < 4 → i < xn X := fun i h => by rw [hn]; exact h
  refine E.rngk (fun hinv => ?_)
  refine E.loc (fun hloc => ?_)
  have hin_1 : in32 u := hloc _ (List.mem_of_getElem? (i := 1) rfl)
  have hin_2 : in32 k := hloc _ (List.mem_of_getElem? (i := 2) rfl)
  obtain ⟨hnn, hKK, e3, e4, hft, hen⟩ := id hT
  have h8 := pw_8 hnn
  refine E.iconst C dX2_firstBehind_0 (by decide) ?_
  refine N.ist_3 C dX2_firstBehind_1 (hN 3 (by decide)) rfl ?_
  have lp2 : ∀ (k2 : Nat) (c : Int), (n - c).toNat = k2 → (0 ≤ c ∧ c ≤ n ∧ ∀ i, 0 ≤ i → i < c → goB f n K k u i = false) → E X G 0 0 1000 v 2 [some (vr 60), some (vi u), some (vi k), some (vi c)] [] := by
    intro k2
    induction k2 using Nat.strongRecOn with
    | ind k2 ih2 =>
      intro c hk2 hI2
      obtain ⟨hc0, hc1, hno⟩ := hI2
      refine E.iload_n C dX2_firstBehind_2 rfl rfl ?_
      refine E.aload_n C dX2_firstBehind_3 rfl rfl ?_
      refine N.getI C fa_X2_27 rfl dX2_firstBehind_4 kd_60 (x := v 60 3) rfl ?_
      refine E.icmp_ge C dX2_firstBehind_7 (tgt := 41) (by decide) (fun h7 => ?_) (fun h7 => ?_)
      · skip
        refine E.bipush C dX2_firstBehind_41 (by decide) ?_
        exact N.iret C hR dX2_firstBehind_43 (fun hi hx => by first | exact ⟨(fst_at ⟨hc0, by omega⟩ (goB_iff.mpr ⟨by rw [← hft k c hk.1 hk.2 hc0 (by omega)]; exact h17, by rw [← hev]; omega⟩) hno).symm, rfl⟩ | exact ⟨(fst_no (by omega) (fun i g1 g2 => hno i g1 (by omega))).symm, rfl⟩)
      · skip
        refine E.aload_n C dX2_firstBehind_10 rfl rfl ?_
        refine E.iload_n C dX2_firstBehind_11 rfl rfl ?_
        refine E.iload_n C dX2_firstBehind_12 rfl rfl ?_
        refine E.iload_n C dX2_firstBehind_13 rfl rfl ?_
        refine N.callVp (S := []) (As := [vi c, vi k, vi u]) C hX (ok_X2_canFollow G c k u v (by omega)) yf_X2_canFollow yv_X2_canFollow ml_X2_70 rfl rfl rfl kd_60 (by decide) (by decide) (Nat.le_of_ble_eq_true rfl) dX2_firstBehind_14 rfl ?_
        refine E.if_eq C dX2_firstBehind_17 (tgt := 35) (by decide) (fun h17 => ?_) (fun h17 => ?_)
        · have h17 := b0.mp h17
          refine N.iinc_3 C dX2_firstBehind_35 (hN 3 (by decide)) rfl (by omega) ?_
          refine E.goto C dX2_firstBehind_38 (tgt := 2) (by decide) ?_
          exact ih2 _ (by omega) (c + 1) rfl (by refine ⟨by omega, by omega, fun i g1 g2 => ?_⟩; by_cases e : i = c; (rw [e]; refine Bool.eq_false_iff.mpr (fun q => ?_); have q2 := goB_iff.mp q; rw [← hft k c hk.1 hk.2 hc0 (by omega)] at q2; first | exact h17 q2.1 | (rw [← hev] at q2; exact absurd q2.2 (by omega))); exact hno i g1 (by omega))
        · have h17 := b0n.mp h17
          have hup := or_up hnn hu ⟨hc0, by omega⟩
          have hev := hen _ hup.1 hup.2
          refine E.aload_n C dX2_firstBehind_20 rfl rfl ?_
          refine N.getR C fa_X2_15 rfl dX2_firstBehind_21 kd_60 (x := 62) (by decide +kernel) (by decide) ?_
          refine E.iload_n C dX2_firstBehind_24 rfl rfl ?_
          refine E.iconst C dX2_firstBehind_25 (by decide) ?_
          refine E.iload_n C dX2_firstBehind_26 rfl rfl ?_
          refine E.ishl C dX2_firstBehind_27 ?_
          refine E.ior C dX2_firstBehind_28 ?_
          refine N.iald C dX2_firstBehind_29 kd_62 ln_62 (by omega) (x := v 62 (jor u (jshl 1 c))) rfl ?_
          refine E.if_le C dX2_firstBehind_30 (tgt := 35) (by decide) (fun h30 => ?_) (fun h30 => ?_)
          · skip
            refine N.iinc_3 C dX2_firstBehind_35 (hN 3 (by decide)) rfl (by omega) ?_
            refine E.goto C dX2_firstBehind_38 (tgt := 2) (by decide) ?_
            exact ih2 _ (by omega) (c + 1) rfl (by refine ⟨by omega, by omega, fun i g1 g2 => ?_⟩; by_cases e : i = c; (rw [e]; refine Bool.eq_false_iff.mpr (fun q => ?_); have q2 := goB_iff.mp q; rw [← hft k c hk.1 hk.2 hc0 (by omega)] at q2; first | exact h17 q2.1 | (rw [← hev] at q2; exact absurd q2.2 (by omega))); exact hno i g1 (by omega))
          · skip
            refine E.iload_n C dX2_firstBehind_33 rfl rfl ?_
            exact N.iret C hR dX2_firstBehind_34 (fun hi hx => by first | exact ⟨(fst_at ⟨hc0, by omega⟩ (goB_iff.mpr ⟨by rw [← hft k c hk.1 hk.2 hc0 (by omega)]; exact h17, by rw [← hev]; omega⟩) hno).symm, rfl⟩ | exact ⟨(fst_no (by omega) (fun i g1 g2 => hno i g1 (by omega))).symm, rfl⟩)
  exact lp2 _ 0 rfl (by exact ⟨by omega, by omega, fun i h1 h2 => by omega⟩)

set_option maxHeartbeats 4000000 in
set_option maxRecDepth 20000 in
theorem ok_X2_inFirst (G : GT) (q : Int) (f : Int → Int → Bool) (n K : Int) (v : VT) (hT : TrQ f n K v) (hq : 0 ≤ q ∧ q < K) : MI G yX2_inFirst cX2_inFirst 5 (some .int) 2 46 [vr 60, vi q] v (fun x => ((endR f n.toNat K 0 = 0 ∧ x = -4) ∨ (0 < endR f n.toNat K 0 ∧ x = fstB f n K q (useN f n K q.toNat)))) := by
  refine MN.of pn_X2_inFirst [some (vr 60), some (vi q), none, none, none] 3 rfl rfl (fun X C hX hn hR => ?_)
  have hN : ∀ i : Nat, i < 5 → i < xn X := fun i h => by rw [hn]; exact h
  refine E.rngk (fun hinv => ?_)
  refine E.loc (fun hloc => ?_)
  have hin_1 : in32 q := hloc _ (List.mem_of_getElem? (i := 1) rfl)
  obtain ⟨hnn, hKK, e3, e4, hft, hen⟩ := id hT
  have h8 := pw_8 hnn
  refine E.iconst C dX2_inFirst_0 (by decide) ?_
  refine N.ist_2 C dX2_inFirst_1 (hN 2 (by decide)) rfl ?_
  refine E.iconst C dX2_inFirst_2 (by decide) ?_
  refine N.ist_3 C dX2_inFirst_3 (hN 3 (by decide)) rfl ?_
  have lp4 : ∀ (k4 : Nat) (u : Int) (k : Int), (K - k).toNat = k4 → (0 ≤ k ∧ k ≤ q ∧ GreI f n K k u) → E X G 0 0 1000 v 4 [some (vr 60), some (vi q), some (vi u), some (vi k), none] [] := by
    intro k4
    induction k4 using Nat.strongRecOn with
    | ind k4 ih4 =>
      intro u k hk4 hI4
      obtain ⟨hk0, hk1, hG⟩ := hI4; have hu0 := hG.2.2.1; have hu1 := hG.2.2.2.1
      refine E.iload_n C dX2_inFirst_4 rfl rfl ?_
      refine E.aload_n C dX2_inFirst_5 rfl rfl ?_
      refine N.getI C fa_X2_31 rfl dX2_inFirst_6 kd_60 (x := v 60 4) rfl ?_
      refine E.icmp_ge C dX2_inFirst_9 (tgt := 48) (by decide) (fun h9 => ?_) (fun h9 => ?_)
      · skip
        refine E.bipush C dX2_inFirst_48 (by decide) ?_
        exact N.iret C hR dX2_inFirst_50 (fun hi hx => by exfalso; omega)
      · skip
        refine E.aload_n C dX2_inFirst_12 rfl rfl ?_
        refine E.iload_n C dX2_inFirst_13 rfl rfl ?_
        refine E.iload_n C dX2_inFirst_14 rfl rfl ?_
        refine N.callVp (S := []) (As := [vi u, vi k]) C hX (ok_X2_firstBehind G u k f n K v hT ⟨by omega, by omega⟩ (by omega)) yf_X2_firstBehind yv_X2_firstBehind ml_X2_73 rfl rfl rfl kd_60 (by decide) (by decide) (Nat.le_of_ble_eq_true rfl) dX2_inFirst_15 rfl ?_
        refine N.ist_4 C dX2_inFirst_18 (hN 4 (by decide)) rfl ?_
        refine E.iload C dX2_inFirst_20 rfl ?_
        refine E.bipush C dX2_inFirst_22 (by decide) ?_
        refine E.icmp_eq C dX2_inFirst_24 (tgt := 32) (by decide) (fun h24 => ?_) (fun h24 => ?_)
        · skip
          refine E.iload C dX2_inFirst_32 rfl ?_
          exact N.iret C hR dX2_inFirst_34 (fun hi hx => by first | exact ⟨Or.inl ⟨hG.none hnn hKK.2 (by omega) h24, h24⟩, rfl⟩ | (have hg := (fst_go (f := f) (n := n) (K := K) (k := k) (u := u) hnn.1).resolve_left (fun z => h24 z.1); have e : k = q := (by omega); exact ⟨Or.inr ⟨hG.pos hnn hKK.2 (by omega) ⟨hg.1, hg.2.1⟩ hg.2.2, by rw [← e, ← hG.1]⟩, rfl⟩))
        · skip
          refine E.iload_n C dX2_inFirst_27 rfl rfl ?_
          refine E.iload_n C dX2_inFirst_28 rfl rfl ?_
          refine E.icmp_ne C dX2_inFirst_29 (tgt := 35) (by decide) (fun h29 => ?_) (fun h29 => ?_)
          · skip
            refine E.iload_n C dX2_inFirst_35 rfl rfl ?_
            refine E.iconst C dX2_inFirst_36 (by decide) ?_
            refine E.iload C dX2_inFirst_37 rfl ?_
            refine E.ishl C dX2_inFirst_39 ?_
            refine E.ior C dX2_inFirst_40 ?_
            refine N.ist_2 C dX2_inFirst_41 (hN 2 (by decide)) rfl ?_
            refine N.iinc_3 C dX2_inFirst_42 (hN 3 (by decide)) rfl (by omega) ?_
            refine E.goto C dX2_inFirst_45 (tgt := 4) (by decide) ?_
            refine E.drop (i := 4) ?_
            exact ih4 _ (by omega) (jor u (jshl 1 (fstB f n K k u))) (k + 1) rfl (by exact ⟨by omega, by omega, hG.next hnn hKK.2 ⟨by omega, by omega⟩ h24⟩)
          · skip
            refine E.iload C dX2_inFirst_32 rfl ?_
            exact N.iret C hR dX2_inFirst_34 (fun hi hx => by first | exact ⟨Or.inl ⟨hG.none hnn hKK.2 (by omega) h24, h24⟩, rfl⟩ | (have hg := (fst_go (f := f) (n := n) (K := K) (k := k) (u := u) hnn.1).resolve_left (fun z => h24 z.1); have e : k = q := (by omega); exact ⟨Or.inr ⟨hG.pos hnn hKK.2 (by omega) ⟨hg.1, hg.2.1⟩ hg.2.2, by rw [← e, ← hG.1]⟩, rfl⟩))
  exact lp4 _ 0 0 rfl (by exact ⟨by omega, by omega, GreI.zero⟩)

set_option maxHeartbeats 4000000 in
set_option maxRecDepth 20000 in
theorem ok_X2_firstOnes (G : GT) (f : Int → Int → Bool) (n K : Int) (v : VT) (hT : TrQ f n K v) (hK1 : 0 < K) : MP G yX2_firstOnes cX2_firstOnes 3 (some .int) 1 23 [vr 60] v (orN (goB f n K 0 0) n.toNat) := by
  refine MN.of pn_X2_firstOnes [some (vr 60), none, none] 2 rfl rfl (fun X C hX hn hR => ?_)
  have hN : ∀ i : Nat, i < 3 → i < xn X := fun i h => by rw [hn]; exact h
  refine E.rngk (fun hinv => ?_)
  refine E.loc (fun hloc => ?_)
  obtain ⟨hnn, hKK, e3, e4, hft, hen⟩ := id hT
  have h8 := pw_8 hnn
  refine E.iconst C dX2_firstOnes_0 (by decide) ?_
  refine N.ist_1 C dX2_firstOnes_1 (hN 1 (by decide)) rfl ?_
  refine E.iconst C dX2_firstOnes_2 (by decide) ?_
  refine N.ist_2 C dX2_firstOnes_3 (hN 2 (by decide)) rfl ?_
  have lp4 : ∀ (k4 : Nat) (x : Int) (c : Int), (n - c).toNat = k4 → (0 ≤ c ∧ c ≤ n ∧ x = orN (goB f n K 0 0) c.toNat) → E X G 0 0 1000 v 4 [some (vr 60), some (vi x), some (vi c)] [] := by
    intro k4
    induction k4 using Nat.strongRecOn with
    | ind k4 ih4 =>
      intro x c hk4 hI4
      obtain ⟨hc0, hc1, hxx⟩ := hI4
      refine E.iload_n C dX2_firstOnes_4 rfl rfl ?_
      refine E.aload_n C dX2_firstOnes_5 rfl rfl ?_
      refine N.getI C fa_X2_27 rfl dX2_firstOnes_6 kd_60 (x := v 60 3) rfl ?_
      refine E.icmp_ge C dX2_firstOnes_9 (tgt := 45) (by decide) (fun h9 => ?_) (fun h9 => ?_)
      · skip
        refine E.iload_n C dX2_firstOnes_45 rfl rfl ?_
        exact N.iret C hR dX2_firstOnes_46 (fun hi hx => by exact ⟨by rw [hxx, show c = n by omega], rfl⟩)
      · skip
        refine E.aload_n C dX2_firstOnes_12 rfl rfl ?_
        refine E.iload_n C dX2_firstOnes_13 rfl rfl ?_
        refine E.iconst C dX2_firstOnes_14 (by decide) ?_
        refine E.iconst C dX2_firstOnes_15 (by decide) ?_
        refine N.callVp (S := []) (As := [vi c, vi 0, vi 0]) C hX (ok_X2_canFollow G c 0 0 v (by omega)) yf_X2_canFollow yv_X2_canFollow ml_X2_70 rfl rfl rfl kd_60 (by decide) (by decide) (Nat.le_of_ble_eq_true rfl) dX2_firstOnes_16 rfl ?_
        refine E.if_eq C dX2_firstOnes_19 (tgt := 39) (by decide) (fun h19 => ?_) (fun h19 => ?_)
        · have h19 := b0.mp h19
          refine N.iinc_2 C dX2_firstOnes_39 (hN 2 (by decide)) rfl (by omega) ?_
          refine E.goto C dX2_firstOnes_42 (tgt := 4) (by decide) ?_
          exact ih4 _ (by omega) x (c + 1) rfl (by refine ⟨by omega, by omega, ?_⟩; rw [orN_step hc0, ← hxx]; first | (rw [if_pos (goB_iff.mpr ⟨by rw [← hft 0 c (by omega) (by omega) hc0 (by omega)]; exact h19, by rw [hj0, ← hev]; omega⟩)]) | (rw [if_neg (fun q => ?_)]; have q2 := goB_iff.mp q; rw [← hft 0 c (by omega) (by omega) hc0 (by omega)] at q2; first | exact h19 q2.1 | (rw [hj0, ← hev] at q2; exact absurd q2.2 (by omega))))
        · have h19 := b0n.mp h19
          have hj0 : jor 0 (jshl 1 c) = jshl 1 c := jor_0l (jshl_in _ _)
          have hup := or_up (u := 0) hnn ⟨by omega, by omega⟩ ⟨hc0, by omega⟩
          rw [hj0] at hup
          have hev := hen _ hup.1 hup.2
          refine E.aload_n C dX2_firstOnes_22 rfl rfl ?_
          refine N.getR C fa_X2_15 rfl dX2_firstOnes_23 kd_60 (x := 62) (by decide +kernel) (by decide) ?_
          refine E.iconst C dX2_firstOnes_26 (by decide) ?_
          refine E.iload_n C dX2_firstOnes_27 rfl rfl ?_
          refine E.ishl C dX2_firstOnes_28 ?_
          refine N.iald C dX2_firstOnes_29 kd_62 ln_62 (by omega) (x := v 62 (jshl 1 c)) rfl ?_
          refine E.if_le C dX2_firstOnes_30 (tgt := 39) (by decide) (fun h30 => ?_) (fun h30 => ?_)
          · skip
            refine N.iinc_2 C dX2_firstOnes_39 (hN 2 (by decide)) rfl (by omega) ?_
            refine E.goto C dX2_firstOnes_42 (tgt := 4) (by decide) ?_
            exact ih4 _ (by omega) x (c + 1) rfl (by refine ⟨by omega, by omega, ?_⟩; rw [orN_step hc0, ← hxx]; first | (rw [if_pos (goB_iff.mpr ⟨by rw [← hft 0 c (by omega) (by omega) hc0 (by omega)]; exact h19, by rw [hj0, ← hev]; omega⟩)]) | (rw [if_neg (fun q => ?_)]; have q2 := goB_iff.mp q; rw [← hft 0 c (by omega) (by omega) hc0 (by omega)] at q2; first | exact h19 q2.1 | (rw [hj0, ← hev] at q2; exact absurd q2.2 (by omega))))
          · skip
            refine E.iload_n C dX2_firstOnes_33 rfl rfl ?_
            refine E.iconst C dX2_firstOnes_34 (by decide) ?_
            refine E.iload_n C dX2_firstOnes_35 rfl rfl ?_
            refine E.ishl C dX2_firstOnes_36 ?_
            refine E.ior C dX2_firstOnes_37 ?_
            refine N.ist_1 C dX2_firstOnes_38 (hN 1 (by decide)) rfl ?_
            refine N.iinc_2 C dX2_firstOnes_39 (hN 2 (by decide)) rfl (by omega) ?_
            refine E.goto C dX2_firstOnes_42 (tgt := 4) (by decide) ?_
            exact ih4 _ (by omega) (jor x (jshl 1 c)) (c + 1) rfl (by refine ⟨by omega, by omega, ?_⟩; rw [orN_step hc0, ← hxx]; first | (rw [if_pos (goB_iff.mpr ⟨by rw [← hft 0 c (by omega) (by omega) hc0 (by omega)]; exact h19, by rw [hj0, ← hev]; omega⟩)]) | (rw [if_neg (fun q => ?_)]; have q2 := goB_iff.mp q; rw [← hft 0 c (by omega) (by omega) hc0 (by omega)] at q2; first | exact h19 q2.1 | (rw [hj0, ← hev] at q2; exact absurd q2.2 (by omega))))
  exact lp4 _ 0 0 rfl (by exact ⟨by omega, by omega, rfl⟩)
