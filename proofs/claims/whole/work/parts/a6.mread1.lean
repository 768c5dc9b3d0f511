set_option maxHeartbeats 4000000 in
set_option maxRecDepth 20000 in
theorem ok_X9_needs (G : GT) (g c : Int) (v : VT) (hg : g = 0 ∨ g = 1) : MNv G yX9_needs cX9_needs 3 none 0 0 [vr 119, vi g, vi c] v (fun w => NedQ v g c w) := by
  refine MN.of pn_X9_needs [some (vr 119), some (vi g), some (vi c)] 0 rfl rfl (fun X C hX hn hR => ?_)
  have hN : ∀ i : Nat, i < 3 → i < xn X := fun i h => by rw [hn]; exact h
  refine E.rngk (fun hinv => ?_)
  refine E.loc (fun hloc => ?_)
  have hin_1 : in32 g := hloc _ (List.mem_of_getElem? (i := 1) rfl)
  have hin_2 : in32 c := hloc _ (List.mem_of_getElem? (i := 2) rfl)
  refine E.iload_n C dX9_needs_0 rfl rfl ?_
  refine E.if_ne C dX9_needs_1 (tgt := 24) (by decide) (fun h1 => ?_) (fun h1 => ?_)
  · skip
    exact N.vret C hR dX9_needs_24 (fun hi => by first | exact ⟨fun a j _ => rfl, Or.inr ⟨by omega, rfl, rfl⟩⟩ | exact ⟨fun a j z => by rw [ux_ne (by omega), ux_ne (by omega)], Or.inl ⟨by omega, (ux_ne (by decide)).trans (ux_at rfl), ux_at rfl⟩⟩)
  · skip
    refine E.aload_n C dX9_needs_4 rfl rfl ?_
    refine N.getI C fa_X9_97 rfl dX9_needs_5 kd_119 (x := v 119 14) rfl ?_
    refine E.if_ne C dX9_needs_8 (tgt := 24) (by decide) (fun h8 => ?_) (fun h8 => ?_)
    · skip
      exact N.vret C hR dX9_needs_24 (fun hi => by first | exact ⟨fun a j _ => rfl, Or.inr ⟨by omega, rfl, rfl⟩⟩ | exact ⟨fun a j z => by rw [ux_ne (by omega), ux_ne (by omega)], Or.inl ⟨by omega, (ux_ne (by decide)).trans (ux_at rfl), ux_at rfl⟩⟩)
    · skip
      refine E.aload_n C dX9_needs_11 rfl rfl ?_
      refine E.iload_n C dX9_needs_12 rfl rfl ?_
      refine N.putI C fp_X9_97 rfl dX9_needs_13 kd_119 ?_
      refine E.aload_n C dX9_needs_16 rfl rfl ?_
      refine E.aload_n C dX9_needs_17 rfl rfl ?_
      refine N.getI C fa_X9_100 rfl dX9_needs_18 kd_119 (x := v 119 11) (upd2_ne _ _ _ _ _ _ (Or.inr (by decide))) ?_
      refine N.putI C fp_X9_103 rfl dX9_needs_21 kd_119 ?_
      exact N.vret C hR dX9_needs_24 (fun hi => by first | exact ⟨fun a j _ => rfl, Or.inr ⟨by omega, rfl, rfl⟩⟩ | exact ⟨fun a j z => by rw [ux_ne (by omega), ux_ne (by omega)], Or.inl ⟨by omega, (ux_ne (by decide)).trans (ux_at rfl), ux_at rfl⟩⟩)

set_option maxHeartbeats 4000000 in
set_option maxRecDepth 20000 in
theorem ok_X9_is (G : GT) (f : Int → Int) (L : Int) (n a b c d : Int) (v : VT) (hT : TapM f L v) (hse : 0 ≤ v 119 11 ∧ v 119 11 ≤ v 119 10 ∧ v 119 10 ≤ L) : MP G yX9_is cX9_is 6 (some .boolean) 1 21 [vr 119, vi n, vi a, vi b, vi c, vi d] v (if isB f L (v 119 11) (v 119 10) n a b c d = true then 1 else 0) := by
  refine MN.of pn_X9_is [some (vr 119), some (vi n), some (vi a), some (vi b), some (vi c), some (vi d)] 0 rfl rfl (fun X C hX hn hR => ?_)
  have hN : ∀ i : Nat, i < 6 → i < xn X := fun i h => by rw [hn]; exact h
  refine E.rngk (fun hinv => ?_)
  refine E.loc (fun hloc => ?_)
  have hin_1 : in32 n := hloc _ (List.mem_of_getElem? (i := 1) rfl)
  have hin_2 : in32 a := hloc _ (List.mem_of_getElem? (i := 2) rfl)
  have hin_3 : in32 b := hloc _ (List.mem_of_getElem? (i := 3) rfl)
  have hin_4 : in32 c := hloc _ (List.mem_of_getElem? (i := 4) rfl)
  have hin_5 : in32 d := hloc _ (List.mem_of_getElem? (i := 5) rfl)
  have hTL := hT.2.1
  refine E.aload_n C dX9_is_0 rfl rfl ?_
  refine N.getI C fa_X9_106 rfl dX9_is_1 kd_119 (x := v 119 10) rfl ?_
  refine E.aload_n C dX9_is_4 rfl rfl ?_
  refine N.getI C fa_X9_100 rfl dX9_is_5 kd_119 (x := v 119 11) rfl ?_
  refine E.isub C dX9_is_8 (by omega) ?_
  refine E.iload_n C dX9_is_9 rfl rfl ?_
  refine E.icmp_ne C dX9_is_10 (tgt := 78) (by decide) (fun h10 => ?_) (fun h10 => ?_)
  · skip
    refine E.iconst C dX9_is_78 (by decide) ?_
    exact N.zret C hR dX9_is_79 (by omega) (fun hi => by refine ⟨?_, rfl⟩; rw [isB_v]; split <;> omega)
  · skip
    refine E.aload_n C dX9_is_13 rfl rfl ?_
    refine E.aload_n C dX9_is_14 rfl rfl ?_
    refine N.getI C fa_X9_100 rfl dX9_is_15 kd_119 (x := v 119 11) rfl ?_
    refine N.callVp (S := []) (As := [vi (v 119 11)]) C hX (ok_lok (f := f) (L := L) G (v 119 11) v (by repeat (first | assumption | refine TapM.up (by decide) ?_)) (by omega)) yf_X9_look yv_X9_look ml_X9_109 rfl rfl rfl kd_119 (by decide) (by decide) (Nat.le_of_ble_eq_true rfl) dX9_is_18 rfl ?_
    refine E.iload_n C dX9_is_21 rfl rfl ?_
    refine E.icmp_ne C dX9_is_22 (tgt := 78) (by decide) (fun h22 => ?_) (fun h22 => ?_)
    · skip
      refine E.iconst C dX9_is_78 (by decide) ?_
      exact N.zret C hR dX9_is_79 (by omega) (fun hi => by refine ⟨?_, rfl⟩; rw [isB_v]; split <;> omega)
    · skip
      refine E.aload_n C dX9_is_25 rfl rfl ?_
      refine E.aload_n C dX9_is_26 rfl rfl ?_
      refine N.getI C fa_X9_100 rfl dX9_is_27 kd_119 (x := v 119 11) rfl ?_
      refine E.iconst C dX9_is_30 (by decide) ?_
      refine E.iadd C dX9_is_31 (by omega) ?_
      refine N.callVp (S := []) (As := [vi ((v 119 11) + 1)]) C hX (ok_lok (f := f) (L := L) G ((v 119 11) + 1) v (by repeat (first | assumption | refine TapM.up (by decide) ?_)) (by omega)) yf_X9_look yv_X9_look ml_X9_109 rfl rfl rfl kd_119 (by decide) (by decide) (Nat.le_of_ble_eq_true rfl) dX9_is_32 rfl ?_
      refine E.iload_n C dX9_is_35 rfl rfl ?_
      refine E.icmp_ne C dX9_is_36 (tgt := 78) (by decide) (fun h36 => ?_) (fun h36 => ?_)
      · skip
        refine E.iconst C dX9_is_78 (by decide) ?_
        exact N.zret C hR dX9_is_79 (by omega) (fun hi => by refine ⟨?_, rfl⟩; rw [isB_v]; split <;> omega)
      · skip
        refine E.aload_n C dX9_is_39 rfl rfl ?_
        refine E.aload_n C dX9_is_40 rfl rfl ?_
        refine N.getI C fa_X9_100 rfl dX9_is_41 kd_119 (x := v 119 11) rfl ?_
        refine E.iconst C dX9_is_44 (by decide) ?_
        refine E.iadd C dX9_is_45 (by omega) ?_
        refine N.callVp (S := []) (As := [vi ((v 119 11) + 2)]) C hX (ok_lok (f := f) (L := L) G ((v 119 11) + 2) v (by repeat (first | assumption | refine TapM.up (by decide) ?_)) (by omega)) yf_X9_look yv_X9_look ml_X9_109 rfl rfl rfl kd_119 (by decide) (by decide) (Nat.le_of_ble_eq_true rfl) dX9_is_46 rfl ?_
        refine E.iload C dX9_is_49 rfl ?_
        refine E.icmp_ne C dX9_is_51 (tgt := 78) (by decide) (fun h51 => ?_) (fun h51 => ?_)
        · skip
          refine E.iconst C dX9_is_78 (by decide) ?_
          exact N.zret C hR dX9_is_79 (by omega) (fun hi => by refine ⟨?_, rfl⟩; rw [isB_v]; split <;> omega)
        · skip
          refine E.iload_n C dX9_is_54 rfl rfl ?_
          refine E.iconst C dX9_is_55 (by decide) ?_
          refine E.icmp_lt C dX9_is_56 (tgt := 74) (by decide) (fun h56 => ?_) (fun h56 => ?_)
          · skip
            refine E.iconst C dX9_is_74 (by decide) ?_
            refine E.goto C dX9_is_75 (tgt := 79) (by decide) ?_
            exact N.zret C hR dX9_is_79 (by omega) (fun hi => by refine ⟨?_, rfl⟩; rw [isB_v]; split <;> omega)
          · skip
            refine E.aload_n C dX9_is_59 rfl rfl ?_
            refine E.aload_n C dX9_is_60 rfl rfl ?_
            refine N.getI C fa_X9_100 rfl dX9_is_61 kd_119 (x := v 119 11) rfl ?_
            refine E.iconst C dX9_is_64 (by decide) ?_
            refine E.iadd C dX9_is_65 (by omega) ?_
            refine N.callVp (S := []) (As := [vi ((v 119 11) + 3)]) C hX (ok_lok (f := f) (L := L) G ((v 119 11) + 3) v (by repeat (first | assumption | refine TapM.up (by decide) ?_)) (by omega)) yf_X9_look yv_X9_look ml_X9_109 rfl rfl rfl kd_119 (by decide) (by decide) (Nat.le_of_ble_eq_true rfl) dX9_is_66 rfl ?_
            refine E.iload C dX9_is_69 rfl ?_
            refine E.icmp_ne C dX9_is_71 (tgt := 78) (by decide) (fun h71 => ?_) (fun h71 => ?_)
            · skip
              refine E.iconst C dX9_is_78 (by decide) ?_
              exact N.zret C hR dX9_is_79 (by omega) (fun hi => by refine ⟨?_, rfl⟩; rw [isB_v]; split <;> omega)
            · skip
              refine E.iconst C dX9_is_74 (by decide) ?_
              refine E.goto C dX9_is_75 (tgt := 79) (by decide) ?_
              exact N.zret C hR dX9_is_79 (by omega) (fun hi => by refine ⟨?_, rfl⟩; rw [isB_v]; split <;> omega)

set_option maxHeartbeats 4000000 in
set_option maxRecDepth 20000 in
theorem ok_X9_ends (G : GT) (f : Int → Int) (L : Int) (a b : Int) (v : VT) (hT : TapM f L v) (hs0 : 0 ≤ v 119 11 ∧ v 119 11 ≤ L) : MP G yX9_ends cX9_ends 3 (some .boolean) 1 21 [vr 119, vi a, vi b] v (if endB f L (v 119 11) a b = true then 1 else 0) := by
  refine MN.of pn_X9_ends [some (vr 119), some (vi a), some (vi b)] 0 rfl rfl (fun X C hX hn hR => ?_)
  have hN : ∀ i : Nat, i < 3 → i < xn X := fun i h => by rw [hn]; exact h
  refine E.rngk (fun hinv => ?_)
  refine E.loc (fun hloc => ?_)
  have hin_1 : in32 a := hloc _ (List.mem_of_getElem? (i := 1) rfl)
  have hin_2 : in32 b := hloc _ (List.mem_of_getElem? (i := 2) rfl)
  have hTL := hT.2.1
  refine E.aload_n C dX9_ends_0 rfl rfl ?_
  refine E.aload_n C dX9_ends_1 rfl rfl ?_
  refine N.getI C fa_X9_100 rfl dX9_ends_2 kd_119 (x := v 119 11) rfl ?_
  refine E.iconst C dX9_ends_5 (by decide) ?_
  refine E.iadd C dX9_ends_6 (by omega) ?_
  refine N.callVp (S := []) (As := [vi ((v 119 11) + 4)]) C hX (ok_lok (f := f) (L := L) G ((v 119 11) + 4) v (by repeat (first | assumption | refine TapM.up (by decide) ?_)) (by omega)) yf_X9_look yv_X9_look ml_X9_109 rfl rfl rfl kd_119 (by decide) (by decide) (Nat.le_of_ble_eq_true rfl) dX9_ends_7 rfl ?_
  refine E.iload_n C dX9_ends_10 rfl rfl ?_
  refine E.icmp_ne C dX9_ends_11 (tgt := 36) (by decide) (fun h11 => ?_) (fun h11 => ?_)
  · skip
    refine E.iconst C dX9_ends_36 (by decide) ?_
    exact N.zret C hR dX9_ends_37 (by omega) (fun hi => by refine ⟨?_, rfl⟩; rw [endB_v]; split <;> omega)
  · skip
    refine E.iload_n C dX9_ends_14 rfl rfl ?_
    refine E.if_eq C dX9_ends_15 (tgt := 32) (by decide) (fun h15 => ?_) (fun h15 => ?_)
    · skip
      refine E.iconst C dX9_ends_32 (by decide) ?_
      refine E.goto C dX9_ends_33 (tgt := 37) (by decide) ?_
      exact N.zret C hR dX9_ends_37 (by omega) (fun hi => by refine ⟨?_, rfl⟩; rw [endB_v]; split <;> omega)
    · skip
      refine E.aload_n C dX9_ends_18 rfl rfl ?_
      refine E.aload_n C dX9_ends_19 rfl rfl ?_
      refine N.getI C fa_X9_100 rfl dX9_ends_20 kd_119 (x := v 119 11) rfl ?_
      refine E.iconst C dX9_ends_23 (by decide) ?_
      refine E.iadd C dX9_ends_24 (by omega) ?_
      refine N.callVp (S := []) (As := [vi ((v 119 11) + 5)]) C hX (ok_lok (f := f) (L := L) G ((v 119 11) + 5) v (by repeat (first | assumption | refine TapM.up (by decide) ?_)) (by omega)) yf_X9_look yv_X9_look ml_X9_109 rfl rfl rfl kd_119 (by decide) (by decide) (Nat.le_of_ble_eq_true rfl) dX9_ends_25 rfl ?_
      refine E.iload_n C dX9_ends_28 rfl rfl ?_
      refine E.icmp_ne C dX9_ends_29 (tgt := 36) (by decide) (fun h29 => ?_) (fun h29 => ?_)
      · skip
        refine E.iconst C dX9_ends_36 (by decide) ?_
        exact N.zret C hR dX9_ends_37 (by omega) (fun hi => by refine ⟨?_, rfl⟩; rw [endB_v]; split <;> omega)
      · skip
        refine E.iconst C dX9_ends_32 (by decide) ?_
        refine E.goto C dX9_ends_33 (tgt := 37) (by decide) ?_
        exact N.zret C hR dX9_ends_37 (by omega) (fun hi => by refine ⟨?_, rfl⟩; rw [endB_v]; split <;> omega)

set_option maxHeartbeats 4000000 in
set_option maxRecDepth 20000 in
theorem ok_X9_lineNow (G : GT) (f : Int → Int) (L : Int) (v : VT) (hT : TapM f L v) (hse : 0 ≤ v 119 11 ∧ v 119 11 ≤ v 119 10 ∧ v 119 10 ≤ L) : MP G yX9_lineNow cX9_lineNow 1 (some .int) 2 46 [vr 119] v (wdF f (v 119 11) (v 119 10)) := by
  refine MN.of pn_X9_lineNow [some (vr 119)] 0 rfl rfl (fun X C hX hn hR => ?_)
  have hN : ∀ i : Nat, i < 1 → i < xn X := fun i h => by rw [hn]; exact h
  refine E.rngk (fun hinv => ?_)
  refine E.loc (fun hloc => ?_)
  have hTL := hT.2.1
  have he := hse.2.2
  refine E.aload_n C dX9_lineNow_0 rfl rfl ?_
  refine E.iconst C dX9_lineNow_1 (by decide) ?_
  refine E.bipush C dX9_lineNow_2 (by decide) ?_
  refine E.bipush C dX9_lineNow_4 (by decide) ?_
  refine E.bipush C dX9_lineNow_6 (by decide) ?_
  refine E.bipush C dX9_lineNow_8 (by decide) ?_
  refine N.callVp (S := []) (As := [vi 4, vi 99, vi 111, vi 97, vi 116]) C hX (ok_X9_is G f L 4 99 111 97 116 v (by assumption) (by omega)) yf_X9_is yv_X9_is ml_X9_113 rfl rfl rfl kd_119 (by decide) (by decide) (Nat.le_of_ble_eq_true rfl) dX9_lineNow_10 rfl ?_
  refine E.if_eq C dX9_lineNow_13 (tgt := 18) (by decide) (fun h13 => ?_) (fun h13 => ?_)
  · have h13 := b0.mp h13
    refine E.aload_n C dX9_lineNow_18 rfl rfl ?_
    refine E.iconst C dX9_lineNow_19 (by decide) ?_
    refine E.bipush C dX9_lineNow_20 (by decide) ?_
    refine E.bipush C dX9_lineNow_22 (by decide) ?_
    refine E.bipush C dX9_lineNow_24 (by decide) ?_
    refine E.bipush C dX9_lineNow_26 (by decide) ?_
    refine N.callVp (S := []) (As := [vi 5, vi 98, vi 111, vi 111, vi 116]) C hX (ok_X9_is G f L 5 98 111 111 116 v (by assumption) (by omega)) yf_X9_is yv_X9_is ml_X9_113 rfl rfl rfl kd_119 (by decide) (by decide) (Nat.le_of_ble_eq_true rfl) dX9_lineNow_28 rfl ?_
    refine E.if_eq C dX9_lineNow_31 (tgt := 46) (by decide) (fun h31 => ?_) (fun h31 => ?_)
    · have h31 := b0.mp h31
      refine E.aload_n C dX9_lineNow_46 rfl rfl ?_
      refine E.iconst C dX9_lineNow_47 (by decide) ?_
      refine E.bipush C dX9_lineNow_48 (by decide) ?_
      refine E.bipush C dX9_lineNow_50 (by decide) ?_
      refine E.bipush C dX9_lineNow_52 (by decide) ?_
      refine E.bipush C dX9_lineNow_54 (by decide) ?_
      refine N.callVp (S := []) (As := [vi 5, vi 115, vi 108, vi 97, vi 99]) C hX (ok_X9_is G f L 5 115 108 97 99 v (by assumption) (by omega)) yf_X9_is yv_X9_is ml_X9_113 rfl rfl rfl kd_119 (by decide) (by decide) (Nat.le_of_ble_eq_true rfl) dX9_lineNow_56 rfl ?_
      refine E.if_eq C dX9_lineNow_59 (tgt := 74) (by decide) (fun h59 => ?_) (fun h59 => ?_)
      · have h59 := b0.mp h59
        refine E.aload_n C dX9_lineNow_74 rfl rfl ?_
        refine E.iconst C dX9_lineNow_75 (by decide) ?_
        refine E.bipush C dX9_lineNow_76 (by decide) ?_
        refine E.bipush C dX9_lineNow_78 (by decide) ?_
        refine E.bipush C dX9_lineNow_80 (by decide) ?_
        refine E.bipush C dX9_lineNow_82 (by decide) ?_
        refine N.callVp (S := []) (As := [vi 5, vi 99, vi 104, vi 105, vi 108]) C hX (ok_X9_is G f L 5 99 104 105 108 v (by assumption) (by omega)) yf_X9_is yv_X9_is ml_X9_113 rfl rfl rfl kd_119 (by decide) (by decide) (Nat.le_of_ble_eq_true rfl) dX9_lineNow_84 rfl ?_
        refine E.if_eq C dX9_lineNow_87 (tgt := 102) (by decide) (fun h87 => ?_) (fun h87 => ?_)
        · have h87 := b0.mp h87
          refine E.aload_n C dX9_lineNow_102 rfl rfl ?_
          refine E.iconst C dX9_lineNow_103 (by decide) ?_
          refine E.bipush C dX9_lineNow_104 (by decide) ?_
          refine E.bipush C dX9_lineNow_106 (by decide) ?_
          refine E.bipush C dX9_lineNow_108 (by decide) ?_
          refine E.bipush C dX9_lineNow_110 (by decide) ?_
          refine N.callVp (S := []) (As := [vi 4, vi 108, vi 105, vi 107, vi 101]) C hX (ok_X9_is G f L 4 108 105 107 101 v (by assumption) (by omega)) yf_X9_is yv_X9_is ml_X9_113 rfl rfl rfl kd_119 (by decide) (by decide) (Nat.le_of_ble_eq_true rfl) dX9_lineNow_112 rfl ?_
          refine E.if_eq C dX9_lineNow_115 (tgt := 122) (by decide) (fun h115 => ?_) (fun h115 => ?_)
          · have h115 := b0.mp h115
            refine E.aload_n C dX9_lineNow_122 rfl rfl ?_
            refine E.iconst C dX9_lineNow_123 (by decide) ?_
            refine E.bipush C dX9_lineNow_124 (by decide) ?_
            refine E.bipush C dX9_lineNow_126 (by decide) ?_
            refine E.bipush C dX9_lineNow_128 (by decide) ?_
            refine E.bipush C dX9_lineNow_130 (by decide) ?_
            refine N.callVp (S := []) (As := [vi 4, vi 109, vi 97, vi 114, vi 107]) C hX (ok_X9_is G f L 4 109 97 114 107 v (by assumption) (by omega)) yf_X9_is yv_X9_is ml_X9_113 rfl rfl rfl kd_119 (by decide) (by decide) (Nat.le_of_ble_eq_true rfl) dX9_lineNow_132 rfl ?_
            refine E.if_eq C dX9_lineNow_135 (tgt := 142) (by decide) (fun h135 => ?_) (fun h135 => ?_)
            · have h135 := b0.mp h135
              refine E.bipush C dX9_lineNow_142 (by decide) ?_
              exact N.iret C hR dX9_lineNow_144 (fun hi hx => by refine ⟨?_, rfl⟩; simp_all [wdF, nm_0 (f := f) (s := v 119 11) he, nm_1 (f := f) (s := v 119 11) he, nm_2 (f := f) (s := v 119 11) he, nm_3 (f := f) (s := v 119 11) he, nm_4 (f := f) (s := v 119 11) he, nm_5 (f := f) (s := v 119 11) he])
            · have h135 := b0n.mp h135
              refine E.iconst C dX9_lineNow_138 (by decide) ?_
              refine E.goto C dX9_lineNow_139 (tgt := 144) (by decide) ?_
              exact N.iret C hR dX9_lineNow_144 (fun hi hx => by refine ⟨?_, rfl⟩; simp_all [wdF, nm_0 (f := f) (s := v 119 11) he, nm_1 (f := f) (s := v 119 11) he, nm_2 (f := f) (s := v 119 11) he, nm_3 (f := f) (s := v 119 11) he, nm_4 (f := f) (s := v 119 11) he, nm_5 (f := f) (s := v 119 11) he])
          · have h115 := b0n.mp h115
            refine E.iconst C dX9_lineNow_118 (by decide) ?_
            refine E.goto C dX9_lineNow_119 (tgt := 144) (by decide) ?_
            exact N.iret C hR dX9_lineNow_144 (fun hi hx => by refine ⟨?_, rfl⟩; simp_all [wdF, nm_0 (f := f) (s := v 119 11) he, nm_1 (f := f) (s := v 119 11) he, nm_2 (f := f) (s := v 119 11) he, nm_3 (f := f) (s := v 119 11) he, nm_4 (f := f) (s := v 119 11) he, nm_5 (f := f) (s := v 119 11) he])
        · have h87 := b0n.mp h87
          refine E.aload_n C dX9_lineNow_90 rfl rfl ?_
          refine E.bipush C dX9_lineNow_91 (by decide) ?_
          refine E.iconst C dX9_lineNow_93 (by decide) ?_
          refine N.callVp (S := []) (As := [vi 100, vi 0]) C hX (ok_X9_ends G f L 100 0 v (by assumption) (by omega)) yf_X9_ends yv_X9_ends ml_X9_117 rfl rfl rfl kd_119 (by decide) (by decide) (Nat.le_of_ble_eq_true rfl) dX9_lineNow_94 rfl ?_
          refine E.if_eq C dX9_lineNow_97 (tgt := 102) (by decide) (fun h97 => ?_) (fun h97 => ?_)
          · have h97 := b0.mp h97
            refine E.aload_n C dX9_lineNow_102 rfl rfl ?_
            refine E.iconst C dX9_lineNow_103 (by decide) ?_
            refine E.bipush C dX9_lineNow_104 (by decide) ?_
            refine E.bipush C dX9_lineNow_106 (by decide) ?_
            refine E.bipush C dX9_lineNow_108 (by decide) ?_
            refine E.bipush C dX9_lineNow_110 (by decide) ?_
            refine N.callVp (S := []) (As := [vi 4, vi 108, vi 105, vi 107, vi 101]) C hX (ok_X9_is G f L 4 108 105 107 101 v (by assumption) (by omega)) yf_X9_is yv_X9_is ml_X9_113 rfl rfl rfl kd_119 (by decide) (by decide) (Nat.le_of_ble_eq_true rfl) dX9_lineNow_112 rfl ?_
            refine E.if_eq C dX9_lineNow_115 (tgt := 122) (by decide) (fun h115 => ?_) (fun h115 => ?_)
            · have h115 := b0.mp h115
              refine E.aload_n C dX9_lineNow_122 rfl rfl ?_
              refine E.iconst C dX9_lineNow_123 (by decide) ?_
              refine E.bipush C dX9_lineNow_124 (by decide) ?_
              refine E.bipush C dX9_lineNow_126 (by decide) ?_
              refine E.bipush C dX9_lineNow_128 (by decide) ?_
              refine E.bipush C dX9_lineNow_130 (by decide) ?_
              refine N.callVp (S := []) (As := [vi 4, vi 109, vi 97, vi 114, vi 107]) C hX (ok_X9_is G f L 4 109 97 114 107 v (by assumption) (by omega)) yf_X9_is yv_X9_is ml_X9_113 rfl rfl rfl kd_119 (by decide) (by decide) (Nat.le_of_ble_eq_true rfl) dX9_lineNow_132 rfl ?_
              refine E.if_eq C dX9_lineNow_135 (tgt := 142) (by decide) (fun h135 => ?_) (fun h135 => ?_)
              · have h135 := b0.mp h135
                refine E.bipush C dX9_lineNow_142 (by decide) ?_
                exact N.iret C hR dX9_lineNow_144 (fun hi hx => by refine ⟨?_, rfl⟩; simp_all [wdF, nm_0 (f := f) (s := v 119 11) he, nm_1 (f := f) (s := v 119 11) he, nm_2 (f := f) (s := v 119 11) he, nm_3 (f := f) (s := v 119 11) he, nm_4 (f := f) (s := v 119 11) he, nm_5 (f := f) (s := v 119 11) he])
              · have h135 := b0n.mp h135
                refine E.iconst C dX9_lineNow_138 (by decide) ?_
                refine E.goto C dX9_lineNow_139 (tgt := 144) (by decide) ?_
                exact N.iret C hR dX9_lineNow_144 (fun hi hx => by refine ⟨?_, rfl⟩; simp_all [wdF, nm_0 (f := f) (s := v 119 11) he, nm_1 (f := f) (s := v 119 11) he, nm_2 (f := f) (s := v 119 11) he, nm_3 (f := f) (s := v 119 11) he, nm_4 (f := f) (s := v 119 11) he, nm_5 (f := f) (s := v 119 11) he])
            · have h115 := b0n.mp h115
              refine E.iconst C dX9_lineNow_118 (by decide) ?_
              refine E.goto C dX9_lineNow_119 (tgt := 144) (by decide) ?_
              exact N.iret C hR dX9_lineNow_144 (fun hi hx => by refine ⟨?_, rfl⟩; simp_all [wdF, nm_0 (f := f) (s := v 119 11) he, nm_1 (f := f) (s := v 119 11) he, nm_2 (f := f) (s := v 119 11) he, nm_3 (f := f) (s := v 119 11) he, nm_4 (f := f) (s := v 119 11) he, nm_5 (f := f) (s := v 119 11) he])
          · have h97 := b0n.mp h97
            refine E.iconst C dX9_lineNow_100 (by decide) ?_
            exact N.iret C hR dX9_lineNow_101 (fun hi hx => by refine ⟨?_, rfl⟩; simp_all [wdF, nm_0 (f := f) (s := v 119 11) he, nm_1 (f := f) (s := v 119 11) he, nm_2 (f := f) (s := v 119 11) he, nm_3 (f := f) (s := v 119 11) he, nm_4 (f := f) (s := v 119 11) he, nm_5 (f := f) (s := v 119 11) he])
      · have h59 := b0n.mp h59
        refine E.aload_n C dX9_lineNow_62 rfl rfl ?_
        refine E.bipush C dX9_lineNow_63 (by decide) ?_
        refine E.iconst C dX9_lineNow_65 (by decide) ?_
        refine N.callVp (S := []) (As := [vi 107, vi 0]) C hX (ok_X9_ends G f L 107 0 v (by assumption) (by omega)) yf_X9_ends yv_X9_ends ml_X9_117 rfl rfl rfl kd_119 (by decide) (by decide) (Nat.le_of_ble_eq_true rfl) dX9_lineNow_66 rfl ?_
        refine E.if_eq C dX9_lineNow_69 (tgt := 74) (by decide) (fun h69 => ?_) (fun h69 => ?_)
        · have h69 := b0.mp h69
          refine E.aload_n C dX9_lineNow_74 rfl rfl ?_
          refine E.iconst C dX9_lineNow_75 (by decide) ?_
          refine E.bipush C dX9_lineNow_76 (by decide) ?_
          refine E.bipush C dX9_lineNow_78 (by decide) ?_
          refine E.bipush C dX9_lineNow_80 (by decide) ?_
          refine E.bipush C dX9_lineNow_82 (by decide) ?_
          refine N.callVp (S := []) (As := [vi 5, vi 99, vi 104, vi 105, vi 108]) C hX (ok_X9_is G f L 5 99 104 105 108 v (by assumption) (by omega)) yf_X9_is yv_X9_is ml_X9_113 rfl rfl rfl kd_119 (by decide) (by decide) (Nat.le_of_ble_eq_true rfl) dX9_lineNow_84 rfl ?_
          refine E.if_eq C dX9_lineNow_87 (tgt := 102) (by decide) (fun h87 => ?_) (fun h87 => ?_)
          · have h87 := b0.mp h87
            refine E.aload_n C dX9_lineNow_102 rfl rfl ?_
            refine E.iconst C dX9_lineNow_103 (by decide) ?_
            refine E.bipush C dX9_lineNow_104 (by decide) ?_
            refine E.bipush C dX9_lineNow_106 (by decide) ?_
            refine E.bipush C dX9_lineNow_108 (by decide) ?_
            refine E.bipush C dX9_lineNow_110 (by decide) ?_
            refine N.callVp (S := []) (As := [vi 4, vi 108, vi 105, vi 107, vi 101]) C hX (ok_X9_is G f L 4 108 105 107 101 v (by assumption) (by omega)) yf_X9_is yv_X9_is ml_X9_113 rfl rfl rfl kd_119 (by decide) (by decide) (Nat.le_of_ble_eq_true rfl) dX9_lineNow_112 rfl ?_
            refine E.if_eq C dX9_lineNow_115 (tgt := 122) (by decide) (fun h115 => ?_) (fun h115 => ?_)
            · have h115 := b0.mp h115
              refine E.aload_n C dX9_lineNow_122 rfl rfl ?_
              refine E.iconst C dX9_lineNow_123 (by decide) ?_
              refine E.bipush C dX9_lineNow_124 (by decide) ?_
              refine E.bipush C dX9_lineNow_126 (by decide) ?_
              refine E.bipush C dX9_lineNow_128 (by decide) ?_
              refine E.bipush C dX9_lineNow_130 (by decide) ?_
              refine N.callVp (S := []) (As := [vi 4, vi 109, vi 97, vi 114, vi 107]) C hX (ok_X9_is G f L 4 109 97 114 107 v (by assumption) (by omega)) yf_X9_is yv_X9_is ml_X9_113 rfl rfl rfl kd_119 (by decide) (by decide) (Nat.le_of_ble_eq_true rfl) dX9_lineNow_132 rfl ?_
              refine E.if_eq C dX9_lineNow_135 (tgt := 142) (by decide) (fun h135 => ?_) (fun h135 => ?_)
              · have h135 := b0.mp h135
                refine E.bipush C dX9_lineNow_142 (by decide) ?_
                exact N.iret C hR dX9_lineNow_144 (fun hi hx => by refine ⟨?_, rfl⟩; simp_all [wdF, nm_0 (f := f) (s := v 119 11) he, nm_1 (f := f) (s := v 119 11) he, nm_2 (f := f) (s := v 119 11) he, nm_3 (f := f) (s := v 119 11) he, nm_4 (f := f) (s := v 119 11) he, nm_5 (f := f) (s := v 119 11) he])
              · have h135 := b0n.mp h135
                refine E.iconst C dX9_lineNow_138 (by decide) ?_
                refine E.goto C dX9_lineNow_139 (tgt := 144) (by decide) ?_
                exact N.iret C hR dX9_lineNow_144 (fun hi hx => by refine ⟨?_, rfl⟩; simp_all [wdF, nm_0 (f := f) (s := v 119 11) he, nm_1 (f := f) (s := v 119 11) he, nm_2 (f := f) (s := v 119 11) he, nm_3 (f := f) (s := v 119 11) he, nm_4 (f := f) (s := v 119 11) he, nm_5 (f := f) (s := v 119 11) he])
            · have h115 := b0n.mp h115
              refine E.iconst C dX9_lineNow_118 (by decide) ?_
              refine E.goto C dX9_lineNow_119 (tgt := 144) (by decide) ?_
              exact N.iret C hR dX9_lineNow_144 (fun hi hx => by refine ⟨?_, rfl⟩; simp_all [wdF, nm_0 (f := f) (s := v 119 11) he, nm_1 (f := f) (s := v 119 11) he, nm_2 (f := f) (s := v 119 11) he, nm_3 (f := f) (s := v 119 11) he, nm_4 (f := f) (s := v 119 11) he, nm_5 (f := f) (s := v 119 11) he])
          · have h87 := b0n.mp h87
            refine E.aload_n C dX9_lineNow_90 rfl rfl ?_
            refine E.bipush C dX9_lineNow_91 (by decide) ?_
            refine E.iconst C dX9_lineNow_93 (by decide) ?_
            refine N.callVp (S := []) (As := [vi 100, vi 0]) C hX (ok_X9_ends G f L 100 0 v (by assumption) (by omega)) yf_X9_ends yv_X9_ends ml_X9_117 rfl rfl rfl kd_119 (by decide) (by decide) (Nat.le_of_ble_eq_true rfl) dX9_lineNow_94 rfl ?_
            refine E.if_eq C dX9_lineNow_97 (tgt := 102) (by decide) (fun h97 => ?_) (fun h97 => ?_)
            · have h97 := b0.mp h97
              refine E.aload_n C dX9_lineNow_102 rfl rfl ?_
              refine E.iconst C dX9_lineNow_103 (by decide) ?_
              refine E.bipush C dX9_lineNow_104 (by decide) ?_
              refine E.bipush C dX9_lineNow_106 (by decide) ?_
              refine E.bipush C dX9_lineNow_108 (by decide) ?_
              refine E.bipush C dX9_lineNow_110 (by decide) ?_
              refine N.callVp (S := []) (As := [vi 4, vi 108, vi 105, vi 107, vi 101]) C hX (ok_X9_is G f L 4 108 105 107 101 v (by assumption) (by omega)) yf_X9_is yv_X9_is ml_X9_113 rfl rfl rfl kd_119 (by decide) (by decide) (Nat.le_of_ble_eq_true rfl) dX9_lineNow_112 rfl ?_
              refine E.if_eq C dX9_lineNow_115 (tgt := 122) (by decide) (fun h115 => ?_) (fun h115 => ?_)
              · have h115 := b0.mp h115
                refine E.aload_n C dX9_lineNow_122 rfl rfl ?_
                refine E.iconst C dX9_lineNow_123 (by decide) ?_
                refine E.bipush C dX9_lineNow_124 (by decide) ?_
                refine E.bipush C dX9_lineNow_126 (by decide) ?_
                refine E.bipush C dX9_lineNow_128 (by decide) ?_
                refine E.bipush C dX9_lineNow_130 (by decide) ?_
                refine N.callVp (S := []) (As := [vi 4, vi 109, vi 97, vi 114, vi 107]) C hX (ok_X9_is G f L 4 109 97 114 107 v (by assumption) (by omega)) yf_X9_is yv_X9_is ml_X9_113 rfl rfl rfl kd_119 (by decide) (by decide) (Nat.le_of_ble_eq_true rfl) dX9_lineNow_132 rfl ?_
                refine E.if_eq C dX9_lineNow_135 (tgt := 142) (by decide) (fun h135 => ?_) (fun h135 => ?_)
                · have h135 := b0.mp h135
                  refine E.bipush C dX9_lineNow_142 (by decide) ?_
                  exact N.iret C hR dX9_lineNow_144 (fun hi hx => by refine ⟨?_, rfl⟩; simp_all [wdF, nm_0 (f := f) (s := v 119 11) he, nm_1 (f := f) (s := v 119 11) he, nm_2 (f := f) (s := v 119 11) he, nm_3 (f := f) (s := v 119 11) he, nm_4 (f := f) (s := v 119 11) he, nm_5 (f := f) (s := v 119 11) he])
                · have h135 := b0n.mp h135
                  refine E.iconst C dX9_lineNow_138 (by decide) ?_
                  refine E.goto C dX9_lineNow_139 (tgt := 144) (by decide) ?_
                  exact N.iret C hR dX9_lineNow_144 (fun hi hx => by refine ⟨?_, rfl⟩; simp_all [wdF, nm_0 (f := f) (s := v 119 11) he, nm_1 (f := f) (s := v 119 11) he, nm_2 (f := f) (s := v 119 11) he, nm_3 (f := f) (s := v 119 11) he, nm_4 (f := f) (s := v 119 11) he, nm_5 (f := f) (s := v 119 11) he])
              · have h115 := b0n.mp h115
                refine E.iconst C dX9_lineNow_118 (by decide) ?_
                refine E.goto C dX9_lineNow_119 (tgt := 144) (by decide) ?_
                exact N.iret C hR dX9_lineNow_144 (fun hi hx => by refine ⟨?_, rfl⟩; simp_all [wdF, nm_0 (f := f) (s := v 119 11) he, nm_1 (f := f) (s := v 119 11) he, nm_2 (f := f) (s := v 119 11) he, nm_3 (f := f) (s := v 119 11) he, nm_4 (f := f) (s := v 119 11) he, nm_5 (f := f) (s := v 119 11) he])
            · have h97 := b0n.mp h97
              refine E.iconst C dX9_lineNow_100 (by decide) ?_
              exact N.iret C hR dX9_lineNow_101 (fun hi hx => by refine ⟨?_, rfl⟩; simp_all [wdF, nm_0 (f := f) (s := v 119 11) he, nm_1 (f := f) (s := v 119 11) he, nm_2 (f := f) (s := v 119 11) he, nm_3 (f := f) (s := v 119 11) he, nm_4 (f := f) (s := v 119 11) he, nm_5 (f := f) (s := v 119 11) he])
        · have h69 := b0n.mp h69
          refine E.iconst C dX9_lineNow_72 (by decide) ?_
          exact N.iret C hR dX9_lineNow_73 (fun hi hx => by refine ⟨?_, rfl⟩; simp_all [wdF, nm_0 (f := f) (s := v 119 11) he, nm_1 (f := f) (s := v 119 11) he, nm_2 (f := f) (s := v 119 11) he, nm_3 (f := f) (s := v 119 11) he, nm_4 (f := f) (s := v 119 11) he, nm_5 (f := f) (s := v 119 11) he])
    · have h31 := b0n.mp h31
      refine E.aload_n C dX9_lineNow_34 rfl rfl ?_
      refine E.bipush C dX9_lineNow_35 (by decide) ?_
      refine E.iconst C dX9_lineNow_37 (by decide) ?_
      refine N.callVp (S := []) (As := [vi 115, vi 0]) C hX (ok_X9_ends G f L 115 0 v (by assumption) (by omega)) yf_X9_ends yv_X9_ends ml_X9_117 rfl rfl rfl kd_119 (by decide) (by decide) (Nat.le_of_ble_eq_true rfl) dX9_lineNow_38 rfl ?_
      refine E.if_eq C dX9_lineNow_41 (tgt := 46) (by decide) (fun h41 => ?_) (fun h41 => ?_)
      · have h41 := b0.mp h41
        refine E.aload_n C dX9_lineNow_46 rfl rfl ?_
        refine E.iconst C dX9_lineNow_47 (by decide) ?_
        refine E.bipush C dX9_lineNow_48 (by decide) ?_
        refine E.bipush C dX9_lineNow_50 (by decide) ?_
        refine E.bipush C dX9_lineNow_52 (by decide) ?_
        refine E.bipush C dX9_lineNow_54 (by decide) ?_
        refine N.callVp (S := []) (As := [vi 5, vi 115, vi 108, vi 97, vi 99]) C hX (ok_X9_is G f L 5 115 108 97 99 v (by assumption) (by omega)) yf_X9_is yv_X9_is ml_X9_113 rfl rfl rfl kd_119 (by decide) (by decide) (Nat.le_of_ble_eq_true rfl) dX9_lineNow_56 rfl ?_
        refine E.if_eq C dX9_lineNow_59 (tgt := 74) (by decide) (fun h59 => ?_) (fun h59 => ?_)
        · have h59 := b0.mp h59
          refine E.aload_n C dX9_lineNow_74 rfl rfl ?_
          refine E.iconst C dX9_lineNow_75 (by decide) ?_
          refine E.bipush C dX9_lineNow_76 (by decide) ?_
          refine E.bipush C dX9_lineNow_78 (by decide) ?_
          refine E.bipush C dX9_lineNow_80 (by decide) ?_
          refine E.bipush C dX9_lineNow_82 (by decide) ?_
          refine N.callVp (S := []) (As := [vi 5, vi 99, vi 104, vi 105, vi 108]) C hX (ok_X9_is G f L 5 99 104 105 108 v (by assumption) (by omega)) yf_X9_is yv_X9_is ml_X9_113 rfl rfl rfl kd_119 (by decide) (by decide) (Nat.le_of_ble_eq_true rfl) dX9_lineNow_84 rfl ?_
          refine E.if_eq C dX9_lineNow_87 (tgt := 102) (by decide) (fun h87 => ?_) (fun h87 => ?_)
          · have h87 := b0.mp h87
            refine E.aload_n C dX9_lineNow_102 rfl rfl ?_
            refine E.iconst C dX9_lineNow_103 (by decide) ?_
            refine E.bipush C dX9_lineNow_104 (by decide) ?_
            refine E.bipush C dX9_lineNow_106 (by decide) ?_
            refine E.bipush C dX9_lineNow_108 (by decide) ?_
            refine E.bipush C dX9_lineNow_110 (by decide) ?_
            refine N.callVp (S := []) (As := [vi 4, vi 108, vi 105, vi 107, vi 101]) C hX (ok_X9_is G f L 4 108 105 107 101 v (by assumption) (by omega)) yf_X9_is yv_X9_is ml_X9_113 rfl rfl rfl kd_119 (by decide) (by decide) (Nat.le_of_ble_eq_true rfl) dX9_lineNow_112 rfl ?_
            refine E.if_eq C dX9_lineNow_115 (tgt := 122) (by decide) (fun h115 => ?_) (fun h115 => ?_)
            · have h115 := b0.mp h115
              refine E.aload_n C dX9_lineNow_122 rfl rfl ?_
              refine E.iconst C dX9_lineNow_123 (by decide) ?_
              refine E.bipush C dX9_lineNow_124 (by decide) ?_
              refine E.bipush C dX9_lineNow_126 (by decide) ?_
              refine E.bipush C dX9_lineNow_128 (by decide) ?_
              refine E.bipush C dX9_lineNow_130 (by decide) ?_
              refine N.callVp (S := []) (As := [vi 4, vi 109, vi 97, vi 114, vi 107]) C hX (ok_X9_is G f L 4 109 97 114 107 v (by assumption) (by omega)) yf_X9_is yv_X9_is ml_X9_113 rfl rfl rfl kd_119 (by decide) (by decide) (Nat.le_of_ble_eq_true rfl) dX9_lineNow_132 rfl ?_
              refine E.if_eq C dX9_lineNow_135 (tgt := 142) (by decide) (fun h135 => ?_) (fun h135 => ?_)
              · have h135 := b0.mp h135
                refine E.bipush C dX9_lineNow_142 (by decide) ?_
                exact N.iret C hR dX9_lineNow_144 (fun hi hx => by refine ⟨?_, rfl⟩; simp_all [wdF, nm_0 (f := f) (s := v 119 11) he, nm_1 (f := f) (s := v 119 11) he, nm_2 (f := f) (s := v 119 11) he, nm_3 (f := f) (s := v 119 11) he, nm_4 (f := f) (s := v 119 11) he, nm_5 (f := f) (s := v 119 11) he])
              · have h135 := b0n.mp h135
                refine E.iconst C dX9_lineNow_138 (by decide) ?_
                refine E.goto C dX9_lineNow_139 (tgt := 144) (by decide) ?_
                exact N.iret C hR dX9_lineNow_144 (fun hi hx => by refine ⟨?_, rfl⟩; simp_all [wdF, nm_0 (f := f) (s := v 119 11) he, nm_1 (f := f) (s := v 119 11) he, nm_2 (f := f) (s := v 119 11) he, nm_3 (f := f) (s := v 119 11) he, nm_4 (f := f) (s := v 119 11) he, nm_5 (f := f) (s := v 119 11) he])
            · have h115 := b0n.mp h115
              refine E.iconst C dX9_lineNow_118 (by decide) ?_
              refine E.goto C dX9_lineNow_119 (tgt := 144) (by decide) ?_
              exact N.iret C hR dX9_lineNow_144 (fun hi hx => by refine ⟨?_, rfl⟩; simp_all [wdF, nm_0 (f := f) (s := v 119 11) he, nm_1 (f := f) (s := v 119 11) he, nm_2 (f := f) (s := v 119 11) he, nm_3 (f := f) (s := v 119 11) he, nm_4 (f := f) (s := v 119 11) he, nm_5 (f := f) (s := v 119 11) he])
          · have h87 := b0n.mp h87
            refine E.aload_n C dX9_lineNow_90 rfl rfl ?_
            refine E.bipush C dX9_lineNow_91 (by decide) ?_
            refine E.iconst C dX9_lineNow_93 (by decide) ?_
            refine N.callVp (S := []) (As := [vi 100, vi 0]) C hX (ok_X9_ends G f L 100 0 v (by assumption) (by omega)) yf_X9_ends yv_X9_ends ml_X9_117 rfl rfl rfl kd_119 (by decide) (by decide) (Nat.le_of_ble_eq_true rfl) dX9_lineNow_94 rfl ?_
            refine E.if_eq C dX9_lineNow_97 (tgt := 102) (by decide) (fun h97 => ?_) (fun h97 => ?_)
            · have h97 := b0.mp h97
              refine E.aload_n C dX9_lineNow_102 rfl rfl ?_
              refine E.iconst C dX9_lineNow_103 (by decide) ?_
              refine E.bipush C dX9_lineNow_104 (by decide) ?_
              refine E.bipush C dX9_lineNow_106 (by decide) ?_
              refine E.bipush C dX9_lineNow_108 (by decide) ?_
              refine E.bipush C dX9_lineNow_110 (by decide) ?_
              refine N.callVp (S := []) (As := [vi 4, vi 108, vi 105, vi 107, vi 101]) C hX (ok_X9_is G f L 4 108 105 107 101 v (by assumption) (by omega)) yf_X9_is yv_X9_is ml_X9_113 rfl rfl rfl kd_119 (by decide) (by decide) (Nat.le_of_ble_eq_true rfl) dX9_lineNow_112 rfl ?_
              refine E.if_eq C dX9_lineNow_115 (tgt := 122) (by decide) (fun h115 => ?_) (fun h115 => ?_)
              · have h115 := b0.mp h115
                refine E.aload_n C dX9_lineNow_122 rfl rfl ?_
                refine E.iconst C dX9_lineNow_123 (by decide) ?_
                refine E.bipush C dX9_lineNow_124 (by decide) ?_
                refine E.bipush C dX9_lineNow_126 (by decide) ?_
                refine E.bipush C dX9_lineNow_128 (by decide) ?_
                refine E.bipush C dX9_lineNow_130 (by decide) ?_
                refine N.callVp (S := []) (As := [vi 4, vi 109, vi 97, vi 114, vi 107]) C hX (ok_X9_is G f L 4 109 97 114 107 v (by assumption) (by omega)) yf_X9_is yv_X9_is ml_X9_113 rfl rfl rfl kd_119 (by decide) (by decide) (Nat.le_of_ble_eq_true rfl) dX9_lineNow_132 rfl ?_
                refine E.if_eq C dX9_lineNow_135 (tgt := 142) (by decide) (fun h135 => ?_) (fun h135 => ?_)
                · have h135 := b0.mp h135
                  refine E.bipush C dX9_lineNow_142 (by decide) ?_
                  exact N.iret C hR dX9_lineNow_144 (fun hi hx => by refine ⟨?_, rfl⟩; simp_all [wdF, nm_0 (f := f) (s := v 119 11) he, nm_1 (f := f) (s := v 119 11) he, nm_2 (f := f) (s := v 119 11) he, nm_3 (f := f) (s := v 119 11) he, nm_4 (f := f) (s := v 119 11) he, nm_5 (f := f) (s := v 119 11) he])
                · have h135 := b0n.mp h135
                  refine E.iconst C dX9_lineNow_138 (by decide) ?_
                  refine E.goto C dX9_lineNow_139 (tgt := 144) (by decide) ?_
                  exact N.iret C hR dX9_lineNow_144 (fun hi hx => by refine ⟨?_, rfl⟩; simp_all [wdF, nm_0 (f := f) (s := v 119 11) he, nm_1 (f := f) (s := v 119 11) he, nm_2 (f := f) (s := v 119 11) he, nm_3 (f := f) (s := v 119 11) he, nm_4 (f := f) (s := v 119 11) he, nm_5 (f := f) (s := v 119 11) he])
              · have h115 := b0n.mp h115
                refine E.iconst C dX9_lineNow_118 (by decide) ?_
                refine E.goto C dX9_lineNow_119 (tgt := 144) (by decide) ?_
                exact N.iret C hR dX9_lineNow_144 (fun hi hx => by refine ⟨?_, rfl⟩; simp_all [wdF, nm_0 (f := f) (s := v 119 11) he, nm_1 (f := f) (s := v 119 11) he, nm_2 (f := f) (s := v 119 11) he, nm_3 (f := f) (s := v 119 11) he, nm_4 (f := f) (s := v 119 11) he, nm_5 (f := f) (s := v 119 11) he])
            · have h97 := b0n.mp h97
              refine E.iconst C dX9_lineNow_100 (by decide) ?_
              exact N.iret C hR dX9_lineNow_101 (fun hi hx => by refine ⟨?_, rfl⟩; simp_all [wdF, nm_0 (f := f) (s := v 119 11) he, nm_1 (f := f) (s := v 119 11) he, nm_2 (f := f) (s := v 119 11) he, nm_3 (f := f) (s := v 119 11) he, nm_4 (f := f) (s := v 119 11) he, nm_5 (f := f) (s := v 119 11) he])
        · have h59 := b0n.mp h59
          refine E.aload_n C dX9_lineNow_62 rfl rfl ?_
          refine E.bipush C dX9_lineNow_63 (by decide) ?_
          refine E.iconst C dX9_lineNow_65 (by decide) ?_
          refine N.callVp (S := []) (As := [vi 107, vi 0]) C hX (ok_X9_ends G f L 107 0 v (by assumption) (by omega)) yf_X9_ends yv_X9_ends ml_X9_117 rfl rfl rfl kd_119 (by decide) (by decide) (Nat.le_of_ble_eq_true rfl) dX9_lineNow_66 rfl ?_
          refine E.if_eq C dX9_lineNow_69 (tgt := 74) (by decide) (fun h69 => ?_) (fun h69 => ?_)
          · have h69 := b0.mp h69
            refine E.aload_n C dX9_lineNow_74 rfl rfl ?_
            refine E.iconst C dX9_lineNow_75 (by decide) ?_
            refine E.bipush C dX9_lineNow_76 (by decide) ?_
            refine E.bipush C dX9_lineNow_78 (by decide) ?_
            refine E.bipush C dX9_lineNow_80 (by decide) ?_
            refine E.bipush C dX9_lineNow_82 (by decide) ?_
            refine N.callVp (S := []) (As := [vi 5, vi 99, vi 104, vi 105, vi 108]) C hX (ok_X9_is G f L 5 99 104 105 108 v (by assumption) (by omega)) yf_X9_is yv_X9_is ml_X9_113 rfl rfl rfl kd_119 (by decide) (by decide) (Nat.le_of_ble_eq_true rfl) dX9_lineNow_84 rfl ?_
            refine E.if_eq C dX9_lineNow_87 (tgt := 102) (by decide) (fun h87 => ?_) (fun h87 => ?_)
            · have h87 := b0.mp h87
              refine E.aload_n C dX9_lineNow_102 rfl rfl ?_
              refine E.iconst C dX9_lineNow_103 (by decide) ?_
              refine E.bipush C dX9_lineNow_104 (by decide) ?_
              refine E.bipush C dX9_lineNow_106 (by decide) ?_
              refine E.bipush C dX9_lineNow_108 (by decide) ?_
              refine E.bipush C dX9_lineNow_110 (by decide) ?_
              refine N.callVp (S := []) (As := [vi 4, vi 108, vi 105, vi 107, vi 101]) C hX (ok_X9_is G f L 4 108 105 107 101 v (by assumption) (by omega)) yf_X9_is yv_X9_is ml_X9_113 rfl rfl rfl kd_119 (by decide) (by decide) (Nat.le_of_ble_eq_true rfl) dX9_lineNow_112 rfl ?_
              refine E.if_eq C dX9_lineNow_115 (tgt := 122) (by decide) (fun h115 => ?_) (fun h115 => ?_)
              · have h115 := b0.mp h115
                refine E.aload_n C dX9_lineNow_122 rfl rfl ?_
                refine E.iconst C dX9_lineNow_123 (by decide) ?_
                refine E.bipush C dX9_lineNow_124 (by decide) ?_
                refine E.bipush C dX9_lineNow_126 (by decide) ?_
                refine E.bipush C dX9_lineNow_128 (by decide) ?_
                refine E.bipush C dX9_lineNow_130 (by decide) ?_
                refine N.callVp (S := []) (As := [vi 4, vi 109, vi 97, vi 114, vi 107]) C hX (ok_X9_is G f L 4 109 97 114 107 v (by assumption) (by omega)) yf_X9_is yv_X9_is ml_X9_113 rfl rfl rfl kd_119 (by decide) (by decide) (Nat.le_of_ble_eq_true rfl) dX9_lineNow_132 rfl ?_
                refine E.if_eq C dX9_lineNow_135 (tgt := 142) (by decide) (fun h135 => ?_) (fun h135 => ?_)
                · have h135 := b0.mp h135
                  refine E.bipush C dX9_lineNow_142 (by decide) ?_
                  exact N.iret C hR dX9_lineNow_144 (fun hi hx => by refine ⟨?_, rfl⟩; simp_all [wdF, nm_0 (f := f) (s := v 119 11) he, nm_1 (f := f) (s := v 119 11) he, nm_2 (f := f) (s := v 119 11) he, nm_3 (f := f) (s := v 119 11) he, nm_4 (f := f) (s := v 119 11) he, nm_5 (f := f) (s := v 119 11) he])
                · have h135 := b0n.mp h135
                  refine E.iconst C dX9_lineNow_138 (by decide) ?_
                  refine E.goto C dX9_lineNow_139 (tgt := 144) (by decide) ?_
                  exact N.iret C hR dX9_lineNow_144 (fun hi hx => by refine ⟨?_, rfl⟩; simp_all [wdF, nm_0 (f := f) (s := v 119 11) he, nm_1 (f := f) (s := v 119 11) he, nm_2 (f := f) (s := v 119 11) he, nm_3 (f := f) (s := v 119 11) he, nm_4 (f := f) (s := v 119 11) he, nm_5 (f := f) (s := v 119 11) he])
              · have h115 := b0n.mp h115
                refine E.iconst C dX9_lineNow_118 (by decide) ?_
                refine E.goto C dX9_lineNow_119 (tgt := 144) (by decide) ?_
                exact N.iret C hR dX9_lineNow_144 (fun hi hx => by refine ⟨?_, rfl⟩; simp_all [wdF, nm_0 (f := f) (s := v 119 11) he, nm_1 (f := f) (s := v 119 11) he, nm_2 (f := f) (s := v 119 11) he, nm_3 (f := f) (s := v 119 11) he, nm_4 (f := f) (s := v 119 11) he, nm_5 (f := f) (s := v 119 11) he])
            · have h87 := b0n.mp h87
              refine E.aload_n C dX9_lineNow_90 rfl rfl ?_
              refine E.bipush C dX9_lineNow_91 (by decide) ?_
              refine E.iconst C dX9_lineNow_93 (by decide) ?_
              refine N.callVp (S := []) (As := [vi 100, vi 0]) C hX (ok_X9_ends G f L 100 0 v (by assumption) (by omega)) yf_X9_ends yv_X9_ends ml_X9_117 rfl rfl rfl kd_119 (by decide) (by decide) (Nat.le_of_ble_eq_true rfl) dX9_lineNow_94 rfl ?_
              refine E.if_eq C dX9_lineNow_97 (tgt := 102) (by decide) (fun h97 => ?_) (fun h97 => ?_)
              · have h97 := b0.mp h97
                refine E.aload_n C dX9_lineNow_102 rfl rfl ?_
                refine E.iconst C dX9_lineNow_103 (by decide) ?_
                refine E.bipush C dX9_lineNow_104 (by decide) ?_
                refine E.bipush C dX9_lineNow_106 (by decide) ?_
                refine E.bipush C dX9_lineNow_108 (by decide) ?_
                refine E.bipush C dX9_lineNow_110 (by decide) ?_
                refine N.callVp (S := []) (As := [vi 4, vi 108, vi 105, vi 107, vi 101]) C hX (ok_X9_is G f L 4 108 105 107 101 v (by assumption) (by omega)) yf_X9_is yv_X9_is ml_X9_113 rfl rfl rfl kd_119 (by decide) (by decide) (Nat.le_of_ble_eq_true rfl) dX9_lineNow_112 rfl ?_
                refine E.if_eq C dX9_lineNow_115 (tgt := 122) (by decide) (fun h115 => ?_) (fun h115 => ?_)
                · have h115 := b0.mp h115
                  refine E.aload_n C dX9_lineNow_122 rfl rfl ?_
                  refine E.iconst C dX9_lineNow_123 (by decide) ?_
                  refine E.bipush C dX9_lineNow_124 (by decide) ?_
                  refine E.bipush C dX9_lineNow_126 (by decide) ?_
                  refine E.bipush C dX9_lineNow_128 (by decide) ?_
                  refine E.bipush C dX9_lineNow_130 (by decide) ?_
                  refine N.callVp (S := []) (As := [vi 4, vi 109, vi 97, vi 114, vi 107]) C hX (ok_X9_is G f L 4 109 97 114 107 v (by assumption) (by omega)) yf_X9_is yv_X9_is ml_X9_113 rfl rfl rfl kd_119 (by decide) (by decide) (Nat.le_of_ble_eq_true rfl) dX9_lineNow_132 rfl ?_
                  refine E.if_eq C dX9_lineNow_135 (tgt := 142) (by decide) (fun h135 => ?_) (fun h135 => ?_)
                  · have h135 := b0.mp h135
                    refine E.bipush C dX9_lineNow_142 (by decide) ?_
                    exact N.iret C hR dX9_lineNow_144 (fun hi hx => by refine ⟨?_, rfl⟩; simp_all [wdF, nm_0 (f := f) (s := v 119 11) he, nm_1 (f := f) (s := v 119 11) he, nm_2 (f := f) (s := v 119 11) he, nm_3 (f := f) (s := v 119 11) he, nm_4 (f := f) (s := v 119 11) he, nm_5 (f := f) (s := v 119 11) he])
                  · have h135 := b0n.mp h135
                    refine E.iconst C dX9_lineNow_138 (by decide) ?_
                    refine E.goto C dX9_lineNow_139 (tgt := 144) (by decide) ?_
                    exact N.iret C hR dX9_lineNow_144 (fun hi hx => by refine ⟨?_, rfl⟩; simp_all [wdF, nm_0 (f := f) (s := v 119 11) he, nm_1 (f := f) (s := v 119 11) he, nm_2 (f := f) (s := v 119 11) he, nm_3 (f := f) (s := v 119 11) he, nm_4 (f := f) (s := v 119 11) he, nm_5 (f := f) (s := v 119 11) he])
                · have h115 := b0n.mp h115
                  refine E.iconst C dX9_lineNow_118 (by decide) ?_
                  refine E.goto C dX9_lineNow_119 (tgt := 144) (by decide) ?_
                  exact N.iret C hR dX9_lineNow_144 (fun hi hx => by refine ⟨?_, rfl⟩; simp_all [wdF, nm_0 (f := f) (s := v 119 11) he, nm_1 (f := f) (s := v 119 11) he, nm_2 (f := f) (s := v 119 11) he, nm_3 (f := f) (s := v 119 11) he, nm_4 (f := f) (s := v 119 11) he, nm_5 (f := f) (s := v 119 11) he])
              · have h97 := b0n.mp h97
                refine E.iconst C dX9_lineNow_100 (by decide) ?_
                exact N.iret C hR dX9_lineNow_101 (fun hi hx => by refine ⟨?_, rfl⟩; simp_all [wdF, nm_0 (f := f) (s := v 119 11) he, nm_1 (f := f) (s := v 119 11) he, nm_2 (f := f) (s := v 119 11) he, nm_3 (f := f) (s := v 119 11) he, nm_4 (f := f) (s := v 119 11) he, nm_5 (f := f) (s := v 119 11) he])
          · have h69 := b0n.mp h69
            refine E.iconst C dX9_lineNow_72 (by decide) ?_
            exact N.iret C hR dX9_lineNow_73 (fun hi hx => by refine ⟨?_, rfl⟩; simp_all [wdF, nm_0 (f := f) (s := v 119 11) he, nm_1 (f := f) (s := v 119 11) he, nm_2 (f := f) (s := v 119 11) he, nm_3 (f := f) (s := v 119 11) he, nm_4 (f := f) (s := v 119 11) he, nm_5 (f := f) (s := v 119 11) he])
      · have h41 := b0n.mp h41
        refine E.iconst C dX9_lineNow_44 (by decide) ?_
        exact N.iret C hR dX9_lineNow_45 (fun hi hx => by refine ⟨?_, rfl⟩; simp_all [wdF, nm_0 (f := f) (s := v 119 11) he, nm_1 (f := f) (s := v 119 11) he, nm_2 (f := f) (s := v 119 11) he, nm_3 (f := f) (s := v 119 11) he, nm_4 (f := f) (s := v 119 11) he, nm_5 (f := f) (s := v 119 11) he])
  · have h13 := b0n.mp h13
    refine E.iconst C dX9_lineNow_16 (by decide) ?_
    exact N.iret C hR dX9_lineNow_17 (fun hi hx => by refine ⟨?_, rfl⟩; simp_all [wdF, nm_0 (f := f) (s := v 119 11) he, nm_1 (f := f) (s := v 119 11) he, nm_2 (f := f) (s := v 119 11) he, nm_3 (f := f) (s := v 119 11) he, nm_4 (f := f) (s := v 119 11) he, nm_5 (f := f) (s := v 119 11) he])

set_option maxHeartbeats 4000000 in
set_option maxRecDepth 20000 in
theorem ok_X9_kindNow (G : GT) (f : Int → Int) (L : Int) (v : VT) (hT : TapM f L v) (hse : 0 ≤ v 119 11 ∧ v 119 11 ≤ v 119 10 ∧ v 119 10 ≤ L) : MP G yX9_kindNow cX9_kindNow 1 (some .int) 2 46 [vr 119] v (kdF f (v 119 11) (v 119 10)) := by
  refine MN.of pn_X9_kindNow [some (vr 119)] 0 rfl rfl (fun X C hX hn hR => ?_)
  have hN : ∀ i : Nat, i < 1 → i < xn X := fun i h => by rw [hn]; exact h
  refine E.rngk (fun hinv => ?_)
  refine E.loc (fun hloc => ?_)
  have hTL := hT.2.1
  have he := hse.2.2
  refine E.aload_n C dX9_kindNow_0 rfl rfl ?_
  refine E.iconst C dX9_kindNow_1 (by decide) ?_
  refine E.bipush C dX9_kindNow_2 (by decide) ?_
  refine E.bipush C dX9_kindNow_4 (by decide) ?_
  refine E.bipush C dX9_kindNow_6 (by decide) ?_
  refine E.bipush C dX9_kindNow_8 (by decide) ?_
  refine N.callVp (S := []) (As := [vi 5, vi 112, vi 108, vi 97, vi 105]) C hX (ok_X9_is G f L 5 112 108 97 105 v (by assumption) (by omega)) yf_X9_is yv_X9_is ml_X9_113 rfl rfl rfl kd_119 (by decide) (by decide) (Nat.le_of_ble_eq_true rfl) dX9_kindNow_10 rfl ?_
  refine E.if_eq C dX9_kindNow_13 (tgt := 28) (by decide) (fun h13 => ?_) (fun h13 => ?_)
  · have h13 := b0.mp h13
    refine E.aload_n C dX9_kindNow_28 rfl rfl ?_
    refine E.bipush C dX9_kindNow_29 (by decide) ?_
    refine E.bipush C dX9_kindNow_31 (by decide) ?_
    refine E.bipush C dX9_kindNow_33 (by decide) ?_
    refine E.bipush C dX9_kindNow_35 (by decide) ?_
    refine E.bipush C dX9_kindNow_37 (by decide) ?_
    refine N.callVp (S := []) (As := [vi 6, vi 116, vi 117, vi 114, vi 110]) C hX (ok_X9_is G f L 6 116 117 114 110 v (by assumption) (by omega)) yf_X9_is yv_X9_is ml_X9_113 rfl rfl rfl kd_119 (by decide) (by decide) (Nat.le_of_ble_eq_true rfl) dX9_kindNow_39 rfl ?_
    refine E.if_eq C dX9_kindNow_42 (tgt := 58) (by decide) (fun h42 => ?_) (fun h42 => ?_)
    · have h42 := b0.mp h42
      refine E.aload_n C dX9_kindNow_58 rfl rfl ?_
      refine E.iconst C dX9_kindNow_59 (by decide) ?_
      refine E.bipush C dX9_kindNow_60 (by decide) ?_
      refine E.bipush C dX9_kindNow_62 (by decide) ?_
      refine E.bipush C dX9_kindNow_64 (by decide) ?_
      refine E.iconst C dX9_kindNow_66 (by decide) ?_
      refine N.callVp (S := []) (As := [vi 3, vi 108, vi 101, vi 116, vi 0]) C hX (ok_X9_is G f L 3 108 101 116 0 v (by assumption) (by omega)) yf_X9_is yv_X9_is ml_X9_113 rfl rfl rfl kd_119 (by decide) (by decide) (Nat.le_of_ble_eq_true rfl) dX9_kindNow_67 rfl ?_
      refine E.if_eq C dX9_kindNow_70 (tgt := 75) (by decide) (fun h70 => ?_) (fun h70 => ?_)
      · have h70 := b0.mp h70
        refine E.aload_n C dX9_kindNow_75 rfl rfl ?_
        refine E.iconst C dX9_kindNow_76 (by decide) ?_
        refine E.bipush C dX9_kindNow_77 (by decide) ?_
        refine E.bipush C dX9_kindNow_79 (by decide) ?_
        refine E.bipush C dX9_kindNow_81 (by decide) ?_
        refine E.bipush C dX9_kindNow_83 (by decide) ?_
        refine N.callVp (S := []) (As := [vi 4, vi 98, vi 111, vi 116, vi 104]) C hX (ok_X9_is G f L 4 98 111 116 104 v (by assumption) (by omega)) yf_X9_is yv_X9_is ml_X9_113 rfl rfl rfl kd_119 (by decide) (by decide) (Nat.le_of_ble_eq_true rfl) dX9_kindNow_85 rfl ?_
        refine E.if_eq C dX9_kindNow_88 (tgt := 95) (by decide) (fun h88 => ?_) (fun h88 => ?_)
        · have h88 := b0.mp h88
          refine E.aload_n C dX9_kindNow_95 rfl rfl ?_
          refine E.iconst C dX9_kindNow_96 (by decide) ?_
          refine E.bipush C dX9_kindNow_97 (by decide) ?_
          refine E.bipush C dX9_kindNow_99 (by decide) ?_
          refine E.bipush C dX9_kindNow_101 (by decide) ?_
          refine E.bipush C dX9_kindNow_103 (by decide) ?_
          refine N.callVp (S := []) (As := [vi 4, vi 107, vi 101, vi 112, vi 116]) C hX (ok_X9_is G f L 4 107 101 112 116 v (by assumption) (by omega)) yf_X9_is yv_X9_is ml_X9_113 rfl rfl rfl kd_119 (by decide) (by decide) (Nat.le_of_ble_eq_true rfl) dX9_kindNow_105 rfl ?_
          refine E.if_eq C dX9_kindNow_108 (tgt := 115) (by decide) (fun h108 => ?_) (fun h108 => ?_)
          · have h108 := b0.mp h108
            refine E.bipush C dX9_kindNow_115 (by decide) ?_
            exact N.iret C hR dX9_kindNow_117 (fun hi hx => by refine ⟨?_, rfl⟩; simp_all [kdF, nm_6 (f := f) (s := v 119 11) he, nm_7 (f := f) (s := v 119 11) he, nm_8 (f := f) (s := v 119 11) he, nm_9 (f := f) (s := v 119 11) he, nm_10 (f := f) (s := v 119 11) he])
          · have h108 := b0n.mp h108
            refine E.iconst C dX9_kindNow_111 (by decide) ?_
            refine E.goto C dX9_kindNow_112 (tgt := 117) (by decide) ?_
            exact N.iret C hR dX9_kindNow_117 (fun hi hx => by refine ⟨?_, rfl⟩; simp_all [kdF, nm_6 (f := f) (s := v 119 11) he, nm_7 (f := f) (s := v 119 11) he, nm_8 (f := f) (s := v 119 11) he, nm_9 (f := f) (s := v 119 11) he, nm_10 (f := f) (s := v 119 11) he])
        · have h88 := b0n.mp h88
          refine E.iconst C dX9_kindNow_91 (by decide) ?_
          refine E.goto C dX9_kindNow_92 (tgt := 117) (by decide) ?_
          exact N.iret C hR dX9_kindNow_117 (fun hi hx => by refine ⟨?_, rfl⟩; simp_all [kdF, nm_6 (f := f) (s := v 119 11) he, nm_7 (f := f) (s := v 119 11) he, nm_8 (f := f) (s := v 119 11) he, nm_9 (f := f) (s := v 119 11) he, nm_10 (f := f) (s := v 119 11) he])
      · have h70 := b0n.mp h70
        refine E.iconst C dX9_kindNow_73 (by decide) ?_
        exact N.iret C hR dX9_kindNow_74 (fun hi hx => by refine ⟨?_, rfl⟩; simp_all [kdF, nm_6 (f := f) (s := v 119 11) he, nm_7 (f := f) (s := v 119 11) he, nm_8 (f := f) (s := v 119 11) he, nm_9 (f := f) (s := v 119 11) he, nm_10 (f := f) (s := v 119 11) he])
    · have h42 := b0n.mp h42
      refine E.aload_n C dX9_kindNow_45 rfl rfl ?_
      refine E.bipush C dX9_kindNow_46 (by decide) ?_
      refine E.bipush C dX9_kindNow_48 (by decide) ?_
      refine N.callVp (S := []) (As := [vi 101, vi 100]) C hX (ok_X9_ends G f L 101 100 v (by assumption) (by omega)) yf_X9_ends yv_X9_ends ml_X9_117 rfl rfl rfl kd_119 (by decide) (by decide) (Nat.le_of_ble_eq_true rfl) dX9_kindNow_50 rfl ?_
      refine E.if_eq C dX9_kindNow_53 (tgt := 58) (by decide) (fun h53 => ?_) (fun h53 => ?_)
      · have h53 := b0.mp h53
        refine E.aload_n C dX9_kindNow_58 rfl rfl ?_
        refine E.iconst C dX9_kindNow_59 (by decide) ?_
        refine E.bipush C dX9_kindNow_60 (by decide) ?_
        refine E.bipush C dX9_kindNow_62 (by decide) ?_
        refine E.bipush C dX9_kindNow_64 (by decide) ?_
        refine E.iconst C dX9_kindNow_66 (by decide) ?_
        refine N.callVp (S := []) (As := [vi 3, vi 108, vi 101, vi 116, vi 0]) C hX (ok_X9_is G f L 3 108 101 116 0 v (by assumption) (by omega)) yf_X9_is yv_X9_is ml_X9_113 rfl rfl rfl kd_119 (by decide) (by decide) (Nat.le_of_ble_eq_true rfl) dX9_kindNow_67 rfl ?_
        refine E.if_eq C dX9_kindNow_70 (tgt := 75) (by decide) (fun h70 => ?_) (fun h70 => ?_)
        · have h70 := b0.mp h70
          refine E.aload_n C dX9_kindNow_75 rfl rfl ?_
          refine E.iconst C dX9_kindNow_76 (by decide) ?_
          refine E.bipush C dX9_kindNow_77 (by decide) ?_
          refine E.bipush C dX9_kindNow_79 (by decide) ?_
          refine E.bipush C dX9_kindNow_81 (by decide) ?_
          refine E.bipush C dX9_kindNow_83 (by decide) ?_
          refine N.callVp (S := []) (As := [vi 4, vi 98, vi 111, vi 116, vi 104]) C hX (ok_X9_is G f L 4 98 111 116 104 v (by assumption) (by omega)) yf_X9_is yv_X9_is ml_X9_113 rfl rfl rfl kd_119 (by decide) (by decide) (Nat.le_of_ble_eq_true rfl) dX9_kindNow_85 rfl ?_
          refine E.if_eq C dX9_kindNow_88 (tgt := 95) (by decide) (fun h88 => ?_) (fun h88 => ?_)
          · have h88 := b0.mp h88
            refine E.aload_n C dX9_kindNow_95 rfl rfl ?_
            refine E.iconst C dX9_kindNow_96 (by decide) ?_
            refine E.bipush C dX9_kindNow_97 (by decide) ?_
            refine E.bipush C dX9_kindNow_99 (by decide) ?_
            refine E.bipush C dX9_kindNow_101 (by decide) ?_
            refine E.bipush C dX9_kindNow_103 (by decide) ?_
            refine N.callVp (S := []) (As := [vi 4, vi 107, vi 101, vi 112, vi 116]) C hX (ok_X9_is G f L 4 107 101 112 116 v (by assumption) (by omega)) yf_X9_is yv_X9_is ml_X9_113 rfl rfl rfl kd_119 (by decide) (by decide) (Nat.le_of_ble_eq_true rfl) dX9_kindNow_105 rfl ?_
            refine E.if_eq C dX9_kindNow_108 (tgt := 115) (by decide) (fun h108 => ?_) (fun h108 => ?_)
            · have h108 := b0.mp h108
              refine E.bipush C dX9_kindNow_115 (by decide) ?_
              exact N.iret C hR dX9_kindNow_117 (fun hi hx => by refine ⟨?_, rfl⟩; simp_all [kdF, nm_6 (f := f) (s := v 119 11) he, nm_7 (f := f) (s := v 119 11) he, nm_8 (f := f) (s := v 119 11) he, nm_9 (f := f) (s := v 119 11) he, nm_10 (f := f) (s := v 119 11) he])
            · have h108 := b0n.mp h108
              refine E.iconst C dX9_kindNow_111 (by decide) ?_
              refine E.goto C dX9_kindNow_112 (tgt := 117) (by decide) ?_
              exact N.iret C hR dX9_kindNow_117 (fun hi hx => by refine ⟨?_, rfl⟩; simp_all [kdF, nm_6 (f := f) (s := v 119 11) he, nm_7 (f := f) (s := v 119 11) he, nm_8 (f := f) (s := v 119 11) he, nm_9 (f := f) (s := v 119 11) he, nm_10 (f := f) (s := v 119 11) he])
          · have h88 := b0n.mp h88
            refine E.iconst C dX9_kindNow_91 (by decide) ?_
            refine E.goto C dX9_kindNow_92 (tgt := 117) (by decide) ?_
            exact N.iret C hR dX9_kindNow_117 (fun hi hx => by refine ⟨?_, rfl⟩; simp_all [kdF, nm_6 (f := f) (s := v 119 11) he, nm_7 (f := f) (s := v 119 11) he, nm_8 (f := f) (s := v 119 11) he, nm_9 (f := f) (s := v 119 11) he, nm_10 (f := f) (s := v 119 11) he])
        · have h70 := b0n.mp h70
          refine E.iconst C dX9_kindNow_73 (by decide) ?_
          exact N.iret C hR dX9_kindNow_74 (fun hi hx => by refine ⟨?_, rfl⟩; simp_all [kdF, nm_6 (f := f) (s := v 119 11) he, nm_7 (f := f) (s := v 119 11) he, nm_8 (f := f) (s := v 119 11) he, nm_9 (f := f) (s := v 119 11) he, nm_10 (f := f) (s := v 119 11) he])
      · have h53 := b0n.mp h53
        refine E.iconst C dX9_kindNow_56 (by decide) ?_
        exact N.iret C hR dX9_kindNow_57 (fun hi hx => by refine ⟨?_, rfl⟩; simp_all [kdF, nm_6 (f := f) (s := v 119 11) he, nm_7 (f := f) (s := v 119 11) he, nm_8 (f := f) (s := v 119 11) he, nm_9 (f := f) (s := v 119 11) he, nm_10 (f := f) (s := v 119 11) he])
  · have h13 := b0n.mp h13
    refine E.aload_n C dX9_kindNow_16 rfl rfl ?_
    refine E.bipush C dX9_kindNow_17 (by decide) ?_
    refine E.iconst C dX9_kindNow_19 (by decide) ?_
    refine N.callVp (S := []) (As := [vi 110, vi 0]) C hX (ok_X9_ends G f L 110 0 v (by assumption) (by omega)) yf_X9_ends yv_X9_ends ml_X9_117 rfl rfl rfl kd_119 (by decide) (by decide) (Nat.le_of_ble_eq_true rfl) dX9_kindNow_20 rfl ?_
    refine E.if_eq C dX9_kindNow_23 (tgt := 28) (by decide) (fun h23 => ?_) (fun h23 => ?_)
    · have h23 := b0.mp h23
      refine E.aload_n C dX9_kindNow_28 rfl rfl ?_
      refine E.bipush C dX9_kindNow_29 (by decide) ?_
      refine E.bipush C dX9_kindNow_31 (by decide) ?_
      refine E.bipush C dX9_kindNow_33 (by decide) ?_
      refine E.bipush C dX9_kindNow_35 (by decide) ?_
      refine E.bipush C dX9_kindNow_37 (by decide) ?_
      refine N.callVp (S := []) (As := [vi 6, vi 116, vi 117, vi 114, vi 110]) C hX (ok_X9_is G f L 6 116 117 114 110 v (by assumption) (by omega)) yf_X9_is yv_X9_is ml_X9_113 rfl rfl rfl kd_119 (by decide) (by decide) (Nat.le_of_ble_eq_true rfl) dX9_kindNow_39 rfl ?_
      refine E.if_eq C dX9_kindNow_42 (tgt := 58) (by decide) (fun h42 => ?_) (fun h42 => ?_)
      · have h42 := b0.mp h42
        refine E.aload_n C dX9_kindNow_58 rfl rfl ?_
        refine E.iconst C dX9_kindNow_59 (by decide) ?_
        refine E.bipush C dX9_kindNow_60 (by decide) ?_
        refine E.bipush C dX9_kindNow_62 (by decide) ?_
        refine E.bipush C dX9_kindNow_64 (by decide) ?_
        refine E.iconst C dX9_kindNow_66 (by decide) ?_
        refine N.callVp (S := []) (As := [vi 3, vi 108, vi 101, vi 116, vi 0]) C hX (ok_X9_is G f L 3 108 101 116 0 v (by assumption) (by omega)) yf_X9_is yv_X9_is ml_X9_113 rfl rfl rfl kd_119 (by decide) (by decide) (Nat.le_of_ble_eq_true rfl) dX9_kindNow_67 rfl ?_
        refine E.if_eq C dX9_kindNow_70 (tgt := 75) (by decide) (fun h70 => ?_) (fun h70 => ?_)
        · have h70 := b0.mp h70
          refine E.aload_n C dX9_kindNow_75 rfl rfl ?_
          refine E.iconst C dX9_kindNow_76 (by decide) ?_
          refine E.bipush C dX9_kindNow_77 (by decide) ?_
          refine E.bipush C dX9_kindNow_79 (by decide) ?_
          refine E.bipush C dX9_kindNow_81 (by decide) ?_
          refine E.bipush C dX9_kindNow_83 (by decide) ?_
          refine N.callVp (S := []) (As := [vi 4, vi 98, vi 111, vi 116, vi 104]) C hX (ok_X9_is G f L 4 98 111 116 104 v (by assumption) (by omega)) yf_X9_is yv_X9_is ml_X9_113 rfl rfl rfl kd_119 (by decide) (by decide) (Nat.le_of_ble_eq_true rfl) dX9_kindNow_85 rfl ?_
          refine E.if_eq C dX9_kindNow_88 (tgt := 95) (by decide) (fun h88 => ?_) (fun h88 => ?_)
          · have h88 := b0.mp h88
            refine E.aload_n C dX9_kindNow_95 rfl rfl ?_
            refine E.iconst C dX9_kindNow_96 (by decide) ?_
            refine E.bipush C dX9_kindNow_97 (by decide) ?_
            refine E.bipush C dX9_kindNow_99 (by decide) ?_
            refine E.bipush C dX9_kindNow_101 (by decide) ?_
            refine E.bipush C dX9_kindNow_103 (by decide) ?_
            refine N.callVp (S := []) (As := [vi 4, vi 107, vi 101, vi 112, vi 116]) C hX (ok_X9_is G f L 4 107 101 112 116 v (by assumption) (by omega)) yf_X9_is yv_X9_is ml_X9_113 rfl rfl rfl kd_119 (by decide) (by decide) (Nat.le_of_ble_eq_true rfl) dX9_kindNow_105 rfl ?_
            refine E.if_eq C dX9_kindNow_108 (tgt := 115) (by decide) (fun h108 => ?_) (fun h108 => ?_)
            · have h108 := b0.mp h108
              refine E.bipush C dX9_kindNow_115 (by decide) ?_
              exact N.iret C hR dX9_kindNow_117 (fun hi hx => by refine ⟨?_, rfl⟩; simp_all [kdF, nm_6 (f := f) (s := v 119 11) he, nm_7 (f := f) (s := v 119 11) he, nm_8 (f := f) (s := v 119 11) he, nm_9 (f := f) (s := v 119 11) he, nm_10 (f := f) (s := v 119 11) he])
            · have h108 := b0n.mp h108
              refine E.iconst C dX9_kindNow_111 (by decide) ?_
              refine E.goto C dX9_kindNow_112 (tgt := 117) (by decide) ?_
              exact N.iret C hR dX9_kindNow_117 (fun hi hx => by refine ⟨?_, rfl⟩; simp_all [kdF, nm_6 (f := f) (s := v 119 11) he, nm_7 (f := f) (s := v 119 11) he, nm_8 (f := f) (s := v 119 11) he, nm_9 (f := f) (s := v 119 11) he, nm_10 (f := f) (s := v 119 11) he])
          · have h88 := b0n.mp h88
            refine E.iconst C dX9_kindNow_91 (by decide) ?_
            refine E.goto C dX9_kindNow_92 (tgt := 117) (by decide) ?_
            exact N.iret C hR dX9_kindNow_117 (fun hi hx => by refine ⟨?_, rfl⟩; simp_all [kdF, nm_6 (f := f) (s := v 119 11) he, nm_7 (f := f) (s := v 119 11) he, nm_8 (f := f) (s := v 119 11) he, nm_9 (f := f) (s := v 119 11) he, nm_10 (f := f) (s := v 119 11) he])
        · have h70 := b0n.mp h70
          refine E.iconst C dX9_kindNow_73 (by decide) ?_
          exact N.iret C hR dX9_kindNow_74 (fun hi hx => by refine ⟨?_, rfl⟩; simp_all [kdF, nm_6 (f := f) (s := v 119 11) he, nm_7 (f := f) (s := v 119 11) he, nm_8 (f := f) (s := v 119 11) he, nm_9 (f := f) (s := v 119 11) he, nm_10 (f := f) (s := v 119 11) he])
      · have h42 := b0n.mp h42
        refine E.aload_n C dX9_kindNow_45 rfl rfl ?_
        refine E.bipush C dX9_kindNow_46 (by decide) ?_
        refine E.bipush C dX9_kindNow_48 (by decide) ?_
        refine N.callVp (S := []) (As := [vi 101, vi 100]) C hX (ok_X9_ends G f L 101 100 v (by assumption) (by omega)) yf_X9_ends yv_X9_ends ml_X9_117 rfl rfl rfl kd_119 (by decide) (by decide) (Nat.le_of_ble_eq_true rfl) dX9_kindNow_50 rfl ?_
        refine E.if_eq C dX9_kindNow_53 (tgt := 58) (by decide) (fun h53 => ?_) (fun h53 => ?_)
        · have h53 := b0.mp h53
          refine E.aload_n C dX9_kindNow_58 rfl rfl ?_
          refine E.iconst C dX9_kindNow_59 (by decide) ?_
          refine E.bipush C dX9_kindNow_60 (by decide) ?_
          refine E.bipush C dX9_kindNow_62 (by decide) ?_
          refine E.bipush C dX9_kindNow_64 (by decide) ?_
          refine E.iconst C dX9_kindNow_66 (by decide) ?_
          refine N.callVp (S := []) (As := [vi 3, vi 108, vi 101, vi 116, vi 0]) C hX (ok_X9_is G f L 3 108 101 116 0 v (by assumption) (by omega)) yf_X9_is yv_X9_is ml_X9_113 rfl rfl rfl kd_119 (by decide) (by decide) (Nat.le_of_ble_eq_true rfl) dX9_kindNow_67 rfl ?_
          refine E.if_eq C dX9_kindNow_70 (tgt := 75) (by decide) (fun h70 => ?_) (fun h70 => ?_)
          · have h70 := b0.mp h70
            refine E.aload_n C dX9_kindNow_75 rfl rfl ?_
            refine E.iconst C dX9_kindNow_76 (by decide) ?_
            refine E.bipush C dX9_kindNow_77 (by decide) ?_
            refine E.bipush C dX9_kindNow_79 (by decide) ?_
            refine E.bipush C dX9_kindNow_81 (by decide) ?_
            refine E.bipush C dX9_kindNow_83 (by decide) ?_
            refine N.callVp (S := []) (As := [vi 4, vi 98, vi 111, vi 116, vi 104]) C hX (ok_X9_is G f L 4 98 111 116 104 v (by assumption) (by omega)) yf_X9_is yv_X9_is ml_X9_113 rfl rfl rfl kd_119 (by decide) (by decide) (Nat.le_of_ble_eq_true rfl) dX9_kindNow_85 rfl ?_
            refine E.if_eq C dX9_kindNow_88 (tgt := 95) (by decide) (fun h88 => ?_) (fun h88 => ?_)
            · have h88 := b0.mp h88
              refine E.aload_n C dX9_kindNow_95 rfl rfl ?_
              refine E.iconst C dX9_kindNow_96 (by decide) ?_
              refine E.bipush C dX9_kindNow_97 (by decide) ?_
              refine E.bipush C dX9_kindNow_99 (by decide) ?_
              refine E.bipush C dX9_kindNow_101 (by decide) ?_
              refine E.bipush C dX9_kindNow_103 (by decide) ?_
              refine N.callVp (S := []) (As := [vi 4, vi 107, vi 101, vi 112, vi 116]) C hX (ok_X9_is G f L 4 107 101 112 116 v (by assumption) (by omega)) yf_X9_is yv_X9_is ml_X9_113 rfl rfl rfl kd_119 (by decide) (by decide) (Nat.le_of_ble_eq_true rfl) dX9_kindNow_105 rfl ?_
              refine E.if_eq C dX9_kindNow_108 (tgt := 115) (by decide) (fun h108 => ?_) (fun h108 => ?_)
              · have h108 := b0.mp h108
                refine E.bipush C dX9_kindNow_115 (by decide) ?_
                exact N.iret C hR dX9_kindNow_117 (fun hi hx => by refine ⟨?_, rfl⟩; simp_all [kdF, nm_6 (f := f) (s := v 119 11) he, nm_7 (f := f) (s := v 119 11) he, nm_8 (f := f) (s := v 119 11) he, nm_9 (f := f) (s := v 119 11) he, nm_10 (f := f) (s := v 119 11) he])
              · have h108 := b0n.mp h108
                refine E.iconst C dX9_kindNow_111 (by decide) ?_
                refine E.goto C dX9_kindNow_112 (tgt := 117) (by decide) ?_
                exact N.iret C hR dX9_kindNow_117 (fun hi hx => by refine ⟨?_, rfl⟩; simp_all [kdF, nm_6 (f := f) (s := v 119 11) he, nm_7 (f := f) (s := v 119 11) he, nm_8 (f := f) (s := v 119 11) he, nm_9 (f := f) (s := v 119 11) he, nm_10 (f := f) (s := v 119 11) he])
            · have h88 := b0n.mp h88
              refine E.iconst C dX9_kindNow_91 (by decide) ?_
              refine E.goto C dX9_kindNow_92 (tgt := 117) (by decide) ?_
              exact N.iret C hR dX9_kindNow_117 (fun hi hx => by refine ⟨?_, rfl⟩; simp_all [kdF, nm_6 (f := f) (s := v 119 11) he, nm_7 (f := f) (s := v 119 11) he, nm_8 (f := f) (s := v 119 11) he, nm_9 (f := f) (s := v 119 11) he, nm_10 (f := f) (s := v 119 11) he])
          · have h70 := b0n.mp h70
            refine E.iconst C dX9_kindNow_73 (by decide) ?_
            exact N.iret C hR dX9_kindNow_74 (fun hi hx => by refine ⟨?_, rfl⟩; simp_all [kdF, nm_6 (f := f) (s := v 119 11) he, nm_7 (f := f) (s := v 119 11) he, nm_8 (f := f) (s := v 119 11) he, nm_9 (f := f) (s := v 119 11) he, nm_10 (f := f) (s := v 119 11) he])
        · have h53 := b0n.mp h53
          refine E.iconst C dX9_kindNow_56 (by decide) ?_
          exact N.iret C hR dX9_kindNow_57 (fun hi hx => by refine ⟨?_, rfl⟩; simp_all [kdF, nm_6 (f := f) (s := v 119 11) he, nm_7 (f := f) (s := v 119 11) he, nm_8 (f := f) (s := v 119 11) he, nm_9 (f := f) (s := v 119 11) he, nm_10 (f := f) (s := v 119 11) he])
    · have h23 := b0n.mp h23
      refine E.iconst C dX9_kindNow_26 (by decide) ?_
      exact N.iret C hR dX9_kindNow_27 (fun hi hx => by refine ⟨?_, rfl⟩; simp_all [kdF, nm_6 (f := f) (s := v 119 11) he, nm_7 (f := f) (s := v 119 11) he, nm_8 (f := f) (s := v 119 11) he, nm_9 (f := f) (s := v 119 11) he, nm_10 (f := f) (s := v 119 11) he])

set_option maxHeartbeats 4000000 in
set_option maxRecDepth 20000 in
theorem ok_X9_next (G : GT) (f : Int → Int) (L : Int) (v : VT) (hT : TapM f L v) (hf : 0 ≤ v 119 14) (hp : v 119 14 = 0 → 0 ≤ v 119 10 ∧ v 119 10 ≤ L) : MNv G yX9_next cX9_next 2 none 1 25 [vr 119] v (fun w => NxtM f L v w) := by
  refine MN.of pn_X9_next [some (vr 119), none] 1 rfl rfl (fun X C hX hn hR => ?_)
  have hN : ∀ i : Nat, i < 2 → i < xn X := fun i h => by rw [hn]; exact h
  refine E.rngk (fun hinv => ?_)
  refine E.loc (fun hloc => ?_)
  have hTL := hT.2.1
  refine E.aload_n C dX9_next_0 rfl rfl ?_
  refine N.getI C fa_X9_97 rfl dX9_next_1 kd_119 (x := v 119 14) rfl ?_
  refine E.if_le C dX9_next_4 (tgt := 8) (by decide) (fun h4 => ?_) (fun h4 => ?_)
  · skip
    have lp8 : ∀ (k8 : Nat) (w : VT), (L - w 119 10).toNat = k8 → (FrM v w ∧ w 119 14 = 0 ∧ 0 ≤ w 119 10 ∧ w 119 10 ≤ L ∧ scn 32 32 f L (w 119 10) = tS f L (v 119 10)) → E X G 0 0 1000 w 8 [some (vr 119), none] [] := by
      intro k8
      induction k8 using Nat.strongRecOn with
      | ind k8 ih8 =>
        intro w hk8 hI8
        obtain ⟨hF, hw14, hw0, hw1, hsc⟩ := hI8
        have hTw := hT.fm hF
        refine E.aload_n C dX9_next_8 rfl rfl ?_
        refine E.aload_n C dX9_next_9 rfl rfl ?_
        refine N.getI C fa_X9_106 rfl dX9_next_10 kd_119 (x := w 119 10) rfl ?_
        refine N.callVp (S := []) (As := [vi (w 119 10)]) C hX (ok_lok (f := f) (L := L) G (w 119 10) w (by repeat (first | assumption | refine TapM.up (by decide) ?_)) (by omega)) yf_X9_look yv_X9_look ml_X9_109 rfl rfl rfl kd_119 (by decide) (by decide) (Nat.le_of_ble_eq_true rfl) dX9_next_13 rfl ?_
        refine E.bipush C dX9_next_16 (by decide) ?_
        have hc18 := byF_in (f := f) (L := L) (p := w 119 10) (a := 32) (b := 32) (by decide)
        refine E.icmp_ne C dX9_next_18 (tgt := 34) (by decide) (fun h18 => ?_) (fun h18 => ?_)
        · skip
          have hsc2 : w 119 10 = tS f L (v 119 10) := by rw [← hsc, scn_no (by omega)]
          refine E.aload_n C dX9_next_34 rfl rfl ?_
          refine E.aload_n C dX9_next_35 rfl rfl ?_
          refine N.getI C fa_X9_106 rfl dX9_next_36 kd_119 (x := w 119 10) rfl ?_
          refine N.putI C fp_X9_100 rfl dX9_next_39 kd_119 ?_
          refine E.aload_n C dX9_next_42 rfl rfl ?_
          refine E.aload_n C dX9_next_43 rfl rfl ?_
          refine N.getI C fa_X9_106 rfl dX9_next_44 kd_119 (x := w 119 10) (upd2_ne _ _ _ _ _ _ (Or.inr (by decide))) ?_
          refine N.callVp (S := []) (As := [vi (w 119 10)]) C hX (ok_lok (f := f) (L := L) G (w 119 10) (upd2 w 119 11 (w 119 10)) (by repeat (first | assumption | refine TapM.up (by decide) ?_)) (by omega)) yf_X9_look yv_X9_look ml_X9_109 rfl rfl rfl kd_119 (by decide) (by decide) (Nat.le_of_ble_eq_true rfl) dX9_next_47 rfl ?_
          refine N.ist_1 C dX9_next_50 (hN 1 (by decide)) rfl ?_
          refine E.iload_n C dX9_next_51 rfl rfl ?_
          have hr52 := byF_rng (f := f) (L := L) (p := w 119 10) (hT.by (by omega))
          refine E.if_ge C dX9_next_52 (tgt := 63) (by decide) (fun h52 => ?_) (fun h52 => ?_)
          · skip
            have hb63 : byF f L (w 119 10) = f (w 119 10) := byF_lt (by omega)
            refine E.iload_n C dX9_next_63 rfl rfl ?_
            refine E.i2l C dX9_next_64 ?_
            refine E.ldc2 C ct_X9_124 (x := 97) (by decide) dX9_next_65 ?_
            refine E.ldc2 C ct_X9_126 (x := 122) (by decide) dX9_next_68 ?_
            refine N.callSp (S := []) (As := [vl (byF f L (w 119 10)), vl 97, vl 122]) C hX (ok_X9_in G (byF f L (w 119 10)) 97 122 (upd2 w 119 11 (w 119 10))) yf_X9_in yv_X9_in ml_X9_93 rfl (by decide) (Nat.le_of_ble_eq_true rfl) dX9_next_71 rfl ?_
            refine E.if_eq C dX9_next_74 (tgt := 116) (by decide) (fun h74 => ?_) (fun h74 => ?_)
            · have h74 := b0.mp h74
              refine E.iload_n C dX9_next_116 rfl rfl ?_
              refine E.i2l C dX9_next_117 ?_
              refine E.ldc2 C ct_X9_128 (x := 48) (by decide) dX9_next_118 ?_
              refine E.ldc2 C ct_X9_130 (x := 57) (by decide) dX9_next_121 ?_
              refine N.callSp (S := []) (As := [vl (byF f L (w 119 10)), vl 48, vl 57]) C hX (ok_X9_in G (byF f L (w 119 10)) 48 57 (upd2 w 119 11 (w 119 10))) yf_X9_in yv_X9_in ml_X9_93 rfl (by decide) (Nat.le_of_ble_eq_true rfl) dX9_next_124 rfl ?_
              refine E.if_eq C dX9_next_127 (tgt := 243) (by decide) (fun h127 => ?_) (fun h127 => ?_)
              · have h127 := b0.mp h127
                refine E.aload_n C dX9_next_243 rfl rfl ?_
                refine E.iconst C dX9_next_244 (by decide) ?_
                refine N.putI C fp_X9_121 rfl dX9_next_245 kd_119 ?_
                refine E.aload_n C dX9_next_248 rfl rfl ?_
                refine E.iload_n C dX9_next_249 rfl rfl ?_
                refine E.bipush C dX9_next_250 (by decide) ?_
                refine E.icmp_ne C dX9_next_252 (tgt := 259) (by decide) (fun h252 => ?_) (fun h252 => ?_)
                · skip
                  refine E.iconst C dX9_next_259 (by decide) ?_
                  refine E.iconst C dX9_next_260 (by decide) ?_
                  refine N.callVv (S := []) (As := [vi 0, vi 1]) C hX (ok_X9_needs G 0 1 (upd2 (upd2 w 119 11 (w 119 10)) 119 12 3) (by first | omega | exact bdec)) yf_X9_needs yv_X9_needs ml_X9_135 rfl rfl rfl kd_119 (by decide) (by decide) (Nat.le_of_ble_eq_true rfl) dX9_next_261 rfl (fun w261 hp261 => ?_)
                  have hF261 := (hp261).fm
                  have e10_261 := (hp261).1 119 10 (by decide)
                  have e11_261 := (hp261).1 119 11 (by decide)
                  have e12_261 := (hp261).1 119 12 (by decide)
                  have hd261 := (hp261).2
                  have hx14 : (upd2 (upd2 w 119 11 (w 119 10)) 119 12 3) 119 14 = 0 := (ux_ne (by decide)).trans ((ux_ne (by decide)).trans hw14)
                  have hx10 : (upd2 (upd2 w 119 11 (w 119 10)) 119 12 3) 119 10 = w 119 10 := (ux_ne (by decide)).trans (ux_ne (by decide))
                  have hx11 : (upd2 (upd2 w 119 11 (w 119 10)) 119 12 3) 119 11 = tS f L (v 119 10) := (ux_ne (by decide)).trans ((ux_at rfl).trans hsc2)
                  refine E.aload_n C dX9_next_264 rfl rfl ?_
                  refine E.dupR C dX9_next_265 ?_
                  refine N.getI C fa_X9_106 rfl dX9_next_266 kd_119 (x := w261 119 10) rfl ?_
                  refine E.iconst C dX9_next_269 (by decide) ?_
                  refine E.iadd C dX9_next_270 (by omega) ?_
                  refine N.putI C fp_X9_106 rfl dX9_next_271 kd_119 ?_
                  exact N.vret C hR dX9_next_274 (fun hi => by first | exact ⟨(hF.up (by decide)).up (by decide), Or.inr ⟨by omega, Lok_end (by rw [← hsc2]; omega) ((ux_ne (by decide)).trans ((ux_ne (by decide)).trans hw14)) (ux_at rfl) ((ux_ne (by decide)).trans ((ux_at rfl).trans hsc2)) ((ux_ne (by decide)).trans ((ux_ne (by decide)).trans hsc2))⟩⟩ | exact ⟨hG, Or.inr ⟨by omega, Lok_name (by rw [← hsc2]; omega) (by rw [← hsc2]; omega) hu14 hu12 hu11 (by rw [← hsu, scn_no (by omega)])⟩⟩ | exact ⟨hG.tr hF237, Or.inr ⟨by omega, Lok_num (by rw [← hsc2]; omega) (by rw [← hsc2]; omega) (by rw [← hsu, scn_no (by omega)]) hu12 hu11 hu14 hval (by omega) hp237⟩⟩ | exact ⟨(((hF.up (by decide)).up (by decide)).tr hF261).up (by decide), Or.inr ⟨by omega, Lok_stop (by rw [← hsc2]; omega) (by rw [← hsc2]; omega) ((ux_ne (by decide)).trans (by omega)) ((ux_ne (by decide)).trans (e12_261.trans (ux_at rfl))) ((ux_ne (by decide)).trans (e11_261.trans ((ux_ne (by decide)).trans ((ux_at rfl).trans hsc2)))) ((ux_at rfl).trans (by omega))⟩⟩ | exact ⟨(((hF.up (by decide)).up (by decide)).tr hF261).up (by decide), Or.inr ⟨by omega, Lok_bad (by rw [← hsc2]; omega) (by rw [← hsc2]; omega) (by rw [← hsc2]; omega) (by rw [← hsc2]; omega) ((ux_ne (by decide)).trans (by omega)) ((ux_ne (by decide)).trans (by omega))⟩⟩)
                · skip
                  refine E.iconst C dX9_next_255 (by decide) ?_
                  refine E.goto C dX9_next_256 (tgt := 260) (by decide) ?_
                  refine E.iconst C dX9_next_260 (by decide) ?_
                  refine N.callVv (S := []) (As := [vi 1, vi 1]) C hX (ok_X9_needs G 1 1 (upd2 (upd2 w 119 11 (w 119 10)) 119 12 3) (by first | omega | exact bdec)) yf_X9_needs yv_X9_needs ml_X9_135 rfl rfl rfl kd_119 (by decide) (by decide) (Nat.le_of_ble_eq_true rfl) dX9_next_261 rfl (fun w261 hp261 => ?_)
                  have hF261 := (hp261).fm
                  have e10_261 := (hp261).1 119 10 (by decide)
                  have e11_261 := (hp261).1 119 11 (by decide)
                  have e12_261 := (hp261).1 119 12 (by decide)
                  have hd261 := (hp261).2
                  have hx14 : (upd2 (upd2 w 119 11 (w 119 10)) 119 12 3) 119 14 = 0 := (ux_ne (by decide)).trans ((ux_ne (by decide)).trans hw14)
                  have hx10 : (upd2 (upd2 w 119 11 (w 119 10)) 119 12 3) 119 10 = w 119 10 := (ux_ne (by decide)).trans (ux_ne (by decide))
                  have hx11 : (upd2 (upd2 w 119 11 (w 119 10)) 119 12 3) 119 11 = tS f L (v 119 10) := (ux_ne (by decide)).trans ((ux_at rfl).trans hsc2)
                  refine E.aload_n C dX9_next_264 rfl rfl ?_
                  refine E.dupR C dX9_next_265 ?_
                  refine N.getI C fa_X9_106 rfl dX9_next_266 kd_119 (x := w261 119 10) rfl ?_
                  refine E.iconst C dX9_next_269 (by decide) ?_
                  refine E.iadd C dX9_next_270 (by omega) ?_
                  refine N.putI C fp_X9_106 rfl dX9_next_271 kd_119 ?_
                  exact N.vret C hR dX9_next_274 (fun hi => by first | exact ⟨(hF.up (by decide)).up (by decide), Or.inr ⟨by omega, Lok_end (by rw [← hsc2]; omega) ((ux_ne (by decide)).trans ((ux_ne (by decide)).trans hw14)) (ux_at rfl) ((ux_ne (by decide)).trans ((ux_at rfl).trans hsc2)) ((ux_ne (by decide)).trans ((ux_ne (by decide)).trans hsc2))⟩⟩ | exact ⟨hG, Or.inr ⟨by omega, Lok_name (by rw [← hsc2]; omega) (by rw [← hsc2]; omega) hu14 hu12 hu11 (by rw [← hsu, scn_no (by omega)])⟩⟩ | exact ⟨hG.tr hF237, Or.inr ⟨by omega, Lok_num (by rw [← hsc2]; omega) (by rw [← hsc2]; omega) (by rw [← hsu, scn_no (by omega)]) hu12 hu11 hu14 hval (by omega) hp237⟩⟩ | exact ⟨(((hF.up (by decide)).up (by decide)).tr hF261).up (by decide), Or.inr ⟨by omega, Lok_stop (by rw [← hsc2]; omega) (by rw [← hsc2]; omega) ((ux_ne (by decide)).trans (by omega)) ((ux_ne (by decide)).trans (e12_261.trans (ux_at rfl))) ((ux_ne (by decide)).trans (e11_261.trans ((ux_ne (by decide)).trans ((ux_at rfl).trans hsc2)))) ((ux_at rfl).trans (by omega))⟩⟩ | exact ⟨(((hF.up (by decide)).up (by decide)).tr hF261).up (by decide), Or.inr ⟨by omega, Lok_bad (by rw [← hsc2]; omega) (by rw [← hsc2]; omega) (by rw [← hsc2]; omega) (by rw [← hsc2]; omega) ((ux_ne (by decide)).trans (by omega)) ((ux_ne (by decide)).trans (by omega))⟩⟩)
              · have h127 := b0n.mp h127
                refine E.aload_n C dX9_next_130 rfl rfl ?_
                refine E.iconst C dX9_next_131 (by decide) ?_
                refine N.putI C fp_X9_121 rfl dX9_next_132 kd_119 ?_
                refine E.aload_n C dX9_next_135 rfl rfl ?_
                refine E.iconst C dX9_next_136 (by decide) ?_
                refine N.putI C fp_X9_132 rfl dX9_next_137 kd_119 ?_
                have lp140 : ∀ (k140 : Nat) (u : VT), (L - u 119 10).toNat = k140 → (FrM v u ∧ u 119 14 = 0 ∧ u 119 12 = 2 ∧ u 119 11 = tS f L (v 119 10) ∧ tS f L (v 119 10) ≤ u 119 10 ∧ 0 ≤ u 119 10 ∧ u 119 10 ≤ L ∧ scn 48 57 f L (u 119 10) = scn 48 57 f L (tS f L (v 119 10)) ∧ valM f (tS f L (v 119 10)) (u 119 10) (u 119 13)) → E X G 0 0 1000 u 140 [some (vr 119), some (vi (byF f L (w 119 10)))] [] := by
                  intro k140
                  induction k140 using Nat.strongRecOn with
                  | ind k140 ih140 =>
                    intro u hk140 hI140
                    obtain ⟨hG, hu14, hu12, hu11, hus, hu0, hu1, hsu, hval⟩ := hI140
                    have hTu := hT.fm hG
                    have hvr := hval.1
                    refine E.aload_n C dX9_next_140 rfl rfl ?_
                    refine E.aload_n C dX9_next_141 rfl rfl ?_
                    refine N.getI C fa_X9_106 rfl dX9_next_142 kd_119 (x := u 119 10) rfl ?_
                    refine N.callVp (S := []) (As := [vi (u 119 10)]) C hX (ok_lok (f := f) (L := L) G (u 119 10) u (by repeat (first | assumption | refine TapM.up (by decide) ?_)) (by omega)) yf_X9_look yv_X9_look ml_X9_109 rfl rfl rfl kd_119 (by decide) (by decide) (Nat.le_of_ble_eq_true rfl) dX9_next_145 rfl ?_
                    refine E.i2l C dX9_next_148 ?_
                    refine E.ldc2 C ct_X9_128 (x := 48) (by decide) dX9_next_149 ?_
                    refine E.ldc2 C ct_X9_130 (x := 57) (by decide) dX9_next_152 ?_
                    refine N.callSp (S := []) (As := [vl (byF f L (u 119 10)), vl 48, vl 57]) C hX (ok_X9_in G (byF f L (u 119 10)) 48 57 u) yf_X9_in yv_X9_in ml_X9_93 rfl (by decide) (Nat.le_of_ble_eq_true rfl) dX9_next_155 rfl ?_
                    have hc158 := byF_in (f := f) (L := L) (p := u 119 10) (a := 48) (b := 57) (by decide)
                    have hbu : u 119 10 < L → byF f L (u 119 10) = f (u 119 10) := fun z => byF_lt z
                    refine E.if_eq C dX9_next_158 (tgt := 217) (by decide) (fun h158 => ?_) (fun h158 => ?_)
                    · have h158 := b0.mp h158
                      refine E.aload_n C dX9_next_217 rfl rfl ?_
                      refine E.aload_n C dX9_next_218 rfl rfl ?_
                      refine N.getI C fa_X9_106 rfl dX9_next_219 kd_119 (x := u 119 10) rfl ?_
                      refine E.aload_n C dX9_next_222 rfl rfl ?_
                      refine N.getI C fa_X9_100 rfl dX9_next_223 kd_119 (x := u 119 11) rfl ?_
                      refine E.isub C dX9_next_226 (by omega) ?_
                      refine E.iconst C dX9_next_227 (by decide) ?_
                      refine E.icmp_gt C dX9_next_228 (tgt := 235) (by decide) (fun h228 => ?_) (fun h228 => ?_)
                      · skip
                        refine E.iconst C dX9_next_235 (by decide) ?_
                        refine E.iconst C dX9_next_236 (by decide) ?_
                        refine N.callVv (S := []) (As := [vi 0, vi 1]) C hX (ok_X9_needs G 0 1 u (by first | omega | exact bdec)) yf_X9_needs yv_X9_needs ml_X9_135 rfl rfl rfl kd_119 (by decide) (by decide) (Nat.le_of_ble_eq_true rfl) dX9_next_237 rfl (fun w237 hp237 => ?_)
                        have hF237 := (hp237).fm
                        have e10_237 := (hp237).1 119 10 (by decide)
                        have e11_237 := (hp237).1 119 11 (by decide)
                        have e12_237 := (hp237).1 119 12 (by decide)
                        have hd237 := (hp237).2
                        have hx14 : (upd2 (upd2 w 119 11 (w 119 10)) 119 12 3) 119 14 = 0 := (ux_ne (by decide)).trans ((ux_ne (by decide)).trans hw14)
                        have hx10 : (upd2 (upd2 w 119 11 (w 119 10)) 119 12 3) 119 10 = w 119 10 := (ux_ne (by decide)).trans (ux_ne (by decide))
                        have hx11 : (upd2 (upd2 w 119 11 (w 119 10)) 119 12 3) 119 11 = tS f L (v 119 10) := (ux_ne (by decide)).trans ((ux_at rfl).trans hsc2)
                        refine E.goto C dX9_next_240 (tgt := 274) (by decide) ?_
                        exact N.vret C hR dX9_next_274 (fun hi => by first | exact ⟨(hF.up (by decide)).up (by decide), Or.inr ⟨by omega, Lok_end (by rw [← hsc2]; omega) ((ux_ne (by decide)).trans ((ux_ne (by decide)).trans hw14)) (ux_at rfl) ((ux_ne (by decide)).trans ((ux_at rfl).trans hsc2)) ((ux_ne (by decide)).trans ((ux_ne (by decide)).trans hsc2))⟩⟩ | exact ⟨hG, Or.inr ⟨by omega, Lok_name (by rw [← hsc2]; omega) (by rw [← hsc2]; omega) hu14 hu12 hu11 (by rw [← hsu, scn_no (by omega)])⟩⟩ | exact ⟨hG.tr hF237, Or.inr ⟨by omega, Lok_num (by rw [← hsc2]; omega) (by rw [← hsc2]; omega) (by rw [← hsu, scn_no (by omega)]) hu12 hu11 hu14 hval (by omega) hp237⟩⟩ | exact ⟨(((hF.up (by decide)).up (by decide)).tr hF261).up (by decide), Or.inr ⟨by omega, Lok_stop (by rw [← hsc2]; omega) (by rw [← hsc2]; omega) ((ux_ne (by decide)).trans (by omega)) ((ux_ne (by decide)).trans (e12_261.trans (ux_at rfl))) ((ux_ne (by decide)).trans (e11_261.trans ((ux_ne (by decide)).trans ((ux_at rfl).trans hsc2)))) ((ux_at rfl).trans (by omega))⟩⟩ | exact ⟨(((hF.up (by decide)).up (by decide)).tr hF261).up (by decide), Or.inr ⟨by omega, Lok_bad (by rw [← hsc2]; omega) (by rw [← hsc2]; omega) (by rw [← hsc2]; omega) (by rw [← hsc2]; omega) ((ux_ne (by decide)).trans (by omega)) ((ux_ne (by decide)).trans (by omega))⟩⟩)
                      · skip
                        refine E.iconst C dX9_next_231 (by decide) ?_
                        refine E.goto C dX9_next_232 (tgt := 236) (by decide) ?_
                        refine E.iconst C dX9_next_236 (by decide) ?_
                        refine N.callVv (S := []) (As := [vi 1, vi 1]) C hX (ok_X9_needs G 1 1 u (by first | omega | exact bdec)) yf_X9_needs yv_X9_needs ml_X9_135 rfl rfl rfl kd_119 (by decide) (by decide) (Nat.le_of_ble_eq_true rfl) dX9_next_237 rfl (fun w237 hp237 => ?_)
                        have hF237 := (hp237).fm
                        have e10_237 := (hp237).1 119 10 (by decide)
                        have e11_237 := (hp237).1 119 11 (by decide)
                        have e12_237 := (hp237).1 119 12 (by decide)
                        have hd237 := (hp237).2
                        have hx14 : (upd2 (upd2 w 119 11 (w 119 10)) 119 12 3) 119 14 = 0 := (ux_ne (by decide)).trans ((ux_ne (by decide)).trans hw14)
                        have hx10 : (upd2 (upd2 w 119 11 (w 119 10)) 119 12 3) 119 10 = w 119 10 := (ux_ne (by decide)).trans (ux_ne (by decide))
                        have hx11 : (upd2 (upd2 w 119 11 (w 119 10)) 119 12 3) 119 11 = tS f L (v 119 10) := (ux_ne (by decide)).trans ((ux_at rfl).trans hsc2)
                        refine E.goto C dX9_next_240 (tgt := 274) (by decide) ?_
                        exact N.vret C hR dX9_next_274 (fun hi => by first | exact ⟨(hF.up (by decide)).up (by decide), Or.inr ⟨by omega, Lok_end (by rw [← hsc2]; omega) ((ux_ne (by decide)).trans ((ux_ne (by decide)).trans hw14)) (ux_at rfl) ((ux_ne (by decide)).trans ((ux_at rfl).trans hsc2)) ((ux_ne (by decide)).trans ((ux_ne (by decide)).trans hsc2))⟩⟩ | exact ⟨hG, Or.inr ⟨by omega, Lok_name (by rw [← hsc2]; omega) (by rw [← hsc2]; omega) hu14 hu12 hu11 (by rw [← hsu, scn_no (by omega)])⟩⟩ | exact ⟨hG.tr hF237, Or.inr ⟨by omega, Lok_num (by rw [← hsc2]; omega) (by rw [← hsc2]; omega) (by rw [← hsu, scn_no (by omega)]) hu12 hu11 hu14 hval (by omega) hp237⟩⟩ | exact ⟨(((hF.up (by decide)).up (by decide)).tr hF261).up (by decide), Or.inr ⟨by omega, Lok_stop (by rw [← hsc2]; omega) (by rw [← hsc2]; omega) ((ux_ne (by decide)).trans (by omega)) ((ux_ne (by decide)).trans (e12_261.trans (ux_at rfl))) ((ux_ne (by decide)).trans (e11_261.trans ((ux_ne (by decide)).trans ((ux_at rfl).trans hsc2)))) ((ux_at rfl).trans (by omega))⟩⟩ | exact ⟨(((hF.up (by decide)).up (by decide)).tr hF261).up (by decide), Or.inr ⟨by omega, Lok_bad (by rw [← hsc2]; omega) (by rw [← hsc2]; omega) (by rw [← hsc2]; omega) (by rw [← hsc2]; omega) ((ux_ne (by decide)).trans (by omega)) ((ux_ne (by decide)).trans (by omega))⟩⟩)
                    · have h158 := b0n.mp h158
                      refine E.aload_n C dX9_next_161 rfl rfl ?_
                      refine E.aload_n C dX9_next_162 rfl rfl ?_
                      refine N.getI C fa_X9_106 rfl dX9_next_163 kd_119 (x := u 119 10) rfl ?_
                      refine E.aload_n C dX9_next_166 rfl rfl ?_
                      refine N.getI C fa_X9_100 rfl dX9_next_167 kd_119 (x := u 119 11) rfl ?_
                      refine E.isub C dX9_next_170 (by omega) ?_
                      refine E.iconst C dX9_next_171 (by decide) ?_
                      refine E.icmp_ge C dX9_next_172 (tgt := 197) (by decide) (fun h172 => ?_) (fun h172 => ?_)
                      · skip
                        refine E.aload_n C dX9_next_197 rfl rfl ?_
                        refine N.getI C fa_X9_132 rfl dX9_next_198 kd_119 (x := u 119 13) rfl ?_
                        refine N.putI C fp_X9_132 rfl dX9_next_201 kd_119 ?_
                        refine E.aload_n C dX9_next_204 rfl rfl ?_
                        refine E.dupR C dX9_next_205 ?_
                        refine N.getI C fa_X9_106 rfl dX9_next_206 kd_119 (x := u 119 10) (upd2_ne _ _ _ _ _ _ (Or.inr (by decide))) ?_
                        refine E.iconst C dX9_next_209 (by decide) ?_
                        refine E.iadd C dX9_next_210 (by omega) ?_
                        refine N.putI C fp_X9_106 rfl dX9_next_211 kd_119 ?_
                        refine E.goto C dX9_next_214 (tgt := 140) (by decide) ?_
                        exact ih140 _ (by rw [ux_at rfl]; omega) (upd2 (upd2 u 119 13 (u 119 13)) 119 10 ((u 119 10) + 1)) rfl (by exact ⟨(hG.up (by decide)).up (by decide), (ux_ne (by decide)).trans ((ux_ne (by decide)).trans hu14), (ux_ne (by decide)).trans ((ux_ne (by decide)).trans hu12), (ux_ne (by decide)).trans ((ux_ne (by decide)).trans hu11), by rw [ux_at rfl]; omega, by rw [ux_at rfl]; omega, by rw [ux_at rfl]; omega, by rw [ux_at rfl, ← scn_yes (by omega) (by omega)]; exact hsu, by rw [ux_at rfl, ux_ne (by decide), ux_at rfl]; exact hval.next hus (by omega) (by omega)⟩)
                      · skip
                        refine E.bipush C dX9_next_175 (by decide) ?_
                        refine E.aload_n C dX9_next_177 rfl rfl ?_
                        refine N.getI C fa_X9_132 rfl dX9_next_178 kd_119 (x := u 119 13) rfl ?_
                        refine E.imul C dX9_next_181 (by omega) ?_
                        refine E.aload_n C dX9_next_182 rfl rfl ?_
                        refine E.aload_n C dX9_next_183 rfl rfl ?_
                        refine N.getI C fa_X9_106 rfl dX9_next_184 kd_119 (x := u 119 10) rfl ?_
                        refine N.callVp (S := [vi (10 * (u 119 13)), vr 119]) (As := [vi (u 119 10)]) C hX (ok_lok (f := f) (L := L) G (u 119 10) u (by repeat (first | assumption | refine TapM.up (by decide) ?_)) (by omega)) yf_X9_look yv_X9_look ml_X9_109 rfl rfl rfl kd_119 (by decide) (by decide) (Nat.le_of_ble_eq_true rfl) dX9_next_187 rfl ?_
                        refine E.iadd C dX9_next_190 (by omega) ?_
                        refine E.bipush C dX9_next_191 (by decide) ?_
                        refine E.isub C dX9_next_193 (by omega) ?_
                        refine E.goto C dX9_next_194 (tgt := 201) (by decide) ?_
                        refine N.putI C fp_X9_132 rfl dX9_next_201 kd_119 ?_
                        refine E.aload_n C dX9_next_204 rfl rfl ?_
                        refine E.dupR C dX9_next_205 ?_
                        refine N.getI C fa_X9_106 rfl dX9_next_206 kd_119 (x := u 119 10) (upd2_ne _ _ _ _ _ _ (Or.inr (by decide))) ?_
                        refine E.iconst C dX9_next_209 (by decide) ?_
                        refine E.iadd C dX9_next_210 (by omega) ?_
                        refine N.putI C fp_X9_106 rfl dX9_next_211 kd_119 ?_
                        refine E.goto C dX9_next_214 (tgt := 140) (by decide) ?_
                        exact ih140 _ (by rw [ux_at rfl]; omega) (upd2 (upd2 u 119 13 (((10 * (u 119 13)) + (byF f L (u 119 10))) - 48)) 119 10 ((u 119 10) + 1)) rfl (by exact ⟨(hG.up (by decide)).up (by decide), (ux_ne (by decide)).trans ((ux_ne (by decide)).trans hu14), (ux_ne (by decide)).trans ((ux_ne (by decide)).trans hu12), (ux_ne (by decide)).trans ((ux_ne (by decide)).trans hu11), by rw [ux_at rfl]; omega, by rw [ux_at rfl]; omega, by rw [ux_at rfl]; omega, by rw [ux_at rfl, ← scn_yes (by omega) (by omega)]; exact hsu, by rw [ux_at rfl, ux_ne (by decide), ux_at rfl]; exact hval.next hus (by omega) (by omega)⟩)
                exact lp140 _ (upd2 (upd2 (upd2 w 119 11 (w 119 10)) 119 12 2) 119 13 0) rfl (by have e2 : (upd2 (upd2 (upd2 w 119 11 (w 119 10)) 119 12 2) 119 13 0) 119 10 = w 119 10 := (ux_ne (by decide)).trans ((ux_ne (by decide)).trans (ux_ne (by decide))); exact ⟨((hF.up (by decide)).up (by decide)).up (by decide), (ux_ne (by decide)).trans ((ux_ne (by decide)).trans ((ux_ne (by decide)).trans hw14)), (ux_ne (by decide)).trans (ux_at rfl), (ux_ne (by decide)).trans ((ux_ne (by decide)).trans ((ux_at rfl).trans hsc2)), by rw [e2]; omega, by rw [e2]; omega, by rw [e2]; omega, by rw [e2, hsc2], by rw [e2, ux_at rfl]; exact ⟨by omega, fun _ => rfl, fun g => by omega, fun g => by omega, fun g => by omega⟩⟩)
            · have h74 := b0n.mp h74
              refine E.aload_n C dX9_next_77 rfl rfl ?_
              refine E.iconst C dX9_next_78 (by decide) ?_
              refine N.putI C fp_X9_121 rfl dX9_next_79 kd_119 ?_
              have lp82 : ∀ (k82 : Nat) (u : VT), (L - u 119 10).toNat = k82 → (FrM v u ∧ u 119 14 = 0 ∧ u 119 12 = 1 ∧ u 119 11 = tS f L (v 119 10) ∧ 0 ≤ u 119 10 ∧ u 119 10 ≤ L ∧ scn 97 122 f L (u 119 10) = scn 97 122 f L (tS f L (v 119 10))) → E X G 0 0 1000 u 82 [some (vr 119), some (vi (byF f L (w 119 10)))] [] := by
                intro k82
                induction k82 using Nat.strongRecOn with
                | ind k82 ih82 =>
                  intro u hk82 hI82
                  obtain ⟨hG, hu14, hu12, hu11, hu0, hu1, hsu⟩ := hI82
                  have hTu := hT.fm hG
                  refine E.aload_n C dX9_next_82 rfl rfl ?_
                  refine E.aload_n C dX9_next_83 rfl rfl ?_
                  refine N.getI C fa_X9_106 rfl dX9_next_84 kd_119 (x := u 119 10) rfl ?_
                  refine N.callVp (S := []) (As := [vi (u 119 10)]) C hX (ok_lok (f := f) (L := L) G (u 119 10) u (by repeat (first | assumption | refine TapM.up (by decide) ?_)) (by omega)) yf_X9_look yv_X9_look ml_X9_109 rfl rfl rfl kd_119 (by decide) (by decide) (Nat.le_of_ble_eq_true rfl) dX9_next_87 rfl ?_
                  refine E.i2l C dX9_next_90 ?_
                  refine E.ldc2 C ct_X9_124 (x := 97) (by decide) dX9_next_91 ?_
                  refine E.ldc2 C ct_X9_126 (x := 122) (by decide) dX9_next_94 ?_
                  refine N.callSp (S := []) (As := [vl (byF f L (u 119 10)), vl 97, vl 122]) C hX (ok_X9_in G (byF f L (u 119 10)) 97 122 u) yf_X9_in yv_X9_in ml_X9_93 rfl (by decide) (Nat.le_of_ble_eq_true rfl) dX9_next_97 rfl ?_
                  have hc100 := byF_in (f := f) (L := L) (p := u 119 10) (a := 97) (b := 122) (by decide)
                  refine E.if_eq C dX9_next_100 (tgt := 274) (by decide) (fun h100 => ?_) (fun h100 => ?_)
                  · have h100 := b0.mp h100
                    exact N.vret C hR dX9_next_274 (fun hi => by first | exact ⟨(hF.up (by decide)).up (by decide), Or.inr ⟨by omega, Lok_end (by rw [← hsc2]; omega) ((ux_ne (by decide)).trans ((ux_ne (by decide)).trans hw14)) (ux_at rfl) ((ux_ne (by decide)).trans ((ux_at rfl).trans hsc2)) ((ux_ne (by decide)).trans ((ux_ne (by decide)).trans hsc2))⟩⟩ | exact ⟨hG, Or.inr ⟨by omega, Lok_name (by rw [← hsc2]; omega) (by rw [← hsc2]; omega) hu14 hu12 hu11 (by rw [← hsu, scn_no (by omega)])⟩⟩ | exact ⟨hG.tr hF237, Or.inr ⟨by omega, Lok_num (by rw [← hsc2]; omega) (by rw [← hsc2]; omega) (by rw [← hsu, scn_no (by omega)]) hu12 hu11 hu14 hval (by omega) hp237⟩⟩ | exact ⟨(((hF.up (by decide)).up (by decide)).tr hF261).up (by decide), Or.inr ⟨by omega, Lok_stop (by rw [← hsc2]; omega) (by rw [← hsc2]; omega) ((ux_ne (by decide)).trans (by omega)) ((ux_ne (by decide)).trans (e12_261.trans (ux_at rfl))) ((ux_ne (by decide)).trans (e11_261.trans ((ux_ne (by decide)).trans ((ux_at rfl).trans hsc2)))) ((ux_at rfl).trans (by omega))⟩⟩ | exact ⟨(((hF.up (by decide)).up (by decide)).tr hF261).up (by decide), Or.inr ⟨by omega, Lok_bad (by rw [← hsc2]; omega) (by rw [← hsc2]; omega) (by rw [← hsc2]; omega) (by rw [← hsc2]; omega) ((ux_ne (by decide)).trans (by omega)) ((ux_ne (by decide)).trans (by omega))⟩⟩)
                  · have h100 := b0n.mp h100
                    refine E.aload_n C dX9_next_103 rfl rfl ?_
                    refine E.dupR C dX9_next_104 ?_
                    refine N.getI C fa_X9_106 rfl dX9_next_105 kd_119 (x := u 119 10) rfl ?_
                    refine E.iconst C dX9_next_108 (by decide) ?_
                    refine E.iadd C dX9_next_109 (by omega) ?_
                    refine N.putI C fp_X9_106 rfl dX9_next_110 kd_119 ?_
                    refine E.goto C dX9_next_113 (tgt := 82) (by decide) ?_
                    exact ih82 _ (by rw [ux_at rfl]; omega) (upd2 u 119 10 ((u 119 10) + 1)) rfl (by exact ⟨hG.up (by decide), (ux_ne (by decide)).trans hu14, (ux_ne (by decide)).trans hu12, (ux_ne (by decide)).trans hu11, by rw [ux_at rfl]; omega, by rw [ux_at rfl]; omega, by rw [ux_at rfl, ← scn_yes (by omega) (by omega)]; exact hsu⟩)
              exact lp82 _ (upd2 (upd2 w 119 11 (w 119 10)) 119 12 1) rfl (by have e2 : (upd2 (upd2 w 119 11 (w 119 10)) 119 12 1) 119 10 = w 119 10 := (ux_ne (by decide)).trans (ux_ne (by decide)); exact ⟨(hF.up (by decide)).up (by decide), (ux_ne (by decide)).trans ((ux_ne (by decide)).trans hw14), ux_at rfl, (ux_ne (by decide)).trans ((ux_at rfl).trans hsc2), by rw [e2]; omega, by rw [e2]; omega, by rw [e2, hsc2]⟩)
          · skip
            refine E.aload_n C dX9_next_55 rfl rfl ?_
            refine E.iconst C dX9_next_56 (by decide) ?_
            refine N.putI C fp_X9_121 rfl dX9_next_57 kd_119 ?_
            refine E.goto C dX9_next_60 (tgt := 274) (by decide) ?_
            exact N.vret C hR dX9_next_274 (fun hi => by first | exact ⟨(hF.up (by decide)).up (by decide), Or.inr ⟨by omega, Lok_end (by rw [← hsc2]; omega) ((ux_ne (by decide)).trans ((ux_ne (by decide)).trans hw14)) (ux_at rfl) ((ux_ne (by decide)).trans ((ux_at rfl).trans hsc2)) ((ux_ne (by decide)).trans ((ux_ne (by decide)).trans hsc2))⟩⟩ | exact ⟨hG, Or.inr ⟨by omega, Lok_name (by rw [← hsc2]; omega) (by rw [← hsc2]; omega) hu14 hu12 hu11 (by rw [← hsu, scn_no (by omega)])⟩⟩ | exact ⟨hG.tr hF237, Or.inr ⟨by omega, Lok_num (by rw [← hsc2]; omega) (by rw [← hsc2]; omega) (by rw [← hsu, scn_no (by omega)]) hu12 hu11 hu14 hval (by omega) hp237⟩⟩ | exact ⟨(((hF.up (by decide)).up (by decide)).tr hF261).up (by decide), Or.inr ⟨by omega, Lok_stop (by rw [← hsc2]; omega) (by rw [← hsc2]; omega) ((ux_ne (by decide)).trans (by omega)) ((ux_ne (by decide)).trans (e12_261.trans (ux_at rfl))) ((ux_ne (by decide)).trans (e11_261.trans ((ux_ne (by decide)).trans ((ux_at rfl).trans hsc2)))) ((ux_at rfl).trans (by omega))⟩⟩ | exact ⟨(((hF.up (by decide)).up (by decide)).tr hF261).up (by decide), Or.inr ⟨by omega, Lok_bad (by rw [← hsc2]; omega) (by rw [← hsc2]; omega) (by rw [← hsc2]; omega) (by rw [← hsc2]; omega) ((ux_ne (by decide)).trans (by omega)) ((ux_ne (by decide)).trans (by omega))⟩⟩)
        · skip
          refine E.aload_n C dX9_next_21 rfl rfl ?_
          refine E.dupR C dX9_next_22 ?_
          refine N.getI C fa_X9_106 rfl dX9_next_23 kd_119 (x := w 119 10) rfl ?_
          refine E.iconst C dX9_next_26 (by decide) ?_
          refine E.iadd C dX9_next_27 (by omega) ?_
          refine N.putI C fp_X9_106 rfl dX9_next_28 kd_119 ?_
          refine E.goto C dX9_next_31 (tgt := 8) (by decide) ?_
          exact ih8 _ (by rw [ux_at rfl]; omega) (upd2 w 119 10 ((w 119 10) + 1)) rfl (by exact ⟨hF.up (by decide), (ux_ne (by decide)).trans hw14, by rw [ux_at rfl]; omega, by rw [ux_at rfl]; omega, by rw [ux_at rfl, ← scn_yes (by omega) (by omega)]; exact hsc⟩)
    exact lp8 _ v rfl (by exact ⟨FrM.rf, by omega, (hp (by omega)).1, (hp (by omega)).2, rfl⟩)
  · skip
    exact N.vret C hR dX9_next_7 (fun hi => by exact ⟨FrM.rf, Or.inl ⟨by omega, rfl, rfl⟩⟩)

set_option maxHeartbeats 4000000 in
set_option maxRecDepth 20000 in
theorem ok_X9_readNumber (G : GT) (f : Int → Int) (L : Int) (F : Int × Int) (q lo hi : Int) (v : VT) (hT : TapM f L v) (hM : MSt f L v F q) : MNi G yX9_readNumber cX9_readNumber 4 (some .int) 2 46 [vr 119, vi lo, vi hi] v (fun x w => FrM v w ∧ MSt f L w (orF F (nP f L q lo hi)) (tE f L q) ∧ (((orF F (nP f L q lo hi)).1 = 0 ∧ x = tV f L q ∧ lo ≤ x ∧ x ≤ hi ∧ tK f L q = 2) ∨ (¬ (orF F (nP f L q lo hi)).1 = 0 ∧ x = 0))) := by
  refine MN.of pn_X9_readNumber [some (vr 119), some (vi lo), some (vi hi), none] 1 rfl rfl (fun X C hX hn hR => ?_)
  have hN : ∀ i : Nat, i < 4 → i < xn X := fun i h => by rw [hn]; exact h
  refine E.rngk (fun hinv => ?_)
  refine E.loc (fun hloc => ?_)
  have hin_1 : in32 lo := hloc _ (List.mem_of_getElem? (i := 1) rfl)
  have hin_2 : in32 hi := hloc _ (List.mem_of_getElem? (i := 2) rfl)
  have hTL := hT.2.1
  obtain ⟨hnn, hnp⟩ := hM.nn
  have hM2 := hM.2
  unfold LokQ at hM2
  have hNP := nP_c (f := f) (L := L) (q := q) (lo := lo) (hi := hi)
  have n2 : (nP f L q lo hi).2 = tS f L q := rfl
  have ho := orF_1 (F := F) (H := nP f L q lo hi)
  have hte : q ≤ tE f L q := tE_ge
  have htl : tE f L q ≤ L := tE_le hM.1.2
  have hq0 := hM.1
  refine E.aload_n C dX9_readNumber_0 rfl rfl ?_
  refine N.getI C fa_X9_97 rfl dX9_readNumber_1 kd_119 (x := v 119 14) rfl ?_
  refine E.if_ne C dX9_readNumber_4 (tgt := 25) (by decide) (fun h4 => ?_) (fun h4 => ?_)
  · skip
    refine E.aload_n C dX9_readNumber_25 rfl rfl ?_
    refine N.getI C fa_X9_97 rfl dX9_readNumber_26 kd_119 (x := v 119 14) rfl ?_
    refine E.if_ne C dX9_readNumber_29 (tgt := 49) (by decide) (fun h29 => ?_) (fun h29 => ?_)
    · skip
      refine E.aload_n C dX9_readNumber_49 rfl rfl ?_
      refine N.getI C fa_X9_97 rfl dX9_readNumber_50 kd_119 (x := v 119 14) rfl ?_
      refine E.if_ne C dX9_readNumber_53 (tgt := 63) (by decide) (fun h53 => ?_) (fun h53 => ?_)
      · skip
        refine E.iconst C dX9_readNumber_63 (by decide) ?_
        refine N.ist_3 C dX9_readNumber_64 (hN 3 (by decide)) rfl ?_
        refine E.aload_n C dX9_readNumber_65 rfl rfl ?_
        refine N.callVv (S := []) (As := []) C hX (ok_X9_next G f L v (by repeat (first | assumption | refine TapM.up (by decide) ?_)) (by omega) (fun z => by omega)) yf_X9_next yv_X9_next ml_X9_139 rfl rfl rfl kd_119 (by decide) (by decide) (Nat.le_of_ble_eq_true rfl) dX9_readNumber_66 rfl (fun w66 hp66 => ?_)
        refine E.iload_n C dX9_readNumber_69 rfl rfl ?_
        exact N.iret C hR dX9_readNumber_70 (fun hi hx => by refine ⟨?_, hM.step (fun z => by omega) (by omega) hp66, by omega⟩; first | exact hp66.1 | exact hF22.tr hp66.1 | exact hF46.tr hp66.1 | exact (hF22.tr hF46).tr hp66.1)
      · skip
        refine E.aload_n C dX9_readNumber_56 rfl rfl ?_
        refine N.getI C fa_X9_132 rfl dX9_readNumber_57 kd_119 (x := v 119 13) rfl ?_
        refine E.goto C dX9_readNumber_60 (tgt := 64) (by decide) ?_
        refine N.ist_3 C dX9_readNumber_64 (hN 3 (by decide)) rfl ?_
        refine E.aload_n C dX9_readNumber_65 rfl rfl ?_
        refine N.callVv (S := []) (As := []) C hX (ok_X9_next G f L v (by repeat (first | assumption | refine TapM.up (by decide) ?_)) (by omega) (fun z => by omega)) yf_X9_next yv_X9_next ml_X9_139 rfl rfl rfl kd_119 (by decide) (by decide) (Nat.le_of_ble_eq_true rfl) dX9_readNumber_66 rfl (fun w66 hp66 => ?_)
        refine E.iload_n C dX9_readNumber_69 rfl rfl ?_
        exact N.iret C hR dX9_readNumber_70 (fun hi hx => by refine ⟨?_, hM.step (fun z => by omega) (by omega) hp66, by omega⟩; first | exact hp66.1 | exact hF22.tr hp66.1 | exact hF46.tr hp66.1 | exact (hF22.tr hF46).tr hp66.1)
    · skip
      refine E.aload_n C dX9_readNumber_32 rfl rfl ?_
      refine E.aload_n C dX9_readNumber_33 rfl rfl ?_
      refine N.getI C fa_X9_132 rfl dX9_readNumber_34 kd_119 (x := v 119 13) rfl ?_
      refine E.i2l C dX9_readNumber_37 ?_
      refine E.iload_n C dX9_readNumber_38 rfl rfl ?_
      refine E.i2l C dX9_readNumber_39 ?_
      refine E.iload_n C dX9_readNumber_40 rfl rfl ?_
      refine E.i2l C dX9_readNumber_41 ?_
      refine N.callSp (S := [vr 119]) (As := [vl (v 119 13), vl lo, vl hi]) C hX (ok_X9_in G (v 119 13) lo hi v) yf_X9_in yv_X9_in ml_X9_93 rfl (by decide) (Nat.le_of_ble_eq_true rfl) dX9_readNumber_42 rfl ?_
      refine E.iconst C dX9_readNumber_45 (by decide) ?_
      refine N.callVv (S := []) (As := [vi (if lo ≤ (v 119 13) ∧ (v 119 13) ≤ hi then 1 else 0), vi 3]) C hX (ok_X9_needs G (if lo ≤ (v 119 13) ∧ (v 119 13) ≤ hi then 1 else 0) 3 v (by first | omega | exact bdec)) yf_X9_needs yv_X9_needs ml_X9_135 rfl rfl rfl kd_119 (by decide) (by decide) (Nat.le_of_ble_eq_true rfl) dX9_readNumber_46 rfl (fun w46 hp46 => ?_)
      have hF46 := (hp46).fm
      have e10_46 := (hp46).1 119 10 (by decide)
      have e11_46 := (hp46).1 119 11 (by decide)
      have e12_46 := (hp46).1 119 12 (by decide)
      have e13_46 := (hp46).1 119 13 (by decide)
      have hd46 := (hp46).2
      have hT46 : TapM f L w46 := by first | exact hT22.fm hF46 | exact hT.fm hF46
      refine E.aload_n C dX9_readNumber_49 rfl rfl ?_
      refine N.getI C fa_X9_97 rfl dX9_readNumber_50 kd_119 (x := w46 119 14) rfl ?_
      refine E.if_ne C dX9_readNumber_53 (tgt := 63) (by decide) (fun h53 => ?_) (fun h53 => ?_)
      · skip
        refine E.iconst C dX9_readNumber_63 (by decide) ?_
        refine N.ist_3 C dX9_readNumber_64 (hN 3 (by decide)) rfl ?_
        refine E.aload_n C dX9_readNumber_65 rfl rfl ?_
        refine N.callVv (S := []) (As := []) C hX (ok_X9_next G f L w46 (by repeat (first | assumption | refine TapM.up (by decide) ?_)) (by omega) (fun z => by omega)) yf_X9_next yv_X9_next ml_X9_139 rfl rfl rfl kd_119 (by decide) (by decide) (Nat.le_of_ble_eq_true rfl) dX9_readNumber_66 rfl (fun w66 hp66 => ?_)
        refine E.iload_n C dX9_readNumber_69 rfl rfl ?_
        exact N.iret C hR dX9_readNumber_70 (fun hi hx => by refine ⟨?_, hM.step (fun z => by omega) (by omega) hp66, by omega⟩; first | exact hp66.1 | exact hF22.tr hp66.1 | exact hF46.tr hp66.1 | exact (hF22.tr hF46).tr hp66.1)
      · skip
        refine E.aload_n C dX9_readNumber_56 rfl rfl ?_
        refine N.getI C fa_X9_132 rfl dX9_readNumber_57 kd_119 (x := w46 119 13) rfl ?_
        refine E.goto C dX9_readNumber_60 (tgt := 64) (by decide) ?_
        refine N.ist_3 C dX9_readNumber_64 (hN 3 (by decide)) rfl ?_
        refine E.aload_n C dX9_readNumber_65 rfl rfl ?_
        refine N.callVv (S := []) (As := []) C hX (ok_X9_next G f L w46 (by repeat (first | assumption | refine TapM.up (by decide) ?_)) (by omega) (fun z => by omega)) yf_X9_next yv_X9_next ml_X9_139 rfl rfl rfl kd_119 (by decide) (by decide) (Nat.le_of_ble_eq_true rfl) dX9_readNumber_66 rfl (fun w66 hp66 => ?_)
        refine E.iload_n C dX9_readNumber_69 rfl rfl ?_
        exact N.iret C hR dX9_readNumber_70 (fun hi hx => by refine ⟨?_, hM.step (fun z => by omega) (by omega) hp66, by omega⟩; first | exact hp66.1 | exact hF22.tr hp66.1 | exact hF46.tr hp66.1 | exact (hF22.tr hF46).tr hp66.1)
  · skip
    refine E.aload_n C dX9_readNumber_7 rfl rfl ?_
    refine E.aload_n C dX9_readNumber_8 rfl rfl ?_
    refine N.getI C fa_X9_121 rfl dX9_readNumber_9 kd_119 (x := v 119 12) rfl ?_
    refine E.iconst C dX9_readNumber_12 (by decide) ?_
    refine E.icmp_ne C dX9_readNumber_13 (tgt := 20) (by decide) (fun h13 => ?_) (fun h13 => ?_)
    · skip
      refine E.iconst C dX9_readNumber_20 (by decide) ?_
      refine E.iconst C dX9_readNumber_21 (by decide) ?_
      refine N.callVv (S := []) (As := [vi 0, vi 2]) C hX (ok_X9_needs G 0 2 v (by first | omega | exact bdec)) yf_X9_needs yv_X9_needs ml_X9_135 rfl rfl rfl kd_119 (by decide) (by decide) (Nat.le_of_ble_eq_true rfl) dX9_readNumber_22 rfl (fun w22 hp22 => ?_)
      have hF22 := (hp22).fm
      have e10_22 := (hp22).1 119 10 (by decide)
      have e11_22 := (hp22).1 119 11 (by decide)
      have e12_22 := (hp22).1 119 12 (by decide)
      have e13_22 := (hp22).1 119 13 (by decide)
      have hd22 := (hp22).2
      have hT22 := hT.fm hF22
      refine E.aload_n C dX9_readNumber_25 rfl rfl ?_
      refine N.getI C fa_X9_97 rfl dX9_readNumber_26 kd_119 (x := w22 119 14) rfl ?_
      refine E.if_ne C dX9_readNumber_29 (tgt := 49) (by decide) (fun h29 => ?_) (fun h29 => ?_)
      · skip
        refine E.aload_n C dX9_readNumber_49 rfl rfl ?_
        refine N.getI C fa_X9_97 rfl dX9_readNumber_50 kd_119 (x := w22 119 14) rfl ?_
        refine E.if_ne C dX9_readNumber_53 (tgt := 63) (by decide) (fun h53 => ?_) (fun h53 => ?_)
        · skip
          refine E.iconst C dX9_readNumber_63 (by decide) ?_
          refine N.ist_3 C dX9_readNumber_64 (hN 3 (by decide)) rfl ?_
          refine E.aload_n C dX9_readNumber_65 rfl rfl ?_
          refine N.callVv (S := []) (As := []) C hX (ok_X9_next G f L w22 (by repeat (first | assumption | refine TapM.up (by decide) ?_)) (by omega) (fun z => by omega)) yf_X9_next yv_X9_next ml_X9_139 rfl rfl rfl kd_119 (by decide) (by decide) (Nat.le_of_ble_eq_true rfl) dX9_readNumber_66 rfl (fun w66 hp66 => ?_)
          refine E.iload_n C dX9_readNumber_69 rfl rfl ?_
          exact N.iret C hR dX9_readNumber_70 (fun hi hx => by refine ⟨?_, hM.step (fun z => by omega) (by omega) hp66, by omega⟩; first | exact hp66.1 | exact hF22.tr hp66.1 | exact hF46.tr hp66.1 | exact (hF22.tr hF46).tr hp66.1)
        · skip
          refine E.aload_n C dX9_readNumber_56 rfl rfl ?_
          refine N.getI C fa_X9_132 rfl dX9_readNumber_57 kd_119 (x := w22 119 13) rfl ?_
          refine E.goto C dX9_readNumber_60 (tgt := 64) (by decide) ?_
          refine N.ist_3 C dX9_readNumber_64 (hN 3 (by decide)) rfl ?_
          refine E.aload_n C dX9_readNumber_65 rfl rfl ?_
          refine N.callVv (S := []) (As := []) C hX (ok_X9_next G f L w22 (by repeat (first | assumption | refine TapM.up (by decide) ?_)) (by omega) (fun z => by omega)) yf_X9_next yv_X9_next ml_X9_139 rfl rfl rfl kd_119 (by decide) (by decide) (Nat.le_of_ble_eq_true rfl) dX9_readNumber_66 rfl (fun w66 hp66 => ?_)
          refine E.iload_n C dX9_readNumber_69 rfl rfl ?_
          exact N.iret C hR dX9_readNumber_70 (fun hi hx => by refine ⟨?_, hM.step (fun z => by omega) (by omega) hp66, by omega⟩; first | exact hp66.1 | exact hF22.tr hp66.1 | exact hF46.tr hp66.1 | exact (hF22.tr hF46).tr hp66.1)
      · skip
        refine E.aload_n C dX9_readNumber_32 rfl rfl ?_
        refine E.aload_n C dX9_readNumber_33 rfl rfl ?_
        refine N.getI C fa_X9_132 rfl dX9_readNumber_34 kd_119 (x := w22 119 13) rfl ?_
        refine E.i2l C dX9_readNumber_37 ?_
        refine E.iload_n C dX9_readNumber_38 rfl rfl ?_
        refine E.i2l C dX9_readNumber_39 ?_
        refine E.iload_n C dX9_readNumber_40 rfl rfl ?_
        refine E.i2l C dX9_readNumber_41 ?_
        refine N.callSp (S := [vr 119]) (As := [vl (w22 119 13), vl lo, vl hi]) C hX (ok_X9_in G (w22 119 13) lo hi w22) yf_X9_in yv_X9_in ml_X9_93 rfl (by decide) (Nat.le_of_ble_eq_true rfl) dX9_readNumber_42 rfl ?_
        refine E.iconst C dX9_readNumber_45 (by decide) ?_
        refine N.callVv (S := []) (As := [vi (if lo ≤ (w22 119 13) ∧ (w22 119 13) ≤ hi then 1 else 0), vi 3]) C hX (ok_X9_needs G (if lo ≤ (w22 119 13) ∧ (w22 119 13) ≤ hi then 1 else 0) 3 w22 (by first | omega | exact bdec)) yf_X9_needs yv_X9_needs ml_X9_135 rfl rfl rfl kd_119 (by decide) (by decide) (Nat.le_of_ble_eq_true rfl) dX9_readNumber_46 rfl (fun w46 hp46 => ?_)
        have hF46 := (hp46).fm
        have e10_46 := (hp46).1 119 10 (by decide)
        have e11_46 := (hp46).1 119 11 (by decide)
        have e12_46 := (hp46).1 119 12 (by decide)
        have e13_46 := (hp46).1 119 13 (by decide)
        have hd46 := (hp46).2
        have hT46 : TapM f L w46 := by first | exact hT22.fm hF46 | exact hT.fm hF46
        refine E.aload_n C dX9_readNumber_49 rfl rfl ?_
        refine N.getI C fa_X9_97 rfl dX9_readNumber_50 kd_119 (x := w46 119 14) rfl ?_
        refine E.if_ne C dX9_readNumber_53 (tgt := 63) (by decide) (fun h53 => ?_) (fun h53 => ?_)
        · skip
          refine E.iconst C dX9_readNumber_63 (by decide) ?_
          refine N.ist_3 C dX9_readNumber_64 (hN 3 (by decide)) rfl ?_
          refine E.aload_n C dX9_readNumber_65 rfl rfl ?_
          refine N.callVv (S := []) (As := []) C hX (ok_X9_next G f L w46 (by repeat (first | assumption | refine TapM.up (by decide) ?_)) (by omega) (fun z => by omega)) yf_X9_next yv_X9_next ml_X9_139 rfl rfl rfl kd_119 (by decide) (by decide) (Nat.le_of_ble_eq_true rfl) dX9_readNumber_66 rfl (fun w66 hp66 => ?_)
          refine E.iload_n C dX9_readNumber_69 rfl rfl ?_
          exact N.iret C hR dX9_readNumber_70 (fun hi hx => by refine ⟨?_, hM.step (fun z => by omega) (by omega) hp66, by omega⟩; first | exact hp66.1 | exact hF22.tr hp66.1 | exact hF46.tr hp66.1 | exact (hF22.tr hF46).tr hp66.1)
        · skip
          refine E.aload_n C dX9_readNumber_56 rfl rfl ?_
          refine N.getI C fa_X9_132 rfl dX9_readNumber_57 kd_119 (x := w46 119 13) rfl ?_
          refine E.goto C dX9_readNumber_60 (tgt := 64) (by decide) ?_
          refine N.ist_3 C dX9_readNumber_64 (hN 3 (by decide)) rfl ?_
          refine E.aload_n C dX9_readNumber_65 rfl rfl ?_
          refine N.callVv (S := []) (As := []) C hX (ok_X9_next G f L w46 (by repeat (first | assumption | refine TapM.up (by decide) ?_)) (by omega) (fun z => by omega)) yf_X9_next yv_X9_next ml_X9_139 rfl rfl rfl kd_119 (by decide) (by decide) (Nat.le_of_ble_eq_true rfl) dX9_readNumber_66 rfl (fun w66 hp66 => ?_)
          refine E.iload_n C dX9_readNumber_69 rfl rfl ?_
          exact N.iret C hR dX9_readNumber_70 (fun hi hx => by refine ⟨?_, hM.step (fun z => by omega) (by omega) hp66, by omega⟩; first | exact hp66.1 | exact hF22.tr hp66.1 | exact hF46.tr hp66.1 | exact (hF22.tr hF46).tr hp66.1)
    · skip
      refine E.iconst C dX9_readNumber_16 (by decide) ?_
      refine E.goto C dX9_readNumber_17 (tgt := 21) (by decide) ?_
      refine E.iconst C dX9_readNumber_21 (by decide) ?_
      refine N.callVv (S := []) (As := [vi 1, vi 2]) C hX (ok_X9_needs G 1 2 v (by first | omega | exact bdec)) yf_X9_needs yv_X9_needs ml_X9_135 rfl rfl rfl kd_119 (by decide) (by decide) (Nat.le_of_ble_eq_true rfl) dX9_readNumber_22 rfl (fun w22 hp22 => ?_)
      have hF22 := (hp22).fm
      have e10_22 := (hp22).1 119 10 (by decide)
      have e11_22 := (hp22).1 119 11 (by decide)
      have e12_22 := (hp22).1 119 12 (by decide)
      have e13_22 := (hp22).1 119 13 (by decide)
      have hd22 := (hp22).2
      have hT22 := hT.fm hF22
      refine E.aload_n C dX9_readNumber_25 rfl rfl ?_
      refine N.getI C fa_X9_97 rfl dX9_readNumber_26 kd_119 (x := w22 119 14) rfl ?_
      refine E.if_ne C dX9_readNumber_29 (tgt := 49) (by decide) (fun h29 => ?_) (fun h29 => ?_)
      · skip
        refine E.aload_n C dX9_readNumber_49 rfl rfl ?_
        refine N.getI C fa_X9_97 rfl dX9_readNumber_50 kd_119 (x := w22 119 14) rfl ?_
        refine E.if_ne C dX9_readNumber_53 (tgt := 63) (by decide) (fun h53 => ?_) (fun h53 => ?_)
        · skip
          refine E.iconst C dX9_readNumber_63 (by decide) ?_
          refine N.ist_3 C dX9_readNumber_64 (hN 3 (by decide)) rfl ?_
          refine E.aload_n C dX9_readNumber_65 rfl rfl ?_
          refine N.callVv (S := []) (As := []) C hX (ok_X9_next G f L w22 (by repeat (first | assumption | refine TapM.up (by decide) ?_)) (by omega) (fun z => by omega)) yf_X9_next yv_X9_next ml_X9_139 rfl rfl rfl kd_119 (by decide) (by decide) (Nat.le_of_ble_eq_true rfl) dX9_readNumber_66 rfl (fun w66 hp66 => ?_)
          refine E.iload_n C dX9_readNumber_69 rfl rfl ?_
          exact N.iret C hR dX9_readNumber_70 (fun hi hx => by refine ⟨?_, hM.step (fun z => by omega) (by omega) hp66, by omega⟩; first | exact hp66.1 | exact hF22.tr hp66.1 | exact hF46.tr hp66.1 | exact (hF22.tr hF46).tr hp66.1)
        · skip
          refine E.aload_n C dX9_readNumber_56 rfl rfl ?_
          refine N.getI C fa_X9_132 rfl dX9_readNumber_57 kd_119 (x := w22 119 13) rfl ?_
          refine E.goto C dX9_readNumber_60 (tgt := 64) (by decide) ?_
          refine N.ist_3 C dX9_readNumber_64 (hN 3 (by decide)) rfl ?_
          refine E.aload_n C dX9_readNumber_65 rfl rfl ?_
          refine N.callVv (S := []) (As := []) C hX (ok_X9_next G f L w22 (by repeat (first | assumption | refine TapM.up (by decide) ?_)) (by omega) (fun z => by omega)) yf_X9_next yv_X9_next ml_X9_139 rfl rfl rfl kd_119 (by decide) (by decide) (Nat.le_of_ble_eq_true rfl) dX9_readNumber_66 rfl (fun w66 hp66 => ?_)
          refine E.iload_n C dX9_readNumber_69 rfl rfl ?_
          exact N.iret C hR dX9_readNumber_70 (fun hi hx => by refine ⟨?_, hM.step (fun z => by omega) (by omega) hp66, by omega⟩; first | exact hp66.1 | exact hF22.tr hp66.1 | exact hF46.tr hp66.1 | exact (hF22.tr hF46).tr hp66.1)
      · skip
        refine E.aload_n C dX9_readNumber_32 rfl rfl ?_
        refine E.aload_n C dX9_readNumber_33 rfl rfl ?_
        refine N.getI C fa_X9_132 rfl dX9_readNumber_34 kd_119 (x := w22 119 13) rfl ?_
        refine E.i2l C dX9_readNumber_37 ?_
        refine E.iload_n C dX9_readNumber_38 rfl rfl ?_
        refine E.i2l C dX9_readNumber_39 ?_
        refine E.iload_n C dX9_readNumber_40 rfl rfl ?_
        refine E.i2l C dX9_readNumber_41 ?_
        refine N.callSp (S := [vr 119]) (As := [vl (w22 119 13), vl lo, vl hi]) C hX (ok_X9_in G (w22 119 13) lo hi w22) yf_X9_in yv_X9_in ml_X9_93 rfl (by decide) (Nat.le_of_ble_eq_true rfl) dX9_readNumber_42 rfl ?_
        refine E.iconst C dX9_readNumber_45 (by decide) ?_
        refine N.callVv (S := []) (As := [vi (if lo ≤ (w22 119 13) ∧ (w22 119 13) ≤ hi then 1 else 0), vi 3]) C hX (ok_X9_needs G (if lo ≤ (w22 119 13) ∧ (w22 119 13) ≤ hi then 1 else 0) 3 w22 (by first | omega | exact bdec)) yf_X9_needs yv_X9_needs ml_X9_135 rfl rfl rfl kd_119 (by decide) (by decide) (Nat.le_of_ble_eq_true rfl) dX9_readNumber_46 rfl (fun w46 hp46 => ?_)
        have hF46 := (hp46).fm
        have e10_46 := (hp46).1 119 10 (by decide)
        have e11_46 := (hp46).1 119 11 (by decide)
        have e12_46 := (hp46).1 119 12 (by decide)
        have e13_46 := (hp46).1 119 13 (by decide)
        have hd46 := (hp46).2
        have hT46 : TapM f L w46 := by first | exact hT22.fm hF46 | exact hT.fm hF46
        refine E.aload_n C dX9_readNumber_49 rfl rfl ?_
        refine N.getI C fa_X9_97 rfl dX9_readNumber_50 kd_119 (x := w46 119 14) rfl ?_
        refine E.if_ne C dX9_readNumber_53 (tgt := 63) (by decide) (fun h53 => ?_) (fun h53 => ?_)
        · skip
          refine E.iconst C dX9_readNumber_63 (by decide) ?_
          refine N.ist_3 C dX9_readNumber_64 (hN 3 (by decide)) rfl ?_
          refine E.aload_n C dX9_readNumber_65 rfl rfl ?_
          refine N.callVv (S := []) (As := []) C hX (ok_X9_next G f L w46 (by repeat (first | assumption | refine TapM.up (by decide) ?_)) (by omega) (fun z => by omega)) yf_X9_next yv_X9_next ml_X9_139 rfl rfl rfl kd_119 (by decide) (by decide) (Nat.le_of_ble_eq_true rfl) dX9_readNumber_66 rfl (fun w66 hp66 => ?_)
          refine E.iload_n C dX9_readNumber_69 rfl rfl ?_
          exact N.iret C hR dX9_readNumber_70 (fun hi hx => by refine ⟨?_, hM.step (fun z => by omega) (by omega) hp66, by omega⟩; first | exact hp66.1 | exact hF22.tr hp66.1 | exact hF46.tr hp66.1 | exact (hF22.tr hF46).tr hp66.1)
        · skip
          refine E.aload_n C dX9_readNumber_56 rfl rfl ?_
          refine N.getI C fa_X9_132 rfl dX9_readNumber_57 kd_119 (x := w46 119 13) rfl ?_
          refine E.goto C dX9_readNumber_60 (tgt := 64) (by decide) ?_
          refine N.ist_3 C dX9_readNumber_64 (hN 3 (by decide)) rfl ?_
          refine E.aload_n C dX9_readNumber_65 rfl rfl ?_
          refine N.callVv (S := []) (As := []) C hX (ok_X9_next G f L w46 (by repeat (first | assumption | refine TapM.up (by decide) ?_)) (by omega) (fun z => by omega)) yf_X9_next yv_X9_next ml_X9_139 rfl rfl rfl kd_119 (by decide) (by decide) (Nat.le_of_ble_eq_true rfl) dX9_readNumber_66 rfl (fun w66 hp66 => ?_)
          refine E.iload_n C dX9_readNumber_69 rfl rfl ?_
          exact N.iret C hR dX9_readNumber_70 (fun hi hx => by refine ⟨?_, hM.step (fun z => by omega) (by omega) hp66, by omega⟩; first | exact hp66.1 | exact hF22.tr hp66.1 | exact hF46.tr hp66.1 | exact (hF22.tr hF46).tr hp66.1)
