set_option maxHeartbeats 4000000 in
set_option maxRecDepth 20000 in
theorem ok_X8_within (G : GT) (a b c : Int) (v : VT) : MP G yX8_within cX8_within 3 (some .boolean) 0 0 [vi a, vi b, vi c] v (if b ≤ a ∧ a ≤ c then 1 else 0) := by
  refine MN.of pn_X8_within [some (vi a), some (vi b), some (vi c)] 0 rfl rfl (fun X C hX hn hR => ?_)
  have hN : ∀ i : Nat, i < 3 → i < xn X := fun i h => by rw [hn]; exact h
  refine E.rngk (fun hinv => ?_)
  refine E.loc (fun hloc => ?_)
  have hin_0 : in32 a := hloc _ (List.mem_of_getElem? (i := 0) rfl)
  have hin_1 : in32 b := hloc _ (List.mem_of_getElem? (i := 1) rfl)
  have hin_2 : in32 c := hloc _ (List.mem_of_getElem? (i := 2) rfl)
  refine E.iload_n C dX8_within_0 rfl rfl ?_
  refine E.iload_n C dX8_within_1 rfl rfl ?_
  refine E.icmp_lt C dX8_within_2 (tgt := 14) (by decide) (fun h2 => ?_) (fun h2 => ?_)
  · skip
    refine E.iconst C dX8_within_14 (by decide) ?_
    exact N.zret C hR dX8_within_15 (by omega) (fun hi => by refine ⟨?_, rfl⟩; (try split) <;> first | omega | rfl | simp_all)
  · skip
    refine E.iload_n C dX8_within_5 rfl rfl ?_
    refine E.iload_n C dX8_within_6 rfl rfl ?_
    refine E.icmp_gt C dX8_within_7 (tgt := 14) (by decide) (fun h7 => ?_) (fun h7 => ?_)
    · skip
      refine E.iconst C dX8_within_14 (by decide) ?_
      exact N.zret C hR dX8_within_15 (by omega) (fun hi => by refine ⟨?_, rfl⟩; (try split) <;> first | omega | rfl | simp_all)
    · skip
      refine E.iconst C dX8_within_10 (by decide) ?_
      refine E.goto C dX8_within_11 (tgt := 15) (by decide) ?_
      exact N.zret C hR dX8_within_15 (by omega) (fun hi => by refine ⟨?_, rfl⟩; (try split) <;> first | omega | rfl | simp_all)

set_option maxHeartbeats 4000000 in
set_option maxRecDepth 20000 in
theorem ok_X6_isWornOut (G : GT) (r : Int) (v : VT) (hs : kd r = 6) (hk : thOK v r) : MP G yX6_isWornOut cX6_isWornOut 2 (some .boolean) 0 0 [vr r] v (outI (v r 1) (v r 3) (v r 4)) := by
  refine MN.of pn_X6_isWornOut [some (vr r), none] 1 rfl rfl (fun X C hX hn hR => ?_)
  have hN : ∀ i : Nat, i < 2 → i < xn X := fun i h => by rw [hn]; exact h
  refine E.rngk (fun hinv => ?_)
  refine E.loc (fun hloc => ?_)
  obtain ⟨hk1, hk2, hk3, hk4⟩ := hk
  refine E.aload_n C dX6_isWornOut_0 rfl rfl ?_
  refine N.getI C fa_X6_15 rfl dX6_isWornOut_1 hs (x := v r 1) rfl ?_
  refine E.iconst C dX6_isWornOut_4 (by decide) ?_
  refine E.icmp_eq C dX6_isWornOut_5 (tgt := 16) (by decide) (fun h5 => ?_) (fun h5 => ?_)
  · skip
    refine E.iconst C dX6_isWornOut_16 (by decide) ?_
    refine E.goto C dX6_isWornOut_17 (tgt := 21) (by decide) ?_
    refine N.ist_1 C dX6_isWornOut_21 (hN 1 (by decide)) rfl ?_
    refine E.aload_n C dX6_isWornOut_22 rfl rfl ?_
    refine N.getI C fa_X6_24 rfl dX6_isWornOut_23 hs (x := v r 4) rfl ?_
    refine E.iload_n C dX6_isWornOut_26 rfl rfl ?_
    refine E.if_eq C dX6_isWornOut_27 (tgt := 39) (by decide) (fun h27 => ?_) (fun h27 => ?_)
    · skip
      refine E.aload_n C dX6_isWornOut_39 rfl rfl ?_
      refine N.getI C fa_X6_21 rfl dX6_isWornOut_40 hs (x := v r 3) rfl ?_
      refine E.icmp_lt C dX6_isWornOut_43 (tgt := 50) (by decide) (fun h43 => ?_) (fun h43 => ?_)
      · skip
        refine E.iconst C dX6_isWornOut_50 (by decide) ?_
        exact N.zret C hR dX6_isWornOut_51 (by omega) (fun hi => by refine ⟨?_, rfl⟩; unfold outI; (repeat' split) <;> omega)
      · skip
        refine E.iconst C dX6_isWornOut_46 (by decide) ?_
        refine E.goto C dX6_isWornOut_47 (tgt := 51) (by decide) ?_
        exact N.zret C hR dX6_isWornOut_51 (by omega) (fun hi => by refine ⟨?_, rfl⟩; unfold outI; (repeat' split) <;> omega)
    · skip
      refine E.iconst C dX6_isWornOut_30 (by decide) ?_
      refine E.aload_n C dX6_isWornOut_31 rfl rfl ?_
      refine N.getI C fa_X6_21 rfl dX6_isWornOut_32 hs (x := v r 3) rfl ?_
      refine E.imul C dX6_isWornOut_35 (by omega) ?_
      refine E.goto C dX6_isWornOut_36 (tgt := 43) (by decide) ?_
      refine E.icmp_lt C dX6_isWornOut_43 (tgt := 50) (by decide) (fun h43 => ?_) (fun h43 => ?_)
      · skip
        refine E.iconst C dX6_isWornOut_50 (by decide) ?_
        exact N.zret C hR dX6_isWornOut_51 (by omega) (fun hi => by refine ⟨?_, rfl⟩; unfold outI; (repeat' split) <;> omega)
      · skip
        refine E.iconst C dX6_isWornOut_46 (by decide) ?_
        refine E.goto C dX6_isWornOut_47 (tgt := 51) (by decide) ?_
        exact N.zret C hR dX6_isWornOut_51 (by omega) (fun hi => by refine ⟨?_, rfl⟩; unfold outI; (repeat' split) <;> omega)
  · skip
    refine E.aload_n C dX6_isWornOut_8 rfl rfl ?_
    refine N.getI C fa_X6_15 rfl dX6_isWornOut_9 hs (x := v r 1) rfl ?_
    refine E.iconst C dX6_isWornOut_12 (by decide) ?_
    refine E.icmp_ne C dX6_isWornOut_13 (tgt := 20) (by decide) (fun h13 => ?_) (fun h13 => ?_)
    · skip
      refine E.iconst C dX6_isWornOut_20 (by decide) ?_
      refine N.ist_1 C dX6_isWornOut_21 (hN 1 (by decide)) rfl ?_
      refine E.aload_n C dX6_isWornOut_22 rfl rfl ?_
      refine N.getI C fa_X6_24 rfl dX6_isWornOut_23 hs (x := v r 4) rfl ?_
      refine E.iload_n C dX6_isWornOut_26 rfl rfl ?_
      refine E.if_eq C dX6_isWornOut_27 (tgt := 39) (by decide) (fun h27 => ?_) (fun h27 => ?_)
      · skip
        refine E.aload_n C dX6_isWornOut_39 rfl rfl ?_
        refine N.getI C fa_X6_21 rfl dX6_isWornOut_40 hs (x := v r 3) rfl ?_
        refine E.icmp_lt C dX6_isWornOut_43 (tgt := 50) (by decide) (fun h43 => ?_) (fun h43 => ?_)
        · skip
          refine E.iconst C dX6_isWornOut_50 (by decide) ?_
          exact N.zret C hR dX6_isWornOut_51 (by omega) (fun hi => by refine ⟨?_, rfl⟩; unfold outI; (repeat' split) <;> omega)
        · skip
          refine E.iconst C dX6_isWornOut_46 (by decide) ?_
          refine E.goto C dX6_isWornOut_47 (tgt := 51) (by decide) ?_
          exact N.zret C hR dX6_isWornOut_51 (by omega) (fun hi => by refine ⟨?_, rfl⟩; unfold outI; (repeat' split) <;> omega)
      · skip
        refine E.iconst C dX6_isWornOut_30 (by decide) ?_
        refine E.aload_n C dX6_isWornOut_31 rfl rfl ?_
        refine N.getI C fa_X6_21 rfl dX6_isWornOut_32 hs (x := v r 3) rfl ?_
        refine E.imul C dX6_isWornOut_35 (by omega) ?_
        refine E.goto C dX6_isWornOut_36 (tgt := 43) (by decide) ?_
        refine E.icmp_lt C dX6_isWornOut_43 (tgt := 50) (by decide) (fun h43 => ?_) (fun h43 => ?_)
        · skip
          refine E.iconst C dX6_isWornOut_50 (by decide) ?_
          exact N.zret C hR dX6_isWornOut_51 (by omega) (fun hi => by refine ⟨?_, rfl⟩; unfold outI; (repeat' split) <;> omega)
        · skip
          refine E.iconst C dX6_isWornOut_46 (by decide) ?_
          refine E.goto C dX6_isWornOut_47 (tgt := 51) (by decide) ?_
          exact N.zret C hR dX6_isWornOut_51 (by omega) (fun hi => by refine ⟨?_, rfl⟩; unfold outI; (repeat' split) <;> omega)
    · skip
      refine E.iconst C dX6_isWornOut_16 (by decide) ?_
      refine E.goto C dX6_isWornOut_17 (tgt := 21) (by decide) ?_
      refine N.ist_1 C dX6_isWornOut_21 (hN 1 (by decide)) rfl ?_
      refine E.aload_n C dX6_isWornOut_22 rfl rfl ?_
      refine N.getI C fa_X6_24 rfl dX6_isWornOut_23 hs (x := v r 4) rfl ?_
      refine E.iload_n C dX6_isWornOut_26 rfl rfl ?_
      refine E.if_eq C dX6_isWornOut_27 (tgt := 39) (by decide) (fun h27 => ?_) (fun h27 => ?_)
      · skip
        refine E.aload_n C dX6_isWornOut_39 rfl rfl ?_
        refine N.getI C fa_X6_21 rfl dX6_isWornOut_40 hs (x := v r 3) rfl ?_
        refine E.icmp_lt C dX6_isWornOut_43 (tgt := 50) (by decide) (fun h43 => ?_) (fun h43 => ?_)
        · skip
          refine E.iconst C dX6_isWornOut_50 (by decide) ?_
          exact N.zret C hR dX6_isWornOut_51 (by omega) (fun hi => by refine ⟨?_, rfl⟩; unfold outI; (repeat' split) <;> omega)
        · skip
          refine E.iconst C dX6_isWornOut_46 (by decide) ?_
          refine E.goto C dX6_isWornOut_47 (tgt := 51) (by decide) ?_
          exact N.zret C hR dX6_isWornOut_51 (by omega) (fun hi => by refine ⟨?_, rfl⟩; unfold outI; (repeat' split) <;> omega)
      · skip
        refine E.iconst C dX6_isWornOut_30 (by decide) ?_
        refine E.aload_n C dX6_isWornOut_31 rfl rfl ?_
        refine N.getI C fa_X6_21 rfl dX6_isWornOut_32 hs (x := v r 3) rfl ?_
        refine E.imul C dX6_isWornOut_35 (by omega) ?_
        refine E.goto C dX6_isWornOut_36 (tgt := 43) (by decide) ?_
        refine E.icmp_lt C dX6_isWornOut_43 (tgt := 50) (by decide) (fun h43 => ?_) (fun h43 => ?_)
        · skip
          refine E.iconst C dX6_isWornOut_50 (by decide) ?_
          exact N.zret C hR dX6_isWornOut_51 (by omega) (fun hi => by refine ⟨?_, rfl⟩; unfold outI; (repeat' split) <;> omega)
        · skip
          refine E.iconst C dX6_isWornOut_46 (by decide) ?_
          refine E.goto C dX6_isWornOut_47 (tgt := 51) (by decide) ?_
          exact N.zret C hR dX6_isWornOut_51 (by omega) (fun hi => by refine ⟨?_, rfl⟩; unfold outI; (repeat' split) <;> omega)

set_option maxHeartbeats 4000000 in
set_option maxRecDepth 20000 in
theorem ok_X6_fitFor (G : GT) (r c bd sl : Int) (v : VT) (hs : kd r = 6) (hk : thOK v r) (hb : -1000 ≤ bd ∧ bd ≤ 1000 ∧ -1000 ≤ sl ∧ sl ≤ 1000) : MP G yX6_fitFor cX6_fitFor 5 (some .int) 1 22 [vr r, vi c, vi bd, vi sl] v (fitI (v r 1) (v r 2) (v r 3) (v r 4) (v r 5) (v r 6) c bd sl) := by
  refine MN.of pn_X6_fitFor [some (vr r), some (vi c), some (vi bd), some (vi sl), none] 1 rfl rfl (fun X C hX hn hR => ?_)
  have hN : ∀ i : Nat, i < 5 → i < xn X := fun i h => by rw [hn]; exact h
  refine E.rngk (fun hinv => ?_)
  refine E.loc (fun hloc => ?_)
  have hin_1 : in32 c := hloc _ (List.mem_of_getElem? (i := 1) rfl)
  have hin_2 : in32 bd := hloc _ (List.mem_of_getElem? (i := 2) rfl)
  have hin_3 : in32 sl := hloc _ (List.mem_of_getElem? (i := 3) rfl)
  have hk0 := hk
  obtain ⟨hk1, hk2, hk3, hk4⟩ := hk
  have ho := outI_01 (v r 1) (v r 3) (v r 4)
  refine E.aload_n C dX6_fitFor_0 rfl rfl ?_
  refine N.callVp (S := []) (As := []) C hX (ok_X6_isWornOut G r v hs hk0) yf_X6_isWornOut yv_X6_isWornOut ml_X6_37 rfl rfl rfl hs (by decide) (by decide) (Nat.le_of_ble_eq_true rfl) dX6_fitFor_1 rfl ?_
  refine E.if_ne C dX6_fitFor_4 (tgt := 23) (by decide) (fun h4 => ?_) (fun h4 => ?_)
  · skip
    refine E.iconst C dX6_fitFor_23 (by decide) ?_
    exact N.iret C hR dX6_fitFor_24 (fun hi hx => by refine ⟨?_, rfl⟩; unfold fitI; (repeat' split) <;> omega)
  · skip
    refine E.aload_n C dX6_fitFor_7 rfl rfl ?_
    refine N.getI C fa_X6_15 rfl dX6_fitFor_8 hs (x := v r 1) rfl ?_
    refine E.iconst C dX6_fitFor_11 (by decide) ?_
    refine E.icmp_ne C dX6_fitFor_12 (tgt := 25) (by decide) (fun h12 => ?_) (fun h12 => ?_)
    · skip
      refine E.aload_n C dX6_fitFor_25 rfl rfl ?_
      refine N.getI C fa_X6_18 rfl dX6_fitFor_26 hs (x := v r 2) rfl ?_
      refine E.iload_n C dX6_fitFor_29 rfl rfl ?_
      refine E.iload_n C dX6_fitFor_30 rfl rfl ?_
      refine E.iload_n C dX6_fitFor_31 rfl rfl ?_
      refine E.iadd C dX6_fitFor_32 (by omega) ?_
      refine N.callSp (S := []) (As := [vi (v r 2), vi bd, vi (bd + sl)]) C hX (ok_X8_within G (v r 2) bd (bd + sl) v) yf_X8_within yv_X8_within ml_X6_41 rfl (by decide) (Nat.le_of_ble_eq_true rfl) dX6_fitFor_33 rfl ?_
      refine E.if_eq C dX6_fitFor_36 (tgt := 41) (by decide) (fun h36 => ?_) (fun h36 => ?_)
      · have h36 := b0.mp h36
        refine E.aload_n C dX6_fitFor_41 rfl rfl ?_
        refine N.getI C fa_X6_15 rfl dX6_fitFor_42 hs (x := v r 1) rfl ?_
        refine E.iconst C dX6_fitFor_45 (by decide) ?_
        refine E.icmp_eq C dX6_fitFor_46 (tgt := 57) (by decide) (fun h46 => ?_) (fun h46 => ?_)
        · skip
          refine E.aload_n C dX6_fitFor_57 rfl rfl ?_
          refine N.getI C fa_X6_27 rfl dX6_fitFor_58 hs (x := v r 5) rfl ?_
          refine E.if_ne C dX6_fitFor_61 (tgt := 68) (by decide) (fun h61 => ?_) (fun h61 => ?_)
          · skip
            refine E.iconst C dX6_fitFor_68 (by decide) ?_
            refine N.ist_4 C dX6_fitFor_69 (hN 4 (by decide)) rfl ?_
            refine E.iload C dX6_fitFor_71 rfl ?_
            refine E.if_eq C dX6_fitFor_73 (tgt := 96) (by decide) (fun h73 => ?_) (fun h73 => ?_)
            · skip
              refine E.iconst C dX6_fitFor_96 (by decide) ?_
              exact N.iret C hR dX6_fitFor_97 (fun hi hx => by refine ⟨?_, rfl⟩; unfold fitI; (repeat' split) <;> omega)
            · skip
              refine E.aload_n C dX6_fitFor_76 rfl rfl ?_
              refine N.getI C fa_X6_18 rfl dX6_fitFor_77 hs (x := v r 2) rfl ?_
              refine E.iconst C dX6_fitFor_80 (by decide) ?_
              refine E.iadd C dX6_fitFor_81 (by omega) ?_
              refine E.iload_n C dX6_fitFor_82 rfl rfl ?_
              refine E.iload_n C dX6_fitFor_83 rfl rfl ?_
              refine E.iload_n C dX6_fitFor_84 rfl rfl ?_
              refine E.iadd C dX6_fitFor_85 (by omega) ?_
              refine N.callSp (S := []) (As := [vi ((v r 2) + 2), vi bd, vi (bd + sl)]) C hX (ok_X8_within G ((v r 2) + 2) bd (bd + sl) v) yf_X8_within yv_X8_within ml_X6_41 rfl (by decide) (Nat.le_of_ble_eq_true rfl) dX6_fitFor_86 rfl ?_
              refine E.if_eq C dX6_fitFor_89 (tgt := 96) (by decide) (fun h89 => ?_) (fun h89 => ?_)
              · have h89 := b0.mp h89
                refine E.iconst C dX6_fitFor_96 (by decide) ?_
                exact N.iret C hR dX6_fitFor_97 (fun hi hx => by refine ⟨?_, rfl⟩; unfold fitI; (repeat' split) <;> omega)
              · have h89 := b0n.mp h89
                refine E.iconst C dX6_fitFor_92 (by decide) ?_
                refine E.goto C dX6_fitFor_93 (tgt := 97) (by decide) ?_
                exact N.iret C hR dX6_fitFor_97 (fun hi hx => by refine ⟨?_, rfl⟩; unfold fitI; (repeat' split) <;> omega)
          · skip
            refine E.iconst C dX6_fitFor_64 (by decide) ?_
            refine E.goto C dX6_fitFor_65 (tgt := 69) (by decide) ?_
            refine N.ist_4 C dX6_fitFor_69 (hN 4 (by decide)) rfl ?_
            refine E.iload C dX6_fitFor_71 rfl ?_
            refine E.if_eq C dX6_fitFor_73 (tgt := 96) (by decide) (fun h73 => ?_) (fun h73 => ?_)
            · skip
              refine E.iconst C dX6_fitFor_96 (by decide) ?_
              exact N.iret C hR dX6_fitFor_97 (fun hi hx => by refine ⟨?_, rfl⟩; unfold fitI; (repeat' split) <;> omega)
            · skip
              refine E.aload_n C dX6_fitFor_76 rfl rfl ?_
              refine N.getI C fa_X6_18 rfl dX6_fitFor_77 hs (x := v r 2) rfl ?_
              refine E.iconst C dX6_fitFor_80 (by decide) ?_
              refine E.iadd C dX6_fitFor_81 (by omega) ?_
              refine E.iload_n C dX6_fitFor_82 rfl rfl ?_
              refine E.iload_n C dX6_fitFor_83 rfl rfl ?_
              refine E.iload_n C dX6_fitFor_84 rfl rfl ?_
              refine E.iadd C dX6_fitFor_85 (by omega) ?_
              refine N.callSp (S := []) (As := [vi ((v r 2) + 2), vi bd, vi (bd + sl)]) C hX (ok_X8_within G ((v r 2) + 2) bd (bd + sl) v) yf_X8_within yv_X8_within ml_X6_41 rfl (by decide) (Nat.le_of_ble_eq_true rfl) dX6_fitFor_86 rfl ?_
              refine E.if_eq C dX6_fitFor_89 (tgt := 96) (by decide) (fun h89 => ?_) (fun h89 => ?_)
              · have h89 := b0.mp h89
                refine E.iconst C dX6_fitFor_96 (by decide) ?_
                exact N.iret C hR dX6_fitFor_97 (fun hi hx => by refine ⟨?_, rfl⟩; unfold fitI; (repeat' split) <;> omega)
              · have h89 := b0n.mp h89
                refine E.iconst C dX6_fitFor_92 (by decide) ?_
                refine E.goto C dX6_fitFor_93 (tgt := 97) (by decide) ?_
                exact N.iret C hR dX6_fitFor_97 (fun hi hx => by refine ⟨?_, rfl⟩; unfold fitI; (repeat' split) <;> omega)
        · skip
          refine E.aload_n C dX6_fitFor_49 rfl rfl ?_
          refine N.getI C fa_X6_15 rfl dX6_fitFor_50 hs (x := v r 1) rfl ?_
          refine E.iconst C dX6_fitFor_53 (by decide) ?_
          refine E.icmp_ne C dX6_fitFor_54 (tgt := 68) (by decide) (fun h54 => ?_) (fun h54 => ?_)
          · skip
            refine E.iconst C dX6_fitFor_68 (by decide) ?_
            refine N.ist_4 C dX6_fitFor_69 (hN 4 (by decide)) rfl ?_
            refine E.iload C dX6_fitFor_71 rfl ?_
            refine E.if_eq C dX6_fitFor_73 (tgt := 96) (by decide) (fun h73 => ?_) (fun h73 => ?_)
            · skip
              refine E.iconst C dX6_fitFor_96 (by decide) ?_
              exact N.iret C hR dX6_fitFor_97 (fun hi hx => by refine ⟨?_, rfl⟩; unfold fitI; (repeat' split) <;> omega)
            · skip
              refine E.aload_n C dX6_fitFor_76 rfl rfl ?_
              refine N.getI C fa_X6_18 rfl dX6_fitFor_77 hs (x := v r 2) rfl ?_
              refine E.iconst C dX6_fitFor_80 (by decide) ?_
              refine E.iadd C dX6_fitFor_81 (by omega) ?_
              refine E.iload_n C dX6_fitFor_82 rfl rfl ?_
              refine E.iload_n C dX6_fitFor_83 rfl rfl ?_
              refine E.iload_n C dX6_fitFor_84 rfl rfl ?_
              refine E.iadd C dX6_fitFor_85 (by omega) ?_
              refine N.callSp (S := []) (As := [vi ((v r 2) + 2), vi bd, vi (bd + sl)]) C hX (ok_X8_within G ((v r 2) + 2) bd (bd + sl) v) yf_X8_within yv_X8_within ml_X6_41 rfl (by decide) (Nat.le_of_ble_eq_true rfl) dX6_fitFor_86 rfl ?_
              refine E.if_eq C dX6_fitFor_89 (tgt := 96) (by decide) (fun h89 => ?_) (fun h89 => ?_)
              · have h89 := b0.mp h89
                refine E.iconst C dX6_fitFor_96 (by decide) ?_
                exact N.iret C hR dX6_fitFor_97 (fun hi hx => by refine ⟨?_, rfl⟩; unfold fitI; (repeat' split) <;> omega)
              · have h89 := b0n.mp h89
                refine E.iconst C dX6_fitFor_92 (by decide) ?_
                refine E.goto C dX6_fitFor_93 (tgt := 97) (by decide) ?_
                exact N.iret C hR dX6_fitFor_97 (fun hi hx => by refine ⟨?_, rfl⟩; unfold fitI; (repeat' split) <;> omega)
          · skip
            refine E.aload_n C dX6_fitFor_57 rfl rfl ?_
            refine N.getI C fa_X6_27 rfl dX6_fitFor_58 hs (x := v r 5) rfl ?_
            refine E.if_ne C dX6_fitFor_61 (tgt := 68) (by decide) (fun h61 => ?_) (fun h61 => ?_)
            · skip
              refine E.iconst C dX6_fitFor_68 (by decide) ?_
              refine N.ist_4 C dX6_fitFor_69 (hN 4 (by decide)) rfl ?_
              refine E.iload C dX6_fitFor_71 rfl ?_
              refine E.if_eq C dX6_fitFor_73 (tgt := 96) (by decide) (fun h73 => ?_) (fun h73 => ?_)
              · skip
                refine E.iconst C dX6_fitFor_96 (by decide) ?_
                exact N.iret C hR dX6_fitFor_97 (fun hi hx => by refine ⟨?_, rfl⟩; unfold fitI; (repeat' split) <;> omega)
              · skip
                refine E.aload_n C dX6_fitFor_76 rfl rfl ?_
                refine N.getI C fa_X6_18 rfl dX6_fitFor_77 hs (x := v r 2) rfl ?_
                refine E.iconst C dX6_fitFor_80 (by decide) ?_
                refine E.iadd C dX6_fitFor_81 (by omega) ?_
                refine E.iload_n C dX6_fitFor_82 rfl rfl ?_
                refine E.iload_n C dX6_fitFor_83 rfl rfl ?_
                refine E.iload_n C dX6_fitFor_84 rfl rfl ?_
                refine E.iadd C dX6_fitFor_85 (by omega) ?_
                refine N.callSp (S := []) (As := [vi ((v r 2) + 2), vi bd, vi (bd + sl)]) C hX (ok_X8_within G ((v r 2) + 2) bd (bd + sl) v) yf_X8_within yv_X8_within ml_X6_41 rfl (by decide) (Nat.le_of_ble_eq_true rfl) dX6_fitFor_86 rfl ?_
                refine E.if_eq C dX6_fitFor_89 (tgt := 96) (by decide) (fun h89 => ?_) (fun h89 => ?_)
                · have h89 := b0.mp h89
                  refine E.iconst C dX6_fitFor_96 (by decide) ?_
                  exact N.iret C hR dX6_fitFor_97 (fun hi hx => by refine ⟨?_, rfl⟩; unfold fitI; (repeat' split) <;> omega)
                · have h89 := b0n.mp h89
                  refine E.iconst C dX6_fitFor_92 (by decide) ?_
                  refine E.goto C dX6_fitFor_93 (tgt := 97) (by decide) ?_
                  exact N.iret C hR dX6_fitFor_97 (fun hi hx => by refine ⟨?_, rfl⟩; unfold fitI; (repeat' split) <;> omega)
            · skip
              refine E.iconst C dX6_fitFor_64 (by decide) ?_
              refine E.goto C dX6_fitFor_65 (tgt := 69) (by decide) ?_
              refine N.ist_4 C dX6_fitFor_69 (hN 4 (by decide)) rfl ?_
              refine E.iload C dX6_fitFor_71 rfl ?_
              refine E.if_eq C dX6_fitFor_73 (tgt := 96) (by decide) (fun h73 => ?_) (fun h73 => ?_)
              · skip
                refine E.iconst C dX6_fitFor_96 (by decide) ?_
                exact N.iret C hR dX6_fitFor_97 (fun hi hx => by refine ⟨?_, rfl⟩; unfold fitI; (repeat' split) <;> omega)
              · skip
                refine E.aload_n C dX6_fitFor_76 rfl rfl ?_
                refine N.getI C fa_X6_18 rfl dX6_fitFor_77 hs (x := v r 2) rfl ?_
                refine E.iconst C dX6_fitFor_80 (by decide) ?_
                refine E.iadd C dX6_fitFor_81 (by omega) ?_
                refine E.iload_n C dX6_fitFor_82 rfl rfl ?_
                refine E.iload_n C dX6_fitFor_83 rfl rfl ?_
                refine E.iload_n C dX6_fitFor_84 rfl rfl ?_
                refine E.iadd C dX6_fitFor_85 (by omega) ?_
                refine N.callSp (S := []) (As := [vi ((v r 2) + 2), vi bd, vi (bd + sl)]) C hX (ok_X8_within G ((v r 2) + 2) bd (bd + sl) v) yf_X8_within yv_X8_within ml_X6_41 rfl (by decide) (Nat.le_of_ble_eq_true rfl) dX6_fitFor_86 rfl ?_
                refine E.if_eq C dX6_fitFor_89 (tgt := 96) (by decide) (fun h89 => ?_) (fun h89 => ?_)
                · have h89 := b0.mp h89
                  refine E.iconst C dX6_fitFor_96 (by decide) ?_
                  exact N.iret C hR dX6_fitFor_97 (fun hi hx => by refine ⟨?_, rfl⟩; unfold fitI; (repeat' split) <;> omega)
                · have h89 := b0n.mp h89
                  refine E.iconst C dX6_fitFor_92 (by decide) ?_
                  refine E.goto C dX6_fitFor_93 (tgt := 97) (by decide) ?_
                  exact N.iret C hR dX6_fitFor_97 (fun hi hx => by refine ⟨?_, rfl⟩; unfold fitI; (repeat' split) <;> omega)
      · have h36 := b0n.mp h36
        refine E.iconst C dX6_fitFor_39 (by decide) ?_
        exact N.iret C hR dX6_fitFor_40 (fun hi hx => by refine ⟨?_, rfl⟩; unfold fitI; (repeat' split) <;> omega)
    · skip
      refine E.aload_n C dX6_fitFor_15 rfl rfl ?_
      refine N.getI C fa_X6_31 rfl dX6_fitFor_16 hs (x := v r 6) rfl ?_
      refine E.iload_n C dX6_fitFor_19 rfl rfl ?_
      refine E.icmp_eq C dX6_fitFor_20 (tgt := 25) (by decide) (fun h20 => ?_) (fun h20 => ?_)
      · skip
        refine E.aload_n C dX6_fitFor_25 rfl rfl ?_
        refine N.getI C fa_X6_18 rfl dX6_fitFor_26 hs (x := v r 2) rfl ?_
        refine E.iload_n C dX6_fitFor_29 rfl rfl ?_
        refine E.iload_n C dX6_fitFor_30 rfl rfl ?_
        refine E.iload_n C dX6_fitFor_31 rfl rfl ?_
        refine E.iadd C dX6_fitFor_32 (by omega) ?_
        refine N.callSp (S := []) (As := [vi (v r 2), vi bd, vi (bd + sl)]) C hX (ok_X8_within G (v r 2) bd (bd + sl) v) yf_X8_within yv_X8_within ml_X6_41 rfl (by decide) (Nat.le_of_ble_eq_true rfl) dX6_fitFor_33 rfl ?_
        refine E.if_eq C dX6_fitFor_36 (tgt := 41) (by decide) (fun h36 => ?_) (fun h36 => ?_)
        · have h36 := b0.mp h36
          refine E.aload_n C dX6_fitFor_41 rfl rfl ?_
          refine N.getI C fa_X6_15 rfl dX6_fitFor_42 hs (x := v r 1) rfl ?_
          refine E.iconst C dX6_fitFor_45 (by decide) ?_
          refine E.icmp_eq C dX6_fitFor_46 (tgt := 57) (by decide) (fun h46 => ?_) (fun h46 => ?_)
          · skip
            refine E.aload_n C dX6_fitFor_57 rfl rfl ?_
            refine N.getI C fa_X6_27 rfl dX6_fitFor_58 hs (x := v r 5) rfl ?_
            refine E.if_ne C dX6_fitFor_61 (tgt := 68) (by decide) (fun h61 => ?_) (fun h61 => ?_)
            · skip
              refine E.iconst C dX6_fitFor_68 (by decide) ?_
              refine N.ist_4 C dX6_fitFor_69 (hN 4 (by decide)) rfl ?_
              refine E.iload C dX6_fitFor_71 rfl ?_
              refine E.if_eq C dX6_fitFor_73 (tgt := 96) (by decide) (fun h73 => ?_) (fun h73 => ?_)
              · skip
                refine E.iconst C dX6_fitFor_96 (by decide) ?_
                exact N.iret C hR dX6_fitFor_97 (fun hi hx => by refine ⟨?_, rfl⟩; unfold fitI; (repeat' split) <;> omega)
              · skip
                refine E.aload_n C dX6_fitFor_76 rfl rfl ?_
                refine N.getI C fa_X6_18 rfl dX6_fitFor_77 hs (x := v r 2) rfl ?_
                refine E.iconst C dX6_fitFor_80 (by decide) ?_
                refine E.iadd C dX6_fitFor_81 (by omega) ?_
                refine E.iload_n C dX6_fitFor_82 rfl rfl ?_
                refine E.iload_n C dX6_fitFor_83 rfl rfl ?_
                refine E.iload_n C dX6_fitFor_84 rfl rfl ?_
                refine E.iadd C dX6_fitFor_85 (by omega) ?_
                refine N.callSp (S := []) (As := [vi ((v r 2) + 2), vi bd, vi (bd + sl)]) C hX (ok_X8_within G ((v r 2) + 2) bd (bd + sl) v) yf_X8_within yv_X8_within ml_X6_41 rfl (by decide) (Nat.le_of_ble_eq_true rfl) dX6_fitFor_86 rfl ?_
                refine E.if_eq C dX6_fitFor_89 (tgt := 96) (by decide) (fun h89 => ?_) (fun h89 => ?_)
                · have h89 := b0.mp h89
                  refine E.iconst C dX6_fitFor_96 (by decide) ?_
                  exact N.iret C hR dX6_fitFor_97 (fun hi hx => by refine ⟨?_, rfl⟩; unfold fitI; (repeat' split) <;> omega)
                · have h89 := b0n.mp h89
                  refine E.iconst C dX6_fitFor_92 (by decide) ?_
                  refine E.goto C dX6_fitFor_93 (tgt := 97) (by decide) ?_
                  exact N.iret C hR dX6_fitFor_97 (fun hi hx => by refine ⟨?_, rfl⟩; unfold fitI; (repeat' split) <;> omega)
            · skip
              refine E.iconst C dX6_fitFor_64 (by decide) ?_
              refine E.goto C dX6_fitFor_65 (tgt := 69) (by decide) ?_
              refine N.ist_4 C dX6_fitFor_69 (hN 4 (by decide)) rfl ?_
              refine E.iload C dX6_fitFor_71 rfl ?_
              refine E.if_eq C dX6_fitFor_73 (tgt := 96) (by decide) (fun h73 => ?_) (fun h73 => ?_)
              · skip
                refine E.iconst C dX6_fitFor_96 (by decide) ?_
                exact N.iret C hR dX6_fitFor_97 (fun hi hx => by refine ⟨?_, rfl⟩; unfold fitI; (repeat' split) <;> omega)
              · skip
                refine E.aload_n C dX6_fitFor_76 rfl rfl ?_
                refine N.getI C fa_X6_18 rfl dX6_fitFor_77 hs (x := v r 2) rfl ?_
                refine E.iconst C dX6_fitFor_80 (by decide) ?_
                refine E.iadd C dX6_fitFor_81 (by omega) ?_
                refine E.iload_n C dX6_fitFor_82 rfl rfl ?_
                refine E.iload_n C dX6_fitFor_83 rfl rfl ?_
                refine E.iload_n C dX6_fitFor_84 rfl rfl ?_
                refine E.iadd C dX6_fitFor_85 (by omega) ?_
                refine N.callSp (S := []) (As := [vi ((v r 2) + 2), vi bd, vi (bd + sl)]) C hX (ok_X8_within G ((v r 2) + 2) bd (bd + sl) v) yf_X8_within yv_X8_within ml_X6_41 rfl (by decide) (Nat.le_of_ble_eq_true rfl) dX6_fitFor_86 rfl ?_
                refine E.if_eq C dX6_fitFor_89 (tgt := 96) (by decide) (fun h89 => ?_) (fun h89 => ?_)
                · have h89 := b0.mp h89
                  refine E.iconst C dX6_fitFor_96 (by decide) ?_
                  exact N.iret C hR dX6_fitFor_97 (fun hi hx => by refine ⟨?_, rfl⟩; unfold fitI; (repeat' split) <;> omega)
                · have h89 := b0n.mp h89
                  refine E.iconst C dX6_fitFor_92 (by decide) ?_
                  refine E.goto C dX6_fitFor_93 (tgt := 97) (by decide) ?_
                  exact N.iret C hR dX6_fitFor_97 (fun hi hx => by refine ⟨?_, rfl⟩; unfold fitI; (repeat' split) <;> omega)
          · skip
            refine E.aload_n C dX6_fitFor_49 rfl rfl ?_
            refine N.getI C fa_X6_15 rfl dX6_fitFor_50 hs (x := v r 1) rfl ?_
            refine E.iconst C dX6_fitFor_53 (by decide) ?_
            refine E.icmp_ne C dX6_fitFor_54 (tgt := 68) (by decide) (fun h54 => ?_) (fun h54 => ?_)
            · skip
              refine E.iconst C dX6_fitFor_68 (by decide) ?_
              refine N.ist_4 C dX6_fitFor_69 (hN 4 (by decide)) rfl ?_
              refine E.iload C dX6_fitFor_71 rfl ?_
              refine E.if_eq C dX6_fitFor_73 (tgt := 96) (by decide) (fun h73 => ?_) (fun h73 => ?_)
              · skip
                refine E.iconst C dX6_fitFor_96 (by decide) ?_
                exact N.iret C hR dX6_fitFor_97 (fun hi hx => by refine ⟨?_, rfl⟩; unfold fitI; (repeat' split) <;> omega)
              · skip
                refine E.aload_n C dX6_fitFor_76 rfl rfl ?_
                refine N.getI C fa_X6_18 rfl dX6_fitFor_77 hs (x := v r 2) rfl ?_
                refine E.iconst C dX6_fitFor_80 (by decide) ?_
                refine E.iadd C dX6_fitFor_81 (by omega) ?_
                refine E.iload_n C dX6_fitFor_82 rfl rfl ?_
                refine E.iload_n C dX6_fitFor_83 rfl rfl ?_
                refine E.iload_n C dX6_fitFor_84 rfl rfl ?_
                refine E.iadd C dX6_fitFor_85 (by omega) ?_
                refine N.callSp (S := []) (As := [vi ((v r 2) + 2), vi bd, vi (bd + sl)]) C hX (ok_X8_within G ((v r 2) + 2) bd (bd + sl) v) yf_X8_within yv_X8_within ml_X6_41 rfl (by decide) (Nat.le_of_ble_eq_true rfl) dX6_fitFor_86 rfl ?_
                refine E.if_eq C dX6_fitFor_89 (tgt := 96) (by decide) (fun h89 => ?_) (fun h89 => ?_)
                · have h89 := b0.mp h89
                  refine E.iconst C dX6_fitFor_96 (by decide) ?_
                  exact N.iret C hR dX6_fitFor_97 (fun hi hx => by refine ⟨?_, rfl⟩; unfold fitI; (repeat' split) <;> omega)
                · have h89 := b0n.mp h89
                  refine E.iconst C dX6_fitFor_92 (by decide) ?_
                  refine E.goto C dX6_fitFor_93 (tgt := 97) (by decide) ?_
                  exact N.iret C hR dX6_fitFor_97 (fun hi hx => by refine ⟨?_, rfl⟩; unfold fitI; (repeat' split) <;> omega)
            · skip
              refine E.aload_n C dX6_fitFor_57 rfl rfl ?_
              refine N.getI C fa_X6_27 rfl dX6_fitFor_58 hs (x := v r 5) rfl ?_
              refine E.if_ne C dX6_fitFor_61 (tgt := 68) (by decide) (fun h61 => ?_) (fun h61 => ?_)
              · skip
                refine E.iconst C dX6_fitFor_68 (by decide) ?_
                refine N.ist_4 C dX6_fitFor_69 (hN 4 (by decide)) rfl ?_
                refine E.iload C dX6_fitFor_71 rfl ?_
                refine E.if_eq C dX6_fitFor_73 (tgt := 96) (by decide) (fun h73 => ?_) (fun h73 => ?_)
                · skip
                  refine E.iconst C dX6_fitFor_96 (by decide) ?_
                  exact N.iret C hR dX6_fitFor_97 (fun hi hx => by refine ⟨?_, rfl⟩; unfold fitI; (repeat' split) <;> omega)
                · skip
                  refine E.aload_n C dX6_fitFor_76 rfl rfl ?_
                  refine N.getI C fa_X6_18 rfl dX6_fitFor_77 hs (x := v r 2) rfl ?_
                  refine E.iconst C dX6_fitFor_80 (by decide) ?_
                  refine E.iadd C dX6_fitFor_81 (by omega) ?_
                  refine E.iload_n C dX6_fitFor_82 rfl rfl ?_
                  refine E.iload_n C dX6_fitFor_83 rfl rfl ?_
                  refine E.iload_n C dX6_fitFor_84 rfl rfl ?_
                  refine E.iadd C dX6_fitFor_85 (by omega) ?_
                  refine N.callSp (S := []) (As := [vi ((v r 2) + 2), vi bd, vi (bd + sl)]) C hX (ok_X8_within G ((v r 2) + 2) bd (bd + sl) v) yf_X8_within yv_X8_within ml_X6_41 rfl (by decide) (Nat.le_of_ble_eq_true rfl) dX6_fitFor_86 rfl ?_
                  refine E.if_eq C dX6_fitFor_89 (tgt := 96) (by decide) (fun h89 => ?_) (fun h89 => ?_)
                  · have h89 := b0.mp h89
                    refine E.iconst C dX6_fitFor_96 (by decide) ?_
                    exact N.iret C hR dX6_fitFor_97 (fun hi hx => by refine ⟨?_, rfl⟩; unfold fitI; (repeat' split) <;> omega)
                  · have h89 := b0n.mp h89
                    refine E.iconst C dX6_fitFor_92 (by decide) ?_
                    refine E.goto C dX6_fitFor_93 (tgt := 97) (by decide) ?_
                    exact N.iret C hR dX6_fitFor_97 (fun hi hx => by refine ⟨?_, rfl⟩; unfold fitI; (repeat' split) <;> omega)
              · skip
                refine E.iconst C dX6_fitFor_64 (by decide) ?_
                refine E.goto C dX6_fitFor_65 (tgt := 69) (by decide) ?_
                refine N.ist_4 C dX6_fitFor_69 (hN 4 (by decide)) rfl ?_
                refine E.iload C dX6_fitFor_71 rfl ?_
                refine E.if_eq C dX6_fitFor_73 (tgt := 96) (by decide) (fun h73 => ?_) (fun h73 => ?_)
                · skip
                  refine E.iconst C dX6_fitFor_96 (by decide) ?_
                  exact N.iret C hR dX6_fitFor_97 (fun hi hx => by refine ⟨?_, rfl⟩; unfold fitI; (repeat' split) <;> omega)
                · skip
                  refine E.aload_n C dX6_fitFor_76 rfl rfl ?_
                  refine N.getI C fa_X6_18 rfl dX6_fitFor_77 hs (x := v r 2) rfl ?_
                  refine E.iconst C dX6_fitFor_80 (by decide) ?_
                  refine E.iadd C dX6_fitFor_81 (by omega) ?_
                  refine E.iload_n C dX6_fitFor_82 rfl rfl ?_
                  refine E.iload_n C dX6_fitFor_83 rfl rfl ?_
                  refine E.iload_n C dX6_fitFor_84 rfl rfl ?_
                  refine E.iadd C dX6_fitFor_85 (by omega) ?_
                  refine N.callSp (S := []) (As := [vi ((v r 2) + 2), vi bd, vi (bd + sl)]) C hX (ok_X8_within G ((v r 2) + 2) bd (bd + sl) v) yf_X8_within yv_X8_within ml_X6_41 rfl (by decide) (Nat.le_of_ble_eq_true rfl) dX6_fitFor_86 rfl ?_
                  refine E.if_eq C dX6_fitFor_89 (tgt := 96) (by decide) (fun h89 => ?_) (fun h89 => ?_)
                  · have h89 := b0.mp h89
                    refine E.iconst C dX6_fitFor_96 (by decide) ?_
                    exact N.iret C hR dX6_fitFor_97 (fun hi hx => by refine ⟨?_, rfl⟩; unfold fitI; (repeat' split) <;> omega)
                  · have h89 := b0n.mp h89
                    refine E.iconst C dX6_fitFor_92 (by decide) ?_
                    refine E.goto C dX6_fitFor_93 (tgt := 97) (by decide) ?_
                    exact N.iret C hR dX6_fitFor_97 (fun hi hx => by refine ⟨?_, rfl⟩; unfold fitI; (repeat' split) <;> omega)
        · have h36 := b0n.mp h36
          refine E.iconst C dX6_fitFor_39 (by decide) ?_
          exact N.iret C hR dX6_fitFor_40 (fun hi hx => by refine ⟨?_, rfl⟩; unfold fitI; (repeat' split) <;> omega)
      · skip
        refine E.iconst C dX6_fitFor_23 (by decide) ?_
        exact N.iret C hR dX6_fitFor_24 (fun hi hx => by refine ⟨?_, rfl⟩; unfold fitI; (repeat' split) <;> omega)
