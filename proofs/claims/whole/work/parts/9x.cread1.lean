set_option maxHeartbeats 4000000 in
set_option maxRecDepth 20000 in
theorem ok_X3_isLetter (G : GT) (c : Int) (v : VT) : MP G yX3_isLetter cX3_isLetter 1 (some .boolean) 0 0 [vi c] v (if 97 ≤ c ∧ c ≤ 122 then 1 else 0) := by
  refine MN.of pn_X3_isLetter [some (vi c)] 0 rfl rfl (fun X C hX hn hR => ?_)
  have hN : ∀ i : Nat, i < 1 → i < xn X := fun i h => by rw [hn]; exact h
  refine E.rngk (fun hinv => ?_)
  refine E.loc (fun hloc => ?_)
  have hin_0 : in32 c := hloc _ (List.mem_of_getElem? (i := 0) rfl)
  refine E.iload_n C dX3_isLetter_0 rfl rfl ?_
  refine E.bipush C dX3_isLetter_1 (by decide) ?_
  refine E.icmp_lt C dX3_isLetter_3 (tgt := 16) (by decide) (fun h3 => ?_) (fun h3 => ?_)
  · skip
    refine E.iconst C dX3_isLetter_16 (by decide) ?_
    exact N.zret C hR dX3_isLetter_17 (by omega) (fun hi => by refine ⟨?_, rfl⟩; split <;> omega)
  · skip
    refine E.iload_n C dX3_isLetter_6 rfl rfl ?_
    refine E.bipush C dX3_isLetter_7 (by decide) ?_
    refine E.icmp_gt C dX3_isLetter_9 (tgt := 16) (by decide) (fun h9 => ?_) (fun h9 => ?_)
    · skip
      refine E.iconst C dX3_isLetter_16 (by decide) ?_
      exact N.zret C hR dX3_isLetter_17 (by omega) (fun hi => by refine ⟨?_, rfl⟩; split <;> omega)
    · skip
      refine E.iconst C dX3_isLetter_12 (by decide) ?_
      refine E.goto C dX3_isLetter_13 (tgt := 17) (by decide) ?_
      exact N.zret C hR dX3_isLetter_17 (by omega) (fun hi => by refine ⟨?_, rfl⟩; split <;> omega)

set_option maxHeartbeats 4000000 in
set_option maxRecDepth 20000 in
theorem ok_X3_isFigure (G : GT) (c : Int) (v : VT) : MP G yX3_isFigure cX3_isFigure 1 (some .boolean) 0 0 [vi c] v (if 48 ≤ c ∧ c ≤ 57 then 1 else 0) := by
  refine MN.of pn_X3_isFigure [some (vi c)] 0 rfl rfl (fun X C hX hn hR => ?_)
  have hN : ∀ i : Nat, i < 1 → i < xn X := fun i h => by rw [hn]; exact h
  refine E.rngk (fun hinv => ?_)
  refine E.loc (fun hloc => ?_)
  have hin_0 : in32 c := hloc _ (List.mem_of_getElem? (i := 0) rfl)
  refine E.iload_n C dX3_isFigure_0 rfl rfl ?_
  refine E.bipush C dX3_isFigure_1 (by decide) ?_
  refine E.icmp_lt C dX3_isFigure_3 (tgt := 16) (by decide) (fun h3 => ?_) (fun h3 => ?_)
  · skip
    refine E.iconst C dX3_isFigure_16 (by decide) ?_
    exact N.zret C hR dX3_isFigure_17 (by omega) (fun hi => by refine ⟨?_, rfl⟩; split <;> omega)
  · skip
    refine E.iload_n C dX3_isFigure_6 rfl rfl ?_
    refine E.bipush C dX3_isFigure_7 (by decide) ?_
    refine E.icmp_gt C dX3_isFigure_9 (tgt := 16) (by decide) (fun h9 => ?_) (fun h9 => ?_)
    · skip
      refine E.iconst C dX3_isFigure_16 (by decide) ?_
      exact N.zret C hR dX3_isFigure_17 (by omega) (fun hi => by refine ⟨?_, rfl⟩; split <;> omega)
    · skip
      refine E.iconst C dX3_isFigure_12 (by decide) ?_
      refine E.goto C dX3_isFigure_13 (tgt := 17) (by decide) ?_
      exact N.zret C hR dX3_isFigure_17 (by omega) (fun hi => by refine ⟨?_, rfl⟩; split <;> omega)

set_option maxHeartbeats 4000000 in
set_option maxRecDepth 20000 in
theorem ok_X3_isNamed (G : GT) (f : Int → Int) (L : Int) (k : Nat) (hk : k < 11) (v : VT) (hT : TapC f L v) (hse : 0 ≤ v 50 4 ∧ v 50 4 ≤ v 50 2 ∧ v 50 2 ≤ L) : MP G yX3_isNamed cX3_isNamed 3 (some .boolean) 5 106 [vr 50, sr k] v (if nmB f (v 50 4) (v 50 2) k = true then 1 else 0) := by
  refine MN.of pn_X3_isNamed [some (vr 50), some (sr k), none] 1 rfl rfl (fun X C hX hn hR => ?_)
  have hN : ∀ i : Nat, i < 3 → i < xn X := fun i h => by rw [hn]; exact h
  refine E.rngk (fun hinv => ?_)
  refine E.loc (fun hloc => ?_)
  have hTL := hT.2.1
  obtain ⟨hlw, hl6⟩ := strL_wB hk
  have e21 : v 2 1 = L := hT.1
  refine E.aload_n C dX3_isNamed_0 rfl rfl ?_
  refine N.getI C fa_X3_24 rfl dX3_isNamed_1 kd_50 (x := v 50 2) rfl ?_
  refine E.aload_n C dX3_isNamed_4 rfl rfl ?_
  refine N.getI C fa_X3_67 rfl dX3_isNamed_5 kd_50 (x := v 50 4) rfl ?_
  refine E.isub C dX3_isNamed_8 (by omega) ?_
  refine E.aload_n C dX3_isNamed_9 rfl rfl ?_
  refine N.callTp (S := [vi ((v 50 2) - (v 50 4))]) (As := []) C hX (ok_J0_length G k hk v) yf_J0_length_8abf5 yv_J0_length_8abf5 ls_X3_183 rfl rfl hk (by decide) (Nat.le_of_ble_eq_true rfl) dX3_isNamed_10 rfl ?_
  refine E.icmp_eq C dX3_isNamed_13 (tgt := 18) (by decide) (fun h13 => ?_) (fun h13 => ?_)
  · skip
    refine E.iconst C dX3_isNamed_18 (by decide) ?_
    refine N.ist_2 C dX3_isNamed_19 (hN 2 (by decide)) rfl ?_
    have lp20 : ∀ (k20 : Nat) (i : Int), (((strL.getD k 0 : Nat) : Int) - i).toNat = k20 → (0 ≤ i ∧ i ≤ ((strL.getD k 0 : Nat) : Int) ∧ ∀ j : Nat, (j : Int) < i → f (v 50 4 + (j : Int)) = (wB k).getD j 0) → E X G 0 0 1000 v 20 [some (vr 50), some (sr k), some (vi i)] [] := by
      intro k20
      induction k20 using Nat.strongRecOn with
      | ind k20 ih20 =>
        intro i hk20 hI20
        obtain ⟨hi0, hi1, hall⟩ := hI20
        refine E.iload_n C dX3_isNamed_20 rfl rfl ?_
        refine E.aload_n C dX3_isNamed_21 rfl rfl ?_
        refine N.callTp (S := [vi i]) (As := []) C hX (ok_J0_length G k hk v) yf_J0_length_8abf5 yv_J0_length_8abf5 ls_X3_183 rfl rfl hk (by decide) (Nat.le_of_ble_eq_true rfl) dX3_isNamed_22 rfl ?_
        refine E.icmp_ge C dX3_isNamed_25 (tgt := 57) (by decide) (fun h25 => ?_) (fun h25 => ?_)
        · skip
          refine E.iconst C dX3_isNamed_57 (by decide) ?_
          exact N.zret C hR dX3_isNamed_58 (by omega) (fun hi => by refine ⟨?_, rfl⟩; rw [if_pos]; rw [nmB_iff]; exact ⟨by omega, fun j hj => hall j (by omega)⟩)
        · skip
          refine E.aload_n C dX3_isNamed_28 rfl rfl ?_
          refine N.getR C fa_X3_9 rfl dX3_isNamed_29 kd_50 (x := 2) (by decide +kernel) (by decide) ?_
          refine E.aload_n C dX3_isNamed_32 rfl rfl ?_
          refine N.getI C fa_X3_67 rfl dX3_isNamed_33 kd_50 (x := v 50 4) rfl ?_
          refine E.iload_n C dX3_isNamed_36 rfl rfl ?_
          refine E.iadd C dX3_isNamed_37 (by omega) ?_
          refine N.callVp (S := []) (As := [vi ((v 50 4) + i)]) C hX (ok_byt (f := f) (L := L) G ((v 50 4) + i) v (by repeat (first | exact hTw | exact hTu | exact hT | refine TapC.up (by decide) ?_)) (by omega)) yf_X5_byteAt yv_X5_byteAt ml_X3_173 rfl rfl rfl kd_2 (by decide) (by decide) (Nat.le_of_ble_eq_true rfl) dX3_isNamed_38 rfl ?_
          refine E.aload_n C dX3_isNamed_41 rfl rfl ?_
          refine E.iload_n C dX3_isNamed_42 rfl rfl ?_
          refine N.callTp (S := [vi (cby f L ((v 50 4) + i))]) (As := [vi i]) C hX (ok_J0_charAt G k i v hk (by omega) (by omega)) yf_J0_charAt_5068e yv_J0_charAt_5068e ls_X3_187 rfl rfl hk (by decide) (Nat.le_of_ble_eq_true rfl) dX3_isNamed_43 rfl ?_
          have hby := hT.by (p := v 50 4 + i) (by omega) (by omega)
          have hri := str_rng hk hi0 (by omega)
          have hci := cby_lt (f := f) (L := L) (p := v 50 4 + i) (by omega) (hT.by (by omega))
          have hwi := str_wB (k := k) (j := i.toNat) hk (by omega)
          rw [Int.toNat_of_nonneg hi0] at hwi
          refine E.icmp_eq C dX3_isNamed_46 (tgt := 51) (by decide) (fun h46 => ?_) (fun h46 => ?_)
          · skip
            refine N.iinc_2 C dX3_isNamed_51 (hN 2 (by decide)) rfl (by omega) ?_
            refine E.goto C dX3_isNamed_54 (tgt := 20) (by decide) ?_
            exact ih20 _ (by omega) (i + 1) rfl (by refine ⟨by omega, by omega, fun j hj => ?_⟩; by_cases e : (j : Int) = i; (rw [e]; have ej : j = i.toNat := (by omega); rw [ej, ← hwi]; omega); (exact hall j (by omega)))
          · skip
            refine E.iconst C dX3_isNamed_49 (by decide) ?_
            exact N.zret C hR dX3_isNamed_50 (by omega) (fun hi => by refine ⟨?_, rfl⟩; rw [if_neg]; intro q; have q2 := (nmB_iff.mp q).2 i.toNat (by omega); rw [Int.toNat_of_nonneg hi0, ← hwi] at q2; omega)
    exact lp20 _ 0 rfl (by exact ⟨by omega, by omega, fun j hj => by omega⟩)
  · skip
    refine E.iconst C dX3_isNamed_16 (by decide) ?_
    exact N.zret C hR dX3_isNamed_17 (by omega) (fun hi => by refine ⟨?_, rfl⟩; rw [if_neg]; rw [nmB_iff]; omega)

set_option maxHeartbeats 4000000 in
set_option maxRecDepth 20000 in
theorem ok_X3_nextToken (G : GT) (f : Int → Int) (L : Int) (v : VT) (hT : TapC f L v) (hp : 0 ≤ v 50 2 ∧ v 50 2 ≤ L) : MNv G yX3_nextToken cX3_nextToken 2 none 1 21 [vr 50] v (fun w => NxtQ f L v w) := by
  refine MN.of pn_X3_nextToken [some (vr 50), none] 1 rfl rfl (fun X C hX hn hR => ?_)
  have hN : ∀ i : Nat, i < 2 → i < xn X := fun i h => by rw [hn]; exact h
  refine E.rngk (fun hinv => ?_)
  refine E.loc (fun hloc => ?_)
  have hTL := hT.2.1
  have lp0 : ∀ (k0 : Nat) (w : VT), (L - w 50 2).toNat = k0 → (FrN v w ∧ 0 ≤ w 50 2 ∧ w 50 2 ≤ L ∧ scn 32 32 f L (w 50 2) = tS f L (v 50 2)) → E X G 0 0 1000 w 0 [some (vr 50), none] [] := by
    intro k0
    induction k0 using Nat.strongRecOn with
    | ind k0 ih0 =>
      intro w hk0 hI0
      obtain ⟨hF, hw0, hw1, hsc⟩ := hI0
      have hTw := hT.fn hF
      have jn43 : w 50 2 = tS f L (v 50 2) → E X G 0 0 1000 w 43 [some (vr 50), none] [] := by
        intro  hJ43
        refine E.aload_n C dX3_nextToken_43 rfl rfl ?_
        refine E.aload_n C dX3_nextToken_44 rfl rfl ?_
        refine N.getI C fa_X3_24 rfl dX3_nextToken_45 kd_50 (x := w 50 2) rfl ?_
        refine N.putI C fp_X3_67 rfl dX3_nextToken_48 kd_50 ?_
        refine E.aload_n C dX3_nextToken_51 rfl rfl ?_
        refine N.getI C fa_X3_67 rfl dX3_nextToken_52 kd_50 (x := w 50 2) (upd2_same _ _ _ _) ?_
        refine E.aload_n C dX3_nextToken_55 rfl rfl ?_
        refine N.getR C fa_X3_9 rfl dX3_nextToken_56 kd_50 (x := 2) (by decide +kernel) (by decide) ?_
        refine N.getI C fa_X3_168 rfl dX3_nextToken_59 kd_2 (x := L) ((upd2_ne _ _ _ _ _ _ (Or.inr (by decide))).trans ((hF 2 1 (Or.inl (by decide))).trans hT.1)) ?_
        refine E.icmp_lt C dX3_nextToken_62 (tgt := 73) (by decide) (fun h62 => ?_) (fun h62 => ?_)
        · skip
          refine E.aload_n C dX3_nextToken_73 rfl rfl ?_
          refine N.getR C fa_X3_9 rfl dX3_nextToken_74 kd_50 (x := 2) (by decide +kernel) (by decide) ?_
          refine E.aload_n C dX3_nextToken_77 rfl rfl ?_
          refine N.getI C fa_X3_67 rfl dX3_nextToken_78 kd_50 (x := w 50 2) (upd2_same _ _ _ _) ?_
          refine N.callVp (S := []) (As := [vi (w 50 2)]) C hX (ok_byt (f := f) (L := L) G (w 50 2) (upd2 w 50 4 (w 50 2)) (by repeat (first | exact hTw | exact hTu | exact hT | refine TapC.up (by decide) ?_)) (by omega)) yf_X5_byteAt yv_X5_byteAt ml_X3_173 rfl rfl rfl kd_2 (by decide) (by decide) (Nat.le_of_ble_eq_true rfl) dX3_nextToken_81 rfl ?_
          refine E.bipush C dX3_nextToken_84 (by decide) ?_
          have hc86 := cby_in (f := f) (L := L) (p := w 50 2) (a := 59) (b := 59) (by decide) (by decide) (hT.by (by omega))
          refine E.icmp_ne C dX3_nextToken_86 (tgt := 107) (by decide) (fun h86 => ?_) (fun h86 => ?_)
          · skip
            refine E.aload_n C dX3_nextToken_107 rfl rfl ?_
            refine N.getR C fa_X3_9 rfl dX3_nextToken_108 kd_50 (x := 2) (by decide +kernel) (by decide) ?_
            refine E.aload_n C dX3_nextToken_111 rfl rfl ?_
            refine N.getI C fa_X3_67 rfl dX3_nextToken_112 kd_50 (x := w 50 2) (upd2_same _ _ _ _) ?_
            refine N.callVp (S := []) (As := [vi (w 50 2)]) C hX (ok_byt (f := f) (L := L) G (w 50 2) (upd2 w 50 4 (w 50 2)) (by repeat (first | exact hTw | exact hTu | exact hT | refine TapC.up (by decide) ?_)) (by omega)) yf_X5_byteAt yv_X5_byteAt ml_X3_173 rfl rfl rfl kd_2 (by decide) (by decide) (Nat.le_of_ble_eq_true rfl) dX3_nextToken_115 rfl ?_
            refine N.callSp (S := []) (As := [vi (cby f L (w 50 2))]) C hX (ok_X3_isLetter G (cby f L (w 50 2)) (upd2 w 50 4 (w 50 2))) yf_X3_isLetter yv_X3_isLetter ml_X3_177 rfl (by decide) (Nat.le_of_ble_eq_true rfl) dX3_nextToken_118 rfl ?_
            have hc121 := cby_in (f := f) (L := L) (p := w 50 2) (a := 97) (b := 122) (by decide) (by decide) (hT.by (by omega))
            refine E.if_eq C dX3_nextToken_121 (tgt := 173) (by decide) (fun h121 => ?_) (fun h121 => ?_)
            · have h121 := b0.mp h121
              refine E.aload_n C dX3_nextToken_173 rfl rfl ?_
              refine E.iconst C dX3_nextToken_174 (by decide) ?_
              refine N.putI C fp_X3_105 rfl dX3_nextToken_175 kd_50 ?_
              have lp178 : ∀ (k178 : Nat) (u : VT), (L - u 50 2).toNat = k178 → (FrN v u ∧ u 50 4 = tS f L (v 50 2) ∧ tS f L (v 50 2) ≤ u 50 2 ∧ 0 ≤ u 50 2 ∧ u 50 2 ≤ L ∧ scn 48 57 f L (u 50 2) = scn 48 57 f L (tS f L (v 50 2)) ∧ valI f (tS f L (v 50 2)) (u 50 2) (u 50 5)) → E X G 0 0 1000 u 178 [some (vr 50), none] [] := by
                intro k178
                induction k178 using Nat.strongRecOn with
                | ind k178 ih178 =>
                  intro u hk178 hI178
                  obtain ⟨hG, hu4, hus, hu0, hu1, hsu, hval⟩ := hI178
                  have hTu := hT.fn hG
                  have hvr := hval.1
                  have jn251 : u 50 2 = scn 48 57 f L (tS f L (v 50 2)) → E X G 0 0 1000 u 251 [some (vr 50), none] [] := by
                    intro  hJ251
                    refine E.aload_n C dX3_nextToken_251 rfl rfl ?_
                    refine N.getI C fa_X3_24 rfl dX3_nextToken_252 kd_50 (x := u 50 2) rfl ?_
                    refine E.aload_n C dX3_nextToken_255 rfl rfl ?_
                    refine N.getI C fa_X3_67 rfl dX3_nextToken_256 kd_50 (x := u 50 4) rfl ?_
                    refine E.isub C dX3_nextToken_259 (by omega) ?_
                    refine N.ist_1 C dX3_nextToken_260 (hN 1 (by decide)) rfl ?_
                    refine E.aload_n C dX3_nextToken_261 rfl rfl ?_
                    refine E.iload_n C dX3_nextToken_262 rfl rfl ?_
                    refine E.iconst C dX3_nextToken_263 (by decide) ?_
                    refine E.icmp_eq C dX3_nextToken_264 (tgt := 272) (by decide) (fun h264 => ?_) (fun h264 => ?_)
                    · skip
                      refine E.iconst C dX3_nextToken_272 (by decide) ?_
                      refine E.goto C dX3_nextToken_273 (tgt := 277) (by decide) ?_
                      refine N.putI C fp_X3_50 rfl dX3_nextToken_277 kd_50 ?_
                      exact N.vret C hR dX3_nextToken_280 (fun hi => by first | exact Nxt_end hF hJ43 (by rw [← hJ43]; omega) | exact Nxt_stop hF hJ43 (by rw [← hJ43]; omega) (by rw [← hJ43]; omega) | exact Nxt_name hG hu3 hu4 (by rw [← hsu, scn_no (by omega)]) (by rw [← hJ43]; omega) (by rw [← hJ43]; omega) | exact Nxt_num hG hu4 hJ251 hval (by rw [← hJ43]; omega) (by rw [← hJ43]; omega) (by rw [← hJ43]; omega) (by omega))
                    · skip
                      refine E.iload_n C dX3_nextToken_267 rfl rfl ?_
                      refine E.iconst C dX3_nextToken_268 (by decide) ?_
                      refine E.icmp_ne C dX3_nextToken_269 (tgt := 276) (by decide) (fun h269 => ?_) (fun h269 => ?_)
                      · skip
                        refine E.iconst C dX3_nextToken_276 (by decide) ?_
                        refine N.putI C fp_X3_50 rfl dX3_nextToken_277 kd_50 ?_
                        exact N.vret C hR dX3_nextToken_280 (fun hi => by first | exact Nxt_end hF hJ43 (by rw [← hJ43]; omega) | exact Nxt_stop hF hJ43 (by rw [← hJ43]; omega) (by rw [← hJ43]; omega) | exact Nxt_name hG hu3 hu4 (by rw [← hsu, scn_no (by omega)]) (by rw [← hJ43]; omega) (by rw [← hJ43]; omega) | exact Nxt_num hG hu4 hJ251 hval (by rw [← hJ43]; omega) (by rw [← hJ43]; omega) (by rw [← hJ43]; omega) (by omega))
                      · skip
                        refine E.iconst C dX3_nextToken_272 (by decide) ?_
                        refine E.goto C dX3_nextToken_273 (tgt := 277) (by decide) ?_
                        refine N.putI C fp_X3_50 rfl dX3_nextToken_277 kd_50 ?_
                        exact N.vret C hR dX3_nextToken_280 (fun hi => by first | exact Nxt_end hF hJ43 (by rw [← hJ43]; omega) | exact Nxt_stop hF hJ43 (by rw [← hJ43]; omega) (by rw [← hJ43]; omega) | exact Nxt_name hG hu3 hu4 (by rw [← hsu, scn_no (by omega)]) (by rw [← hJ43]; omega) (by rw [← hJ43]; omega) | exact Nxt_num hG hu4 hJ251 hval (by rw [← hJ43]; omega) (by rw [← hJ43]; omega) (by rw [← hJ43]; omega) (by omega))
                  refine E.aload_n C dX3_nextToken_178 rfl rfl ?_
                  refine N.getI C fa_X3_24 rfl dX3_nextToken_179 kd_50 (x := u 50 2) rfl ?_
                  refine E.aload_n C dX3_nextToken_182 rfl rfl ?_
                  refine N.getR C fa_X3_9 rfl dX3_nextToken_183 kd_50 (x := 2) (by decide +kernel) (by decide) ?_
                  refine N.getI C fa_X3_168 rfl dX3_nextToken_186 kd_2 (x := L) ((hG 2 1 (Or.inl (by decide))).trans hT.1) ?_
                  refine E.icmp_ge C dX3_nextToken_189 (tgt := 251) (by decide) (fun h189 => ?_) (fun h189 => ?_)
                  · skip
                    exact jn251  (by rw [← hsu, scn_no (by omega)])
                  · skip
                    refine E.aload_n C dX3_nextToken_192 rfl rfl ?_
                    refine N.getR C fa_X3_9 rfl dX3_nextToken_193 kd_50 (x := 2) (by decide +kernel) (by decide) ?_
                    refine E.aload_n C dX3_nextToken_196 rfl rfl ?_
                    refine N.getI C fa_X3_24 rfl dX3_nextToken_197 kd_50 (x := u 50 2) rfl ?_
                    refine N.callVp (S := []) (As := [vi (u 50 2)]) C hX (ok_byt (f := f) (L := L) G (u 50 2) u (by repeat (first | exact hTw | exact hTu | exact hT | refine TapC.up (by decide) ?_)) (by omega)) yf_X5_byteAt yv_X5_byteAt ml_X3_173 rfl rfl rfl kd_2 (by decide) (by decide) (Nat.le_of_ble_eq_true rfl) dX3_nextToken_200 rfl ?_
                    refine N.callSp (S := []) (As := [vi (cby f L (u 50 2))]) C hX (ok_X3_isFigure G (cby f L (u 50 2)) u) yf_X3_isFigure yv_X3_isFigure ml_X3_180 rfl (by decide) (Nat.le_of_ble_eq_true rfl) dX3_nextToken_203 rfl ?_
                    have hc206 := cby_in (f := f) (L := L) (p := u 50 2) (a := 48) (b := 57) (by decide) (by decide) (hT.by (by omega))
                    have hcb := cby_lt (f := f) (L := L) (p := u 50 2) (by omega) (hT.by (by omega))
                    refine E.if_eq C dX3_nextToken_206 (tgt := 251) (by decide) (fun h206 => ?_) (fun h206 => ?_)
                    · have h206 := b0.mp h206
                      exact jn251  (by rw [← hsu, scn_no (by omega)])
                    · have h206 := b0n.mp h206
                      refine E.aload_n C dX3_nextToken_209 rfl rfl ?_
                      refine E.aload_n C dX3_nextToken_210 rfl rfl ?_
                      refine N.getI C fa_X3_105 rfl dX3_nextToken_211 kd_50 (x := u 50 5) rfl ?_
                      refine E.bipush C dX3_nextToken_214 (by decide) ?_
                      refine E.irem C dX3_nextToken_216 (by omega) (by omega) ?_
                      refine E.bipush C dX3_nextToken_217 (by decide) ?_
                      refine E.imul C dX3_nextToken_219 (by omega) ?_
                      refine E.aload_n C dX3_nextToken_220 rfl rfl ?_
                      refine N.getR C fa_X3_9 rfl dX3_nextToken_221 kd_50 (x := 2) (by decide +kernel) (by decide) ?_
                      refine E.aload_n C dX3_nextToken_224 rfl rfl ?_
                      refine N.getI C fa_X3_24 rfl dX3_nextToken_225 kd_50 (x := u 50 2) rfl ?_
                      refine N.callVp (S := [vi (((u 50 5) % 100) * 10), vr 50]) (As := [vi (u 50 2)]) C hX (ok_byt (f := f) (L := L) G (u 50 2) u (by repeat (first | exact hTw | exact hTu | exact hT | refine TapC.up (by decide) ?_)) (by omega)) yf_X5_byteAt yv_X5_byteAt ml_X3_173 rfl rfl rfl kd_2 (by decide) (by decide) (Nat.le_of_ble_eq_true rfl) dX3_nextToken_228 rfl ?_
                      refine E.iadd C dX3_nextToken_231 (by omega) ?_
                      refine E.bipush C dX3_nextToken_232 (by decide) ?_
                      refine E.isub C dX3_nextToken_234 (by omega) ?_
                      refine N.putI C fp_X3_105 rfl dX3_nextToken_235 kd_50 ?_
                      refine E.aload_n C dX3_nextToken_238 rfl rfl ?_
                      refine E.dupR C dX3_nextToken_239 ?_
                      refine N.getI C fa_X3_24 rfl dX3_nextToken_240 kd_50 (x := u 50 2) (upd2_ne _ _ _ _ _ _ (Or.inr (by decide))) ?_
                      refine E.iconst C dX3_nextToken_243 (by decide) ?_
                      refine E.iadd C dX3_nextToken_244 (by omega) ?_
                      refine N.putI C fp_X3_24 rfl dX3_nextToken_245 kd_50 ?_
                      refine E.goto C dX3_nextToken_248 (tgt := 178) (by decide) ?_
                      exact ih178 _ (by rw [ux_at rfl]; omega) (upd2 (upd2 u 50 5 (((((u 50 5) % 100) * 10) + (cby f L (u 50 2))) - 48)) 50 2 ((u 50 2) + 1)) rfl (by exact ⟨(hG.up (by decide)).up (by decide), (ux_ne (by decide)).trans ((ux_ne (by decide)).trans hu4), by rw [ux_at rfl]; omega, by rw [ux_at rfl]; omega, by rw [ux_at rfl]; omega, by rw [ux_at rfl, ← scn_yes (by omega) (by omega)]; exact hsu, by rw [ux_at rfl, ux_ne (by decide), ux_at rfl]; exact hval.next hus (by omega) (by omega)⟩)
              exact lp178 _ (upd2 (upd2 w 50 4 (w 50 2)) 50 5 0) rfl (by have e2 : (upd2 (upd2 w 50 4 (w 50 2)) 50 5 0) 50 2 = w 50 2 := (ux_ne (by decide)).trans (ux_ne (by decide)); exact ⟨(hF.up (by decide)).up (by decide), (ux_ne (by decide)).trans ((ux_at rfl).trans hJ43), by rw [e2]; omega, by rw [e2]; omega, by rw [e2]; omega, by rw [e2, hJ43], by rw [e2, ux_at rfl]; exact ⟨by omega, fun _ => rfl, fun g => by omega, fun g => by omega, fun g => by omega⟩⟩)
            · have h121 := b0n.mp h121
              refine E.aload_n C dX3_nextToken_124 rfl rfl ?_
              refine E.iconst C dX3_nextToken_125 (by decide) ?_
              refine N.putI C fp_X3_50 rfl dX3_nextToken_126 kd_50 ?_
              have lp129 : ∀ (k129 : Nat) (u : VT), (L - u 50 2).toNat = k129 → (FrN v u ∧ u 50 3 = 1 ∧ u 50 4 = tS f L (v 50 2) ∧ 0 ≤ u 50 2 ∧ u 50 2 ≤ L ∧ scn 97 122 f L (u 50 2) = scn 97 122 f L (tS f L (v 50 2))) → E X G 0 0 1000 u 129 [some (vr 50), none] [] := by
                intro k129
                induction k129 using Nat.strongRecOn with
                | ind k129 ih129 =>
                  intro u hk129 hI129
                  obtain ⟨hG, hu3, hu4, hu0, hu1, hsu⟩ := hI129
                  have hTu := hT.fn hG
                  refine E.aload_n C dX3_nextToken_129 rfl rfl ?_
                  refine N.getI C fa_X3_24 rfl dX3_nextToken_130 kd_50 (x := u 50 2) rfl ?_
                  refine E.aload_n C dX3_nextToken_133 rfl rfl ?_
                  refine N.getR C fa_X3_9 rfl dX3_nextToken_134 kd_50 (x := 2) (by decide +kernel) (by decide) ?_
                  refine N.getI C fa_X3_168 rfl dX3_nextToken_137 kd_2 (x := L) ((hG 2 1 (Or.inl (by decide))).trans hT.1) ?_
                  refine E.icmp_ge C dX3_nextToken_140 (tgt := 280) (by decide) (fun h140 => ?_) (fun h140 => ?_)
                  · skip
                    exact N.vret C hR dX3_nextToken_280 (fun hi => by first | exact Nxt_end hF hJ43 (by rw [← hJ43]; omega) | exact Nxt_stop hF hJ43 (by rw [← hJ43]; omega) (by rw [← hJ43]; omega) | exact Nxt_name hG hu3 hu4 (by rw [← hsu, scn_no (by omega)]) (by rw [← hJ43]; omega) (by rw [← hJ43]; omega) | exact Nxt_num hG hu4 hJ251 hval (by rw [← hJ43]; omega) (by rw [← hJ43]; omega) (by rw [← hJ43]; omega) (by omega))
                  · skip
                    refine E.aload_n C dX3_nextToken_143 rfl rfl ?_
                    refine N.getR C fa_X3_9 rfl dX3_nextToken_144 kd_50 (x := 2) (by decide +kernel) (by decide) ?_
                    refine E.aload_n C dX3_nextToken_147 rfl rfl ?_
                    refine N.getI C fa_X3_24 rfl dX3_nextToken_148 kd_50 (x := u 50 2) rfl ?_
                    refine N.callVp (S := []) (As := [vi (u 50 2)]) C hX (ok_byt (f := f) (L := L) G (u 50 2) u (by repeat (first | exact hTw | exact hTu | exact hT | refine TapC.up (by decide) ?_)) (by omega)) yf_X5_byteAt yv_X5_byteAt ml_X3_173 rfl rfl rfl kd_2 (by decide) (by decide) (Nat.le_of_ble_eq_true rfl) dX3_nextToken_151 rfl ?_
                    refine N.callSp (S := []) (As := [vi (cby f L (u 50 2))]) C hX (ok_X3_isLetter G (cby f L (u 50 2)) u) yf_X3_isLetter yv_X3_isLetter ml_X3_177 rfl (by decide) (Nat.le_of_ble_eq_true rfl) dX3_nextToken_154 rfl ?_
                    have hc157 := cby_in (f := f) (L := L) (p := u 50 2) (a := 97) (b := 122) (by decide) (by decide) (hT.by (by omega))
                    refine E.if_eq C dX3_nextToken_157 (tgt := 280) (by decide) (fun h157 => ?_) (fun h157 => ?_)
                    · have h157 := b0.mp h157
                      exact N.vret C hR dX3_nextToken_280 (fun hi => by first | exact Nxt_end hF hJ43 (by rw [← hJ43]; omega) | exact Nxt_stop hF hJ43 (by rw [← hJ43]; omega) (by rw [← hJ43]; omega) | exact Nxt_name hG hu3 hu4 (by rw [← hsu, scn_no (by omega)]) (by rw [← hJ43]; omega) (by rw [← hJ43]; omega) | exact Nxt_num hG hu4 hJ251 hval (by rw [← hJ43]; omega) (by rw [← hJ43]; omega) (by rw [← hJ43]; omega) (by omega))
                    · have h157 := b0n.mp h157
                      refine E.aload_n C dX3_nextToken_160 rfl rfl ?_
                      refine E.dupR C dX3_nextToken_161 ?_
                      refine N.getI C fa_X3_24 rfl dX3_nextToken_162 kd_50 (x := u 50 2) rfl ?_
                      refine E.iconst C dX3_nextToken_165 (by decide) ?_
                      refine E.iadd C dX3_nextToken_166 (by omega) ?_
                      refine N.putI C fp_X3_24 rfl dX3_nextToken_167 kd_50 ?_
                      refine E.goto C dX3_nextToken_170 (tgt := 129) (by decide) ?_
                      exact ih129 _ (by rw [ux_at rfl]; omega) (upd2 u 50 2 ((u 50 2) + 1)) rfl (by exact ⟨hG.up (by decide), (ux_ne (by decide)).trans hu3, (ux_ne (by decide)).trans hu4, by rw [ux_at rfl]; omega, by rw [ux_at rfl]; omega, by rw [ux_at rfl, ← scn_yes (by omega) (by omega)]; exact hsu⟩)
              exact lp129 _ (upd2 (upd2 w 50 4 (w 50 2)) 50 3 1) rfl (by have e2 : (upd2 (upd2 w 50 4 (w 50 2)) 50 3 1) 50 2 = w 50 2 := (ux_ne (by decide)).trans (ux_ne (by decide)); exact ⟨(hF.up (by decide)).up (by decide), ux_at rfl, (ux_ne (by decide)).trans ((ux_at rfl).trans hJ43), by rw [e2]; omega, by rw [e2]; omega, by rw [e2, hJ43]⟩)
          · skip
            refine E.aload_n C dX3_nextToken_89 rfl rfl ?_
            refine E.iconst C dX3_nextToken_90 (by decide) ?_
            refine N.putI C fp_X3_50 rfl dX3_nextToken_91 kd_50 ?_
            refine E.aload_n C dX3_nextToken_94 rfl rfl ?_
            refine E.dupR C dX3_nextToken_95 ?_
            refine N.getI C fa_X3_24 rfl dX3_nextToken_96 kd_50 (x := w 50 2) ((upd2_ne _ _ _ _ _ _ (Or.inr (by decide))).trans (upd2_ne _ _ _ _ _ _ (Or.inr (by decide)))) ?_
            refine E.iconst C dX3_nextToken_99 (by decide) ?_
            refine E.iadd C dX3_nextToken_100 (by omega) ?_
            refine N.putI C fp_X3_24 rfl dX3_nextToken_101 kd_50 ?_
            refine E.goto C dX3_nextToken_104 (tgt := 280) (by decide) ?_
            exact N.vret C hR dX3_nextToken_280 (fun hi => by first | exact Nxt_end hF hJ43 (by rw [← hJ43]; omega) | exact Nxt_stop hF hJ43 (by rw [← hJ43]; omega) (by rw [← hJ43]; omega) | exact Nxt_name hG hu3 hu4 (by rw [← hsu, scn_no (by omega)]) (by rw [← hJ43]; omega) (by rw [← hJ43]; omega) | exact Nxt_num hG hu4 hJ251 hval (by rw [← hJ43]; omega) (by rw [← hJ43]; omega) (by rw [← hJ43]; omega) (by omega))
        · skip
          refine E.aload_n C dX3_nextToken_65 rfl rfl ?_
          refine E.iconst C dX3_nextToken_66 (by decide) ?_
          refine N.putI C fp_X3_50 rfl dX3_nextToken_67 kd_50 ?_
          refine E.goto C dX3_nextToken_70 (tgt := 280) (by decide) ?_
          exact N.vret C hR dX3_nextToken_280 (fun hi => by first | exact Nxt_end hF hJ43 (by rw [← hJ43]; omega) | exact Nxt_stop hF hJ43 (by rw [← hJ43]; omega) (by rw [← hJ43]; omega) | exact Nxt_name hG hu3 hu4 (by rw [← hsu, scn_no (by omega)]) (by rw [← hJ43]; omega) (by rw [← hJ43]; omega) | exact Nxt_num hG hu4 hJ251 hval (by rw [← hJ43]; omega) (by rw [← hJ43]; omega) (by rw [← hJ43]; omega) (by omega))
      refine E.aload_n C dX3_nextToken_0 rfl rfl ?_
      refine N.getI C fa_X3_24 rfl dX3_nextToken_1 kd_50 (x := w 50 2) rfl ?_
      refine E.aload_n C dX3_nextToken_4 rfl rfl ?_
      refine N.getR C fa_X3_9 rfl dX3_nextToken_5 kd_50 (x := 2) (by decide +kernel) (by decide) ?_
      refine N.getI C fa_X3_168 rfl dX3_nextToken_8 kd_2 (x := L) ((hF 2 1 (Or.inl (by decide))).trans hT.1) ?_
      refine E.icmp_ge C dX3_nextToken_11 (tgt := 43) (by decide) (fun h11 => ?_) (fun h11 => ?_)
      · skip
        exact jn43  (by rw [← hsc, scn_no (by omega)])
      · skip
        refine E.aload_n C dX3_nextToken_14 rfl rfl ?_
        refine N.getR C fa_X3_9 rfl dX3_nextToken_15 kd_50 (x := 2) (by decide +kernel) (by decide) ?_
        refine E.aload_n C dX3_nextToken_18 rfl rfl ?_
        refine N.getI C fa_X3_24 rfl dX3_nextToken_19 kd_50 (x := w 50 2) rfl ?_
        refine N.callVp (S := []) (As := [vi (w 50 2)]) C hX (ok_byt (f := f) (L := L) G (w 50 2) w (by repeat (first | exact hTw | exact hTu | exact hT | refine TapC.up (by decide) ?_)) (by omega)) yf_X5_byteAt yv_X5_byteAt ml_X3_173 rfl rfl rfl kd_2 (by decide) (by decide) (Nat.le_of_ble_eq_true rfl) dX3_nextToken_22 rfl ?_
        refine E.bipush C dX3_nextToken_25 (by decide) ?_
        have hc27 := cby_in (f := f) (L := L) (p := w 50 2) (a := 32) (b := 32) (by decide) (by decide) (hT.by (by omega))
        refine E.icmp_ne C dX3_nextToken_27 (tgt := 43) (by decide) (fun h27 => ?_) (fun h27 => ?_)
        · skip
          exact jn43  (by rw [← hsc, scn_no (by omega)])
        · skip
          refine E.aload_n C dX3_nextToken_30 rfl rfl ?_
          refine E.dupR C dX3_nextToken_31 ?_
          refine N.getI C fa_X3_24 rfl dX3_nextToken_32 kd_50 (x := w 50 2) rfl ?_
          refine E.iconst C dX3_nextToken_35 (by decide) ?_
          refine E.iadd C dX3_nextToken_36 (by omega) ?_
          refine N.putI C fp_X3_24 rfl dX3_nextToken_37 kd_50 ?_
          refine E.goto C dX3_nextToken_40 (tgt := 0) (by decide) ?_
          exact ih0 _ (by rw [ux_at rfl]; omega) (upd2 w 50 2 ((w 50 2) + 1)) rfl (by exact ⟨hF.up (by decide), by rw [ux_at rfl]; omega, by rw [ux_at rfl]; omega, by rw [ux_at rfl, ← scn_yes (by omega) (by omega)]; exact hsc⟩)
  exact lp0 _ v rfl (by exact ⟨FrN.rf, hp.1, hp.2, rfl⟩)

set_option maxHeartbeats 4000000 in
set_option maxRecDepth 20000 in
theorem ok_X3_refuse (G : GT) (c : Int) (v : VT) : MIe G yX3_refuse cX3_refuse 2 (some .boolean) 0 0 [vr 50, vi c] v 0 (upd2 (upd2 v 50 10 c) 50 11 (v 50 4)) := by
  refine MN.of pn_X3_refuse [some (vr 50), some (vi c)] 0 rfl rfl (fun X C hX hn hR => ?_)
  have hN : ∀ i : Nat, i < 2 → i < xn X := fun i h => by rw [hn]; exact h
  refine E.rngk (fun hinv => ?_)
  refine E.loc (fun hloc => ?_)
  have hin_1 : in32 c := hloc _ (List.mem_of_getElem? (i := 1) rfl)
  refine E.aload_n C dX3_refuse_0 rfl rfl ?_
  refine E.iload_n C dX3_refuse_1 rfl rfl ?_
  refine N.putI C fp_X3_41 rfl dX3_refuse_2 kd_50 ?_
  refine E.aload_n C dX3_refuse_5 rfl rfl ?_
  refine E.aload_n C dX3_refuse_6 rfl rfl ?_
  refine N.getI C fa_X3_67 rfl dX3_refuse_7 kd_50 (x := v 50 4) (upd2_ne _ _ _ _ _ _ (Or.inr (by decide))) ?_
  refine N.putI C fp_X3_44 rfl dX3_refuse_10 kd_50 ?_
  refine E.iconst C dX3_refuse_13 (by decide) ?_
  exact N.zret C hR dX3_refuse_14 (by omega) (fun hi => by exact ⟨rfl, rfl⟩)

set_option maxHeartbeats 4000000 in
set_option maxRecDepth 20000 in
theorem ok_X3_takeNumber (G : GT) (f : Int → Int) (L : Int) (lo hi : Int) (v : VT) (hT : TapC f L v) (hp : 0 ≤ v 50 2 ∧ v 50 2 ≤ L) : MNi G yX3_takeNumber cX3_takeNumber 3 (some .boolean) 2 42 [vr 50, vi lo, vi hi] v (fun x w => NumQ f L v lo hi x w) := by
  refine MN.of pn_X3_takeNumber [some (vr 50), some (vi lo), some (vi hi)] 0 rfl rfl (fun X C hX hn hR => ?_)
  have hN : ∀ i : Nat, i < 3 → i < xn X := fun i h => by rw [hn]; exact h
  refine E.rngk (fun hinv => ?_)
  refine E.loc (fun hloc => ?_)
  have hin_1 : in32 lo := hloc _ (List.mem_of_getElem? (i := 1) rfl)
  have hin_2 : in32 hi := hloc _ (List.mem_of_getElem? (i := 2) rfl)
  have hTL := hT.2.1
  refine E.aload_n C dX3_takeNumber_0 rfl rfl ?_
  refine N.callVv (S := []) (As := []) C hX (ok_X3_nextToken G f L v (by assumption) (by omega)) yf_X3_nextToken yv_X3_nextToken ml_X3_47 rfl rfl rfl kd_50 (by decide) (by decide) (Nat.le_of_ble_eq_true rfl) dX3_takeNumber_1 rfl (fun w1 hp1 => ?_)
  have hq1 := hp1
  obtain ⟨hF1, hk1, hs1, he1, hv1⟩ := hq1
  refine E.aload_n C dX3_takeNumber_4 rfl rfl ?_
  refine N.getI C fa_X3_50 rfl dX3_takeNumber_5 kd_50 (x := w1 50 3) rfl ?_
  refine E.iconst C dX3_takeNumber_8 (by decide) ?_
  refine E.icmp_eq C dX3_takeNumber_9 (tgt := 30) (by decide) (fun h9 => ?_) (fun h9 => ?_)
  · skip
    refine E.aload_n C dX3_takeNumber_30 rfl rfl ?_
    refine N.getI C fa_X3_105 rfl dX3_takeNumber_31 kd_50 (x := w1 50 5) rfl ?_
    refine E.iload_n C dX3_takeNumber_34 rfl rfl ?_
    refine E.iload_n C dX3_takeNumber_35 rfl rfl ?_
    refine N.callSp (S := []) (As := [vi (w1 50 5), vi lo, vi hi]) C hX (ok_X8_within G (w1 50 5) lo hi w1) yf_X8_within yv_X8_within ml_X3_164 rfl (by decide) (Nat.le_of_ble_eq_true rfl) dX3_takeNumber_36 rfl ?_
    refine E.if_ne C dX3_takeNumber_39 (tgt := 50) (by decide) (fun h39 => ?_) (fun h39 => ?_)
    · have h39 := b0n.mp h39
      refine E.iconst C dX3_takeNumber_50 (by decide) ?_
      refine E.goto C dX3_takeNumber_51 (tgt := 55) (by decide) ?_
      exact N.zret C hR dX3_takeNumber_55 (by omega) (fun hi => by first | exact num_bad hp1 (by omega) | exact num_ok hp1 (by omega) (by omega))
    · have h39 := b0.mp h39
      refine E.aload_n C dX3_takeNumber_42 rfl rfl ?_
      refine E.iconst C dX3_takeNumber_43 (by decide) ?_
      refine N.callVd (S := []) (As := [vi 3]) C hX (ok_X3_refuse G 3 w1) yf_X3_refuse yv_X3_refuse ml_X3_63 rfl rfl rfl kd_50 (by decide) (by decide) (Nat.le_of_ble_eq_true rfl) dX3_takeNumber_44 rfl ?_
      refine E.if_eq C dX3_takeNumber_47 (tgt := 54) (by decide) (fun h47 => ?_) (fun h47 => by exfalso; omega)
      refine E.iconst C dX3_takeNumber_54 (by decide) ?_
      exact N.zret C hR dX3_takeNumber_55 (by omega) (fun hi => by first | exact num_bad hp1 (by omega) | exact num_ok hp1 (by omega) (by omega))
  · skip
    refine E.aload_n C dX3_takeNumber_12 rfl rfl ?_
    refine E.aload_n C dX3_takeNumber_13 rfl rfl ?_
    refine N.getI C fa_X3_50 rfl dX3_takeNumber_14 kd_50 (x := w1 50 3) rfl ?_
    refine E.iconst C dX3_takeNumber_17 (by decide) ?_
    refine E.icmp_ne C dX3_takeNumber_18 (tgt := 25) (by decide) (fun h18 => ?_) (fun h18 => ?_)
    · skip
      refine E.iconst C dX3_takeNumber_25 (by decide) ?_
      refine N.callVd (S := []) (As := [vi 2]) C hX (ok_X3_refuse G 2 w1) yf_X3_refuse yv_X3_refuse ml_X3_63 rfl rfl rfl kd_50 (by decide) (by decide) (Nat.le_of_ble_eq_true rfl) dX3_takeNumber_26 rfl ?_
      exact N.zret C hR dX3_takeNumber_29 (by omega) (fun hi => by first | exact num_bad hp1 (by omega) | exact num_ok hp1 (by omega) (by omega))
    · skip
      refine E.iconst C dX3_takeNumber_21 (by decide) ?_
      refine E.goto C dX3_takeNumber_22 (tgt := 26) (by decide) ?_
      refine N.callVd (S := []) (As := [vi 1]) C hX (ok_X3_refuse G 1 w1) yf_X3_refuse yv_X3_refuse ml_X3_63 rfl rfl rfl kd_50 (by decide) (by decide) (Nat.le_of_ble_eq_true rfl) dX3_takeNumber_26 rfl ?_
      exact N.zret C hR dX3_takeNumber_29 (by omega) (fun hi => by first | exact num_bad hp1 (by omega) | exact num_ok hp1 (by omega) (by omega))

set_option maxHeartbeats 4000000 in
set_option maxRecDepth 20000 in
theorem ok_X3_takeStop (G : GT) (f : Int → Int) (L : Int) (v : VT) (hT : TapC f L v) (hp : 0 ≤ v 50 2 ∧ v 50 2 ≤ L) : MNi G yX3_takeStop cX3_takeStop 1 (some .boolean) 2 42 [vr 50] v (fun x w => EndQ f L v x w) := by
  refine MN.of pn_X3_takeStop [some (vr 50)] 0 rfl rfl (fun X C hX hn hR => ?_)
  have hN : ∀ i : Nat, i < 1 → i < xn X := fun i h => by rw [hn]; exact h
  refine E.rngk (fun hinv => ?_)
  refine E.loc (fun hloc => ?_)
  have hTL := hT.2.1
  refine E.aload_n C dX3_takeStop_0 rfl rfl ?_
  refine N.callVv (S := []) (As := []) C hX (ok_X3_nextToken G f L v (by assumption) (by omega)) yf_X3_nextToken yv_X3_nextToken ml_X3_47 rfl rfl rfl kd_50 (by decide) (by decide) (Nat.le_of_ble_eq_true rfl) dX3_takeStop_1 rfl (fun w1 hp1 => ?_)
  have hq1 := hp1
  obtain ⟨hF1, hk1, hs1, he1, hv1⟩ := hq1
  refine E.aload_n C dX3_takeStop_4 rfl rfl ?_
  refine N.getI C fa_X3_50 rfl dX3_takeStop_5 kd_50 (x := w1 50 3) rfl ?_
  refine E.iconst C dX3_takeStop_8 (by decide) ?_
  refine E.icmp_eq C dX3_takeStop_9 (tgt := 32) (by decide) (fun h9 => ?_) (fun h9 => ?_)
  · skip
    refine E.iconst C dX3_takeStop_32 (by decide) ?_
    refine E.goto C dX3_takeStop_33 (tgt := 37) (by decide) ?_
    exact N.zret C hR dX3_takeStop_37 (by omega) (fun hi => by first | exact stp_bad hp1 (by omega) | exact stp_ok hp1 (by omega))
  · skip
    refine E.aload_n C dX3_takeStop_12 rfl rfl ?_
    refine E.aload_n C dX3_takeStop_13 rfl rfl ?_
    refine N.getI C fa_X3_50 rfl dX3_takeStop_14 kd_50 (x := w1 50 3) rfl ?_
    refine E.iconst C dX3_takeStop_17 (by decide) ?_
    refine E.icmp_ne C dX3_takeStop_18 (tgt := 25) (by decide) (fun h18 => ?_) (fun h18 => ?_)
    · skip
      refine E.iconst C dX3_takeStop_25 (by decide) ?_
      refine N.callVd (S := []) (As := [vi 2]) C hX (ok_X3_refuse G 2 w1) yf_X3_refuse yv_X3_refuse ml_X3_63 rfl rfl rfl kd_50 (by decide) (by decide) (Nat.le_of_ble_eq_true rfl) dX3_takeStop_26 rfl ?_
      refine E.if_eq C dX3_takeStop_29 (tgt := 36) (by decide) (fun h29 => ?_) (fun h29 => by exfalso; omega)
      refine E.iconst C dX3_takeStop_36 (by decide) ?_
      exact N.zret C hR dX3_takeStop_37 (by omega) (fun hi => by first | exact stp_bad hp1 (by omega) | exact stp_ok hp1 (by omega))
    · skip
      refine E.iconst C dX3_takeStop_21 (by decide) ?_
      refine E.goto C dX3_takeStop_22 (tgt := 26) (by decide) ?_
      refine N.callVd (S := []) (As := [vi 1]) C hX (ok_X3_refuse G 1 w1) yf_X3_refuse yv_X3_refuse ml_X3_63 rfl rfl rfl kd_50 (by decide) (by decide) (Nat.le_of_ble_eq_true rfl) dX3_takeStop_26 rfl ?_
      refine E.if_eq C dX3_takeStop_29 (tgt := 36) (by decide) (fun h29 => ?_) (fun h29 => by exfalso; omega)
      refine E.iconst C dX3_takeStop_36 (by decide) ?_
      exact N.zret C hR dX3_takeStop_37 (by omega) (fun hi => by first | exact stp_bad hp1 (by omega) | exact stp_ok hp1 (by omega))

set_option maxHeartbeats 4000000 in
set_option maxRecDepth 20000 in
theorem ok_X3_kindNamed (G : GT) (f : Int → Int) (L : Int) (v : VT) (hT : TapC f L v) (hse : 0 ≤ v 50 4 ∧ v 50 4 ≤ v 50 2 ∧ v 50 2 ≤ L) : MP G yX3_kindNamed cX3_kindNamed 1 (some .int) 6 128 [vr 50] v (kdF f (v 50 4) (v 50 2)) := by
  refine MN.of pn_X3_kindNamed [some (vr 50)] 0 rfl rfl (fun X C hX hn hR => ?_)
  have hN : ∀ i : Nat, i < 1 → i < xn X := fun i h => by rw [hn]; exact h
  refine E.rngk (fun hinv => ?_)
  refine E.loc (fun hloc => ?_)
  have hTL := hT.2.1
  refine E.aload_n C dX3_kindNamed_0 rfl rfl ?_
  refine E.ldcS (i := 6) C (by decide) rfl dX3_kindNamed_1 ?_
  refine N.callVp (S := []) (As := [sr 6]) C hX (ok_X3_isNamed G f L 6 (by decide) v (by assumption) (by omega)) yf_X3_isNamed yv_X3_isNamed ml_X3_72 rfl rfl rfl kd_50 (by decide) (by decide) (Nat.le_of_ble_eq_true rfl) dX3_kindNamed_3 rfl ?_
  refine E.if_eq C dX3_kindNamed_6 (tgt := 11) (by decide) (fun h6 => ?_) (fun h6 => ?_)
  · have h6 := b0.mp h6
    refine E.aload_n C dX3_kindNamed_11 rfl rfl ?_
    refine E.ldcS (i := 7) C (by decide) rfl dX3_kindNamed_12 ?_
    refine N.callVp (S := []) (As := [sr 7]) C hX (ok_X3_isNamed G f L 7 (by decide) v (by assumption) (by omega)) yf_X3_isNamed yv_X3_isNamed ml_X3_72 rfl rfl rfl kd_50 (by decide) (by decide) (Nat.le_of_ble_eq_true rfl) dX3_kindNamed_14 rfl ?_
    refine E.if_eq C dX3_kindNamed_17 (tgt := 22) (by decide) (fun h17 => ?_) (fun h17 => ?_)
    · have h17 := b0.mp h17
      refine E.aload_n C dX3_kindNamed_22 rfl rfl ?_
      refine E.ldcS (i := 8) C (by decide) rfl dX3_kindNamed_23 ?_
      refine N.callVp (S := []) (As := [sr 8]) C hX (ok_X3_isNamed G f L 8 (by decide) v (by assumption) (by omega)) yf_X3_isNamed yv_X3_isNamed ml_X3_72 rfl rfl rfl kd_50 (by decide) (by decide) (Nat.le_of_ble_eq_true rfl) dX3_kindNamed_25 rfl ?_
      refine E.if_eq C dX3_kindNamed_28 (tgt := 33) (by decide) (fun h28 => ?_) (fun h28 => ?_)
      · have h28 := b0.mp h28
        refine E.aload_n C dX3_kindNamed_33 rfl rfl ?_
        refine E.ldcS (i := 9) C (by decide) rfl dX3_kindNamed_34 ?_
        refine N.callVp (S := []) (As := [sr 9]) C hX (ok_X3_isNamed G f L 9 (by decide) v (by assumption) (by omega)) yf_X3_isNamed yv_X3_isNamed ml_X3_72 rfl rfl rfl kd_50 (by decide) (by decide) (Nat.le_of_ble_eq_true rfl) dX3_kindNamed_36 rfl ?_
        refine E.if_eq C dX3_kindNamed_39 (tgt := 44) (by decide) (fun h39 => ?_) (fun h39 => ?_)
        · have h39 := b0.mp h39
          refine E.aload_n C dX3_kindNamed_44 rfl rfl ?_
          refine E.ldcS (i := 10) C (by decide) rfl dX3_kindNamed_45 ?_
          refine N.callVp (S := []) (As := [sr 10]) C hX (ok_X3_isNamed G f L 10 (by decide) v (by assumption) (by omega)) yf_X3_isNamed yv_X3_isNamed ml_X3_72 rfl rfl rfl kd_50 (by decide) (by decide) (Nat.le_of_ble_eq_true rfl) dX3_kindNamed_47 rfl ?_
          refine E.if_eq C dX3_kindNamed_50 (tgt := 57) (by decide) (fun h50 => ?_) (fun h50 => ?_)
          · have h50 := b0.mp h50
            refine E.bipush C dX3_kindNamed_57 (by decide) ?_
            exact N.iret C hR dX3_kindNamed_59 (fun hi hx => by refine ⟨?_, rfl⟩; simp_all [kdF])
          · have h50 := b0n.mp h50
            refine E.iconst C dX3_kindNamed_53 (by decide) ?_
            refine E.goto C dX3_kindNamed_54 (tgt := 59) (by decide) ?_
            exact N.iret C hR dX3_kindNamed_59 (fun hi hx => by refine ⟨?_, rfl⟩; simp_all [kdF])
        · have h39 := b0n.mp h39
          refine E.iconst C dX3_kindNamed_42 (by decide) ?_
          exact N.iret C hR dX3_kindNamed_43 (fun hi hx => by refine ⟨?_, rfl⟩; simp_all [kdF])
      · have h28 := b0n.mp h28
        refine E.iconst C dX3_kindNamed_31 (by decide) ?_
        exact N.iret C hR dX3_kindNamed_32 (fun hi hx => by refine ⟨?_, rfl⟩; simp_all [kdF])
    · have h17 := b0n.mp h17
      refine E.iconst C dX3_kindNamed_20 (by decide) ?_
      exact N.iret C hR dX3_kindNamed_21 (fun hi hx => by refine ⟨?_, rfl⟩; simp_all [kdF])
  · have h6 := b0n.mp h6
    refine E.iconst C dX3_kindNamed_9 (by decide) ?_
    exact N.iret C hR dX3_kindNamed_10 (fun hi hx => by refine ⟨?_, rfl⟩; simp_all [kdF])
