set_option maxHeartbeats 4000000 in
set_option maxRecDepth 20000 in
theorem ok_X8_read (G : GT) (k l f n : Int) (v : VT) (hW : WFV v 4) (hlen : ∀ k, 0 ≤ k → k < 4 → 0 ≤ v (111 + 2 * k) 2 ∧ v (111 + 2 * k) 2 ≤ 40) : MNi G yX8_read cX8_read 10 (some .int) 3 64 [vr 1, vi k, vi l, vi f, vi n] v (fun x w => (¬ ((0 ≤ k ∧ k ≤ 3) ∧ (0 ≤ l ∧ l ≤ 2) ∧ (0 ≤ n ∧ n ≤ 10)) ∧ x = -1 ∧ w = v) ∨ (((0 ≤ k ∧ k ≤ 3) ∧ (0 ≤ l ∧ l ≤ 2) ∧ (0 ≤ n ∧ n ≤ 10)) ∧ ∃ m tn, ReadQ (fun e => v (111 + 2 * k + 1) e) f (v (111 + 2 * k) 2) (v 4 5) (if v (111 + 2 * k) 1 = -4 then (1 : Int) else if v (111 + 2 * k) 1 = l then 0 else 3) n x m tn ∧ ((m = -1 ∧ w = v) ∨ (0 ≤ m ∧ RdI (fun e => v (111 + 2 * k + 1) e) f (v (111 + 2 * k) 2) (v 4 5) m ∧ w = upd2 (sewsN v 4 (fun e => v (111 + 2 * k + 1) e) f m.toNat) 1 12 tn)))) := by
  refine MN.of pn_X8_read [some (vr 1), some (vi k), some (vi l), some (vi f), some (vi n), none, none, none, none, none] 5 rfl rfl (fun X C hX hn hR => ?_)
  have hN : ∀ i : Nat, i < 10 → i < xn X := fun i h => by rw [hn]; exact h
  refine E.rngk (fun hinv => ?_)
  refine E.loc (fun hloc => ?_)
  have hin_1 : in32 k := hloc _ (List.mem_of_getElem? (i := 1) rfl)
  have hin_2 : in32 l := hloc _ (List.mem_of_getElem? (i := 2) rfl)
  have hin_3 : in32 f := hloc _ (List.mem_of_getElem? (i := 3) rfl)
  have hin_4 : in32 n := hloc _ (List.mem_of_getElem? (i := 4) rfl)
  have hW1 := hW.1
  have hW2 := hW.2.1
  refine E.iload_n C dX8_read_0 rfl rfl ?_
  refine N.callSp (S := []) (As := [vi k]) C hX (ok_X8_isSheet G k v) yf_X8_isSheet yv_X8_isSheet ml_X8_302 rfl (by decide) (Nat.le_of_ble_eq_true rfl) dX8_read_1 rfl ?_
  refine E.if_eq C dX8_read_4 (tgt := 25) (by decide) (fun h4 => ?_) (fun h4 => ?_)
  · have h4 := b0.mp h4
    refine E.iconst C dX8_read_25 (by decide) ?_
    exact N.iret C hR dX8_read_26 (fun hi hx => by exact Or.inl ⟨by omega, rfl, rfl⟩)
  · have h4 := b0n.mp h4
    refine E.iload_n C dX8_read_7 rfl rfl ?_
    refine N.callSp (S := []) (As := [vi l]) C hX (ok_X8_isLane G l v) yf_X8_isLane yv_X8_isLane ml_X8_305 rfl (by decide) (Nat.le_of_ble_eq_true rfl) dX8_read_8 rfl ?_
    refine E.if_eq C dX8_read_11 (tgt := 25) (by decide) (fun h11 => ?_) (fun h11 => ?_)
    · have h11 := b0.mp h11
      refine E.iconst C dX8_read_25 (by decide) ?_
      exact N.iret C hR dX8_read_26 (fun hi hx => by exact Or.inl ⟨by omega, rfl, rfl⟩)
    · have h11 := b0n.mp h11
      refine E.iload C dX8_read_14 rfl ?_
      refine E.iconst C dX8_read_16 (by decide) ?_
      refine E.bipush C dX8_read_17 (by decide) ?_
      refine N.callSp (S := []) (As := [vi n, vi 0, vi 10]) C hX (ok_X8_within G n 0 10 v) yf_X8_within yv_X8_within ml_X8_85 rfl (by decide) (Nat.le_of_ble_eq_true rfl) dX8_read_19 rfl ?_
      refine E.if_ne C dX8_read_22 (tgt := 27) (by decide) (fun h22 => ?_) (fun h22 => ?_)
      · have h22 := b0n.mp h22
        refine E.aload_n C dX8_read_27 rfl rfl ?_
        refine N.getR C fa_X8_45 rfl dX8_read_28 kd_1 (x := 53) (by decide +kernel) (by decide) ?_
        refine E.iload_n C dX8_read_31 rfl rfl ?_
        refine N.aald C (t := 4) (by decide) dX8_read_32 kd_53 ln_53 (by omega) (x := 111 + 2 * k) (rvSh (by omega)) (by omega) ?_
        refine N.ast_5 C dX8_read_33 (hN 5 (by decide)) rfl ?_
        refine E.iload C dX8_read_35 rfl ?_
        refine E.if_ne C dX8_read_37 (tgt := 44) (by decide) (fun h37 => ?_) (fun h37 => ?_)
        · skip
          refine E.aload C dX8_read_44 rfl ?_
          refine E.iload_n C dX8_read_46 rfl rfl ?_
          refine N.callVp (S := []) (As := [vi l]) C hX (ok_X4_faultAs G (111 + 2 * k) l v (kdSh (by omega))) yf_X4_faultAs yv_X4_faultAs ml_X8_321 rfl rfl rfl (kdSh (by omega)) (by decide) (by decide) (Nat.le_of_ble_eq_true rfl) dX8_read_47 rfl ?_
          have hlk := hlen k (by omega) (by omega)
          have hlf : (if v (111 + 2 * k) 1 = -4 then (1 : Int) else if v (111 + 2 * k) 1 = l then 0 else 3) = 0 ∨ ¬ (if v (111 + 2 * k) 1 = -4 then (1 : Int) else if v (111 + 2 * k) 1 = l then 0 else 3) = 0 := by omega
          refine N.ist_6 C dX8_read_50 (hN 6 (by decide)) rfl ?_
          refine E.iconst C dX8_read_52 (by decide) ?_
          refine N.ist_7 C dX8_read_53 (hN 7 (by decide)) rfl ?_
          refine E.iconst C dX8_read_55 (by decide) ?_
          refine N.ist_8 C dX8_read_56 (hN 8 (by decide)) rfl ?_
          have lp58 : ∀ (k58 : Nat) (met : Int) (wh : Int) (i : Int), (n - i).toNat = k58 → (0 ≤ i ∧ i ≤ n ∧ 0 ≤ wh ∧ ((met = (if v (111 + 2 * k) 1 = -4 then (1 : Int) else if v (111 + 2 * k) 1 = l then 0 else 3) ∧ 0 < n ∧ ¬ met = 0 ∧ i = 0 ∧ wh = 0) ∨ (((if v (111 + 2 * k) 1 = -4 then (1 : Int) else if v (111 + 2 * k) 1 = l then 0 else 3) = 0 ∨ n = 0) ∧ met = 0 ∧ wh = i ∧ RdI (fun e => v (111 + 2 * k + 1) e) f (v (111 + 2 * k) 2) (v 4 5) i) ∨ ((if v (111 + 2 * k) 1 = -4 then (1 : Int) else if v (111 + 2 * k) 1 = l then 0 else 3) = 0 ∧ met = 2 ∧ wh < n ∧ wh < i ∧ RdI (fun e => v (111 + 2 * k + 1) e) f (v (111 + 2 * k) 2) (v 4 5) wh ∧ ¬ RdOk f (v (111 + 2 * k) 2) wh))) → E X G 0 0 1000 v 58 [some (vr 1), some (vi k), some (vi l), some (vi f), some (vi n), some (vr (111 + 2 * k)), some (vi met), some (vi wh), some (vi i), none] [] := by
            intro k58
            induction k58 using Nat.strongRecOn with
            | ind k58 ih58 =>
              intro met wh i hk58 hI58
              obtain ⟨hi0, hi1, hw0, hq⟩ := hI58
              refine E.iload C dX8_read_58 rfl ?_
              refine E.iload C dX8_read_60 rfl ?_
              refine E.icmp_ge C dX8_read_62 (tgt := 153) (by decide) (fun h62 => ?_) (fun h62 => ?_)
              · skip
                have hRI : RdI (fun e => v (111 + 2 * k + 1) e) f (v (111 + 2 * k) 2) (v 4 5) wh := by
                  rcases hq with z | z | z
                  · rw [z.2.2.2.2]; exact fun i h1 h2 => by omega
                  · rw [z.2.2.1]; exact z.2.2.2
                  · exact z.2.2.2.2.1
                have hwn : v 4 5 + wh ≤ 10 := by
                  by_cases hz : wh = 0
                  · omega
                  · have := (hRI (wh - 1) (by omega) (by omega)).2
                    unfold RdRef at this
                    omega
                refine E.iconst C dX8_read_153 (by decide) ?_
                refine N.ist_8 C dX8_read_154 (hN 8 (by decide)) rfl ?_
                have lp156 : ∀ (k156 : Nat) (i2 : Int) (w : VT), (wh - i2).toNat = k156 → (0 ≤ i2 ∧ i2 ≤ wh ∧ w = sewsN v 4 (fun e => v (111 + 2 * k + 1) e) f i2.toNat) → E X G 0 0 1000 w 156 [some (vr 1), some (vi k), some (vi l), some (vi f), some (vi n), some (vr (111 + 2 * k)), some (vi met), some (vi wh), some (vi i2), none] [] := by
                  intro k156
                  induction k156 using Nat.strongRecOn with
                  | ind k156 ih156 =>
                    intro i2 w hk156 hI156
                    obtain ⟨hj0, hj1, hw⟩ := hI156; have w5 : w 4 5 = v 4 5 + i2 := (by rw [hw, sews_5]; omega); have wsh : ∀ a j, 27 ≤ a → w a j = v a j := (fun a j ha => by rw [hw]; exact sews_hi (by omega) hW2.1 _ (by omega))
                    refine E.iload C dX8_read_156 rfl ?_
                    refine E.iload C dX8_read_158 rfl ?_
                    refine E.icmp_ge C dX8_read_160 (tgt := 202) (by decide) (fun h160 => ?_) (fun h160 => ?_)
                    · skip
                      refine E.aload_n C dX8_read_202 rfl rfl ?_
                      refine E.iload C dX8_read_203 rfl ?_
                      refine N.putI C fp_X8_74 rfl dX8_read_205 kd_1 ?_
                      refine E.iload C dX8_read_208 rfl ?_
                      exact N.iret C hR dX8_read_210 (fun hi hx => by have ei : i2 = wh := (by omega); refine Or.inr ⟨by omega, wh, met, ?_, Or.inr ⟨hw0, hRI, by rw [hw, ei]; rfl⟩⟩; rcases hq with z | z | z; (exact Or.inl ⟨by omega, z.2.1, z.2.2.2.2, z.2.2.2.2, z.1⟩); (exact Or.inr ⟨z.1, i, hi0, hi1, z.2.2.2, Or.inl ⟨by omega, by omega, by omega, z.2.1⟩⟩); (exact Or.inr ⟨Or.inl z.1, wh, hw0, by omega, z.2.2.2.2.1, Or.inr (Or.inl ⟨z.2.2.1, z.2.2.2.2.2, rfl, rfl, z.2.1⟩)⟩))
                    · skip
                      have hoj := (hRI i2 hj0 (by omega)).1
                      unfold RdOk at hoj
                      have hup := w32_up (x := f + 2 * i2) (by omega) (by omega)
                      have e1 : w32 (f + 2 * i2) = f + 2 * i2 := by omega
                      have hup2 := w32_up (x := f + 2 * i2 + 1) (by omega) (by omega)
                      have e2 : w32 (w32 (f + 2 * i2) + 1) = f + 2 * i2 + 1 := by rw [e1]; omega
                      refine E.aload_n C dX8_read_163 rfl rfl ?_
                      refine N.getR C fa_X8_19 rfl dX8_read_164 kd_1 (x := 4) (by decide +kernel) (by decide) ?_
                      refine E.aload C dX8_read_167 rfl ?_
                      refine E.iload_n C dX8_read_169 rfl rfl ?_
                      refine E.iconst C dX8_read_170 (by decide) ?_
                      refine E.iload C dX8_read_171 rfl ?_
                      refine E.imul C dX8_read_173 (by omega) ?_
                      refine E.iaddW C dX8_read_174 ?_
                      refine N.callVp (S := [vr 4]) (As := [vi (w32 (f + (2 * i2)))]) C hX (ok_X4_cellAt G (111 + 2 * k) (w32 (f + (2 * i2))) w (kdSh (by omega)) (by first | omega | (rw [wsh _ _ (by omega)]; omega))) yf_X4_cellAt yv_X4_cellAt ml_X8_324 rfl rfl rfl (kdSh (by omega)) (by decide) (by decide) (Nat.le_of_ble_eq_true rfl) dX8_read_175 rfl ?_
                      refine E.veq (x' := v (111 + 2 * k + 1) (f + 2 * i2)) (by rw [e1, if_pos (by rw [wsh _ _ (by omega)]; omega), wsh _ _ (by omega)]) ?_
                      refine E.aload C dX8_read_178 rfl ?_
                      refine E.iload_n C dX8_read_180 rfl rfl ?_
                      refine E.iconst C dX8_read_181 (by decide) ?_
                      refine E.iload C dX8_read_182 rfl ?_
                      refine E.imul C dX8_read_184 (by omega) ?_
                      refine E.iaddW C dX8_read_185 ?_
                      refine E.iconst C dX8_read_186 (by decide) ?_
                      refine E.iaddW C dX8_read_187 ?_
                      refine N.callVp (S := [vi (v (111 + 2 * k + 1) (f + 2 * i2)), vr 4]) (As := [vi (w32 ((w32 (f + (2 * i2))) + 1))]) C hX (ok_X4_cellAt G (111 + 2 * k) (w32 ((w32 (f + (2 * i2))) + 1)) w (kdSh (by omega)) (by first | omega | (rw [wsh _ _ (by omega)]; omega))) yf_X4_cellAt yv_X4_cellAt ml_X8_324 rfl rfl rfl (kdSh (by omega)) (by decide) (by decide) (Nat.le_of_ble_eq_true rfl) dX8_read_188 rfl ?_
                      refine E.veq (x' := v (111 + 2 * k + 1) (f + 2 * i2 + 1)) (by rw [e2, if_pos (by rw [wsh _ _ (by omega)]; omega), wsh _ _ (by omega)]) ?_
                      refine E.iconst C dX8_read_191 (by decide) ?_
                      refine N.callVd (S := []) (As := [vi (v (111 + 2 * k + 1) (f + 2 * i2)), vi (v (111 + 2 * k + 1) (f + 2 * i2 + 1)), vi 3]) C hX (ok_X7_addPlain G 4 (v (111 + 2 * k + 1) (f + 2 * i2)) (v (111 + 2 * k + 1) (f + 2 * i2 + 1)) 3 w hv4 (by omega)) yf_X7_addPlain yv_X7_addPlain ml_X8_249 rfl rfl rfl (kdV hv4) (by decide) (by decide) (Nat.le_of_ble_eq_true rfl) dX8_read_192 rfl ?_
                      refine E.popI C dX8_read_195 ?_
                      refine N.iinc_8 C dX8_read_196 (hN 8 (by decide)) rfl (by omega) ?_
                      refine E.goto C dX8_read_199 (tgt := 156) (by decide) ?_
                      exact ih156 _ (by omega) (i2 + 1) (if 10 ≤ w 4 5 then w else upd2 (plainF w (4 + 13 + w 4 5) (v (111 + 2 * k + 1) (f + 2 * i2)) (v (111 + 2 * k + 1) (f + 2 * i2 + 1)) 3) 4 5 (w 4 5 + 1)) rfl (by refine ⟨by omega, by omega, ?_⟩; rw [sews_step hj0, ← hw, if_neg (by omega)]; rfl)
                exact lp156 _ 0 v rfl (by exact ⟨by omega, by omega, rfl⟩)
              · skip
                refine E.iload C dX8_read_65 rfl ?_
                refine E.if_ne C dX8_read_67 (tgt := 153) (by decide) (fun h67 => ?_) (fun h67 => ?_)
                · skip
                  have hRI : RdI (fun e => v (111 + 2 * k + 1) e) f (v (111 + 2 * k) 2) (v 4 5) wh := by
                    rcases hq with z | z | z
                    · rw [z.2.2.2.2]; exact fun i h1 h2 => by omega
                    · rw [z.2.2.1]; exact z.2.2.2
                    · exact z.2.2.2.2.1
                  have hwn : v 4 5 + wh ≤ 10 := by
                    by_cases hz : wh = 0
                    · omega
                    · have := (hRI (wh - 1) (by omega) (by omega)).2
                      unfold RdRef at this
                      omega
                  refine E.iconst C dX8_read_153 (by decide) ?_
                  refine N.ist_8 C dX8_read_154 (hN 8 (by decide)) rfl ?_
                  have lp156 : ∀ (k156 : Nat) (i2 : Int) (w : VT), (wh - i2).toNat = k156 → (0 ≤ i2 ∧ i2 ≤ wh ∧ w = sewsN v 4 (fun e => v (111 + 2 * k + 1) e) f i2.toNat) → E X G 0 0 1000 w 156 [some (vr 1), some (vi k), some (vi l), some (vi f), some (vi n), some (vr (111 + 2 * k)), some (vi met), some (vi wh), some (vi i2), none] [] := by
                    intro k156
                    induction k156 using Nat.strongRecOn with
                    | ind k156 ih156 =>
                      intro i2 w hk156 hI156
                      obtain ⟨hj0, hj1, hw⟩ := hI156; have w5 : w 4 5 = v 4 5 + i2 := (by rw [hw, sews_5]; omega); have wsh : ∀ a j, 27 ≤ a → w a j = v a j := (fun a j ha => by rw [hw]; exact sews_hi (by omega) hW2.1 _ (by omega))
                      refine E.iload C dX8_read_156 rfl ?_
                      refine E.iload C dX8_read_158 rfl ?_
                      refine E.icmp_ge C dX8_read_160 (tgt := 202) (by decide) (fun h160 => ?_) (fun h160 => ?_)
                      · skip
                        refine E.aload_n C dX8_read_202 rfl rfl ?_
                        refine E.iload C dX8_read_203 rfl ?_
                        refine N.putI C fp_X8_74 rfl dX8_read_205 kd_1 ?_
                        refine E.iload C dX8_read_208 rfl ?_
                        exact N.iret C hR dX8_read_210 (fun hi hx => by have ei : i2 = wh := (by omega); refine Or.inr ⟨by omega, wh, met, ?_, Or.inr ⟨hw0, hRI, by rw [hw, ei]; rfl⟩⟩; rcases hq with z | z | z; (exact Or.inl ⟨by omega, z.2.1, z.2.2.2.2, z.2.2.2.2, z.1⟩); (exact Or.inr ⟨z.1, i, hi0, hi1, z.2.2.2, Or.inl ⟨by omega, by omega, by omega, z.2.1⟩⟩); (exact Or.inr ⟨Or.inl z.1, wh, hw0, by omega, z.2.2.2.2.1, Or.inr (Or.inl ⟨z.2.2.1, z.2.2.2.2.2, rfl, rfl, z.2.1⟩)⟩))
                      · skip
                        have hoj := (hRI i2 hj0 (by omega)).1
                        unfold RdOk at hoj
                        have hup := w32_up (x := f + 2 * i2) (by omega) (by omega)
                        have e1 : w32 (f + 2 * i2) = f + 2 * i2 := by omega
                        have hup2 := w32_up (x := f + 2 * i2 + 1) (by omega) (by omega)
                        have e2 : w32 (w32 (f + 2 * i2) + 1) = f + 2 * i2 + 1 := by rw [e1]; omega
                        refine E.aload_n C dX8_read_163 rfl rfl ?_
                        refine N.getR C fa_X8_19 rfl dX8_read_164 kd_1 (x := 4) (by decide +kernel) (by decide) ?_
                        refine E.aload C dX8_read_167 rfl ?_
                        refine E.iload_n C dX8_read_169 rfl rfl ?_
                        refine E.iconst C dX8_read_170 (by decide) ?_
                        refine E.iload C dX8_read_171 rfl ?_
                        refine E.imul C dX8_read_173 (by omega) ?_
                        refine E.iaddW C dX8_read_174 ?_
                        refine N.callVp (S := [vr 4]) (As := [vi (w32 (f + (2 * i2)))]) C hX (ok_X4_cellAt G (111 + 2 * k) (w32 (f + (2 * i2))) w (kdSh (by omega)) (by first | omega | (rw [wsh _ _ (by omega)]; omega))) yf_X4_cellAt yv_X4_cellAt ml_X8_324 rfl rfl rfl (kdSh (by omega)) (by decide) (by decide) (Nat.le_of_ble_eq_true rfl) dX8_read_175 rfl ?_
                        refine E.veq (x' := v (111 + 2 * k + 1) (f + 2 * i2)) (by rw [e1, if_pos (by rw [wsh _ _ (by omega)]; omega), wsh _ _ (by omega)]) ?_
                        refine E.aload C dX8_read_178 rfl ?_
                        refine E.iload_n C dX8_read_180 rfl rfl ?_
                        refine E.iconst C dX8_read_181 (by decide) ?_
                        refine E.iload C dX8_read_182 rfl ?_
                        refine E.imul C dX8_read_184 (by omega) ?_
                        refine E.iaddW C dX8_read_185 ?_
                        refine E.iconst C dX8_read_186 (by decide) ?_
                        refine E.iaddW C dX8_read_187 ?_
                        refine N.callVp (S := [vi (v (111 + 2 * k + 1) (f + 2 * i2)), vr 4]) (As := [vi (w32 ((w32 (f + (2 * i2))) + 1))]) C hX (ok_X4_cellAt G (111 + 2 * k) (w32 ((w32 (f + (2 * i2))) + 1)) w (kdSh (by omega)) (by first | omega | (rw [wsh _ _ (by omega)]; omega))) yf_X4_cellAt yv_X4_cellAt ml_X8_324 rfl rfl rfl (kdSh (by omega)) (by decide) (by decide) (Nat.le_of_ble_eq_true rfl) dX8_read_188 rfl ?_
                        refine E.veq (x' := v (111 + 2 * k + 1) (f + 2 * i2 + 1)) (by rw [e2, if_pos (by rw [wsh _ _ (by omega)]; omega), wsh _ _ (by omega)]) ?_
                        refine E.iconst C dX8_read_191 (by decide) ?_
                        refine N.callVd (S := []) (As := [vi (v (111 + 2 * k + 1) (f + 2 * i2)), vi (v (111 + 2 * k + 1) (f + 2 * i2 + 1)), vi 3]) C hX (ok_X7_addPlain G 4 (v (111 + 2 * k + 1) (f + 2 * i2)) (v (111 + 2 * k + 1) (f + 2 * i2 + 1)) 3 w hv4 (by omega)) yf_X7_addPlain yv_X7_addPlain ml_X8_249 rfl rfl rfl (kdV hv4) (by decide) (by decide) (Nat.le_of_ble_eq_true rfl) dX8_read_192 rfl ?_
                        refine E.popI C dX8_read_195 ?_
                        refine N.iinc_8 C dX8_read_196 (hN 8 (by decide)) rfl (by omega) ?_
                        refine E.goto C dX8_read_199 (tgt := 156) (by decide) ?_
                        exact ih156 _ (by omega) (i2 + 1) (if 10 ≤ w 4 5 then w else upd2 (plainF w (4 + 13 + w 4 5) (v (111 + 2 * k + 1) (f + 2 * i2)) (v (111 + 2 * k + 1) (f + 2 * i2 + 1)) 3) 4 5 (w 4 5 + 1)) rfl (by refine ⟨by omega, by omega, ?_⟩; rw [sews_step hj0, ← hw, if_neg (by omega)]; rfl)
                  exact lp156 _ 0 v rfl (by exact ⟨by omega, by omega, rfl⟩)
                · skip
                  have hmid := (hq.resolve_left (fun z => z.2.2.1 (by omega))).resolve_right (fun z => by omega)
                  have hup := w32_up (x := f + 2 * i) (by omega) (by omega)
                  have hup2 := w32_up (x := w32 (f + 2 * i) + 1) (by have := w32_in (f + 2 * i); omega) (by have := w32_in (f + 2 * i); omega)
                  have hokN : ¬ ((0 ≤ w32 (f + 2 * i) ∧ w32 (f + 2 * i) < v (111 + 2 * k) 2) ∧ (0 ≤ w32 (w32 (f + 2 * i) + 1) ∧ w32 (w32 (f + 2 * i) + 1) < v (111 + 2 * k) 2)) → ¬ RdOk f (v (111 + 2 * k) 2) i := fun z y => by
                    unfold RdOk at y
                    have h1 := hup.1 (by omega)
                    rw [h1] at hup2 z
                    have h2 := hup2.1 (by omega)
                    omega
                  refine E.iload_n C dX8_read_70 rfl rfl ?_
                  refine E.iconst C dX8_read_71 (by decide) ?_
                  refine E.iload C dX8_read_72 rfl ?_
                  refine E.imul C dX8_read_74 (by omega) ?_
                  refine E.iaddW C dX8_read_75 ?_
                  refine N.ist_9 C dX8_read_76 (hN 9 (by decide)) rfl ?_
                  refine E.aload C dX8_read_78 rfl ?_
                  refine E.iload C dX8_read_80 rfl ?_
                  refine N.callVp (S := []) (As := [vi (w32 (f + (2 * i)))]) C hX (ok_X4_hasCell G (111 + 2 * k) (w32 (f + (2 * i))) v (kdSh (by omega))) yf_X4_hasCell yv_X4_hasCell ml_X8_315 rfl rfl rfl (kdSh (by omega)) (by decide) (by decide) (Nat.le_of_ble_eq_true rfl) dX8_read_82 rfl ?_
                  refine E.if_eq C dX8_read_85 (tgt := 100) (by decide) (fun h85 => ?_) (fun h85 => ?_)
                  · have h85 := b0.mp h85
                    refine E.iconst C dX8_read_100 (by decide) ?_
                    refine N.ist_6 C dX8_read_101 (hN 6 (by decide)) rfl ?_
                    refine E.goto C dX8_read_103 (tgt := 147) (by decide) ?_
                    refine N.iinc_8 C dX8_read_147 (hN 8 (by decide)) rfl (by omega) ?_
                    refine E.goto C dX8_read_150 (tgt := 58) (by decide) ?_
                    refine E.drop (i := 9) ?_
                    exact ih58 _ (by omega) 2 wh (i + 1) rfl (by have hm0 := hmid; first | (refine ⟨by omega, by omega, by omega, Or.inr (Or.inl ⟨hm0.1, by omega, by omega, ?_⟩)⟩; exact hm0.2.2.2.next hokP (fun z => h135n z)) | (exact ⟨by omega, by omega, by omega, Or.inr (Or.inr ⟨by omega, rfl, by omega, by omega, by rw [hm0.2.2.1]; exact hm0.2.2.2, by rw [hm0.2.2.1]; exact hokN (by omega)⟩)⟩))
                  · have h85 := b0n.mp h85
                    refine E.aload C dX8_read_88 rfl ?_
                    refine E.iload C dX8_read_90 rfl ?_
                    refine E.iconst C dX8_read_92 (by decide) ?_
                    refine E.iaddW C dX8_read_93 ?_
                    refine N.callVp (S := []) (As := [vi (w32 ((w32 (f + (2 * i))) + 1))]) C hX (ok_X4_hasCell G (111 + 2 * k) (w32 ((w32 (f + (2 * i))) + 1)) v (kdSh (by omega))) yf_X4_hasCell yv_X4_hasCell ml_X8_315 rfl rfl rfl (kdSh (by omega)) (by decide) (by decide) (Nat.le_of_ble_eq_true rfl) dX8_read_94 rfl ?_
                    refine E.if_ne C dX8_read_97 (tgt := 106) (by decide) (fun h97 => ?_) (fun h97 => ?_)
                    · have h97 := b0n.mp h97
                      have hokP : RdOk f (v (111 + 2 * k) 2) i := by unfold RdOk; omega
                      have e1 : w32 (f + 2 * i) = f + 2 * i := by omega
                      have e2 : w32 (w32 (f + 2 * i) + 1) = f + 2 * i + 1 := by omega
                      have hrf : RdRef (fun e => v (111 + 2 * k + 1) e) f (v 4 5) i ↔ ¬ ((0 ≤ v (111 + 2 * k + 1) (f + 2 * i) ∧ v (111 + 2 * k + 1) (f + 2 * i) ≤ 1) ∧ (1 ≤ v (111 + 2 * k + 1) (f + 2 * i + 1) ∧ v (111 + 2 * k + 1) (f + 2 * i + 1) ≤ 40)) ∨ 10 ≤ v 4 5 + i := Iff.rfl
                      refine E.aload_n C dX8_read_106 rfl rfl ?_
                      refine N.getR C fa_X8_19 rfl dX8_read_107 kd_1 (x := 4) (by decide +kernel) (by decide) ?_
                      refine N.getI C fa_X8_243 rfl dX8_read_110 (kdV hv4) (x := v 4 5) rfl ?_
                      refine E.iload C dX8_read_113 rfl ?_
                      refine E.iadd C dX8_read_115 (by omega) ?_
                      refine E.aload C dX8_read_116 rfl ?_
                      refine E.iload C dX8_read_118 rfl ?_
                      refine N.callVp (S := [vi ((v 4 5) + i)]) (As := [vi (w32 (f + (2 * i)))]) C hX (ok_X4_cellAt G (111 + 2 * k) (w32 (f + (2 * i))) v (kdSh (by omega)) (by first | omega | (rw [wsh _ _ (by omega)]; omega))) yf_X4_cellAt yv_X4_cellAt ml_X8_324 rfl rfl rfl (kdSh (by omega)) (by decide) (by decide) (Nat.le_of_ble_eq_true rfl) dX8_read_120 rfl ?_
                      refine E.veq (x' := v (111 + 2 * k + 1) (f + 2 * i)) (by rw [if_pos (by omega), e1]) ?_
                      refine E.aload C dX8_read_123 rfl ?_
                      refine E.iload C dX8_read_125 rfl ?_
                      refine E.iconst C dX8_read_127 (by decide) ?_
                      refine E.iaddW C dX8_read_128 ?_
                      refine N.callVp (S := [vi (v (111 + 2 * k + 1) (f + 2 * i)), vi ((v 4 5) + i)]) (As := [vi (w32 ((w32 (f + (2 * i))) + 1))]) C hX (ok_X4_cellAt G (111 + 2 * k) (w32 ((w32 (f + (2 * i))) + 1)) v (kdSh (by omega)) (by first | omega | (rw [wsh _ _ (by omega)]; omega))) yf_X4_cellAt yv_X4_cellAt ml_X8_324 rfl rfl rfl (kdSh (by omega)) (by decide) (by decide) (Nat.le_of_ble_eq_true rfl) dX8_read_129 rfl ?_
                      refine E.veq (x' := v (111 + 2 * k + 1) (f + 2 * i + 1)) (by rw [if_pos (by omega), e2]) ?_
                      refine N.callSp (S := []) (As := [vi ((v 4 5) + i), vi (v (111 + 2 * k + 1) (f + 2 * i)), vi (v (111 + 2 * k + 1) (f + 2 * i + 1))]) C hX (ok_X8_sewRefusal G ((v 4 5) + i) (v (111 + 2 * k + 1) (f + 2 * i)) (v (111 + 2 * k + 1) (f + 2 * i + 1)) v) yf_X8_sewRefusal yv_X8_sewRefusal ml_X8_246 rfl (by decide) (Nat.le_of_ble_eq_true rfl) dX8_read_132 rfl ?_
                      refine E.if_eq C dX8_read_135 (tgt := 144) (by decide) (fun h135 => ?_) (fun h135 => ?_)
                      · skip
                        have h135n : ¬ RdRef (fun e => v (111 + 2 * k + 1) e) f (v 4 5) i := fun z => by
                          have := hrf.mp z
                          (repeat' split at h135) <;> omega
                        refine N.iinc_7 C dX8_read_144 (hN 7 (by decide)) rfl (by omega) ?_
                        refine N.iinc_8 C dX8_read_147 (hN 8 (by decide)) rfl (by omega) ?_
                        refine E.goto C dX8_read_150 (tgt := 58) (by decide) ?_
                        refine E.drop (i := 9) ?_
                        exact ih58 _ (by omega) met (wh + 1) (i + 1) rfl (by have hm0 := hmid; first | (refine ⟨by omega, by omega, by omega, Or.inr (Or.inl ⟨hm0.1, by omega, by omega, ?_⟩)⟩; exact hm0.2.2.2.next hokP (fun z => h135n z)) | (exact ⟨by omega, by omega, by omega, Or.inr (Or.inr ⟨by omega, rfl, by omega, by omega, by rw [hm0.2.2.1]; exact hm0.2.2.2, by rw [hm0.2.2.1]; exact hokN (by omega)⟩)⟩))
                      · skip
                        refine E.bipush C dX8_read_138 (by decide) ?_
                        refine E.iload C dX8_read_140 rfl ?_
                        refine E.isub C dX8_read_142 (by omega) ?_
                        exact N.iret C hR dX8_read_143 (fun hi hx => by refine Or.inr ⟨by omega, -1, -1, Or.inr ⟨hmid.1, i, hi0, by omega, hmid.2.2.2, Or.inr (Or.inr ⟨by omega, hokP, hrf.mpr (by (repeat' split at h135) <;> omega), rfl, rfl, rfl⟩)⟩, Or.inl ⟨rfl, rfl⟩⟩)
                    · have h97 := b0.mp h97
                      refine E.iconst C dX8_read_100 (by decide) ?_
                      refine N.ist_6 C dX8_read_101 (hN 6 (by decide)) rfl ?_
                      refine E.goto C dX8_read_103 (tgt := 147) (by decide) ?_
                      refine N.iinc_8 C dX8_read_147 (hN 8 (by decide)) rfl (by omega) ?_
                      refine E.goto C dX8_read_150 (tgt := 58) (by decide) ?_
                      refine E.drop (i := 9) ?_
                      exact ih58 _ (by omega) 2 wh (i + 1) rfl (by have hm0 := hmid; first | (refine ⟨by omega, by omega, by omega, Or.inr (Or.inl ⟨hm0.1, by omega, by omega, ?_⟩)⟩; exact hm0.2.2.2.next hokP (fun z => h135n z)) | (exact ⟨by omega, by omega, by omega, Or.inr (Or.inr ⟨by omega, rfl, by omega, by omega, by rw [hm0.2.2.1]; exact hm0.2.2.2, by rw [hm0.2.2.1]; exact hokN (by omega)⟩)⟩))
          exact lp58 _ (if v (111 + 2 * k) 1 = -4 then 1 else if v (111 + 2 * k) 1 = l then 0 else 3) 0 0 rfl (by first | exact ⟨by omega, by omega, by omega, Or.inr (Or.inl ⟨Or.inr (by omega), rfl, rfl, fun i h1 h2 => by omega⟩)⟩ | (refine ⟨by omega, by omega, by omega, ?_⟩; rcases hlf with z | z; (exact Or.inr (Or.inl ⟨Or.inl z, z, rfl, fun i h1 h2 => by omega⟩)); (exact Or.inl ⟨rfl, by omega, z, rfl, rfl⟩)))
        · skip
          refine E.iconst C dX8_read_40 (by decide) ?_
          refine E.goto C dX8_read_41 (tgt := 50) (by decide) ?_
          have hlk := hlen k (by omega) (by omega)
          have hlf : (if v (111 + 2 * k) 1 = -4 then (1 : Int) else if v (111 + 2 * k) 1 = l then 0 else 3) = 0 ∨ ¬ (if v (111 + 2 * k) 1 = -4 then (1 : Int) else if v (111 + 2 * k) 1 = l then 0 else 3) = 0 := by omega
          refine N.ist_6 C dX8_read_50 (hN 6 (by decide)) rfl ?_
          refine E.iconst C dX8_read_52 (by decide) ?_
          refine N.ist_7 C dX8_read_53 (hN 7 (by decide)) rfl ?_
          refine E.iconst C dX8_read_55 (by decide) ?_
          refine N.ist_8 C dX8_read_56 (hN 8 (by decide)) rfl ?_
          have lp58 : ∀ (k58 : Nat) (met : Int) (wh : Int) (i : Int), (n - i).toNat = k58 → (0 ≤ i ∧ i ≤ n ∧ 0 ≤ wh ∧ ((met = (if v (111 + 2 * k) 1 = -4 then (1 : Int) else if v (111 + 2 * k) 1 = l then 0 else 3) ∧ 0 < n ∧ ¬ met = 0 ∧ i = 0 ∧ wh = 0) ∨ (((if v (111 + 2 * k) 1 = -4 then (1 : Int) else if v (111 + 2 * k) 1 = l then 0 else 3) = 0 ∨ n = 0) ∧ met = 0 ∧ wh = i ∧ RdI (fun e => v (111 + 2 * k + 1) e) f (v (111 + 2 * k) 2) (v 4 5) i) ∨ ((if v (111 + 2 * k) 1 = -4 then (1 : Int) else if v (111 + 2 * k) 1 = l then 0 else 3) = 0 ∧ met = 2 ∧ wh < n ∧ wh < i ∧ RdI (fun e => v (111 + 2 * k + 1) e) f (v (111 + 2 * k) 2) (v 4 5) wh ∧ ¬ RdOk f (v (111 + 2 * k) 2) wh))) → E X G 0 0 1000 v 58 [some (vr 1), some (vi k), some (vi l), some (vi f), some (vi n), some (vr (111 + 2 * k)), some (vi met), some (vi wh), some (vi i), none] [] := by
            intro k58
            induction k58 using Nat.strongRecOn with
            | ind k58 ih58 =>
              intro met wh i hk58 hI58
              obtain ⟨hi0, hi1, hw0, hq⟩ := hI58
              refine E.iload C dX8_read_58 rfl ?_
              refine E.iload C dX8_read_60 rfl ?_
              refine E.icmp_ge C dX8_read_62 (tgt := 153) (by decide) (fun h62 => ?_) (fun h62 => ?_)
              · skip
                have hRI : RdI (fun e => v (111 + 2 * k + 1) e) f (v (111 + 2 * k) 2) (v 4 5) wh := by
                  rcases hq with z | z | z
                  · rw [z.2.2.2.2]; exact fun i h1 h2 => by omega
                  · rw [z.2.2.1]; exact z.2.2.2
                  · exact z.2.2.2.2.1
                have hwn : v 4 5 + wh ≤ 10 := by
                  by_cases hz : wh = 0
                  · omega
                  · have := (hRI (wh - 1) (by omega) (by omega)).2
                    unfold RdRef at this
                    omega
                refine E.iconst C dX8_read_153 (by decide) ?_
                refine N.ist_8 C dX8_read_154 (hN 8 (by decide)) rfl ?_
                have lp156 : ∀ (k156 : Nat) (i2 : Int) (w : VT), (wh - i2).toNat = k156 → (0 ≤ i2 ∧ i2 ≤ wh ∧ w = sewsN v 4 (fun e => v (111 + 2 * k + 1) e) f i2.toNat) → E X G 0 0 1000 w 156 [some (vr 1), some (vi k), some (vi l), some (vi f), some (vi n), some (vr (111 + 2 * k)), some (vi met), some (vi wh), some (vi i2), none] [] := by
                  intro k156
                  induction k156 using Nat.strongRecOn with
                  | ind k156 ih156 =>
                    intro i2 w hk156 hI156
                    obtain ⟨hj0, hj1, hw⟩ := hI156; have w5 : w 4 5 = v 4 5 + i2 := (by rw [hw, sews_5]; omega); have wsh : ∀ a j, 27 ≤ a → w a j = v a j := (fun a j ha => by rw [hw]; exact sews_hi (by omega) hW2.1 _ (by omega))
                    refine E.iload C dX8_read_156 rfl ?_
                    refine E.iload C dX8_read_158 rfl ?_
                    refine E.icmp_ge C dX8_read_160 (tgt := 202) (by decide) (fun h160 => ?_) (fun h160 => ?_)
                    · skip
                      refine E.aload_n C dX8_read_202 rfl rfl ?_
                      refine E.iload C dX8_read_203 rfl ?_
                      refine N.putI C fp_X8_74 rfl dX8_read_205 kd_1 ?_
                      refine E.iload C dX8_read_208 rfl ?_
                      exact N.iret C hR dX8_read_210 (fun hi hx => by have ei : i2 = wh := (by omega); refine Or.inr ⟨by omega, wh, met, ?_, Or.inr ⟨hw0, hRI, by rw [hw, ei]; rfl⟩⟩; rcases hq with z | z | z; (exact Or.inl ⟨by omega, z.2.1, z.2.2.2.2, z.2.2.2.2, z.1⟩); (exact Or.inr ⟨z.1, i, hi0, hi1, z.2.2.2, Or.inl ⟨by omega, by omega, by omega, z.2.1⟩⟩); (exact Or.inr ⟨Or.inl z.1, wh, hw0, by omega, z.2.2.2.2.1, Or.inr (Or.inl ⟨z.2.2.1, z.2.2.2.2.2, rfl, rfl, z.2.1⟩)⟩))
                    · skip
                      have hoj := (hRI i2 hj0 (by omega)).1
                      unfold RdOk at hoj
                      have hup := w32_up (x := f + 2 * i2) (by omega) (by omega)
                      have e1 : w32 (f + 2 * i2) = f + 2 * i2 := by omega
                      have hup2 := w32_up (x := f + 2 * i2 + 1) (by omega) (by omega)
                      have e2 : w32 (w32 (f + 2 * i2) + 1) = f + 2 * i2 + 1 := by rw [e1]; omega
                      refine E.aload_n C dX8_read_163 rfl rfl ?_
                      refine N.getR C fa_X8_19 rfl dX8_read_164 kd_1 (x := 4) (by decide +kernel) (by decide) ?_
                      refine E.aload C dX8_read_167 rfl ?_
                      refine E.iload_n C dX8_read_169 rfl rfl ?_
                      refine E.iconst C dX8_read_170 (by decide) ?_
                      refine E.iload C dX8_read_171 rfl ?_
                      refine E.imul C dX8_read_173 (by omega) ?_
                      refine E.iaddW C dX8_read_174 ?_
                      refine N.callVp (S := [vr 4]) (As := [vi (w32 (f + (2 * i2)))]) C hX (ok_X4_cellAt G (111 + 2 * k) (w32 (f + (2 * i2))) w (kdSh (by omega)) (by first | omega | (rw [wsh _ _ (by omega)]; omega))) yf_X4_cellAt yv_X4_cellAt ml_X8_324 rfl rfl rfl (kdSh (by omega)) (by decide) (by decide) (Nat.le_of_ble_eq_true rfl) dX8_read_175 rfl ?_
                      refine E.veq (x' := v (111 + 2 * k + 1) (f + 2 * i2)) (by rw [e1, if_pos (by rw [wsh _ _ (by omega)]; omega), wsh _ _ (by omega)]) ?_
                      refine E.aload C dX8_read_178 rfl ?_
                      refine E.iload_n C dX8_read_180 rfl rfl ?_
                      refine E.iconst C dX8_read_181 (by decide) ?_
                      refine E.iload C dX8_read_182 rfl ?_
                      refine E.imul C dX8_read_184 (by omega) ?_
                      refine E.iaddW C dX8_read_185 ?_
                      refine E.iconst C dX8_read_186 (by decide) ?_
                      refine E.iaddW C dX8_read_187 ?_
                      refine N.callVp (S := [vi (v (111 + 2 * k + 1) (f + 2 * i2)), vr 4]) (As := [vi (w32 ((w32 (f + (2 * i2))) + 1))]) C hX (ok_X4_cellAt G (111 + 2 * k) (w32 ((w32 (f + (2 * i2))) + 1)) w (kdSh (by omega)) (by first | omega | (rw [wsh _ _ (by omega)]; omega))) yf_X4_cellAt yv_X4_cellAt ml_X8_324 rfl rfl rfl (kdSh (by omega)) (by decide) (by decide) (Nat.le_of_ble_eq_true rfl) dX8_read_188 rfl ?_
                      refine E.veq (x' := v (111 + 2 * k + 1) (f + 2 * i2 + 1)) (by rw [e2, if_pos (by rw [wsh _ _ (by omega)]; omega), wsh _ _ (by omega)]) ?_
                      refine E.iconst C dX8_read_191 (by decide) ?_
                      refine N.callVd (S := []) (As := [vi (v (111 + 2 * k + 1) (f + 2 * i2)), vi (v (111 + 2 * k + 1) (f + 2 * i2 + 1)), vi 3]) C hX (ok_X7_addPlain G 4 (v (111 + 2 * k + 1) (f + 2 * i2)) (v (111 + 2 * k + 1) (f + 2 * i2 + 1)) 3 w hv4 (by omega)) yf_X7_addPlain yv_X7_addPlain ml_X8_249 rfl rfl rfl (kdV hv4) (by decide) (by decide) (Nat.le_of_ble_eq_true rfl) dX8_read_192 rfl ?_
                      refine E.popI C dX8_read_195 ?_
                      refine N.iinc_8 C dX8_read_196 (hN 8 (by decide)) rfl (by omega) ?_
                      refine E.goto C dX8_read_199 (tgt := 156) (by decide) ?_
                      exact ih156 _ (by omega) (i2 + 1) (if 10 ≤ w 4 5 then w else upd2 (plainF w (4 + 13 + w 4 5) (v (111 + 2 * k + 1) (f + 2 * i2)) (v (111 + 2 * k + 1) (f + 2 * i2 + 1)) 3) 4 5 (w 4 5 + 1)) rfl (by refine ⟨by omega, by omega, ?_⟩; rw [sews_step hj0, ← hw, if_neg (by omega)]; rfl)
                exact lp156 _ 0 v rfl (by exact ⟨by omega, by omega, rfl⟩)
              · skip
                refine E.iload C dX8_read_65 rfl ?_
                refine E.if_ne C dX8_read_67 (tgt := 153) (by decide) (fun h67 => ?_) (fun h67 => ?_)
                · skip
                  have hRI : RdI (fun e => v (111 + 2 * k + 1) e) f (v (111 + 2 * k) 2) (v 4 5) wh := by
                    rcases hq with z | z | z
                    · rw [z.2.2.2.2]; exact fun i h1 h2 => by omega
                    · rw [z.2.2.1]; exact z.2.2.2
                    · exact z.2.2.2.2.1
                  have hwn : v 4 5 + wh ≤ 10 := by
                    by_cases hz : wh = 0
                    · omega
                    · have := (hRI (wh - 1) (by omega) (by omega)).2
                      unfold RdRef at this
                      omega
                  refine E.iconst C dX8_read_153 (by decide) ?_
                  refine N.ist_8 C dX8_read_154 (hN 8 (by decide)) rfl ?_
                  have lp156 : ∀ (k156 : Nat) (i2 : Int) (w : VT), (wh - i2).toNat = k156 → (0 ≤ i2 ∧ i2 ≤ wh ∧ w = sewsN v 4 (fun e => v (111 + 2 * k + 1) e) f i2.toNat) → E X G 0 0 1000 w 156 [some (vr 1), some (vi k), some (vi l), some (vi f), some (vi n), some (vr (111 + 2 * k)), some (vi met), some (vi wh), some (vi i2), none] [] := by
                    intro k156
                    induction k156 using Nat.strongRecOn with
                    | ind k156 ih156 =>
                      intro i2 w hk156 hI156
                      obtain ⟨hj0, hj1, hw⟩ := hI156; have w5 : w 4 5 = v 4 5 + i2 := (by rw [hw, sews_5]; omega); have wsh : ∀ a j, 27 ≤ a → w a j = v a j := (fun a j ha => by rw [hw]; exact sews_hi (by omega) hW2.1 _ (by omega))
                      refine E.iload C dX8_read_156 rfl ?_
                      refine E.iload C dX8_read_158 rfl ?_
                      refine E.icmp_ge C dX8_read_160 (tgt := 202) (by decide) (fun h160 => ?_) (fun h160 => ?_)
                      · skip
                        refine E.aload_n C dX8_read_202 rfl rfl ?_
                        refine E.iload C dX8_read_203 rfl ?_
                        refine N.putI C fp_X8_74 rfl dX8_read_205 kd_1 ?_
                        refine E.iload C dX8_read_208 rfl ?_
                        exact N.iret C hR dX8_read_210 (fun hi hx => by have ei : i2 = wh := (by omega); refine Or.inr ⟨by omega, wh, met, ?_, Or.inr ⟨hw0, hRI, by rw [hw, ei]; rfl⟩⟩; rcases hq with z | z | z; (exact Or.inl ⟨by omega, z.2.1, z.2.2.2.2, z.2.2.2.2, z.1⟩); (exact Or.inr ⟨z.1, i, hi0, hi1, z.2.2.2, Or.inl ⟨by omega, by omega, by omega, z.2.1⟩⟩); (exact Or.inr ⟨Or.inl z.1, wh, hw0, by omega, z.2.2.2.2.1, Or.inr (Or.inl ⟨z.2.2.1, z.2.2.2.2.2, rfl, rfl, z.2.1⟩)⟩))
                      · skip
                        have hoj := (hRI i2 hj0 (by omega)).1
                        unfold RdOk at hoj
                        have hup := w32_up (x := f + 2 * i2) (by omega) (by omega)
                        have e1 : w32 (f + 2 * i2) = f + 2 * i2 := by omega
                        have hup2 := w32_up (x := f + 2 * i2 + 1) (by omega) (by omega)
                        have e2 : w32 (w32 (f + 2 * i2) + 1) = f + 2 * i2 + 1 := by rw [e1]; omega
                        refine E.aload_n C dX8_read_163 rfl rfl ?_
                        refine N.getR C fa_X8_19 rfl dX8_read_164 kd_1 (x := 4) (by decide +kernel) (by decide) ?_
                        refine E.aload C dX8_read_167 rfl ?_
                        refine E.iload_n C dX8_read_169 rfl rfl ?_
                        refine E.iconst C dX8_read_170 (by decide) ?_
                        refine E.iload C dX8_read_171 rfl ?_
                        refine E.imul C dX8_read_173 (by omega) ?_
                        refine E.iaddW C dX8_read_174 ?_
                        refine N.callVp (S := [vr 4]) (As := [vi (w32 (f + (2 * i2)))]) C hX (ok_X4_cellAt G (111 + 2 * k) (w32 (f + (2 * i2))) w (kdSh (by omega)) (by first | omega | (rw [wsh _ _ (by omega)]; omega))) yf_X4_cellAt yv_X4_cellAt ml_X8_324 rfl rfl rfl (kdSh (by omega)) (by decide) (by decide) (Nat.le_of_ble_eq_true rfl) dX8_read_175 rfl ?_
                        refine E.veq (x' := v (111 + 2 * k + 1) (f + 2 * i2)) (by rw [e1, if_pos (by rw [wsh _ _ (by omega)]; omega), wsh _ _ (by omega)]) ?_
                        refine E.aload C dX8_read_178 rfl ?_
                        refine E.iload_n C dX8_read_180 rfl rfl ?_
                        refine E.iconst C dX8_read_181 (by decide) ?_
                        refine E.iload C dX8_read_182 rfl ?_
                        refine E.imul C dX8_read_184 (by omega) ?_
                        refine E.iaddW C dX8_read_185 ?_
                        refine E.iconst C dX8_read_186 (by decide) ?_
                        refine E.iaddW C dX8_read_187 ?_
                        refine N.callVp (S := [vi (v (111 + 2 * k + 1) (f + 2 * i2)), vr 4]) (As := [vi (w32 ((w32 (f + (2 * i2))) + 1))]) C hX (ok_X4_cellAt G (111 + 2 * k) (w32 ((w32 (f + (2 * i2))) + 1)) w (kdSh (by omega)) (by first | omega | (rw [wsh _ _ (by omega)]; omega))) yf_X4_cellAt yv_X4_cellAt ml_X8_324 rfl rfl rfl (kdSh (by omega)) (by decide) (by decide) (Nat.le_of_ble_eq_true rfl) dX8_read_188 rfl ?_
                        refine E.veq (x' := v (111 + 2 * k + 1) (f + 2 * i2 + 1)) (by rw [e2, if_pos (by rw [wsh _ _ (by omega)]; omega), wsh _ _ (by omega)]) ?_
                        refine E.iconst C dX8_read_191 (by decide) ?_
                        refine N.callVd (S := []) (As := [vi (v (111 + 2 * k + 1) (f + 2 * i2)), vi (v (111 + 2 * k + 1) (f + 2 * i2 + 1)), vi 3]) C hX (ok_X7_addPlain G 4 (v (111 + 2 * k + 1) (f + 2 * i2)) (v (111 + 2 * k + 1) (f + 2 * i2 + 1)) 3 w hv4 (by omega)) yf_X7_addPlain yv_X7_addPlain ml_X8_249 rfl rfl rfl (kdV hv4) (by decide) (by decide) (Nat.le_of_ble_eq_true rfl) dX8_read_192 rfl ?_
                        refine E.popI C dX8_read_195 ?_
                        refine N.iinc_8 C dX8_read_196 (hN 8 (by decide)) rfl (by omega) ?_
                        refine E.goto C dX8_read_199 (tgt := 156) (by decide) ?_
                        exact ih156 _ (by omega) (i2 + 1) (if 10 ≤ w 4 5 then w else upd2 (plainF w (4 + 13 + w 4 5) (v (111 + 2 * k + 1) (f + 2 * i2)) (v (111 + 2 * k + 1) (f + 2 * i2 + 1)) 3) 4 5 (w 4 5 + 1)) rfl (by refine ⟨by omega, by omega, ?_⟩; rw [sews_step hj0, ← hw, if_neg (by omega)]; rfl)
                  exact lp156 _ 0 v rfl (by exact ⟨by omega, by omega, rfl⟩)
                · skip
                  have hmid := (hq.resolve_left (fun z => z.2.2.1 (by omega))).resolve_right (fun z => by omega)
                  have hup := w32_up (x := f + 2 * i) (by omega) (by omega)
                  have hup2 := w32_up (x := w32 (f + 2 * i) + 1) (by have := w32_in (f + 2 * i); omega) (by have := w32_in (f + 2 * i); omega)
                  have hokN : ¬ ((0 ≤ w32 (f + 2 * i) ∧ w32 (f + 2 * i) < v (111 + 2 * k) 2) ∧ (0 ≤ w32 (w32 (f + 2 * i) + 1) ∧ w32 (w32 (f + 2 * i) + 1) < v (111 + 2 * k) 2)) → ¬ RdOk f (v (111 + 2 * k) 2) i := fun z y => by
                    unfold RdOk at y
                    have h1 := hup.1 (by omega)
                    rw [h1] at hup2 z
                    have h2 := hup2.1 (by omega)
                    omega
                  refine E.iload_n C dX8_read_70 rfl rfl ?_
                  refine E.iconst C dX8_read_71 (by decide) ?_
                  refine E.iload C dX8_read_72 rfl ?_
                  refine E.imul C dX8_read_74 (by omega) ?_
                  refine E.iaddW C dX8_read_75 ?_
                  refine N.ist_9 C dX8_read_76 (hN 9 (by decide)) rfl ?_
                  refine E.aload C dX8_read_78 rfl ?_
                  refine E.iload C dX8_read_80 rfl ?_
                  refine N.callVp (S := []) (As := [vi (w32 (f + (2 * i)))]) C hX (ok_X4_hasCell G (111 + 2 * k) (w32 (f + (2 * i))) v (kdSh (by omega))) yf_X4_hasCell yv_X4_hasCell ml_X8_315 rfl rfl rfl (kdSh (by omega)) (by decide) (by decide) (Nat.le_of_ble_eq_true rfl) dX8_read_82 rfl ?_
                  refine E.if_eq C dX8_read_85 (tgt := 100) (by decide) (fun h85 => ?_) (fun h85 => ?_)
                  · have h85 := b0.mp h85
                    refine E.iconst C dX8_read_100 (by decide) ?_
                    refine N.ist_6 C dX8_read_101 (hN 6 (by decide)) rfl ?_
                    refine E.goto C dX8_read_103 (tgt := 147) (by decide) ?_
                    refine N.iinc_8 C dX8_read_147 (hN 8 (by decide)) rfl (by omega) ?_
                    refine E.goto C dX8_read_150 (tgt := 58) (by decide) ?_
                    refine E.drop (i := 9) ?_
                    exact ih58 _ (by omega) 2 wh (i + 1) rfl (by have hm0 := hmid; first | (refine ⟨by omega, by omega, by omega, Or.inr (Or.inl ⟨hm0.1, by omega, by omega, ?_⟩)⟩; exact hm0.2.2.2.next hokP (fun z => h135n z)) | (exact ⟨by omega, by omega, by omega, Or.inr (Or.inr ⟨by omega, rfl, by omega, by omega, by rw [hm0.2.2.1]; exact hm0.2.2.2, by rw [hm0.2.2.1]; exact hokN (by omega)⟩)⟩))
                  · have h85 := b0n.mp h85
                    refine E.aload C dX8_read_88 rfl ?_
                    refine E.iload C dX8_read_90 rfl ?_
                    refine E.iconst C dX8_read_92 (by decide) ?_
                    refine E.iaddW C dX8_read_93 ?_
                    refine N.callVp (S := []) (As := [vi (w32 ((w32 (f + (2 * i))) + 1))]) C hX (ok_X4_hasCell G (111 + 2 * k) (w32 ((w32 (f + (2 * i))) + 1)) v (kdSh (by omega))) yf_X4_hasCell yv_X4_hasCell ml_X8_315 rfl rfl rfl (kdSh (by omega)) (by decide) (by decide) (Nat.le_of_ble_eq_true rfl) dX8_read_94 rfl ?_
                    refine E.if_ne C dX8_read_97 (tgt := 106) (by decide) (fun h97 => ?_) (fun h97 => ?_)
                    · have h97 := b0n.mp h97
                      have hokP : RdOk f (v (111 + 2 * k) 2) i := by unfold RdOk; omega
                      have e1 : w32 (f + 2 * i) = f + 2 * i := by omega
                      have e2 : w32 (w32 (f + 2 * i) + 1) = f + 2 * i + 1 := by omega
                      have hrf : RdRef (fun e => v (111 + 2 * k + 1) e) f (v 4 5) i ↔ ¬ ((0 ≤ v (111 + 2 * k + 1) (f + 2 * i) ∧ v (111 + 2 * k + 1) (f + 2 * i) ≤ 1) ∧ (1 ≤ v (111 + 2 * k + 1) (f + 2 * i + 1) ∧ v (111 + 2 * k + 1) (f + 2 * i + 1) ≤ 40)) ∨ 10 ≤ v 4 5 + i := Iff.rfl
                      refine E.aload_n C dX8_read_106 rfl rfl ?_
                      refine N.getR C fa_X8_19 rfl dX8_read_107 kd_1 (x := 4) (by decide +kernel) (by decide) ?_
                      refine N.getI C fa_X8_243 rfl dX8_read_110 (kdV hv4) (x := v 4 5) rfl ?_
                      refine E.iload C dX8_read_113 rfl ?_
                      refine E.iadd C dX8_read_115 (by omega) ?_
                      refine E.aload C dX8_read_116 rfl ?_
                      refine E.iload C dX8_read_118 rfl ?_
                      refine N.callVp (S := [vi ((v 4 5) + i)]) (As := [vi (w32 (f + (2 * i)))]) C hX (ok_X4_cellAt G (111 + 2 * k) (w32 (f + (2 * i))) v (kdSh (by omega)) (by first | omega | (rw [wsh _ _ (by omega)]; omega))) yf_X4_cellAt yv_X4_cellAt ml_X8_324 rfl rfl rfl (kdSh (by omega)) (by decide) (by decide) (Nat.le_of_ble_eq_true rfl) dX8_read_120 rfl ?_
                      refine E.veq (x' := v (111 + 2 * k + 1) (f + 2 * i)) (by rw [if_pos (by omega), e1]) ?_
                      refine E.aload C dX8_read_123 rfl ?_
                      refine E.iload C dX8_read_125 rfl ?_
                      refine E.iconst C dX8_read_127 (by decide) ?_
                      refine E.iaddW C dX8_read_128 ?_
                      refine N.callVp (S := [vi (v (111 + 2 * k + 1) (f + 2 * i)), vi ((v 4 5) + i)]) (As := [vi (w32 ((w32 (f + (2 * i))) + 1))]) C hX (ok_X4_cellAt G (111 + 2 * k) (w32 ((w32 (f + (2 * i))) + 1)) v (kdSh (by omega)) (by first | omega | (rw [wsh _ _ (by omega)]; omega))) yf_X4_cellAt yv_X4_cellAt ml_X8_324 rfl rfl rfl (kdSh (by omega)) (by decide) (by decide) (Nat.le_of_ble_eq_true rfl) dX8_read_129 rfl ?_
                      refine E.veq (x' := v (111 + 2 * k + 1) (f + 2 * i + 1)) (by rw [if_pos (by omega), e2]) ?_
                      refine N.callSp (S := []) (As := [vi ((v 4 5) + i), vi (v (111 + 2 * k + 1) (f + 2 * i)), vi (v (111 + 2 * k + 1) (f + 2 * i + 1))]) C hX (ok_X8_sewRefusal G ((v 4 5) + i) (v (111 + 2 * k + 1) (f + 2 * i)) (v (111 + 2 * k + 1) (f + 2 * i + 1)) v) yf_X8_sewRefusal yv_X8_sewRefusal ml_X8_246 rfl (by decide) (Nat.le_of_ble_eq_true rfl) dX8_read_132 rfl ?_
                      refine E.if_eq C dX8_read_135 (tgt := 144) (by decide) (fun h135 => ?_) (fun h135 => ?_)
                      · skip
                        have h135n : ¬ RdRef (fun e => v (111 + 2 * k + 1) e) f (v 4 5) i := fun z => by
                          have := hrf.mp z
                          (repeat' split at h135) <;> omega
                        refine N.iinc_7 C dX8_read_144 (hN 7 (by decide)) rfl (by omega) ?_
                        refine N.iinc_8 C dX8_read_147 (hN 8 (by decide)) rfl (by omega) ?_
                        refine E.goto C dX8_read_150 (tgt := 58) (by decide) ?_
                        refine E.drop (i := 9) ?_
                        exact ih58 _ (by omega) met (wh + 1) (i + 1) rfl (by have hm0 := hmid; first | (refine ⟨by omega, by omega, by omega, Or.inr (Or.inl ⟨hm0.1, by omega, by omega, ?_⟩)⟩; exact hm0.2.2.2.next hokP (fun z => h135n z)) | (exact ⟨by omega, by omega, by omega, Or.inr (Or.inr ⟨by omega, rfl, by omega, by omega, by rw [hm0.2.2.1]; exact hm0.2.2.2, by rw [hm0.2.2.1]; exact hokN (by omega)⟩)⟩))
                      · skip
                        refine E.bipush C dX8_read_138 (by decide) ?_
                        refine E.iload C dX8_read_140 rfl ?_
                        refine E.isub C dX8_read_142 (by omega) ?_
                        exact N.iret C hR dX8_read_143 (fun hi hx => by refine Or.inr ⟨by omega, -1, -1, Or.inr ⟨hmid.1, i, hi0, by omega, hmid.2.2.2, Or.inr (Or.inr ⟨by omega, hokP, hrf.mpr (by (repeat' split at h135) <;> omega), rfl, rfl, rfl⟩)⟩, Or.inl ⟨rfl, rfl⟩⟩)
                    · have h97 := b0.mp h97
                      refine E.iconst C dX8_read_100 (by decide) ?_
                      refine N.ist_6 C dX8_read_101 (hN 6 (by decide)) rfl ?_
                      refine E.goto C dX8_read_103 (tgt := 147) (by decide) ?_
                      refine N.iinc_8 C dX8_read_147 (hN 8 (by decide)) rfl (by omega) ?_
                      refine E.goto C dX8_read_150 (tgt := 58) (by decide) ?_
                      refine E.drop (i := 9) ?_
                      exact ih58 _ (by omega) 2 wh (i + 1) rfl (by have hm0 := hmid; first | (refine ⟨by omega, by omega, by omega, Or.inr (Or.inl ⟨hm0.1, by omega, by omega, ?_⟩)⟩; exact hm0.2.2.2.next hokP (fun z => h135n z)) | (exact ⟨by omega, by omega, by omega, Or.inr (Or.inr ⟨by omega, rfl, by omega, by omega, by rw [hm0.2.2.1]; exact hm0.2.2.2, by rw [hm0.2.2.1]; exact hokN (by omega)⟩)⟩))
          exact lp58 _ 0 0 0 rfl (by first | exact ⟨by omega, by omega, by omega, Or.inr (Or.inl ⟨Or.inr (by omega), rfl, rfl, fun i h1 h2 => by omega⟩)⟩ | (refine ⟨by omega, by omega, by omega, ?_⟩; rcases hlf with z | z; (exact Or.inr (Or.inl ⟨Or.inl z, z, rfl, fun i h1 h2 => by omega⟩)); (exact Or.inl ⟨rfl, by omega, z, rfl, rfl⟩)))
      · have h22 := b0.mp h22
        refine E.iconst C dX8_read_25 (by decide) ?_
        exact N.iret C hR dX8_read_26 (fun hi hx => by exact Or.inl ⟨by omega, rfl, rfl⟩)
