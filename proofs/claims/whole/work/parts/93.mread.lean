set_option maxHeartbeats 4000000 in
set_option maxRecDepth 20000 in
theorem ok_X9_read (G : GT) (k l f n : Int) (A v : VT) (hA : WFV A 0) (hM : MR A (v 120)) (hlen : ∀ k, 0 ≤ k → k < 4 → 0 ≤ v 136 k ∧ v 136 k ≤ 40) (hlz : ∀ c t, 0 ≤ c → c < 8 → A 0 5 ≤ t → t < 10 → v 120 (119 + 10 * c + t) = 0) : MNi G yX9_read cX9_read 12 (some .int) 3 67 [vr 119, vi k, vi l, vi f, vi n] v (fun x w => (∀ a j, ¬ a = 120 → ¬ (a = 119 ∧ j = 37) → w a j = v a j) ∧ (∀ j, ¬ j = 41 → (j < 42 + 7 * A 0 5 ∨ 112 ≤ j) → w 120 j = v 120 j) ∧ ((¬ ((0 ≤ k ∧ k ≤ 3) ∧ (0 ≤ l ∧ l ≤ 2) ∧ (0 ≤ n ∧ n ≤ 10)) ∧ x = -1 ∧ w = v) ∨ (((0 ≤ k ∧ k ≤ 3) ∧ (0 ≤ l ∧ l ≤ 2) ∧ (0 ≤ n ∧ n ≤ 10)) ∧ ∃ m tn, ReadQ (fun e => v 137 (40 * k + e)) f (v 136 k) (A 0 5) (if v 135 k = -4 then (1 : Int) else if v 135 k = l then 0 else 3) n x m tn ∧ ((m = -1 ∧ MR A (w 120) ∧ w 119 37 = v 119 37) ∨ (0 ≤ m ∧ RdI (fun e => v 137 (40 * k + e)) f (v 136 k) (A 0 5) m ∧ MR (sewsN A 0 (fun e => v 137 (40 * k + e)) f m.toNat) (w 120) ∧ w 119 37 = tn))))) := by
  refine MN.of pn_X9_read [some (vr 119), some (vi k), some (vi l), some (vi f), some (vi n), none, none, none, none, none, none, none] 7 rfl rfl (fun X C hX hn hR => ?_)
  have hN : ∀ i : Nat, i < 12 → i < xn X := fun i h => by rw [hn]; exact h
  refine E.rngk (fun hinv => ?_)
  refine E.loc (fun hloc => ?_)
  have hin_1 : in32 k := hloc _ (List.mem_of_getElem? (i := 1) rfl)
  have hin_2 : in32 l := hloc _ (List.mem_of_getElem? (i := 2) rfl)
  have hin_3 : in32 f := hloc _ (List.mem_of_getElem? (i := 3) rfl)
  have hin_4 : in32 n := hloc _ (List.mem_of_getElem? (i := 4) rfl)
  have hc := hM.1
  have hb := hM.2.1
  have hA1 := hA.1
  have hA2 := hA.2.1
  refine E.iload_n C dX9_read_0 rfl rfl ?_
  refine E.iload_n C dX9_read_1 rfl rfl ?_
  refine N.callSp (S := []) (As := [vi k, vi l]) C hX (ok_X9_isSheet G k l v) yf_X9_isSheet yv_X9_isSheet ml_X9_329 rfl (by decide) (Nat.le_of_ble_eq_true rfl) dX9_read_2 rfl ?_
  refine E.if_eq C dX9_read_5 (tgt := 21) (by decide) (fun h5 => ?_) (fun h5 => ?_)
  · have h5 := b0.mp h5
    refine E.iconst C dX9_read_21 (by decide) ?_
    exact N.iret C hR dX9_read_22 (fun hi hx => by exact ⟨fun a j _ _ => rfl, fun j _ _ => rfl, Or.inl ⟨by omega, rfl, rfl⟩⟩)
  · have h5 := b0n.mp h5
    refine E.iload C dX9_read_8 rfl ?_
    refine E.i2l C dX9_read_10 ?_
    refine E.lconst C dX9_read_11 (x := 0) rfl ?_
    refine E.ldc2 C ct_X9_184 (x := 10) (by decide) dX9_read_12 ?_
    refine N.callSp (S := []) (As := [vl n, vl 0, vl 10]) C hX (ok_X9_in G n 0 10 v) yf_X9_in yv_X9_in ml_X9_93 rfl (by decide) (Nat.le_of_ble_eq_true rfl) dX9_read_15 rfl ?_
    refine E.if_ne C dX9_read_18 (tgt := 23) (by decide) (fun h18 => ?_) (fun h18 => ?_)
    · have h18 := b0n.mp h18
      refine E.aload_n C dX9_read_23 rfl rfl ?_
      refine N.getR C fa_X9_7 rfl dX9_read_24 kd_119 (x := 120) (by decide +kernel) (by decide) ?_
      refine E.bipush C dX9_read_27 (by decide) ?_
      refine N.iald C dX9_read_29 kd_120 ln_120 (by omega) (x := v 120 41) rfl ?_
      refine N.ist_5 C dX9_read_30 (hN 5 (by decide)) rfl ?_
      refine E.iconst C dX9_read_32 (by decide) ?_
      refine N.ist_6 C dX9_read_33 (hN 6 (by decide)) rfl ?_
      refine E.iconst C dX9_read_35 (by decide) ?_
      refine N.ist_7 C dX9_read_36 (hN 7 (by decide)) rfl ?_
      refine E.iconst C dX9_read_38 (by decide) ?_
      refine N.ist_8 C dX9_read_39 (hN 8 (by decide)) rfl ?_
      have lp41 : ∀ (k41 : Nat) (met : Int) (wh : Int) (i : Int) (w : VT), (n - i).toNat = k41 → (0 ≤ i ∧ i ≤ n ∧ 0 ≤ wh ∧ wh ≤ i ∧ (∀ a j, ¬ a = 120 → w a j = v a j) ∧ (∀ j, ¬ j = 41 → (j < 42 + 7 * A 0 5 ∨ 112 ≤ j) → w 120 j = v 120 j) ∧ MR (sewsN A 0 (fun e => v 137 (40 * k + e)) f wh.toNat) (w 120) ∧ RdI (fun e => v 137 (40 * k + e)) f (v 136 k) (A 0 5) wh ∧ ((met = 0 ∧ wh = i ∧ ((if v 135 k = -4 then (1 : Int) else if v 135 k = l then 0 else 3) = 0 ∨ i = 0)) ∨ (¬ met = 0 ∧ met = (if v 135 k = -4 then (1 : Int) else if v 135 k = l then 0 else 3) ∧ 0 < n ∧ wh = 0) ∨ ((if v 135 k = -4 then (1 : Int) else if v 135 k = l then 0 else 3) = 0 ∧ met = 2 ∧ wh < i ∧ ¬ RdOk f (v 136 k) wh))) → E X G 0 0 1000 w 41 [some (vr 119), some (vi k), some (vi l), some (vi f), some (vi n), some (vi (v 120 41)), some (vi met), some (vi wh), some (vi i), none, none, none] [] := by
        intro k41
        induction k41 using Nat.strongRecOn with
        | ind k41 ih41 =>
          intro met wh i w hk41 hI41
          obtain ⟨hi0, hi1, hw0, hw1, hfr, hst, hMw, hRI, hq⟩ := hI41; have hwn : A 0 5 + wh ≤ 10 := (by by_cases hz : wh = 0; omega; (have := (hRI (wh - 1) (by omega) (by omega)).2; unfold RdRef at this; omega)); have hWw := RdI.wf hA hRI wh.toNat (by omega); have b5 : (sewsN A 0 (fun e => v 137 (40 * k + e)) f wh.toNat) 0 5 = A 0 5 + wh := (by rw [sews_5]; omega)
          refine E.iload C dX9_read_41 rfl ?_
          refine E.iload C dX9_read_43 rfl ?_
          refine E.icmp_ge C dX9_read_45 (tgt := 208) (by decide) (fun h45 => ?_) (fun h45 => ?_)
          · skip
            have hx208 := hq
            refine E.aload_n C dX9_read_208 rfl rfl ?_
            refine E.iload C dX9_read_209 rfl ?_
            refine N.putI C fp_X9_335 rfl dX9_read_211 kd_119 ?_
            refine E.iload C dX9_read_214 rfl ?_
            exact N.iret C hR dX9_read_216 (fun hi hx => by refine ⟨fun a j g1 g2 => (u_ne (by omega)).trans (hfr a j g1), fun j g1 g2 => (u_ne (Or.inl (by decide))).trans (hst j g1 g2), Or.inr ⟨by omega, wh, met, ?_, Or.inr ⟨hw0, hRI, by rw [upd2_rowne (by decide)]; exact hMw, u_at (by decide)⟩⟩⟩; rcases hq with z | z | z; (exact Or.inr ⟨by omega, i, hi0, hi1, by rw [← z.2.1]; exact hRI, Or.inl ⟨by omega, by omega, by omega, z.1⟩⟩); (exact Or.inl ⟨by omega, z.2.2.1, z.2.2.2, z.2.2.2, z.2.1⟩); (exact Or.inr ⟨Or.inl z.1, wh, hw0, by omega, hRI, Or.inr (Or.inl ⟨by omega, z.2.2.2, rfl, rfl, z.2.1⟩)⟩))
          · skip
            refine E.iload C dX9_read_48 rfl ?_
            refine E.if_ne C dX9_read_50 (tgt := 208) (by decide) (fun h50 => ?_) (fun h50 => ?_)
            · skip
              have hx208 := hq
              refine E.aload_n C dX9_read_208 rfl rfl ?_
              refine E.iload C dX9_read_209 rfl ?_
              refine N.putI C fp_X9_335 rfl dX9_read_211 kd_119 ?_
              refine E.iload C dX9_read_214 rfl ?_
              exact N.iret C hR dX9_read_216 (fun hi hx => by refine ⟨fun a j g1 g2 => (u_ne (by omega)).trans (hfr a j g1), fun j g1 g2 => (u_ne (Or.inl (by decide))).trans (hst j g1 g2), Or.inr ⟨by omega, wh, met, ?_, Or.inr ⟨hw0, hRI, by rw [upd2_rowne (by decide)]; exact hMw, u_at (by decide)⟩⟩⟩; rcases hq with z | z | z; (exact Or.inr ⟨by omega, i, hi0, hi1, by rw [← z.2.1]; exact hRI, Or.inl ⟨by omega, by omega, by omega, z.1⟩⟩); (exact Or.inl ⟨by omega, z.2.2.1, z.2.2.2, z.2.2.2, z.2.1⟩); (exact Or.inr ⟨Or.inl z.1, wh, hw0, by omega, hRI, Or.inr (Or.inl ⟨by omega, z.2.2.2, rfl, rfl, z.2.1⟩)⟩))
            · skip
              have hlk := hlen k (by omega) (by omega)
              have hq0 : met = 0 ∧ wh = i ∧ ((if v 135 k = -4 then (1 : Int) else if v 135 k = l then 0 else 3) = 0 ∨ i = 0) := by
                rcases hq with z | z | z
                · exact z
                · exfalso; omega
                · exfalso; omega
              refine E.iconst C dX9_read_53 (by decide) ?_
              refine N.ist_9 C dX9_read_54 (hN 9 (by decide)) rfl ?_
              have lp56 : ∀ (k56 : Nat) (rs : Int) (c : Int), (2 - c).toNat = k56 → (0 ≤ c ∧ c ≤ 2 ∧ ((c = 0 ∧ rs = 0) ∨ (c = 1 ∧ rs = (if v 135 k = -4 then (1 : Int) else if v 135 k = l then (if f + 2 * i + 0 < 0 ∨ v 136 k ≤ f + 2 * i + 0 then 2 else 0) else 3)) ∨ (c = 2 ∧ (if v 135 k = -4 then (1 : Int) else if v 135 k = l then (if f + 2 * i + 0 < 0 ∨ v 136 k ≤ f + 2 * i + 0 then 2 else 0) else 3) = 0 ∧ rs = (if v 135 k = -4 then (1 : Int) else if v 135 k = l then (if f + 2 * i + 1 < 0 ∨ v 136 k ≤ f + 2 * i + 1 then 2 else 0) else 3)))) → E X G 0 0 1000 w 56 [some (vr 119), some (vi k), some (vi l), some (vi f), some (vi n), some (vi (v 120 41)), some (vi rs), some (vi wh), some (vi i), some (vi c), none, none] [] := by
                intro k56
                induction k56 using Nat.strongRecOn with
                | ind k56 ih56 =>
                  intro rs c hk56 hI56
                  obtain ⟨hc0, hc1, hrs⟩ := hI56
                  refine E.iload C dX9_read_56 rfl ?_
                  refine E.iconst C dX9_read_58 (by decide) ?_
                  refine E.icmp_ge C dX9_read_59 (tgt := 143) (by decide) (fun h59 => ?_) (fun h59 => ?_)
                  · skip
                    have hfin : (rs = 0 ∧ (if v 135 k = -4 then (1 : Int) else if v 135 k = l then 0 else 3) = 0 ∧ RdOk f (v 136 k) i) ∨ (¬ rs = 0 ∧ 0 ≤ rs ∧ ((rs = (if v 135 k = -4 then (1 : Int) else if v 135 k = l then 0 else 3) ∧ wh = 0) ∨ (rs = 2 ∧ (if v 135 k = -4 then (1 : Int) else if v 135 k = l then 0 else 3) = 0 ∧ ¬ RdOk f (v 136 k) i))) := by
                      have hl := hq0.2.2
                      unfold RdOk
                      rcases hrs with ⟨z1, z2⟩ | ⟨z1, z2⟩ | ⟨z1, z2, z3⟩
                      · exfalso; omega
                      · by_cases g1 : v 135 k = -4
                        · rw [if_pos g1] at z2 hl ⊢; omega
                        · rw [if_neg g1] at z2 hl ⊢
                          by_cases g2 : v 135 k = l
                          · rw [if_pos g2] at z2 hl ⊢
                            split at z2 <;> omega
                          · rw [if_neg g2] at z2 hl ⊢; omega
                      · by_cases g1 : v 135 k = -4
                        · rw [if_pos g1] at z2; omega
                        · rw [if_neg g1] at z2 z3 hl ⊢
                          by_cases g2 : v 135 k = l
                          · rw [if_pos g2] at z2 z3 hl ⊢
                            split at z2 <;> split at z3 <;> omega
                          · rw [if_neg g2] at z2; omega
                    refine E.iload C dX9_read_143 rfl ?_
                    refine E.if_ne C dX9_read_145 (tgt := 202) (by decide) (fun h145 => ?_) (fun h145 => ?_)
                    · skip
                      refine N.iinc_8 C dX9_read_202 (hN 8 (by decide)) rfl (by omega) ?_
                      refine E.goto C dX9_read_205 (tgt := 41) (by decide) ?_
                      refine E.drop (i := 9) ?_
                      exact ih41 _ (by omega) rs wh (i + 1) w rfl (by first | (refine ⟨by omega, by omega, by omega, by omega, hfr, hst, hMw, hRI, ?_⟩; rcases hfin with ⟨z, _⟩ | ⟨z1, z2, z3⟩; (exfalso; omega); (rcases z3 with ⟨z3, z4⟩ | ⟨z3, z4⟩; (exact Or.inr (Or.inl ⟨z1, z3, by omega, by omega⟩)); (exact Or.inr (Or.inr ⟨z4.1, z3, by omega, by rw [hq0.2.1]; exact z4.2⟩)))) | (have hs := (hsw.resolve_left (fun z => by omega)).resolve_left (fun z => by omega); exact ⟨by omega, by omega, by omega, by omega, fun a j g => (hs.2.2.2.1 a j g).trans (hfr a j g), hsS0 _ hs.2.2.2 (by omega), by rw [sews_step hw0]; exact mr_sew hMw hWw b5 (by omega) (by omega) hs.2.2.2 (by rw [ewh]; exact hcf) (by rw [ewh]; exact hcf2), by (have e9 : RdI (fun e => v 137 (40 * k + e)) f (v 136 k) (A 0 5) (i + 1) := (by rw [ewh] at hRI; exact hRI.next hokP (fun z => by have := hrf.mp z; omega))); rw [ewh]; exact e9, Or.inl ⟨by omega, by omega, Or.inl hlf0⟩⟩))
                    · skip
                      have hlf0 : (if v 135 k = -4 then (1 : Int) else if v 135 k = l then 0 else 3) = 0 := (hfin.resolve_right (fun z => z.1 (by omega))).2.1
                      have hokP : RdOk f (v 136 k) i := (hfin.resolve_right (fun z => z.1 (by omega))).2.2
                      have hokQ := hokP
                      unfold RdOk at hokQ
                      refine E.bipush C dX9_read_148 (by decide) ?_
                      refine E.iload_n C dX9_read_150 rfl rfl ?_
                      refine E.imul C dX9_read_151 (by omega) ?_
                      refine E.iload_n C dX9_read_152 rfl rfl ?_
                      refine E.iadd C dX9_read_153 (by omega) ?_
                      refine E.iconst C dX9_read_154 (by decide) ?_
                      refine E.iload C dX9_read_155 rfl ?_
                      refine E.imul C dX9_read_157 (by omega) ?_
                      refine E.iadd C dX9_read_158 (by omega) ?_
                      refine N.ist_9 C dX9_read_159 (hN 9 (by decide)) rfl ?_
                      refine E.aload_n C dX9_read_161 rfl rfl ?_
                      refine E.aload_n C dX9_read_162 rfl rfl ?_
                      refine N.getR C fa_X9_62 rfl dX9_read_163 kd_119 (x := 137) (by decide +kernel) (by decide) ?_
                      refine E.iload C dX9_read_166 rfl ?_
                      refine N.iald C dX9_read_168 kd_137 ln_137 (by omega) (x := v 137 (((40 * k) + f) + (2 * i))) (hfr _ _ (by decide)) ?_
                      refine E.aload_n C dX9_read_169 rfl rfl ?_
                      refine N.getR C fa_X9_62 rfl dX9_read_170 kd_119 (x := 137) (by decide +kernel) (by decide) ?_
                      refine E.iload C dX9_read_173 rfl ?_
                      refine E.iconst C dX9_read_175 (by decide) ?_
                      refine E.iadd C dX9_read_176 (by omega) ?_
                      refine N.iald C dX9_read_177 kd_137 ln_137 (by omega) (x := v 137 ((((40 * k) + f) + (2 * i)) + 1)) (hfr _ _ (by decide)) ?_
                      refine N.callVi (S := []) (As := [vi (v 137 (((40 * k) + f) + (2 * i))), vi (v 137 ((((40 * k) + f) + (2 * i)) + 1))]) C hX (ok_X9_sew G (v 137 (((40 * k) + f) + (2 * i))) (v 137 ((((40 * k) + f) + (2 * i)) + 1)) (sewsN A 0 (fun e => v 137 (40 * k + e)) f wh.toNat) w hWw hMw) yf_X9_sew yv_X9_sew ml_X9_332 rfl rfl rfl kd_119 (by decide) (by decide) (Nat.le_of_ble_eq_true rfl) dX9_read_178 rfl (fun t178 w178 hb178 hp178 => ?_)
                      have hsw := hp178
                      rw [b5] at hsw
                      have hcf : (fun e => v 137 (40 * k + e)) (f + 2 * i) = v 137 (40 * k + f + 2 * i) := by show v 137 (40 * k + (f + 2 * i)) = _; congr 1; omega
                      have hcf2 : (fun e => v 137 (40 * k + e)) (f + 2 * i + 1) = v 137 (40 * k + f + 2 * i + 1) := by show v 137 (40 * k + (f + 2 * i + 1)) = _; congr 1; omega
                      have hrf : RdRef (fun e => v 137 (40 * k + e)) f (A 0 5) i ↔ ¬ ((0 ≤ v 137 (40 * k + f + 2 * i) ∧ v 137 (40 * k + f + 2 * i) ≤ 1) ∧ (1 ≤ v 137 (40 * k + f + 2 * i + 1) ∧ v 137 (40 * k + f + 2 * i + 1) ≤ 40)) ∨ 10 ≤ A 0 5 + i := by unfold RdRef; rw [hcf, hcf2]
                      have ewh := hq0.2.1
                      have hsS0 : ∀ w2 : VT, SewQ w (v 137 (40 * k + f + 2 * i)) (v 137 (40 * k + f + 2 * i + 1)) 3 (A 0 5 + wh) w2 → A 0 5 + wh < 10 → ∀ j, ¬ j = 41 → (j < 42 + 7 * A 0 5 ∨ 112 ≤ j) → w2 120 j = v 120 j := fun w2 z h10 j g1 g2 => by
                        by_cases hl : ∃ c, 0 ≤ c ∧ c < 8 ∧ j = 119 + 10 * c + (A 0 5 + wh)
                        · obtain ⟨c, c1, c2, c3⟩ := hl
                          rw [c3, z.2.2.2.1 c c1 c2]
                          exact (hlz c _ c1 c2 (by omega) h10).symm
                        · rw [z.2.2.2.2 j g1 (by omega) (fun c c1 c2 c3 => hl ⟨c, c1, c2, c3⟩)]
                          exact hst j g1 g2
                      refine E.if_ge C dX9_read_181 (tgt := 199) (by decide) (fun h181 => ?_) (fun h181 => ?_)
                      · skip
                        refine N.iinc_7 C dX9_read_199 (hN 7 (by decide)) rfl (by omega) ?_
                        refine N.iinc_8 C dX9_read_202 (hN 8 (by decide)) rfl (by omega) ?_
                        refine E.goto C dX9_read_205 (tgt := 41) (by decide) ?_
                        refine E.drop (i := 9) ?_
                        exact ih41 _ (by omega) rs (wh + 1) (i + 1) w178 rfl (by first | (refine ⟨by omega, by omega, by omega, by omega, hfr, hst, hMw, hRI, ?_⟩; rcases hfin with ⟨z, _⟩ | ⟨z1, z2, z3⟩; (exfalso; omega); (rcases z3 with ⟨z3, z4⟩ | ⟨z3, z4⟩; (exact Or.inr (Or.inl ⟨z1, z3, by omega, by omega⟩)); (exact Or.inr (Or.inr ⟨z4.1, z3, by omega, by rw [hq0.2.1]; exact z4.2⟩)))) | (have hs := (hsw.resolve_left (fun z => by omega)).resolve_left (fun z => by omega); exact ⟨by omega, by omega, by omega, by omega, fun a j g => (hs.2.2.2.1 a j g).trans (hfr a j g), hsS0 _ hs.2.2.2 (by omega), by rw [sews_step hw0]; exact mr_sew hMw hWw b5 (by omega) (by omega) hs.2.2.2 (by rw [ewh]; exact hcf) (by rw [ewh]; exact hcf2), by (have e9 : RdI (fun e => v 137 (40 * k + e)) f (v 136 k) (A 0 5) (i + 1) := (by rw [ewh] at hRI; exact hRI.next hokP (fun z => by have := hrf.mp z; omega))); rw [ewh]; exact e9, Or.inl ⟨by omega, by omega, Or.inl hlf0⟩⟩))
                      · skip
                        refine E.aload_n C dX9_read_184 rfl rfl ?_
                        refine N.getR C fa_X9_7 rfl dX9_read_185 kd_119 (x := 120) (by decide +kernel) (by decide) ?_
                        refine E.bipush C dX9_read_188 (by decide) ?_
                        refine E.iload C dX9_read_190 rfl ?_
                        refine N.iast C dX9_read_192 kd_120 ln_120 (by omega) ?_
                        refine E.bipush C dX9_read_193 (by decide) ?_
                        refine E.iload C dX9_read_195 rfl ?_
                        refine E.isub C dX9_read_197 (by omega) ?_
                        exact N.iret C hR dX9_read_198 (fun hi hx => by have hs : t178 < 0 ∧ w178 = w ∧ RdRef (fun e => v 137 (40 * k + e)) f (A 0 5) i := (by rcases hsw with z | z | z; (exact ⟨by omega, z.2.2, hrf.mpr (by omega)⟩); (exact ⟨by omega, z.2.2.2, hrf.mpr (by omega)⟩); (exfalso; omega)); obtain ⟨s1, s2, s3⟩ := hs; refine ⟨fun a j g1 g2 => (u_ne (Or.inl g1)).trans (by rw [s2]; exact hfr a j g1), fun j g1 g2 => (u_ne (Or.inr g1)).trans (by rw [s2]; exact hst j g1 g2), Or.inr ⟨by omega, -1, -1, Or.inr ⟨Or.inl hlf0, i, hi0, by omega, by rw [← ewh]; exact hRI, Or.inr (Or.inr ⟨by omega, hokP, s3, rfl, rfl, rfl⟩)⟩, Or.inl ⟨rfl, ?_, (u_ne (Or.inl (by decide))).trans (by rw [s2]; exact hfr _ _ (by decide))⟩⟩⟩; refine mr_back hM hA (fun j g1 g2 => ?_); by_cases h41 : j = 41; (rw [h41, u_at rfl]); (rw [u_ne (Or.inr h41), s2]; exact hst j h41 (Or.inl g2)))
                  · skip
                    refine E.iload C dX9_read_62 rfl ?_
                    refine E.if_ne C dX9_read_64 (tgt := 143) (by decide) (fun h64 => ?_) (fun h64 => ?_)
                    · skip
                      have hfin : (rs = 0 ∧ (if v 135 k = -4 then (1 : Int) else if v 135 k = l then 0 else 3) = 0 ∧ RdOk f (v 136 k) i) ∨ (¬ rs = 0 ∧ 0 ≤ rs ∧ ((rs = (if v 135 k = -4 then (1 : Int) else if v 135 k = l then 0 else 3) ∧ wh = 0) ∨ (rs = 2 ∧ (if v 135 k = -4 then (1 : Int) else if v 135 k = l then 0 else 3) = 0 ∧ ¬ RdOk f (v 136 k) i))) := by
                        have hl := hq0.2.2
                        unfold RdOk
                        rcases hrs with ⟨z1, z2⟩ | ⟨z1, z2⟩ | ⟨z1, z2, z3⟩
                        · exfalso; omega
                        · by_cases g1 : v 135 k = -4
                          · rw [if_pos g1] at z2 hl ⊢; omega
                          · rw [if_neg g1] at z2 hl ⊢
                            by_cases g2 : v 135 k = l
                            · rw [if_pos g2] at z2 hl ⊢
                              split at z2 <;> omega
                            · rw [if_neg g2] at z2 hl ⊢; omega
                        · by_cases g1 : v 135 k = -4
                          · rw [if_pos g1] at z2; omega
                          · rw [if_neg g1] at z2 z3 hl ⊢
                            by_cases g2 : v 135 k = l
                            · rw [if_pos g2] at z2 z3 hl ⊢
                              split at z2 <;> split at z3 <;> omega
                            · rw [if_neg g2] at z2; omega
                      refine E.iload C dX9_read_143 rfl ?_
                      refine E.if_ne C dX9_read_145 (tgt := 202) (by decide) (fun h145 => ?_) (fun h145 => ?_)
                      · skip
                        refine N.iinc_8 C dX9_read_202 (hN 8 (by decide)) rfl (by omega) ?_
                        refine E.goto C dX9_read_205 (tgt := 41) (by decide) ?_
                        refine E.drop (i := 9) ?_
                        exact ih41 _ (by omega) rs wh (i + 1) w rfl (by first | (refine ⟨by omega, by omega, by omega, by omega, hfr, hst, hMw, hRI, ?_⟩; rcases hfin with ⟨z, _⟩ | ⟨z1, z2, z3⟩; (exfalso; omega); (rcases z3 with ⟨z3, z4⟩ | ⟨z3, z4⟩; (exact Or.inr (Or.inl ⟨z1, z3, by omega, by omega⟩)); (exact Or.inr (Or.inr ⟨z4.1, z3, by omega, by rw [hq0.2.1]; exact z4.2⟩)))) | (have hs := (hsw.resolve_left (fun z => by omega)).resolve_left (fun z => by omega); exact ⟨by omega, by omega, by omega, by omega, fun a j g => (hs.2.2.2.1 a j g).trans (hfr a j g), hsS0 _ hs.2.2.2 (by omega), by rw [sews_step hw0]; exact mr_sew hMw hWw b5 (by omega) (by omega) hs.2.2.2 (by rw [ewh]; exact hcf) (by rw [ewh]; exact hcf2), by (have e9 : RdI (fun e => v 137 (40 * k + e)) f (v 136 k) (A 0 5) (i + 1) := (by rw [ewh] at hRI; exact hRI.next hokP (fun z => by have := hrf.mp z; omega))); rw [ewh]; exact e9, Or.inl ⟨by omega, by omega, Or.inl hlf0⟩⟩))
                      · skip
                        have hlf0 : (if v 135 k = -4 then (1 : Int) else if v 135 k = l then 0 else 3) = 0 := (hfin.resolve_right (fun z => z.1 (by omega))).2.1
                        have hokP : RdOk f (v 136 k) i := (hfin.resolve_right (fun z => z.1 (by omega))).2.2
                        have hokQ := hokP
                        unfold RdOk at hokQ
                        refine E.bipush C dX9_read_148 (by decide) ?_
                        refine E.iload_n C dX9_read_150 rfl rfl ?_
                        refine E.imul C dX9_read_151 (by omega) ?_
                        refine E.iload_n C dX9_read_152 rfl rfl ?_
                        refine E.iadd C dX9_read_153 (by omega) ?_
                        refine E.iconst C dX9_read_154 (by decide) ?_
                        refine E.iload C dX9_read_155 rfl ?_
                        refine E.imul C dX9_read_157 (by omega) ?_
                        refine E.iadd C dX9_read_158 (by omega) ?_
                        refine N.ist_9 C dX9_read_159 (hN 9 (by decide)) rfl ?_
                        refine E.aload_n C dX9_read_161 rfl rfl ?_
                        refine E.aload_n C dX9_read_162 rfl rfl ?_
                        refine N.getR C fa_X9_62 rfl dX9_read_163 kd_119 (x := 137) (by decide +kernel) (by decide) ?_
                        refine E.iload C dX9_read_166 rfl ?_
                        refine N.iald C dX9_read_168 kd_137 ln_137 (by omega) (x := v 137 (((40 * k) + f) + (2 * i))) (hfr _ _ (by decide)) ?_
                        refine E.aload_n C dX9_read_169 rfl rfl ?_
                        refine N.getR C fa_X9_62 rfl dX9_read_170 kd_119 (x := 137) (by decide +kernel) (by decide) ?_
                        refine E.iload C dX9_read_173 rfl ?_
                        refine E.iconst C dX9_read_175 (by decide) ?_
                        refine E.iadd C dX9_read_176 (by omega) ?_
                        refine N.iald C dX9_read_177 kd_137 ln_137 (by omega) (x := v 137 ((((40 * k) + f) + (2 * i)) + 1)) (hfr _ _ (by decide)) ?_
                        refine N.callVi (S := []) (As := [vi (v 137 (((40 * k) + f) + (2 * i))), vi (v 137 ((((40 * k) + f) + (2 * i)) + 1))]) C hX (ok_X9_sew G (v 137 (((40 * k) + f) + (2 * i))) (v 137 ((((40 * k) + f) + (2 * i)) + 1)) (sewsN A 0 (fun e => v 137 (40 * k + e)) f wh.toNat) w hWw hMw) yf_X9_sew yv_X9_sew ml_X9_332 rfl rfl rfl kd_119 (by decide) (by decide) (Nat.le_of_ble_eq_true rfl) dX9_read_178 rfl (fun t178 w178 hb178 hp178 => ?_)
                        have hsw := hp178
                        rw [b5] at hsw
                        have hcf : (fun e => v 137 (40 * k + e)) (f + 2 * i) = v 137 (40 * k + f + 2 * i) := by show v 137 (40 * k + (f + 2 * i)) = _; congr 1; omega
                        have hcf2 : (fun e => v 137 (40 * k + e)) (f + 2 * i + 1) = v 137 (40 * k + f + 2 * i + 1) := by show v 137 (40 * k + (f + 2 * i + 1)) = _; congr 1; omega
                        have hrf : RdRef (fun e => v 137 (40 * k + e)) f (A 0 5) i ↔ ¬ ((0 ≤ v 137 (40 * k + f + 2 * i) ∧ v 137 (40 * k + f + 2 * i) ≤ 1) ∧ (1 ≤ v 137 (40 * k + f + 2 * i + 1) ∧ v 137 (40 * k + f + 2 * i + 1) ≤ 40)) ∨ 10 ≤ A 0 5 + i := by unfold RdRef; rw [hcf, hcf2]
                        have ewh := hq0.2.1
                        have hsS0 : ∀ w2 : VT, SewQ w (v 137 (40 * k + f + 2 * i)) (v 137 (40 * k + f + 2 * i + 1)) 3 (A 0 5 + wh) w2 → A 0 5 + wh < 10 → ∀ j, ¬ j = 41 → (j < 42 + 7 * A 0 5 ∨ 112 ≤ j) → w2 120 j = v 120 j := fun w2 z h10 j g1 g2 => by
                          by_cases hl : ∃ c, 0 ≤ c ∧ c < 8 ∧ j = 119 + 10 * c + (A 0 5 + wh)
                          · obtain ⟨c, c1, c2, c3⟩ := hl
                            rw [c3, z.2.2.2.1 c c1 c2]
                            exact (hlz c _ c1 c2 (by omega) h10).symm
                          · rw [z.2.2.2.2 j g1 (by omega) (fun c c1 c2 c3 => hl ⟨c, c1, c2, c3⟩)]
                            exact hst j g1 g2
                        refine E.if_ge C dX9_read_181 (tgt := 199) (by decide) (fun h181 => ?_) (fun h181 => ?_)
                        · skip
                          refine N.iinc_7 C dX9_read_199 (hN 7 (by decide)) rfl (by omega) ?_
                          refine N.iinc_8 C dX9_read_202 (hN 8 (by decide)) rfl (by omega) ?_
                          refine E.goto C dX9_read_205 (tgt := 41) (by decide) ?_
                          refine E.drop (i := 9) ?_
                          exact ih41 _ (by omega) rs (wh + 1) (i + 1) w178 rfl (by first | (refine ⟨by omega, by omega, by omega, by omega, hfr, hst, hMw, hRI, ?_⟩; rcases hfin with ⟨z, _⟩ | ⟨z1, z2, z3⟩; (exfalso; omega); (rcases z3 with ⟨z3, z4⟩ | ⟨z3, z4⟩; (exact Or.inr (Or.inl ⟨z1, z3, by omega, by omega⟩)); (exact Or.inr (Or.inr ⟨z4.1, z3, by omega, by rw [hq0.2.1]; exact z4.2⟩)))) | (have hs := (hsw.resolve_left (fun z => by omega)).resolve_left (fun z => by omega); exact ⟨by omega, by omega, by omega, by omega, fun a j g => (hs.2.2.2.1 a j g).trans (hfr a j g), hsS0 _ hs.2.2.2 (by omega), by rw [sews_step hw0]; exact mr_sew hMw hWw b5 (by omega) (by omega) hs.2.2.2 (by rw [ewh]; exact hcf) (by rw [ewh]; exact hcf2), by (have e9 : RdI (fun e => v 137 (40 * k + e)) f (v 136 k) (A 0 5) (i + 1) := (by rw [ewh] at hRI; exact hRI.next hokP (fun z => by have := hrf.mp z; omega))); rw [ewh]; exact e9, Or.inl ⟨by omega, by omega, Or.inl hlf0⟩⟩))
                        · skip
                          refine E.aload_n C dX9_read_184 rfl rfl ?_
                          refine N.getR C fa_X9_7 rfl dX9_read_185 kd_119 (x := 120) (by decide +kernel) (by decide) ?_
                          refine E.bipush C dX9_read_188 (by decide) ?_
                          refine E.iload C dX9_read_190 rfl ?_
                          refine N.iast C dX9_read_192 kd_120 ln_120 (by omega) ?_
                          refine E.bipush C dX9_read_193 (by decide) ?_
                          refine E.iload C dX9_read_195 rfl ?_
                          refine E.isub C dX9_read_197 (by omega) ?_
                          exact N.iret C hR dX9_read_198 (fun hi hx => by have hs : t178 < 0 ∧ w178 = w ∧ RdRef (fun e => v 137 (40 * k + e)) f (A 0 5) i := (by rcases hsw with z | z | z; (exact ⟨by omega, z.2.2, hrf.mpr (by omega)⟩); (exact ⟨by omega, z.2.2.2, hrf.mpr (by omega)⟩); (exfalso; omega)); obtain ⟨s1, s2, s3⟩ := hs; refine ⟨fun a j g1 g2 => (u_ne (Or.inl g1)).trans (by rw [s2]; exact hfr a j g1), fun j g1 g2 => (u_ne (Or.inr g1)).trans (by rw [s2]; exact hst j g1 g2), Or.inr ⟨by omega, -1, -1, Or.inr ⟨Or.inl hlf0, i, hi0, by omega, by rw [← ewh]; exact hRI, Or.inr (Or.inr ⟨by omega, hokP, s3, rfl, rfl, rfl⟩)⟩, Or.inl ⟨rfl, ?_, (u_ne (Or.inl (by decide))).trans (by rw [s2]; exact hfr _ _ (by decide))⟩⟩⟩; refine mr_back hM hA (fun j g1 g2 => ?_); by_cases h41 : j = 41; (rw [h41, u_at rfl]); (rw [u_ne (Or.inr h41), s2]; exact hst j h41 (Or.inl g2)))
                    · skip
                      refine E.iload_n C dX9_read_67 rfl rfl ?_
                      refine E.i2l C dX9_read_68 ?_
                      refine E.iconst C dX9_read_69 (by decide) ?_
                      refine E.iload C dX9_read_70 rfl ?_
                      refine E.imul C dX9_read_72 (by omega) ?_
                      refine E.i2l C dX9_read_73 ?_
                      refine E.ladd C dX9_read_74 (by omega) ?_
                      refine E.iload C dX9_read_75 rfl ?_
                      refine E.i2l C dX9_read_77 ?_
                      refine E.ladd C dX9_read_78 (by omega) ?_
                      refine N.lst_10 C dX9_read_79 (hN 11 (by decide)) rfl ?_
                      refine E.aload_n C dX9_read_81 rfl rfl ?_
                      refine N.getR C fa_X9_56 rfl dX9_read_82 kd_119 (x := 135) (by decide +kernel) (by decide) ?_
                      refine E.iload_n C dX9_read_85 rfl rfl ?_
                      refine N.iald C dX9_read_86 kd_135 ln_135 (by omega) (x := v 135 k) (hfr _ _ (by decide)) ?_
                      refine E.bipush C dX9_read_87 (by decide) ?_
                      refine E.icmp_ne C dX9_read_89 (tgt := 96) (by decide) (fun h89 => ?_) (fun h89 => ?_)
                      · skip
                        refine E.aload_n C dX9_read_96 rfl rfl ?_
                        refine N.getR C fa_X9_56 rfl dX9_read_97 kd_119 (x := 135) (by decide +kernel) (by decide) ?_
                        refine E.iload_n C dX9_read_100 rfl rfl ?_
                        refine N.iald C dX9_read_101 kd_135 ln_135 (by omega) (x := v 135 k) (hfr _ _ (by decide)) ?_
                        refine E.iload_n C dX9_read_102 rfl rfl ?_
                        refine E.icmp_eq C dX9_read_103 (tgt := 110) (by decide) (fun h103 => ?_) (fun h103 => ?_)
                        · skip
                          refine E.lload C dX9_read_110 rfl ?_
                          refine E.lconst C dX9_read_112 (x := 0) rfl ?_
                          refine E.lcmp C dX9_read_113 ?_
                          refine E.if_lt C dX9_read_114 (tgt := 130) (by decide) (fun h114 => ?_) (fun h114 => ?_)
                          · have h114 := lcmpv_lt.mp h114
                            refine E.iconst C dX9_read_130 (by decide) ?_
                            refine E.goto C dX9_read_131 (tgt := 135) (by decide) ?_
                            refine N.ist_6 C dX9_read_135 (hN 6 (by decide)) rfl ?_
                            refine N.iinc_9 C dX9_read_137 (hN 9 (by decide)) rfl (by omega) ?_
                            refine E.goto C dX9_read_140 (tgt := 56) (by decide) ?_
                            refine E.drop (i := 10) ?_
                            exact ih56 _ (by omega) 2 (c + 1) rfl (by have hrs2 := hrs; refine ⟨by omega, by omega, ?_⟩; rcases hrs2 with ⟨z1, z2⟩ | ⟨z1, z2⟩ | ⟨z1, z2⟩; (refine Or.inr (Or.inl ⟨by omega, ?_⟩); (repeat' split) <;> omega); (refine Or.inr (Or.inr ⟨by omega, z2.symm.trans (by omega), ?_⟩); (repeat' split) <;> omega); (exfalso; omega))
                          · have h114 := mt lcmpv_lt.mpr h114
                            refine E.lload C dX9_read_117 rfl ?_
                            refine E.aload_n C dX9_read_119 rfl rfl ?_
                            refine N.getR C fa_X9_59 rfl dX9_read_120 kd_119 (x := 136) (by decide +kernel) (by decide) ?_
                            refine E.iload_n C dX9_read_123 rfl rfl ?_
                            refine N.iald C dX9_read_124 kd_136 ln_136 (by omega) (x := v 136 k) (hfr _ _ (by decide)) ?_
                            refine E.i2l C dX9_read_125 ?_
                            refine E.lcmp C dX9_read_126 ?_
                            refine E.if_lt C dX9_read_127 (tgt := 134) (by decide) (fun h127 => ?_) (fun h127 => ?_)
                            · have h127 := lcmpv_lt.mp h127
                              refine E.iconst C dX9_read_134 (by decide) ?_
                              refine N.ist_6 C dX9_read_135 (hN 6 (by decide)) rfl ?_
                              refine N.iinc_9 C dX9_read_137 (hN 9 (by decide)) rfl (by omega) ?_
                              refine E.goto C dX9_read_140 (tgt := 56) (by decide) ?_
                              refine E.drop (i := 10) ?_
                              exact ih56 _ (by omega) 0 (c + 1) rfl (by have hrs2 := hrs; refine ⟨by omega, by omega, ?_⟩; rcases hrs2 with ⟨z1, z2⟩ | ⟨z1, z2⟩ | ⟨z1, z2⟩; (refine Or.inr (Or.inl ⟨by omega, ?_⟩); (repeat' split) <;> omega); (refine Or.inr (Or.inr ⟨by omega, z2.symm.trans (by omega), ?_⟩); (repeat' split) <;> omega); (exfalso; omega))
                            · have h127 := mt lcmpv_lt.mpr h127
                              refine E.iconst C dX9_read_130 (by decide) ?_
                              refine E.goto C dX9_read_131 (tgt := 135) (by decide) ?_
                              refine N.ist_6 C dX9_read_135 (hN 6 (by decide)) rfl ?_
                              refine N.iinc_9 C dX9_read_137 (hN 9 (by decide)) rfl (by omega) ?_
                              refine E.goto C dX9_read_140 (tgt := 56) (by decide) ?_
                              refine E.drop (i := 10) ?_
                              exact ih56 _ (by omega) 2 (c + 1) rfl (by have hrs2 := hrs; refine ⟨by omega, by omega, ?_⟩; rcases hrs2 with ⟨z1, z2⟩ | ⟨z1, z2⟩ | ⟨z1, z2⟩; (refine Or.inr (Or.inl ⟨by omega, ?_⟩); (repeat' split) <;> omega); (refine Or.inr (Or.inr ⟨by omega, z2.symm.trans (by omega), ?_⟩); (repeat' split) <;> omega); (exfalso; omega))
                        · skip
                          refine E.iconst C dX9_read_106 (by decide) ?_
                          refine E.goto C dX9_read_107 (tgt := 135) (by decide) ?_
                          refine N.ist_6 C dX9_read_135 (hN 6 (by decide)) rfl ?_
                          refine N.iinc_9 C dX9_read_137 (hN 9 (by decide)) rfl (by omega) ?_
                          refine E.goto C dX9_read_140 (tgt := 56) (by decide) ?_
                          refine E.drop (i := 10) ?_
                          exact ih56 _ (by omega) 3 (c + 1) rfl (by have hrs2 := hrs; refine ⟨by omega, by omega, ?_⟩; rcases hrs2 with ⟨z1, z2⟩ | ⟨z1, z2⟩ | ⟨z1, z2⟩; (refine Or.inr (Or.inl ⟨by omega, ?_⟩); (repeat' split) <;> omega); (refine Or.inr (Or.inr ⟨by omega, z2.symm.trans (by omega), ?_⟩); (repeat' split) <;> omega); (exfalso; omega))
                      · skip
                        refine E.iconst C dX9_read_92 (by decide) ?_
                        refine E.goto C dX9_read_93 (tgt := 135) (by decide) ?_
                        refine N.ist_6 C dX9_read_135 (hN 6 (by decide)) rfl ?_
                        refine N.iinc_9 C dX9_read_137 (hN 9 (by decide)) rfl (by omega) ?_
                        refine E.goto C dX9_read_140 (tgt := 56) (by decide) ?_
                        refine E.drop (i := 10) ?_
                        exact ih56 _ (by omega) 1 (c + 1) rfl (by have hrs2 := hrs; refine ⟨by omega, by omega, ?_⟩; rcases hrs2 with ⟨z1, z2⟩ | ⟨z1, z2⟩ | ⟨z1, z2⟩; (refine Or.inr (Or.inl ⟨by omega, ?_⟩); (repeat' split) <;> omega); (refine Or.inr (Or.inr ⟨by omega, z2.symm.trans (by omega), ?_⟩); (repeat' split) <;> omega); (exfalso; omega))
              exact lp56 _ met 0 rfl (by exact ⟨by omega, by omega, Or.inl ⟨rfl, by omega⟩⟩)
      exact lp41 _ 0 0 0 v rfl (by exact ⟨by omega, by omega, by omega, by omega, fun a j _ => rfl, fun j _ _ => rfl, hM, fun i h1 h2 => by omega, Or.inl ⟨rfl, rfl, Or.inr rfl⟩⟩)
    · have h18 := b0.mp h18
      refine E.iconst C dX9_read_21 (by decide) ?_
      exact N.iret C hR dX9_read_22 (fun hi hx => by exact ⟨fun a j _ _ => rfl, fun j _ _ => rfl, Or.inl ⟨by omega, rfl, rfl⟩⟩)
