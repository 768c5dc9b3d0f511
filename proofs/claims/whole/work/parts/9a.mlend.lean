set_option maxHeartbeats 4000000 in
set_option maxRecDepth 20000 in
theorem ok_X9_findLeft (G : GT) (k s sl : Int) (v : VT) (B : VT) (hB : WFV B 0) (hMB : MR B (fun j => v 120 (199 * (k + 1) + j))) (hk : 0 ≤ k ∧ k ≤ 1) (hal : v 119 2 = sl) (hsl : 0 ≤ sl ∧ sl ≤ 4) : MNv G yX9_findLeft cX9_findLeft 4 none 5 121 [vr 119, vi k, vi s] v (fun w => (∀ a j, (¬ a = 119 ∨ (¬ j = 16 ∧ ¬ j = 33)) → ¬ a = 120 → (a < 124 ∨ 130 < a) → w a j = v a j) ∧ (∀ j, j < 597 → w 120 j = v 120 j) ∧ w 119 33 = orN (lefB B 0 s sl 0) (B 0 5).toNat) := by
  refine MN.of pn_X9_findLeft [some (vr 119), some (vi k), some (vi s), none] 1 rfl rfl (fun X C hX hn hR => ?_)
  have hN : ∀ i : Nat, i < 4 → i < xn X := fun i h => by rw [hn]; exact h
  refine E.rngk (fun hinv => ?_)
  refine E.loc (fun hloc => ?_)
  have hin_1 : in32 k := hloc _ (List.mem_of_getElem? (i := 1) rfl)
  have hin_2 : in32 s := hloc _ (List.mem_of_getElem? (i := 2) rfl)
  have hB1 := hB.1
  have hB2 := hB.2.1
  refine E.aload_n C dX9_findLeft_0 rfl rfl ?_
  refine E.sipush C dX9_findLeft_1 (by decide) ?_
  refine E.iconst C dX9_findLeft_4 (by decide) ?_
  refine N.callVe (S := []) (As := [vi 597, vi 0]) C hX (ok_X9_copies G 597 0 v (by omega) (by omega)) yf_X9_copies yv_X9_copies ml_X9_267 rfl rfl rfl kd_119 (by decide) (by decide) (Nat.le_of_ble_eq_true rfl) dX9_findLeft_5 rfl ?_
  refine E.aload_n C dX9_findLeft_8 rfl rfl ?_
  refine E.iconst C dX9_findLeft_9 (by decide) ?_
  refine E.sipush C dX9_findLeft_10 (by decide) ?_
  refine E.iload_n C dX9_findLeft_13 rfl rfl ?_
  refine E.iconst C dX9_findLeft_14 (by decide) ?_
  refine E.iadd C dX9_findLeft_15 (by omega) ?_
  refine E.imul C dX9_findLeft_16 (by omega) ?_
  refine N.callVe (S := []) (As := [vi 0, vi (199 * (k + 1))]) C hX (ok_X9_copies G 0 (199 * (k + 1)) (cpsF v 597 0 199) (by omega) (by omega)) yf_X9_copies yv_X9_copies ml_X9_267 rfl rfl rfl kd_119 (by decide) (by decide) (Nat.le_of_ble_eq_true rfl) dX9_findLeft_17 rfl ?_
  obtain ⟨w20, hw20⟩ : ∃ zqv, zqv = (cpsF (cpsF v 597 0 199) 0 (199 * (k + 1)) 199) := ⟨_, rfl⟩
  refine E.heq hw20.symm ?_
  have g20 : ∀ a j, ¬ a = 120 → w20 a j = v a j := fun a j g => by rw [hw20, cpsF_out (Or.inl g), cpsF_out (Or.inl g)]
  have s20 : ∀ j, (j < 0 ∨ 199 ≤ j) → j < 597 → w20 120 j = v 120 j := fun j g1 g2 => by rw [hw20, cpsF_out (by omega), cpsF_out (by omega)]
  have i20 : ∀ j, 0 ≤ j → j < 199 → w20 120 j = v 120 (199 * (k + 1) + j) := fun j g1 g2 => by
    rw [hw20]
    refine (?_ : cpsF (cpsF v 597 0 199) 0 (199 * (k + 1)) 199 120 j = cpsF v 597 0 199 120 (199 * (k + 1) + (j - 0))).trans ((cpsF_out (by omega)).trans (by rw [Int.sub_zero]))
    show (if (120 : Int) = 120 ∧ 0 ≤ j ∧ j < 0 + 199 then _ else _) = _
    rw [if_pos ⟨rfl, by omega, by omega⟩]
  have c20 : ∀ j, 0 ≤ j → j < 199 → w20 120 (597 + j) = v 120 j := fun j g1 g2 => by
    rw [hw20, cpsF_out (by omega)]
    unfold cpsF
    rw [if_pos ⟨rfl, by omega, by omega⟩]
    congr 1
    omega
  have M20 : MR B (w20 120) := hMB.st hB (fun j h1 h2 => i20 j h1 (by omega))
  have al20 : w20 119 2 = sl := (g20 _ _ (by decide)).trans hal
  refine E.aload_n C dX9_findLeft_20 rfl rfl ?_
  refine E.iload_n C dX9_findLeft_21 rfl rfl ?_
  refine N.callVi (S := []) (As := [vi s]) C hX (ok_X9_findDeal G s sl B w20 hB M20 al20 hsl) yf_X9_findDeal yv_X9_findDeal ml_X9_248 rfl rfl rfl kd_119 (by decide) (by decide) (Nat.le_of_ble_eq_true rfl) dX9_findLeft_22 rfl (fun t22 w22 hb22 hp22 => ?_)
  obtain ⟨d1, d2, d3, d4, -⟩ := id hp22
  have st22 : ∀ j, w22 120 j = w20 120 j := fun j => d1 _ _ (Or.inl (by decide)) (by decide)
  have M22 : MR B (w22 120) := M20.st hB (fun j _ _ => st22 j)
  have b22 := M22.2.1
  refine E.popI C dX9_findLeft_25 ?_
  refine E.aload_n C dX9_findLeft_26 rfl rfl ?_
  refine E.iconst C dX9_findLeft_27 (by decide) ?_
  refine N.putI C fp_X9_323 rfl dX9_findLeft_28 kd_119 ?_
  refine E.iconst C dX9_findLeft_31 (by decide) ?_
  refine N.ist_3 C dX9_findLeft_32 (hN 3 (by decide)) rfl ?_
  have lp33 : ∀ (k33 : Nat) (t : Int) (y : VT), (B 0 5 - t).toNat = k33 → (0 ≤ t ∧ t ≤ B 0 5 ∧ (∀ a j, (¬ a = 119 ∨ ¬ j = 33) → y a j = w22 a j) ∧ y 119 33 = orN (lefB B 0 s sl 0) t.toNat) → E X G 0 0 1000 y 33 [some (vr 119), some (vi k), some (vi s), some (vi t)] [] := by
    intro k33
    induction k33 using Nat.strongRecOn with
    | ind k33 ih33 =>
      intro t y hk33 hI33
      obtain ⟨ht0, ht1, hyf, hx⟩ := hI33; have y120 : ∀ j, y 120 j = w22 120 j := fun j => hyf _ _ (Or.inl (by decide))
      refine E.iload_n C dX9_findLeft_33 rfl rfl ?_
      refine E.aload_n C dX9_findLeft_34 rfl rfl ?_
      refine N.getR C fa_X9_7 rfl dX9_findLeft_35 kd_119 (x := 120) (by decide +kernel) (by decide) ?_
      refine E.bipush C dX9_findLeft_38 (by decide) ?_
      refine N.iald C dX9_findLeft_40 kd_120 ln_120 (by omega) (x := w22 120 41) (hyf _ _ (Or.inl (by decide))) ?_
      refine E.icmp_ge C dX9_findLeft_41 (tgt := 108) (by decide) (fun h41 => ?_) (fun h41 => ?_)
      · skip
        refine E.aload_n C dX9_findLeft_108 rfl rfl ?_
        refine E.iconst C dX9_findLeft_109 (by decide) ?_
        refine E.sipush C dX9_findLeft_110 (by decide) ?_
        refine N.callVe (S := []) (As := [vi 0, vi 597]) C hX (ok_X9_copies G 0 597 y (by omega) (by omega)) yf_X9_copies yv_X9_copies ml_X9_267 rfl rfl rfl kd_119 (by decide) (by decide) (Nat.le_of_ble_eq_true rfl) dX9_findLeft_113 rfl ?_
        exact N.vret C hR dX9_findLeft_116 (fun hi => by have ec : t = B 0 5 := (by omega); subst ec; refine ⟨fun a j g1 g2 g3 => (cpsF_out (Or.inl g2)).trans ((hyf a j (by omega)).trans ((d1 a j (by omega) g3).trans (g20 a j g2))), fun j g => ?_, (cpsF_out (Or.inl (by decide))).trans hx⟩; by_cases h1 : 0 ≤ j ∧ j < 199; (unfold cpsF; rw [if_pos ⟨rfl, by omega, by omega⟩]; rw [show (597 : Int) + (j - 0) = 597 + j by omega, y120, st22]; exact c20 j h1.1 h1.2); (rw [cpsF_out (by omega), y120, st22]; exact s20 j (by omega) g))
      · skip
        have hlq := lefB_iff (A := B) (o := 0) (s := s) (sl := sl) (q := 0) (t := t) (ow := w22 126) (fr_iff hB d4 d3 ⟨ht0, by omega⟩)
        have hoI := outI_01 (B (0 + 13 + t) 1) (B (0 + 13 + t) 3) (B (0 + 13 + t) 4)
        refine E.aload_n C dX9_findLeft_44 rfl rfl ?_
        refine E.dupR C dX9_findLeft_45 ?_
        refine N.getI C fa_X9_323 rfl dX9_findLeft_46 kd_119 (x := y 119 33) rfl ?_
        refine E.aload_n C dX9_findLeft_49 rfl rfl ?_
        refine E.iload_n C dX9_findLeft_50 rfl rfl ?_
        refine E.iconst C dX9_findLeft_51 (by decide) ?_
        refine N.callVp (S := [vi (y 119 33), vr 119]) (As := [vi t, vi 0]) C hX (ok_X9_of G t 0 y (by omega)) yf_X9_of yv_X9_of ml_X9_172 rfl rfl rfl kd_119 (by decide) (by decide) (Nat.le_of_ble_eq_true rfl) dX9_findLeft_52 rfl ?_
        refine E.veq (x' := (w22 120 (42 + 7 * t + 0))) (by rw [show y 120 (42 + 7 * t + 0) = w22 120 (42 + 7 * t + 0) from (hyf _ _ (Or.inl (by decide)))]) ?_
        refine E.veq (x' := B (0 + 13 + t) 0) (M22.2.2.2.1 t 0 ht0 (by omega) (by omega) (by omega)) ?_
        refine E.iload_n C dX9_findLeft_55 rfl rfl ?_
        refine E.icmp_ne C dX9_findLeft_56 (tgt := 92) (by decide) (fun h56 => ?_) (fun h56 => ?_)
        · skip
          refine E.iconst C dX9_findLeft_92 (by decide) ?_
          refine N.callSp (S := [vi (y 119 33), vr 119]) (As := [vi 0]) C hX (ok_X9_flag G 0 y (by first | omega | exact bdec)) yf_X9_flag yv_X9_flag ml_X9_219 rfl (by decide) (Nat.le_of_ble_eq_true rfl) dX9_findLeft_93 rfl ?_
          refine E.iload_n C dX9_findLeft_96 rfl rfl ?_
          refine E.ishl C dX9_findLeft_97 ?_
          refine E.ior C dX9_findLeft_98 ?_
          refine N.putI C fp_X9_323 rfl dX9_findLeft_99 kd_119 ?_
          refine N.iinc_3 C dX9_findLeft_102 (hN 3 (by decide)) rfl (by omega) ?_
          refine E.goto C dX9_findLeft_105 (tgt := 33) (by decide) ?_
          exact ih33 _ (by omega) (t + 1) (upd2 y 119 33 (jor (y 119 33) (jshl 0 t))) rfl (by refine ⟨by omega, by omega, fun a j g => (u_ne (by omega)).trans (hyf a j g), ?_⟩; rw [u_at rfl, orN_step ht0, hx]; first | (rw [if_pos (hlq.mpr (by omega))]) | (rw [if_neg (fun z => by have := hlq.mp z; omega), jshl_0 ⟨by omega, by omega⟩, jor_0 (orN_in _ _)]))
        · skip
          refine E.aload_n C dX9_findLeft_59 rfl rfl ?_
          refine E.iload_n C dX9_findLeft_60 rfl rfl ?_
          refine N.callVp (S := [vi (y 119 33), vr 119]) (As := [vi t]) C hX (ok_X9_isOut G t y (by omega) (by rw [y120]; have := M22.th hB t (by omega) (by omega); omega)) yf_X9_isOut yv_X9_isOut ml_X9_254 rfl rfl rfl kd_119 (by decide) (by decide) (Nat.le_of_ble_eq_true rfl) dX9_findLeft_61 rfl ?_
          refine E.veq (x' := outI (B (0 + 13 + t) 1) (B (0 + 13 + t) 3) (B (0 + 13 + t) 4)) (by rw [y120, y120, y120, M22.2.2.2.1 t 1 ht0 (by omega) (by omega) (by omega), M22.2.2.2.1 t 3 ht0 (by omega) (by omega) (by omega), M22.2.2.2.1 t 4 ht0 (by omega) (by omega) (by omega)]) ?_
          refine E.if_ne C dX9_findLeft_64 (tgt := 92) (by decide) (fun h64 => ?_) (fun h64 => ?_)
          · skip
            refine E.iconst C dX9_findLeft_92 (by decide) ?_
            refine N.callSp (S := [vi (y 119 33), vr 119]) (As := [vi 0]) C hX (ok_X9_flag G 0 y (by first | omega | exact bdec)) yf_X9_flag yv_X9_flag ml_X9_219 rfl (by decide) (Nat.le_of_ble_eq_true rfl) dX9_findLeft_93 rfl ?_
            refine E.iload_n C dX9_findLeft_96 rfl rfl ?_
            refine E.ishl C dX9_findLeft_97 ?_
            refine E.ior C dX9_findLeft_98 ?_
            refine N.putI C fp_X9_323 rfl dX9_findLeft_99 kd_119 ?_
            refine N.iinc_3 C dX9_findLeft_102 (hN 3 (by decide)) rfl (by omega) ?_
            refine E.goto C dX9_findLeft_105 (tgt := 33) (by decide) ?_
            exact ih33 _ (by omega) (t + 1) (upd2 y 119 33 (jor (y 119 33) (jshl 0 t))) rfl (by refine ⟨by omega, by omega, fun a j g => (u_ne (by omega)).trans (hyf a j g), ?_⟩; rw [u_at rfl, orN_step ht0, hx]; first | (rw [if_pos (hlq.mpr (by omega))]) | (rw [if_neg (fun z => by have := hlq.mp z; omega), jshl_0 ⟨by omega, by omega⟩, jor_0 (orN_in _ _)]))
          · skip
            refine E.aload_n C dX9_findLeft_67 rfl rfl ?_
            refine N.getR C fa_X9_29 rfl dX9_findLeft_68 kd_119 (x := 126) (by decide +kernel) (by decide) ?_
            refine E.iload_n C dX9_findLeft_71 rfl rfl ?_
            refine N.iald C dX9_findLeft_72 kd_126 ln_126 (by omega) (x := w22 126 t) (hyf _ _ (Or.inl (by decide))) ?_
            refine E.bipush C dX9_findLeft_73 (by decide) ?_
            refine E.icmp_ne C dX9_findLeft_75 (tgt := 92) (by decide) (fun h75 => ?_) (fun h75 => ?_)
            · skip
              refine E.iconst C dX9_findLeft_92 (by decide) ?_
              refine N.callSp (S := [vi (y 119 33), vr 119]) (As := [vi 0]) C hX (ok_X9_flag G 0 y (by first | omega | exact bdec)) yf_X9_flag yv_X9_flag ml_X9_219 rfl (by decide) (Nat.le_of_ble_eq_true rfl) dX9_findLeft_93 rfl ?_
              refine E.iload_n C dX9_findLeft_96 rfl rfl ?_
              refine E.ishl C dX9_findLeft_97 ?_
              refine E.ior C dX9_findLeft_98 ?_
              refine N.putI C fp_X9_323 rfl dX9_findLeft_99 kd_119 ?_
              refine N.iinc_3 C dX9_findLeft_102 (hN 3 (by decide)) rfl (by omega) ?_
              refine E.goto C dX9_findLeft_105 (tgt := 33) (by decide) ?_
              exact ih33 _ (by omega) (t + 1) (upd2 y 119 33 (jor (y 119 33) (jshl 0 t))) rfl (by refine ⟨by omega, by omega, fun a j g => (u_ne (by omega)).trans (hyf a j g), ?_⟩; rw [u_at rfl, orN_step ht0, hx]; first | (rw [if_pos (hlq.mpr (by omega))]) | (rw [if_neg (fun z => by have := hlq.mp z; omega), jshl_0 ⟨by omega, by omega⟩, jor_0 (orN_in _ _)]))
            · skip
              refine E.aload_n C dX9_findLeft_78 rfl rfl ?_
              refine E.iload_n C dX9_findLeft_79 rfl rfl ?_
              refine E.iconst C dX9_findLeft_80 (by decide) ?_
              refine N.callVp (S := [vi (y 119 33), vr 119]) (As := [vi t, vi 1]) C hX (ok_X9_of G t 1 y (by omega)) yf_X9_of yv_X9_of ml_X9_172 rfl rfl rfl kd_119 (by decide) (by decide) (Nat.le_of_ble_eq_true rfl) dX9_findLeft_81 rfl ?_
              refine E.veq (x' := (w22 120 (42 + 7 * t + 1))) (by rw [show y 120 (42 + 7 * t + 1) = w22 120 (42 + 7 * t + 1) from (hyf _ _ (Or.inl (by decide)))]) ?_
              refine E.veq (x' := B (0 + 13 + t) 1) (M22.2.2.2.1 t 1 ht0 (by omega) (by omega) (by omega)) ?_
              refine E.iconst C dX9_findLeft_84 (by decide) ?_
              refine E.icmp_eq C dX9_findLeft_85 (tgt := 92) (by decide) (fun h85 => ?_) (fun h85 => ?_)
              · skip
                refine E.iconst C dX9_findLeft_92 (by decide) ?_
                refine N.callSp (S := [vi (y 119 33), vr 119]) (As := [vi 0]) C hX (ok_X9_flag G 0 y (by first | omega | exact bdec)) yf_X9_flag yv_X9_flag ml_X9_219 rfl (by decide) (Nat.le_of_ble_eq_true rfl) dX9_findLeft_93 rfl ?_
                refine E.iload_n C dX9_findLeft_96 rfl rfl ?_
                refine E.ishl C dX9_findLeft_97 ?_
                refine E.ior C dX9_findLeft_98 ?_
                refine N.putI C fp_X9_323 rfl dX9_findLeft_99 kd_119 ?_
                refine N.iinc_3 C dX9_findLeft_102 (hN 3 (by decide)) rfl (by omega) ?_
                refine E.goto C dX9_findLeft_105 (tgt := 33) (by decide) ?_
                exact ih33 _ (by omega) (t + 1) (upd2 y 119 33 (jor (y 119 33) (jshl 0 t))) rfl (by refine ⟨by omega, by omega, fun a j g => (u_ne (by omega)).trans (hyf a j g), ?_⟩; rw [u_at rfl, orN_step ht0, hx]; first | (rw [if_pos (hlq.mpr (by omega))]) | (rw [if_neg (fun z => by have := hlq.mp z; omega), jshl_0 ⟨by omega, by omega⟩, jor_0 (orN_in _ _)]))
              · skip
                refine E.iconst C dX9_findLeft_88 (by decide) ?_
                refine E.goto C dX9_findLeft_89 (tgt := 93) (by decide) ?_
                refine N.callSp (S := [vi (y 119 33), vr 119]) (As := [vi 1]) C hX (ok_X9_flag G 1 y (by first | omega | exact bdec)) yf_X9_flag yv_X9_flag ml_X9_219 rfl (by decide) (Nat.le_of_ble_eq_true rfl) dX9_findLeft_93 rfl ?_
                refine E.iload_n C dX9_findLeft_96 rfl rfl ?_
                refine E.ishl C dX9_findLeft_97 ?_
                refine E.ior C dX9_findLeft_98 ?_
                refine N.putI C fp_X9_323 rfl dX9_findLeft_99 kd_119 ?_
                refine N.iinc_3 C dX9_findLeft_102 (hN 3 (by decide)) rfl (by omega) ?_
                refine E.goto C dX9_findLeft_105 (tgt := 33) (by decide) ?_
                exact ih33 _ (by omega) (t + 1) (upd2 y 119 33 (jor (y 119 33) (jshl 1 t))) rfl (by refine ⟨by omega, by omega, fun a j g => (u_ne (by omega)).trans (hyf a j g), ?_⟩; rw [u_at rfl, orN_step ht0, hx]; first | (rw [if_pos (hlq.mpr (by omega))]) | (rw [if_neg (fun z => by have := hlq.mp z; omega), jshl_0 ⟨by omega, by omega⟩, jor_0 (orN_in _ _)]))
  exact lp33 _ 0 (upd2 w22 119 33 0) rfl (by exact ⟨by omega, by omega, fun a j g => u_ne (by omega), u_at rfl⟩)

set_option maxHeartbeats 4000000 in
set_option maxRecDepth 20000 in
theorem ok_X9_lend (G : GT) (k s what sl : Int) (A v : VT) (hA : WFV A 0) (hM : MR A (v 120)) (h01 : ∀ k, 0 ≤ k → k < 2 → v 121 k = 0 ∨ v 121 k = 1) (B : VT) (hB : 0 ≤ k → k ≤ 1 → v 121 k = 1 → WFV B 0 ∧ MR B (fun j => v 120 (199 * (k + 1) + j))) (hal : v 119 2 = sl) (hsl : 0 ≤ sl ∧ sl ≤ 4) : MNi G yX9_lend cX9_lend 8 (some .int) 6 144 [vr 119, vi k, vi s, vi what] v (fun x w => (∀ a j, (¬ a = 119 ∨ (¬ j = 16 ∧ ¬ j = 33)) → ¬ a = 120 → (a < 124 ∨ 130 < a) → w a j = v a j) ∧ (∀ j, j < 597 → w 120 j = v 120 j) ∧ ((¬ ((0 ≤ k ∧ k ≤ 1) ∧ (0 ≤ s ∧ s ≤ 1) ∧ (0 ≤ what ∧ what ≤ 1)) ∧ x = -1) ∨ (((0 ≤ k ∧ k ≤ 1) ∧ (0 ≤ s ∧ s ≤ 1) ∧ (0 ≤ what ∧ what ≤ 1)) ∧ v 121 k = 0 ∧ x = -2) ∨ (((0 ≤ k ∧ k ≤ 1) ∧ (0 ≤ s ∧ s ≤ 1) ∧ (0 ≤ what ∧ what ≤ 1)) ∧ v 121 k = 1 ∧ ∃ W, LenQ A 0 B 0 s sl W ∧ x = if what = 0 then A 0 4 - W else W - warmV A 0 s sl))) := by
  refine MN.of pn_X9_lend [some (vr 119), some (vi k), some (vi s), some (vi what), none, none, none, none] 4 rfl rfl (fun X C hX hn hR => ?_)
  have hN : ∀ i : Nat, i < 8 → i < xn X := fun i h => by rw [hn]; exact h
  refine E.rngk (fun hinv => ?_)
  refine E.loc (fun hloc => ?_)
  have hin_1 : in32 k := hloc _ (List.mem_of_getElem? (i := 1) rfl)
  have hin_2 : in32 s := hloc _ (List.mem_of_getElem? (i := 2) rfl)
  have hin_3 : in32 what := hloc _ (List.mem_of_getElem? (i := 3) rfl)
  have hc := hM.1
  have hb := hM.2.1
  have hA1 := hA.1
  have hA2 := hA.2.1
  refine E.iload_n C dX9_lend_0 rfl rfl ?_
  refine E.i2l C dX9_lend_1 ?_
  refine E.lconst C dX9_lend_2 (x := 0) rfl ?_
  refine E.lconst C dX9_lend_3 (x := 1) rfl ?_
  refine N.callSp (S := []) (As := [vl k, vl 0, vl 1]) C hX (ok_X9_in G k 0 1 v) yf_X9_in yv_X9_in ml_X9_93 rfl (by decide) (Nat.le_of_ble_eq_true rfl) dX9_lend_4 rfl ?_
  refine E.if_eq C dX9_lend_7 (tgt := 27) (by decide) (fun h7 => ?_) (fun h7 => ?_)
  · have h7 := b0.mp h7
    refine E.iconst C dX9_lend_27 (by decide) ?_
    exact N.iret C hR dX9_lend_28 (fun hi hx => by exact ⟨fun a j _ _ _ => rfl, fun j _ => rfl, Or.inl ⟨by omega, rfl⟩⟩)
  · have h7 := b0n.mp h7
    refine E.iload_n C dX9_lend_10 rfl rfl ?_
    refine N.callSp (S := []) (As := [vi s]) C hX (ok_X9_isSlot G s v) yf_X9_isSlot yv_X9_isSlot ml_X9_216 rfl (by decide) (Nat.le_of_ble_eq_true rfl) dX9_lend_11 rfl ?_
    refine E.if_eq C dX9_lend_14 (tgt := 27) (by decide) (fun h14 => ?_) (fun h14 => ?_)
    · have h14 := b0.mp h14
      refine E.iconst C dX9_lend_27 (by decide) ?_
      exact N.iret C hR dX9_lend_28 (fun hi hx => by exact ⟨fun a j _ _ _ => rfl, fun j _ => rfl, Or.inl ⟨by omega, rfl⟩⟩)
    · have h14 := b0n.mp h14
      refine E.iload_n C dX9_lend_17 rfl rfl ?_
      refine E.i2l C dX9_lend_18 ?_
      refine E.lconst C dX9_lend_19 (x := 0) rfl ?_
      refine E.lconst C dX9_lend_20 (x := 1) rfl ?_
      refine N.callSp (S := []) (As := [vl what, vl 0, vl 1]) C hX (ok_X9_in G what 0 1 v) yf_X9_in yv_X9_in ml_X9_93 rfl (by decide) (Nat.le_of_ble_eq_true rfl) dX9_lend_21 rfl ?_
      refine E.if_ne C dX9_lend_24 (tgt := 29) (by decide) (fun h24 => ?_) (fun h24 => ?_)
      · have h24 := b0n.mp h24
        have hkz := h01 k (by omega) (by omega)
        refine E.aload_n C dX9_lend_29 rfl rfl ?_
        refine N.getR C fa_X9_13 rfl dX9_lend_30 kd_119 (x := 121) (by decide +kernel) (by decide) ?_
        refine E.iload_n C dX9_lend_33 rfl rfl ?_
        refine N.zald C dX9_lend_34 kd_121 ln_121 (by omega) (x := v 121 k) rfl ?_
        refine E.if_ne C dX9_lend_35 (tgt := 41) (by decide) (fun h35 => ?_) (fun h35 => ?_)
        · skip
          obtain ⟨hB0, hMB⟩ := hB (by omega) (by omega) (by omega)
          have hB1 := hB0.1
          have hB2 := hB0.2.1
          refine E.aload_n C dX9_lend_41 rfl rfl ?_
          refine E.iload_n C dX9_lend_42 rfl rfl ?_
          refine E.iload_n C dX9_lend_43 rfl rfl ?_
          refine N.callVv (S := []) (As := [vi k, vi s]) C hX (ok_X9_findLeft G k s sl v B hB0 hMB (by omega) hal hsl) yf_X9_findLeft yv_X9_findLeft ml_X9_326 rfl rfl rfl kd_119 (by decide) (by decide) (Nat.le_of_ble_eq_true rfl) dX9_lend_44 rfl (fun w44 hp44 => ?_)
          obtain ⟨f44, s44, l44⟩ := id hp44
          have M44 : MR A (w44 120) := hM.st hA (fun j _ g => s44 j (by omega))
          have al44 : w44 119 2 = sl := (f44 _ _ (by decide) (by decide) (by decide)).trans hal
          have c44 := M44.1
          have b44 := M44.2.1
          refine E.aload_n C dX9_lend_47 rfl rfl ?_
          refine E.iload_n C dX9_lend_48 rfl rfl ?_
          refine N.callVe (S := []) (As := [vi s]) C hX (ok_X9_findCanHave G s w44 (by omega) (by omega) (M44.th hA) (M44.fz hA) (by omega)) yf_X9_findCanHave yv_X9_findCanHave ml_X9_238 rfl rfl rfl kd_119 (by decide) (by decide) (Nat.le_of_ble_eq_true rfl) dX9_lend_49 rfl ?_
          obtain ⟨w49, hw49⟩ : ∃ zqv, zqv = (canF w44 s (w44 120 0) (w44 120 0) 0) := ⟨_, rfl⟩
          refine E.heq hw49.symm ?_
          have hcq := can_all (s := s) hA M44 al44
          rw [← hw49] at hcq
          obtain ⟨hq1, hq2, hq3, hq4, -⟩ := id hcq
          refine E.aload_n C dX9_lend_52 rfl rfl ?_
          refine N.callVi (S := []) (As := []) C hX (ok_X9_findMost G w49 (by rw [hq1]; exact hA1)) yf_X9_findMost yv_X9_findMost ml_X9_241 rfl rfl rfl kd_119 (by decide) (by decide) (Nat.le_of_ble_eq_true rfl) dX9_lend_53 rfl (fun t53 w53 hb53 hp53 => ?_)
          obtain ⟨f53, -, m53⟩ := id hp53
          rw [hq1] at m53
          have e53 : t53 = warmV A 0 s sl := warm_max hA1.1 (max_may hq3 m53)
          have e124 : ∀ d, w53 124 d = w49 124 d := fun d => f53 _ _ (by decide)
          have n53 : w53 119 16 = A 0 4 := (f53 _ _ (by decide)).trans hq1
          have g53 : ∀ a j, (¬ a = 119 ∨ ¬ j = 16) → (a < 124 ∨ 128 < a) → w53 a j = w44 a j := fun a j g1 g2 => (f53 a j (by omega)).trans (hq2 a j g1 (by omega))
          have st53 : ∀ j, j < 597 → w53 120 j = v 120 j := fun j g => (g53 _ _ (Or.inl (by decide)) (by decide)).trans (s44 j g)
          have al53 : w53 119 2 = sl := (g53 _ _ (Or.inr (by decide)) (by decide)).trans al44
          have l53 : w53 119 33 = orN (lefB B 0 s sl 0) (B 0 5).toNat := (g53 _ _ (Or.inr (by decide)) (by decide)).trans l44
          have hwb := warm_bd (v := A) (o := 0) (s := s) (sl := sl) hA1.1
          refine N.ist_4 C dX9_lend_56 (hN 4 (by decide)) rfl ?_
          refine E.iconst C dX9_lend_58 (by decide) ?_
          refine N.ist_5 C dX9_lend_59 (hN 5 (by decide)) rfl ?_
          have lp61 : ∀ (k61 : Nat) (c : Int) (y : VT), (A 0 4 - c).toNat = k61 → (0 ≤ c ∧ c ≤ A 0 4 ∧ (∀ a j, ¬ a = 124 → y a j = w53 a j) ∧ (∀ d, 0 ≤ d → d < c → LentM (w49 124 d) (fun t => bt (orN (lefB B 0 s sl 0) (B 0 5).toNat) t = true ∧ ¬ fitB B 0 t d (A (0 + 5 + d) 0) sl = 0) 10 (y 124 d)) ∧ (∀ d, c ≤ d → y 124 d = w49 124 d)) → E X G 0 0 1000 y 61 [some (vr 119), some (vi k), some (vi s), some (vi what), some (vi t53), some (vi c), none, none] [] := by
            intro k61
            induction k61 using Nat.strongRecOn with
            | ind k61 ih61 =>
              intro c y hk61 hI61
              obtain ⟨hc0, hc1, hyf, hlm, hre⟩ := hI61; have hyn : y 119 16 = A 0 4 := (hyf _ _ (by decide)).trans n53
              refine E.iload C dX9_lend_61 rfl ?_
              refine E.aload_n C dX9_lend_63 rfl rfl ?_
              refine N.getI C fa_X9_223 rfl dX9_lend_64 kd_119 (x := w53 119 16) (hyf _ _ (by decide)) ?_
              refine E.veq (x' := A 0 4) (n53) ?_
              refine E.icmp_ge C dX9_lend_67 (tgt := 169) (by decide) (fun h67 => ?_) (fun h67 => ?_)
              · skip
                refine E.aload_n C dX9_lend_169 rfl rfl ?_
                refine N.callVi (S := []) (As := []) C hX (ok_X9_findMost G y (by rw [hyn]; exact hA1)) yf_X9_findMost yv_X9_findMost ml_X9_241 rfl rfl rfl kd_119 (by decide) (by decide) (Nat.le_of_ble_eq_true rfl) dX9_lend_170 rfl (fun t170 w170 hb170 hp170 => ?_)
                obtain ⟨f170, -, m170⟩ := id hp170
                rw [hyn] at m170
                have hmm := max_may (lend_mdl hA hB0 hq3 hq4 (fun d g1 g2 => hlm d g1 (by omega)) rfl) m170
                have hln : LenQ A 0 B 0 s sl t170 := ⟨_, hmm⟩
                have hwl := wrm_le (A 0 4) 0 (w170 125) hA1.1
                rw [hmm.2.1] at hwl
                have g170 : ∀ a j, (a < 124 ∨ 128 < a) → w170 a j = w53 a j := fun a j g => (f170 a j (by omega)).trans (hyf a j (by omega))
                have s170 : ∀ j, j < 597 → w170 120 j = v 120 j := fun j g => (g170 _ _ (by decide)).trans (st53 j g)
                refine N.ist_5 C dX9_lend_173 (hN 5 (by decide)) rfl ?_
                refine E.iload_n C dX9_lend_175 rfl rfl ?_
                refine E.if_ne C dX9_lend_176 (tgt := 191) (by decide) (fun h176 => ?_) (fun h176 => ?_)
                · skip
                  refine E.iload C dX9_lend_191 rfl ?_
                  refine E.iload C dX9_lend_193 rfl ?_
                  refine E.isub C dX9_lend_195 (by omega) ?_
                  exact N.iret C hR dX9_lend_196 (fun hi hx => by refine ⟨fun a j g1 g2 g3 => (g170 a j (by omega)).trans ((g53 a j (by omega) (by omega)).trans (f44 a j g1 g2 g3)), s170, Or.inr (Or.inr ⟨by omega, by omega, _, hln, ?_⟩)⟩; first | rw [if_pos (by omega)] | (rw [if_neg (by omega), e53]))
                · skip
                  refine E.aload_n C dX9_lend_179 rfl rfl ?_
                  refine N.getR C fa_X9_7 rfl dX9_lend_180 kd_119 (x := 120) (by decide +kernel) (by decide) ?_
                  refine E.iconst C dX9_lend_183 (by decide) ?_
                  refine N.iald C dX9_lend_184 kd_120 ln_120 (by omega) (x := w53 120 0) ((hp170.1 _ _ (by decide)).trans (hyf _ _ (by decide))) ?_
                  refine E.veq (x' := A 0 4) ((st53 _ (by decide)).trans hc) ?_
                  refine E.iload C dX9_lend_185 rfl ?_
                  refine E.isub C dX9_lend_187 (by omega) ?_
                  refine E.goto C dX9_lend_188 (tgt := 196) (by decide) ?_
                  exact N.iret C hR dX9_lend_196 (fun hi hx => by refine ⟨fun a j g1 g2 g3 => (g170 a j (by omega)).trans ((g53 a j (by omega) (by omega)).trans (f44 a j g1 g2 g3)), s170, Or.inr (Or.inr ⟨by omega, by omega, _, hln, ?_⟩)⟩; first | rw [if_pos (by omega)] | (rw [if_neg (by omega), e53]))
              · skip
                refine E.iconst C dX9_lend_70 (by decide) ?_
                refine N.ist_6 C dX9_lend_71 (hN 6 (by decide)) rfl ?_
                have lp73 : ∀ (k73 : Nat) (t : Int) (z : VT), (10 - t).toNat = k73 → (0 ≤ t ∧ t ≤ 10 ∧ (∀ a j, ¬ a = 124 → z a j = w53 a j) ∧ (∀ d, 0 ≤ d → d < c → LentM (w49 124 d) (fun t => bt (orN (lefB B 0 s sl 0) (B 0 5).toNat) t = true ∧ ¬ fitB B 0 t d (A (0 + 5 + d) 0) sl = 0) 10 (z 124 d)) ∧ (∀ d, c < d → z 124 d = w49 124 d) ∧ LentM (w49 124 c) (fun t => bt (orN (lefB B 0 s sl 0) (B 0 5).toNat) t = true ∧ ¬ fitB B 0 t c (A (0 + 5 + c) 0) sl = 0) t (z 124 c)) → E X G 0 0 1000 z 73 [some (vr 119), some (vi k), some (vi s), some (vi what), some (vi t53), some (vi c), some (vi t), none] [] := by
                  intro k73
                  induction k73 using Nat.strongRecOn with
                  | ind k73 ih73 =>
                    intro t z hk73 hI73
                    obtain ⟨ht0, ht1, hzf, hzm, hzr, hzl⟩ := hI73
                    refine E.iload C dX9_lend_73 rfl ?_
                    refine E.bipush C dX9_lend_75 (by decide) ?_
                    refine E.icmp_ge C dX9_lend_77 (tgt := 163) (by decide) (fun h77 => ?_) (fun h77 => ?_)
                    · skip
                      refine N.iinc_5 C dX9_lend_163 (hN 5 (by decide)) rfl (by omega) ?_
                      refine E.goto C dX9_lend_166 (tgt := 61) (by decide) ?_
                      refine E.drop (i := 6) ?_
                      exact ih61 _ (by omega) (c + 1) z rfl (by exact ⟨by omega, by omega, hzf, fun d g1 g2 => by by_cases e : d = c; (rw [e]; rw [show t = 10 by omega] at hzl; exact hzl); (exact hzm d g1 (by omega)), fun d g => hzr d (by omega)⟩)
                    · skip
                      have jn134 : ∀ (fl : Int), ((fl = 1 ∧ (bt (orN (lefB B 0 s sl 0) (B 0 5).toNat) t = true ∧ ¬ fitB B 0 t c (A (0 + 5 + c) 0) sl = 0)) ∨ (fl = 0 ∧ ¬ (bt (orN (lefB B 0 s sl 0) (B 0 5).toNat) t = true ∧ ¬ fitB B 0 t c (A (0 + 5 + c) 0) sl = 0))) → E X G 0 0 1000 z 134 [some (vr 119), some (vi k), some (vi s), some (vi what), some (vi t53), some (vi c), some (vi t), none] [vi fl] := by
                        intro fl hJ134
                        refine N.ist_7 C dX9_lend_134 (hN 7 (by decide)) rfl ?_
                        have hfl : (fl = 1 ∧ bt (orN (lefB B 0 s sl 0) (B 0 5).toNat) t = true ∧ ¬ fitB B 0 t c (A (0 + 5 + c) 0) sl = 0) ∨ (fl = 0 ∧ ¬ (bt (orN (lefB B 0 s sl 0) (B 0 5).toNat) t = true ∧ ¬ fitB B 0 t c (A (0 + 5 + c) 0) sl = 0)) := hJ134
                        refine E.aload_n C dX9_lend_136 rfl rfl ?_
                        refine N.getR C fa_X9_23 rfl dX9_lend_137 kd_119 (x := 124) (by decide +kernel) (by decide) ?_
                        refine E.iload C dX9_lend_140 rfl ?_
                        refine E.dup2 C dX9_lend_142 ?_
                        refine N.iald C dX9_lend_143 kd_124 ln_124 (by omega) (x := z 124 c) rfl ?_
                        refine E.iload C dX9_lend_144 rfl ?_
                        refine N.callSp (S := [vi (z 124 c), vi c, vr 124]) (As := [vi fl]) C hX (ok_X9_flag G fl z (by first | omega | exact bdec)) yf_X9_flag yv_X9_flag ml_X9_219 rfl (by decide) (Nat.le_of_ble_eq_true rfl) dX9_lend_146 rfl ?_
                        refine E.bipush C dX9_lend_149 (by decide) ?_
                        refine E.iload C dX9_lend_151 rfl ?_
                        refine E.iadd C dX9_lend_153 (by omega) ?_
                        refine E.ishl C dX9_lend_154 ?_
                        refine E.ior C dX9_lend_155 ?_
                        refine N.iast C dX9_lend_156 kd_124 ln_124 (by omega) ?_
                        refine N.iinc_6 C dX9_lend_157 (hN 6 (by decide)) rfl (by omega) ?_
                        refine E.goto C dX9_lend_160 (tgt := 73) (by decide) ?_
                        refine E.drop (i := 7) ?_
                        exact ih73 _ (by omega) (t + 1) (upd2 z 124 c (jor (z 124 c) (jshl fl (10 + t)))) rfl (by refine ⟨by omega, by omega, fun a j g => (u_ne (Or.inl g)).trans (hzf a j g), fun d g1 g2 => by rw [u_ne (Or.inr (by omega))]; exact hzm d g1 g2, fun d g => (u_ne (Or.inr (by omega))).trans (hzr d g), ?_⟩; rw [u_at rfl]; rcases hfl with ⟨e, p⟩ | ⟨e, p⟩; (rw [e]; exact hzl.yes ⟨by omega, by omega⟩ p); (rw [e]; exact hzl.no0 ⟨by omega, by omega⟩ p))
                      refine E.aload_n C dX9_lend_80 rfl rfl ?_
                      refine N.getI C fa_X9_323 rfl dX9_lend_81 kd_119 (x := w53 119 33) (hzf _ _ (by decide)) ?_
                      refine E.veq (x' := orN (lefB B 0 s sl 0) (B 0 5).toNat) (l53) ?_
                      refine E.iload C dX9_lend_84 rfl ?_
                      refine E.ishr C dX9_lend_86 ?_
                      refine E.iconst C dX9_lend_87 (by decide) ?_
                      refine E.iand C dX9_lend_88 ?_
                      refine E.iconst C dX9_lend_89 (by decide) ?_
                      refine E.icmp_ne C dX9_lend_90 (tgt := 133) (by decide) (fun h90 => ?_) (fun h90 => ?_)
                      · skip
                        refine E.iconst C dX9_lend_133 (by decide) ?_
                        exact jn134 0 (by first | exact Or.inl ⟨rfl, hbt, by omega⟩ | exact Or.inr ⟨rfl, fun z => z.2 (by omega)⟩ | exact Or.inr ⟨rfl, fun z => h90 ((bitI_1 ⟨by omega, by omega⟩).mpr z.1)⟩)
                      · skip
                        have hbt := (bitI_1 (x := orN (lefB B 0 s sl 0) (B 0 5).toNat) (t := t) ⟨by omega, by omega⟩).mp h90
                        have hbl := (bt_lef hB2 ⟨by omega, by omega⟩).mp hbt
                        have hcell : ∀ i, 0 ≤ i → i < 7 → z 120 (199 * (k + 1) + 42 + 7 * t + i) = B (0 + 13 + t) i := fun i g1 g2 => by rw [hzf _ _ (by decide), st53 _ (by omega)]; exact (congrArg (v 120) (by omega)).trans (hMB.2.2.2.1 t i ht0 hbl.1 g1 g2)
                        have hth := hB0.th t ht0 hbl.1
                        unfold thOK at hth
                        have hfz := hA.fz c hc0 (by omega)
                        have ysl : z 119 2 = sl := (hzf _ _ (by decide)).trans al53
                        have hf3 : 0 ≤ fitB B 0 t c (A (0 + 5 + c) 0) sl := by have := fit_012 (B (0 + 13 + t) 1) (B (0 + 13 + t) 2) (B (0 + 13 + t) 3) (B (0 + 13 + t) 4) (B (0 + 13 + t) 5) (B (0 + 13 + t) 6) c (A (0 + 5 + c) 0) sl; unfold fitB; omega
                        refine E.aload_n C dX9_lend_93 rfl rfl ?_
                        refine E.sipush C dX9_lend_94 (by decide) ?_
                        refine E.iload_n C dX9_lend_97 rfl rfl ?_
                        refine E.iconst C dX9_lend_98 (by decide) ?_
                        refine E.iadd C dX9_lend_99 (by omega) ?_
                        refine E.imul C dX9_lend_100 (by omega) ?_
                        refine E.bipush C dX9_lend_101 (by decide) ?_
                        refine E.iadd C dX9_lend_103 (by omega) ?_
                        refine E.bipush C dX9_lend_104 (by decide) ?_
                        refine E.iload C dX9_lend_106 rfl ?_
                        refine E.imul C dX9_lend_108 (by omega) ?_
                        refine E.iadd C dX9_lend_109 (by omega) ?_
                        refine E.iload C dX9_lend_110 rfl ?_
                        refine E.aload_n C dX9_lend_112 rfl rfl ?_
                        refine N.getR C fa_X9_7 rfl dX9_lend_113 kd_119 (x := 120) (by decide +kernel) (by decide) ?_
                        refine E.iconst C dX9_lend_116 (by decide) ?_
                        refine E.iconst C dX9_lend_117 (by decide) ?_
                        refine E.iload C dX9_lend_118 rfl ?_
                        refine E.imul C dX9_lend_120 (by omega) ?_
                        refine E.iadd C dX9_lend_121 (by omega) ?_
                        refine N.iald C dX9_lend_122 kd_120 ln_120 (by omega) (x := w53 120 (1 + (5 * c))) (hzf _ _ (by decide)) ?_
                        refine E.veq (x' := A (0 + 5 + c) 0) ((st53 _ (by omega)).trans (hM.c0 ⟨hc0, by omega⟩)) ?_
                        refine N.callVp (S := []) (As := [vi (((199 * (k + 1)) + 42) + (7 * t)), vi c, vi (A (0 + 5 + c) 0)]) C hX (ok_X9_fitOf G (((199 * (k + 1)) + 42) + (7 * t)) c (A (0 + 5 + c) 0) z ⟨by omega, by omega⟩ (by rw [hcell 2 (by omega) (by omega), hcell 3 (by omega) (by omega)]; omega) (by rw [ysl]; omega)) yf_X9_fitOf yv_X9_fitOf ml_X9_202 rfl rfl rfl kd_119 (by decide) (by decide) (Nat.le_of_ble_eq_true rfl) dX9_lend_123 rfl ?_
                        refine E.veq (x' := fitB B 0 t c (A (0 + 5 + c) 0) sl) (by unfold fitB; rw [hcell 1 (by omega) (by omega), hcell 2 (by omega) (by omega), hcell 3 (by omega) (by omega), hcell 4 (by omega) (by omega), hcell 5 (by omega) (by omega), hcell 6 (by omega) (by omega), ysl]) ?_
                        refine E.if_le C dX9_lend_126 (tgt := 133) (by decide) (fun h126 => ?_) (fun h126 => ?_)
                        · skip
                          refine E.iconst C dX9_lend_133 (by decide) ?_
                          exact jn134 0 (by first | exact Or.inl ⟨rfl, hbt, by omega⟩ | exact Or.inr ⟨rfl, fun z => z.2 (by omega)⟩ | exact Or.inr ⟨rfl, fun z => h90 ((bitI_1 ⟨by omega, by omega⟩).mpr z.1)⟩)
                        · skip
                          refine E.iconst C dX9_lend_129 (by decide) ?_
                          refine E.goto C dX9_lend_130 (tgt := 134) (by decide) ?_
                          exact jn134 1 (by first | exact Or.inl ⟨rfl, hbt, by omega⟩ | exact Or.inr ⟨rfl, fun z => z.2 (by omega)⟩ | exact Or.inr ⟨rfl, fun z => h90 ((bitI_1 ⟨by omega, by omega⟩).mpr z.1)⟩)
                exact lp73 _ 0 y rfl (by exact ⟨by omega, by omega, hyf, hlm, fun d g => hre d (by omega), by rw [hre c (by omega)]; exact LentM.zero⟩)
          exact lp61 _ 0 w53 rfl (by exact ⟨by omega, by omega, fun a j _ => rfl, fun d g1 g2 => by omega, fun d g => e124 d⟩)
        · skip
          refine E.bipush C dX9_lend_38 (by decide) ?_
          exact N.iret C hR dX9_lend_40 (fun hi hx => by exact ⟨fun a j _ _ _ => rfl, fun j _ => rfl, Or.inr (Or.inl ⟨by omega, by omega, rfl⟩)⟩)
      · have h24 := b0.mp h24
        refine E.iconst C dX9_lend_27 (by decide) ?_
        exact N.iret C hR dX9_lend_28 (fun hi hx => by exact ⟨fun a j _ _ _ => rfl, fun j _ => rfl, Or.inl ⟨by omega, rfl⟩⟩)
