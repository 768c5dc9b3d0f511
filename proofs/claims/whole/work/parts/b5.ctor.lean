-- the constructors
theorem ok_X0_init (G : GT) (b : Int) (n : Nat) (v : VT) : MT G yX0_init cX0_init 1 none { frames := 1, cells := 0, slots := 0, locals := 20 } [vr b] n v (fun r n' w => r = none ∧ n' = n ∧ w = v) := by
  refine MT.of pn_X0_init [some (vr b)] 0 rfl rfl (fun X C hX hn hR hnm => ?_)
  refine E.aload_n C dX0_init_0 rfl rfl ?_
  refine E.objInit C hX ob_X0_3 ob_im ob_cd dX0_init_1 (by decide) (by decide) ?_
  exact E.vret C hR dX0_init_4 (fun hi => ⟨rfl, rfl, rfl⟩)
theorem ok_X6_init (G : GT) (b : Int) (n : Nat) (v : VT) : MT G yX6_init cX6_init 1 none { frames := 1, cells := 0, slots := 0, locals := 20 } [vr b] n v (fun r n' w => r = none ∧ n' = n ∧ w = v) := by
  refine MT.of pn_X6_init [some (vr b)] 0 rfl rfl (fun X C hX hn hR hnm => ?_)
  refine E.aload_n C dX6_init_0 rfl rfl ?_
  refine E.objInit C hX ob_X6_3 ob_im ob_cd dX6_init_1 (by decide) (by decide) ?_
  exact E.vret C hR dX6_init_4 (fun hi => ⟨rfl, rfl, rfl⟩)
def ls_X5_init_2 : List (Int × Int × Int) := [(2, 0, 3), (2, 1, 0)]
set_option maxHeartbeats 4000000 in
set_option maxRecDepth 20000 in
theorem ok_X5_init_2 (G : GT) (v : VT) (hz : Zb 2 v) : MT G yX5_init cX5_init 1 none { frames := 1, cells := 1, slots := 400, locals := 20 } [vr 2] 2 v (fun r n' w => r = none ∧ n' = 3 ∧ w = updL v ls_X5_init_2) := by
  refine MT.of pn_X5_init [some (vr 2)] 0 rfl rfl (fun X C hX hn hR hnm => ?_)
  have hin := hnm rfl
  refine E.aload_n C dX5_init_0 rfl rfl ?_
  refine E.objInit C hX ob_X5_3 ob_im ob_cd dX5_init_1 (by decide) (by decide) ?_
  refine E.aload_n C dX5_init_4 rfl rfl ?_
  refine E.sipush C dX5_init_5 (by decide) ?_
  refine E.newA (t := 0) (ty := .byte) (r := 3) (n' := 3) (c' := 1) (s' := 400) (m := 400) C rfl ac_byte (by decide) rfl (fun _ _ h => h) rfl (by decide) dX5_init_8 (by decide) rfl rfl rfl rfl kd_3 ln_3 rfl (by decide) (fun j => hz _ j (by decide)) (by rw [hX]; decide) (by rw [hX]; decide) ?_
  have hzv_3 : Zb 3 v := Zb.le hz (by decide)
  refine E.putR C (Or.inr ⟨_, rfl⟩) fp_X5_9 rfl hin dX5_init_10 kd_2 (by decide) (by decide) (by decide) (by decide) ?_
  obtain ⟨v1, hv1⟩ : ∃ z, z = upd2 v 2 0 3 := ⟨_, rfl⟩
  refine E.heq hv1.symm ?_
  have hzv1 : Zb 3 v1 := by rw [hv1]; exact Zb.up hzv_3 (by decide)
  refine E.aload_n C dX5_init_13 rfl rfl ?_
  refine E.iconst C dX5_init_14 (by decide) ?_
  refine E.putI C fp_X5_15 rfl dX5_init_15 kd_2 (by decide) ?_
  obtain ⟨v2, hv2⟩ : ∃ z, z = upd2 v1 2 1 0 := ⟨_, rfl⟩
  refine E.heq hv2.symm ?_
  have hzv2 : Zb 3 v2 := by rw [hv2]; exact Zb.up hzv1 (by decide)
  refine E.vret C hR dX5_init_18 (fun hi => ⟨rfl, rfl, ?_⟩)
  rw [hv2, hv1]
  rfl
def ls_X7_init_4 : List (Int × Int × Int) := [(4, 0, 5), (4, 1, 6), (4, 2, 7), (4, 3, 8), (4, 4, 0), (4, 5, 0), (4, 6, 0), (5, 0, 9), (5, 1, 10), (5, 2, 11), (5, 3, 12), (5, 4, 13), (5, 5, 14), (5, 6, 15), (5, 7, 16), (6, 0, 17), (6, 1, 18), (6, 2, 19), (6, 3, 20), (6, 4, 21), (6, 5, 22), (6, 6, 23), (6, 7, 24), (6, 8, 25), (6, 9, 26)]
set_option maxHeartbeats 4000000 in
set_option maxRecDepth 20000 in
theorem ok_X7_init_4 (G : GT) (v : VT) (hz : Zb 4 v) : MT G yX7_init cX7_init 2 none { frames := 2, cells := 22, slots := 208, locals := 40 } [vr 4] 4 v (fun r n' w => r = none ∧ n' = 26 ∧ w = updL v ls_X7_init_4) := by
  refine MT.of pn_X7_init [some (vr 4), none] 1 rfl rfl (fun X C hX hn hR hnm => ?_)
  have hin := hnm rfl
  refine E.aload_n C dX7_init_0 rfl rfl ?_
  refine E.objInit C hX ob_X7_3 ob_im ob_cd dX7_init_1 (by decide) (by decide) ?_
  refine E.aload_n C dX7_init_4 rfl rfl ?_
  refine E.bipush C dX7_init_5 (by decide) ?_
  refine E.newQ (t := 3) (Cn := RX0) (r := 5) (n' := 5) (c' := 1) (s' := 8) (m := 8) C cl_X7_9 C.2.2.2.2.2.2.2.2.2.1 (by decide) rfl dX7_init_7 (by decide) rfl rfl rfl rfl kd_5 ln_5 rfl (by decide) (fun j => hz _ j (by decide)) (by rw [hX]; decide) (by rw [hX]; decide) ?_
  have hzv_5 : Zb 5 v := Zb.le hz (by decide)
  refine E.putR C (Or.inr ⟨_, rfl⟩) fp_X7_11 rfl hin dX7_init_10 kd_4 (by decide) (by decide) (by decide) (by decide) ?_
  obtain ⟨v1, hv1⟩ : ∃ z, z = upd2 v 4 0 5 := ⟨_, rfl⟩
  refine E.heq hv1.symm ?_
  have hzv1 : Zb 5 v1 := by rw [hv1]; exact Zb.up hzv_5 (by decide)
  have fv1_4_0 : v1 4 0 = 5 := by rw [hv1]; exact upd2_same _ _ _ _
  refine E.aload_n C dX7_init_13 rfl rfl ?_
  refine E.bipush C dX7_init_14 (by decide) ?_
  refine E.newQ (t := 5) (Cn := RX6) (r := 6) (n' := 6) (c' := 2) (s' := 18) (m := 10) C cl_X7_17 C.2.2.2.2.2.2.2.2.2.2.2.1 (by decide) rfl dX7_init_16 (by decide) rfl rfl rfl rfl kd_6 ln_6 rfl (by decide) (fun j => hzv1 _ j (by decide)) (by rw [hX]; decide) (by rw [hX]; decide) ?_
  have hzv1_6 : Zb 6 v1 := Zb.le hzv1 (by decide)
  refine E.putR C (Or.inr ⟨_, rfl⟩) fp_X7_19 rfl hin dX7_init_19 kd_4 (by decide) (by decide) (by decide) (by decide) ?_
  obtain ⟨v2, hv2⟩ : ∃ z, z = upd2 v1 4 1 6 := ⟨_, rfl⟩
  refine E.heq hv2.symm ?_
  have hzv2 : Zb 6 v2 := by rw [hv2]; exact Zb.up hzv1_6 (by decide)
  have fv2_4_0 : v2 4 0 = 5 := by rw [hv2, upd2_ne _ _ _ _ _ _ (by decide)]; exact fv1_4_0
  have fv2_4_1 : v2 4 1 = 6 := by rw [hv2]; exact upd2_same _ _ _ _
  refine E.aload_n C dX7_init_22 rfl rfl ?_
  refine E.bipush C dX7_init_23 (by decide) ?_
  refine E.newA (t := 1) (ty := .int) (r := 7) (n' := 7) (c' := 3) (s' := 98) (m := 80) C rfl ac_int (by decide) rfl (fun _ _ h => h) rfl (by decide) dX7_init_25 (by decide) rfl rfl rfl rfl kd_7 ln_7 rfl (by decide) (fun j => hzv2 _ j (by decide)) (by rw [hX]; decide) (by rw [hX]; decide) ?_
  have hzv2_7 : Zb 7 v2 := Zb.le hzv2 (by decide)
  refine E.putR C (Or.inr ⟨_, rfl⟩) fp_X7_23 rfl hin dX7_init_27 kd_4 (by decide) (by decide) (by decide) (by decide) ?_
  obtain ⟨v3, hv3⟩ : ∃ z, z = upd2 v2 4 2 7 := ⟨_, rfl⟩
  refine E.heq hv3.symm ?_
  have hzv3 : Zb 7 v3 := by rw [hv3]; exact Zb.up hzv2_7 (by decide)
  have fv3_4_0 : v3 4 0 = 5 := by rw [hv3, upd2_ne _ _ _ _ _ _ (by decide)]; exact fv2_4_0
  have fv3_4_1 : v3 4 1 = 6 := by rw [hv3, upd2_ne _ _ _ _ _ _ (by decide)]; exact fv2_4_1
  refine E.aload_n C dX7_init_30 rfl rfl ?_
  refine E.bipush C dX7_init_31 (by decide) ?_
  refine E.newA (t := 1) (ty := .int) (r := 8) (n' := 8) (c' := 4) (s' := 104) (m := 6) C rfl ac_int (by decide) rfl (fun _ _ h => h) rfl (by decide) dX7_init_33 (by decide) rfl rfl rfl rfl kd_8 ln_8 rfl (by decide) (fun j => hzv3 _ j (by decide)) (by rw [hX]; decide) (by rw [hX]; decide) ?_
  have hzv3_8 : Zb 8 v3 := Zb.le hzv3 (by decide)
  refine E.putR C (Or.inr ⟨_, rfl⟩) fp_X7_27 rfl hin dX7_init_35 kd_4 (by decide) (by decide) (by decide) (by decide) ?_
  obtain ⟨v4, hv4⟩ : ∃ z, z = upd2 v3 4 3 8 := ⟨_, rfl⟩
  refine E.heq hv4.symm ?_
  have hzv4 : Zb 8 v4 := by rw [hv4]; exact Zb.up hzv3_8 (by decide)
  have fv4_4_0 : v4 4 0 = 5 := by rw [hv4, upd2_ne _ _ _ _ _ _ (by decide)]; exact fv3_4_0
  have fv4_4_1 : v4 4 1 = 6 := by rw [hv4, upd2_ne _ _ _ _ _ _ (by decide)]; exact fv3_4_1
  refine E.aload_n C dX7_init_38 rfl rfl ?_
  refine E.iconst C dX7_init_39 (by decide) ?_
  refine E.putI C fp_X7_30 rfl dX7_init_40 kd_4 (by decide) ?_
  obtain ⟨v5, hv5⟩ : ∃ z, z = upd2 v4 4 4 0 := ⟨_, rfl⟩
  refine E.heq hv5.symm ?_
  have hzv5 : Zb 8 v5 := by rw [hv5]; exact Zb.up hzv4 (by decide)
  have fv5_4_0 : v5 4 0 = 5 := by rw [hv5, upd2_ne _ _ _ _ _ _ (by decide)]; exact fv4_4_0
  have fv5_4_1 : v5 4 1 = 6 := by rw [hv5, upd2_ne _ _ _ _ _ _ (by decide)]; exact fv4_4_1
  refine E.aload_n C dX7_init_43 rfl rfl ?_
  refine E.iconst C dX7_init_44 (by decide) ?_
  refine E.putI C fp_X7_34 rfl dX7_init_45 kd_4 (by decide) ?_
  obtain ⟨v6, hv6⟩ : ∃ z, z = upd2 v5 4 5 0 := ⟨_, rfl⟩
  refine E.heq hv6.symm ?_
  have hzv6 : Zb 8 v6 := by rw [hv6]; exact Zb.up hzv5 (by decide)
  have fv6_4_0 : v6 4 0 = 5 := by rw [hv6, upd2_ne _ _ _ _ _ _ (by decide)]; exact fv5_4_0
  have fv6_4_1 : v6 4 1 = 6 := by rw [hv6, upd2_ne _ _ _ _ _ _ (by decide)]; exact fv5_4_1
  refine E.aload_n C dX7_init_48 rfl rfl ?_
  refine E.iconst C dX7_init_49 (by decide) ?_
  refine E.putI C fp_X7_37 rfl dX7_init_50 kd_4 (by decide) ?_
  obtain ⟨v7, hv7⟩ : ∃ z, z = upd2 v6 4 6 0 := ⟨_, rfl⟩
  refine E.heq hv7.symm ?_
  have hzv7 : Zb 8 v7 := by rw [hv7]; exact Zb.up hzv6 (by decide)
  have fv7_4_0 : v7 4 0 = 5 := by rw [hv7, upd2_ne _ _ _ _ _ _ (by decide)]; exact fv6_4_0
  have fv7_4_1 : v7 4 1 = 6 := by rw [hv7, upd2_ne _ _ _ _ _ _ (by decide)]; exact fv6_4_1
  refine E.iconst C dX7_init_53 (by decide) ?_
  refine E.istore_n C dX7_init_54 rfl (by rw [hn]; decide) rfl ?_
  refine E.lset (L' := [some (vr 4), some (vi 0)]) rfl ?_
  refine E.iload_n C dX7_init_55 rfl rfl ?_
  refine E.bipush C dX7_init_56 (by decide) ?_
  refine E.icmp_ge C dX7_init_58 (tgt := 80) (by decide) (fun h => absurd h (by decide)) (fun _ => ?_)
  refine E.aload_n C dX7_init_61 rfl rfl ?_
  refine E.getR C fa_X7_11 rfl dX7_init_62 kd_4 (by decide) fv7_4_0 (by decide) ?_
  refine E.iload_n C dX7_init_65 rfl rfl ?_
  refine E.newO (r := 9) (n' := 9) (c' := 5) (s' := 107) C nw_X7_9 dX7_init_66 (by decide) rfl rfl rfl rfl kd_9 (fun j => hzv7 _ j (by decide)) (by rw [hX]; decide) (by rw [hX]; decide) ?_
  have hzv7_9 : Zb 9 v7 := Zb.le hzv7 (by decide)
  refine E.dupR C dX7_init_69 ?_
  refine E.callI (S := [vr 9, vi 0, vr 5]) (As := []) C hX (ok_X0_init G 9 9 v7) yf_X0_init rfl yv_X0_init ml_X7_40 rfl (by decide) (by decide) (Nat.le_of_ble_eq_true rfl) dX7_init_70 rfl (fun r n' w hq => ?_)
  obtain ⟨rfl, rfl, hw⟩ := hq
  refine E.count (c' := 5) (s' := 107) (S' := [vr 9, vi 0, vr 5]) rfl rfl rfl ?_
  rw [hw]
  refine E.aastQ (t := 3) (ci := 0) C (by decide) rfl rfl (by decide) dX7_init_73 kd_5 (by decide) (by decide) (by decide) (by rw [ln_5]; decide) kd_9 (by decide) (by decide) (by decide) ?_
  obtain ⟨v8, hv8⟩ : ∃ z, z = upd2 v7 5 0 9 := ⟨_, rfl⟩
  refine E.heq hv8.symm ?_
  have hzv8 : Zb 9 v8 := by rw [hv8]; exact Zb.up hzv7_9 (by decide)
  have fv8_4_0 : v8 4 0 = 5 := by rw [hv8, upd2_ne _ _ _ _ _ _ (by decide)]; exact fv7_4_0
  have fv8_4_1 : v8 4 1 = 6 := by rw [hv8, upd2_ne _ _ _ _ _ _ (by decide)]; exact fv7_4_1
  refine E.iinc C dX7_init_74 rfl (by rw [hn]; decide) rfl (by decide) ?_
  refine E.lset (L' := [some (vr 4), some (vi 1)]) rfl ?_
  refine E.goto C dX7_init_77 (tgt := 55) (by decide) ?_
  refine E.iload_n C dX7_init_55 rfl rfl ?_
  refine E.bipush C dX7_init_56 (by decide) ?_
  refine E.icmp_ge C dX7_init_58 (tgt := 80) (by decide) (fun h => absurd h (by decide)) (fun _ => ?_)
  refine E.aload_n C dX7_init_61 rfl rfl ?_
  refine E.getR C fa_X7_11 rfl dX7_init_62 kd_4 (by decide) fv8_4_0 (by decide) ?_
  refine E.iload_n C dX7_init_65 rfl rfl ?_
  refine E.newO (r := 10) (n' := 10) (c' := 6) (s' := 110) C nw_X7_9 dX7_init_66 (by decide) rfl rfl rfl rfl kd_10 (fun j => hzv8 _ j (by decide)) (by rw [hX]; decide) (by rw [hX]; decide) ?_
  have hzv8_10 : Zb 10 v8 := Zb.le hzv8 (by decide)
  refine E.dupR C dX7_init_69 ?_
  refine E.callI (S := [vr 10, vi 1, vr 5]) (As := []) C hX (ok_X0_init G 10 10 v8) yf_X0_init rfl yv_X0_init ml_X7_40 rfl (by decide) (by decide) (Nat.le_of_ble_eq_true rfl) dX7_init_70 rfl (fun r n' w hq => ?_)
  obtain ⟨rfl, rfl, hw⟩ := hq
  refine E.count (c' := 6) (s' := 110) (S' := [vr 10, vi 1, vr 5]) rfl rfl rfl ?_
  rw [hw]
  refine E.aastQ (t := 3) (ci := 0) C (by decide) rfl rfl (by decide) dX7_init_73 kd_5 (by decide) (by decide) (by decide) (by rw [ln_5]; decide) kd_10 (by decide) (by decide) (by decide) ?_
  obtain ⟨v9, hv9⟩ : ∃ z, z = upd2 v8 5 1 10 := ⟨_, rfl⟩
  refine E.heq hv9.symm ?_
  have hzv9 : Zb 10 v9 := by rw [hv9]; exact Zb.up hzv8_10 (by decide)
  have fv9_4_0 : v9 4 0 = 5 := by rw [hv9, upd2_ne _ _ _ _ _ _ (by decide)]; exact fv8_4_0
  have fv9_4_1 : v9 4 1 = 6 := by rw [hv9, upd2_ne _ _ _ _ _ _ (by decide)]; exact fv8_4_1
  refine E.iinc C dX7_init_74 rfl (by rw [hn]; decide) rfl (by decide) ?_
  refine E.lset (L' := [some (vr 4), some (vi 2)]) rfl ?_
  refine E.goto C dX7_init_77 (tgt := 55) (by decide) ?_
  refine E.iload_n C dX7_init_55 rfl rfl ?_
  refine E.bipush C dX7_init_56 (by decide) ?_
  refine E.icmp_ge C dX7_init_58 (tgt := 80) (by decide) (fun h => absurd h (by decide)) (fun _ => ?_)
  refine E.aload_n C dX7_init_61 rfl rfl ?_
  refine E.getR C fa_X7_11 rfl dX7_init_62 kd_4 (by decide) fv9_4_0 (by decide) ?_
  refine E.iload_n C dX7_init_65 rfl rfl ?_
  refine E.newO (r := 11) (n' := 11) (c' := 7) (s' := 113) C nw_X7_9 dX7_init_66 (by decide) rfl rfl rfl rfl kd_11 (fun j => hzv9 _ j (by decide)) (by rw [hX]; decide) (by rw [hX]; decide) ?_
  have hzv9_11 : Zb 11 v9 := Zb.le hzv9 (by decide)
  refine E.dupR C dX7_init_69 ?_
  refine E.callI (S := [vr 11, vi 2, vr 5]) (As := []) C hX (ok_X0_init G 11 11 v9) yf_X0_init rfl yv_X0_init ml_X7_40 rfl (by decide) (by decide) (Nat.le_of_ble_eq_true rfl) dX7_init_70 rfl (fun r n' w hq => ?_)
  obtain ⟨rfl, rfl, hw⟩ := hq
  refine E.count (c' := 7) (s' := 113) (S' := [vr 11, vi 2, vr 5]) rfl rfl rfl ?_
  rw [hw]
  refine E.aastQ (t := 3) (ci := 0) C (by decide) rfl rfl (by decide) dX7_init_73 kd_5 (by decide) (by decide) (by decide) (by rw [ln_5]; decide) kd_11 (by decide) (by decide) (by decide) ?_
  obtain ⟨v10, hv10⟩ : ∃ z, z = upd2 v9 5 2 11 := ⟨_, rfl⟩
  refine E.heq hv10.symm ?_
  have hzv10 : Zb 11 v10 := by rw [hv10]; exact Zb.up hzv9_11 (by decide)
  have fv10_4_0 : v10 4 0 = 5 := by rw [hv10, upd2_ne _ _ _ _ _ _ (by decide)]; exact fv9_4_0
  have fv10_4_1 : v10 4 1 = 6 := by rw [hv10, upd2_ne _ _ _ _ _ _ (by decide)]; exact fv9_4_1
  refine E.iinc C dX7_init_74 rfl (by rw [hn]; decide) rfl (by decide) ?_
  refine E.lset (L' := [some (vr 4), some (vi 3)]) rfl ?_
  refine E.goto C dX7_init_77 (tgt := 55) (by decide) ?_
  refine E.iload_n C dX7_init_55 rfl rfl ?_
  refine E.bipush C dX7_init_56 (by decide) ?_
  refine E.icmp_ge C dX7_init_58 (tgt := 80) (by decide) (fun h => absurd h (by decide)) (fun _ => ?_)
  refine E.aload_n C dX7_init_61 rfl rfl ?_
  refine E.getR C fa_X7_11 rfl dX7_init_62 kd_4 (by decide) fv10_4_0 (by decide) ?_
  refine E.iload_n C dX7_init_65 rfl rfl ?_
  refine E.newO (r := 12) (n' := 12) (c' := 8) (s' := 116) C nw_X7_9 dX7_init_66 (by decide) rfl rfl rfl rfl kd_12 (fun j => hzv10 _ j (by decide)) (by rw [hX]; decide) (by rw [hX]; decide) ?_
  have hzv10_12 : Zb 12 v10 := Zb.le hzv10 (by decide)
  refine E.dupR C dX7_init_69 ?_
  refine E.callI (S := [vr 12, vi 3, vr 5]) (As := []) C hX (ok_X0_init G 12 12 v10) yf_X0_init rfl yv_X0_init ml_X7_40 rfl (by decide) (by decide) (Nat.le_of_ble_eq_true rfl) dX7_init_70 rfl (fun r n' w hq => ?_)
  obtain ⟨rfl, rfl, hw⟩ := hq
  refine E.count (c' := 8) (s' := 116) (S' := [vr 12, vi 3, vr 5]) rfl rfl rfl ?_
  rw [hw]
  refine E.aastQ (t := 3) (ci := 0) C (by decide) rfl rfl (by decide) dX7_init_73 kd_5 (by decide) (by decide) (by decide) (by rw [ln_5]; decide) kd_12 (by decide) (by decide) (by decide) ?_
  obtain ⟨v11, hv11⟩ : ∃ z, z = upd2 v10 5 3 12 := ⟨_, rfl⟩
  refine E.heq hv11.symm ?_
  have hzv11 : Zb 12 v11 := by rw [hv11]; exact Zb.up hzv10_12 (by decide)
  have fv11_4_0 : v11 4 0 = 5 := by rw [hv11, upd2_ne _ _ _ _ _ _ (by decide)]; exact fv10_4_0
  have fv11_4_1 : v11 4 1 = 6 := by rw [hv11, upd2_ne _ _ _ _ _ _ (by decide)]; exact fv10_4_1
  refine E.iinc C dX7_init_74 rfl (by rw [hn]; decide) rfl (by decide) ?_
  refine E.lset (L' := [some (vr 4), some (vi 4)]) rfl ?_
  refine E.goto C dX7_init_77 (tgt := 55) (by decide) ?_
  refine E.iload_n C dX7_init_55 rfl rfl ?_
  refine E.bipush C dX7_init_56 (by decide) ?_
  refine E.icmp_ge C dX7_init_58 (tgt := 80) (by decide) (fun h => absurd h (by decide)) (fun _ => ?_)
  refine E.aload_n C dX7_init_61 rfl rfl ?_
  refine E.getR C fa_X7_11 rfl dX7_init_62 kd_4 (by decide) fv11_4_0 (by decide) ?_
  refine E.iload_n C dX7_init_65 rfl rfl ?_
  refine E.newO (r := 13) (n' := 13) (c' := 9) (s' := 119) C nw_X7_9 dX7_init_66 (by decide) rfl rfl rfl rfl kd_13 (fun j => hzv11 _ j (by decide)) (by rw [hX]; decide) (by rw [hX]; decide) ?_
  have hzv11_13 : Zb 13 v11 := Zb.le hzv11 (by decide)
  refine E.dupR C dX7_init_69 ?_
  refine E.callI (S := [vr 13, vi 4, vr 5]) (As := []) C hX (ok_X0_init G 13 13 v11) yf_X0_init rfl yv_X0_init ml_X7_40 rfl (by decide) (by decide) (Nat.le_of_ble_eq_true rfl) dX7_init_70 rfl (fun r n' w hq => ?_)
  obtain ⟨rfl, rfl, hw⟩ := hq
  refine E.count (c' := 9) (s' := 119) (S' := [vr 13, vi 4, vr 5]) rfl rfl rfl ?_
  rw [hw]
  refine E.aastQ (t := 3) (ci := 0) C (by decide) rfl rfl (by decide) dX7_init_73 kd_5 (by decide) (by decide) (by decide) (by rw [ln_5]; decide) kd_13 (by decide) (by decide) (by decide) ?_
  obtain ⟨v12, hv12⟩ : ∃ z, z = upd2 v11 5 4 13 := ⟨_, rfl⟩
  refine E.heq hv12.symm ?_
  have hzv12 : Zb 13 v12 := by rw [hv12]; exact Zb.up hzv11_13 (by decide)
  have fv12_4_0 : v12 4 0 = 5 := by rw [hv12, upd2_ne _ _ _ _ _ _ (by decide)]; exact fv11_4_0
  have fv12_4_1 : v12 4 1 = 6 := by rw [hv12, upd2_ne _ _ _ _ _ _ (by decide)]; exact fv11_4_1
  refine E.iinc C dX7_init_74 rfl (by rw [hn]; decide) rfl (by decide) ?_
  refine E.lset (L' := [some (vr 4), some (vi 5)]) rfl ?_
  refine E.goto C dX7_init_77 (tgt := 55) (by decide) ?_
  refine E.iload_n C dX7_init_55 rfl rfl ?_
  refine E.bipush C dX7_init_56 (by decide) ?_
  refine E.icmp_ge C dX7_init_58 (tgt := 80) (by decide) (fun h => absurd h (by decide)) (fun _ => ?_)
  refine E.aload_n C dX7_init_61 rfl rfl ?_
  refine E.getR C fa_X7_11 rfl dX7_init_62 kd_4 (by decide) fv12_4_0 (by decide) ?_
  refine E.iload_n C dX7_init_65 rfl rfl ?_
  refine E.newO (r := 14) (n' := 14) (c' := 10) (s' := 122) C nw_X7_9 dX7_init_66 (by decide) rfl rfl rfl rfl kd_14 (fun j => hzv12 _ j (by decide)) (by rw [hX]; decide) (by rw [hX]; decide) ?_
  have hzv12_14 : Zb 14 v12 := Zb.le hzv12 (by decide)
  refine E.dupR C dX7_init_69 ?_
  refine E.callI (S := [vr 14, vi 5, vr 5]) (As := []) C hX (ok_X0_init G 14 14 v12) yf_X0_init rfl yv_X0_init ml_X7_40 rfl (by decide) (by decide) (Nat.le_of_ble_eq_true rfl) dX7_init_70 rfl (fun r n' w hq => ?_)
  obtain ⟨rfl, rfl, hw⟩ := hq
  refine E.count (c' := 10) (s' := 122) (S' := [vr 14, vi 5, vr 5]) rfl rfl rfl ?_
  rw [hw]
  refine E.aastQ (t := 3) (ci := 0) C (by decide) rfl rfl (by decide) dX7_init_73 kd_5 (by decide) (by decide) (by decide) (by rw [ln_5]; decide) kd_14 (by decide) (by decide) (by decide) ?_
  obtain ⟨v13, hv13⟩ : ∃ z, z = upd2 v12 5 5 14 := ⟨_, rfl⟩
  refine E.heq hv13.symm ?_
  have hzv13 : Zb 14 v13 := by rw [hv13]; exact Zb.up hzv12_14 (by decide)
  have fv13_4_0 : v13 4 0 = 5 := by rw [hv13, upd2_ne _ _ _ _ _ _ (by decide)]; exact fv12_4_0
  have fv13_4_1 : v13 4 1 = 6 := by rw [hv13, upd2_ne _ _ _ _ _ _ (by decide)]; exact fv12_4_1
  refine E.iinc C dX7_init_74 rfl (by rw [hn]; decide) rfl (by decide) ?_
  refine E.lset (L' := [some (vr 4), some (vi 6)]) rfl ?_
  refine E.goto C dX7_init_77 (tgt := 55) (by decide) ?_
  refine E.iload_n C dX7_init_55 rfl rfl ?_
  refine E.bipush C dX7_init_56 (by decide) ?_
  refine E.icmp_ge C dX7_init_58 (tgt := 80) (by decide) (fun h => absurd h (by decide)) (fun _ => ?_)
  refine E.aload_n C dX7_init_61 rfl rfl ?_
  refine E.getR C fa_X7_11 rfl dX7_init_62 kd_4 (by decide) fv13_4_0 (by decide) ?_
  refine E.iload_n C dX7_init_65 rfl rfl ?_
  refine E.newO (r := 15) (n' := 15) (c' := 11) (s' := 125) C nw_X7_9 dX7_init_66 (by decide) rfl rfl rfl rfl kd_15 (fun j => hzv13 _ j (by decide)) (by rw [hX]; decide) (by rw [hX]; decide) ?_
  have hzv13_15 : Zb 15 v13 := Zb.le hzv13 (by decide)
  refine E.dupR C dX7_init_69 ?_
  refine E.callI (S := [vr 15, vi 6, vr 5]) (As := []) C hX (ok_X0_init G 15 15 v13) yf_X0_init rfl yv_X0_init ml_X7_40 rfl (by decide) (by decide) (Nat.le_of_ble_eq_true rfl) dX7_init_70 rfl (fun r n' w hq => ?_)
  obtain ⟨rfl, rfl, hw⟩ := hq
  refine E.count (c' := 11) (s' := 125) (S' := [vr 15, vi 6, vr 5]) rfl rfl rfl ?_
  rw [hw]
  refine E.aastQ (t := 3) (ci := 0) C (by decide) rfl rfl (by decide) dX7_init_73 kd_5 (by decide) (by decide) (by decide) (by rw [ln_5]; decide) kd_15 (by decide) (by decide) (by decide) ?_
  obtain ⟨v14, hv14⟩ : ∃ z, z = upd2 v13 5 6 15 := ⟨_, rfl⟩
  refine E.heq hv14.symm ?_
  have hzv14 : Zb 15 v14 := by rw [hv14]; exact Zb.up hzv13_15 (by decide)
  have fv14_4_0 : v14 4 0 = 5 := by rw [hv14, upd2_ne _ _ _ _ _ _ (by decide)]; exact fv13_4_0
  have fv14_4_1 : v14 4 1 = 6 := by rw [hv14, upd2_ne _ _ _ _ _ _ (by decide)]; exact fv13_4_1
  refine E.iinc C dX7_init_74 rfl (by rw [hn]; decide) rfl (by decide) ?_
  refine E.lset (L' := [some (vr 4), some (vi 7)]) rfl ?_
  refine E.goto C dX7_init_77 (tgt := 55) (by decide) ?_
  refine E.iload_n C dX7_init_55 rfl rfl ?_
  refine E.bipush C dX7_init_56 (by decide) ?_
  refine E.icmp_ge C dX7_init_58 (tgt := 80) (by decide) (fun h => absurd h (by decide)) (fun _ => ?_)
  refine E.aload_n C dX7_init_61 rfl rfl ?_
  refine E.getR C fa_X7_11 rfl dX7_init_62 kd_4 (by decide) fv14_4_0 (by decide) ?_
  refine E.iload_n C dX7_init_65 rfl rfl ?_
  refine E.newO (r := 16) (n' := 16) (c' := 12) (s' := 128) C nw_X7_9 dX7_init_66 (by decide) rfl rfl rfl rfl kd_16 (fun j => hzv14 _ j (by decide)) (by rw [hX]; decide) (by rw [hX]; decide) ?_
  have hzv14_16 : Zb 16 v14 := Zb.le hzv14 (by decide)
  refine E.dupR C dX7_init_69 ?_
  refine E.callI (S := [vr 16, vi 7, vr 5]) (As := []) C hX (ok_X0_init G 16 16 v14) yf_X0_init rfl yv_X0_init ml_X7_40 rfl (by decide) (by decide) (Nat.le_of_ble_eq_true rfl) dX7_init_70 rfl (fun r n' w hq => ?_)
  obtain ⟨rfl, rfl, hw⟩ := hq
  refine E.count (c' := 12) (s' := 128) (S' := [vr 16, vi 7, vr 5]) rfl rfl rfl ?_
  rw [hw]
  refine E.aastQ (t := 3) (ci := 0) C (by decide) rfl rfl (by decide) dX7_init_73 kd_5 (by decide) (by decide) (by decide) (by rw [ln_5]; decide) kd_16 (by decide) (by decide) (by decide) ?_
  obtain ⟨v15, hv15⟩ : ∃ z, z = upd2 v14 5 7 16 := ⟨_, rfl⟩
  refine E.heq hv15.symm ?_
  have hzv15 : Zb 16 v15 := by rw [hv15]; exact Zb.up hzv14_16 (by decide)
  have fv15_4_0 : v15 4 0 = 5 := by rw [hv15, upd2_ne _ _ _ _ _ _ (by decide)]; exact fv14_4_0
  have fv15_4_1 : v15 4 1 = 6 := by rw [hv15, upd2_ne _ _ _ _ _ _ (by decide)]; exact fv14_4_1
  refine E.iinc C dX7_init_74 rfl (by rw [hn]; decide) rfl (by decide) ?_
  refine E.lset (L' := [some (vr 4), some (vi 8)]) rfl ?_
  refine E.goto C dX7_init_77 (tgt := 55) (by decide) ?_
  refine E.iload_n C dX7_init_55 rfl rfl ?_
  refine E.bipush C dX7_init_56 (by decide) ?_
  refine E.icmp_ge C dX7_init_58 (tgt := 80) (by decide) (fun _ => ?_) (fun h => absurd (by decide) h)
  refine E.iconst C dX7_init_80 (by decide) ?_
  refine E.istore_n C dX7_init_81 rfl (by rw [hn]; decide) rfl ?_
  refine E.lset (L' := [some (vr 4), some (vi 0)]) rfl ?_
  refine E.iload_n C dX7_init_82 rfl rfl ?_
  refine E.bipush C dX7_init_83 (by decide) ?_
  refine E.icmp_ge C dX7_init_85 (tgt := 107) (by decide) (fun h => absurd h (by decide)) (fun _ => ?_)
  refine E.aload_n C dX7_init_88 rfl rfl ?_
  refine E.getR C fa_X7_19 rfl dX7_init_89 kd_4 (by decide) fv15_4_1 (by decide) ?_
  refine E.iload_n C dX7_init_92 rfl rfl ?_
  refine E.newO (r := 17) (n' := 17) (c' := 13) (s' := 136) C nw_X7_17 dX7_init_93 (by decide) rfl rfl rfl rfl kd_17 (fun j => hzv15 _ j (by decide)) (by rw [hX]; decide) (by rw [hX]; decide) ?_
  have hzv15_17 : Zb 17 v15 := Zb.le hzv15 (by decide)
  refine E.dupR C dX7_init_96 ?_
  refine E.callI (S := [vr 17, vi 0, vr 6]) (As := []) C hX (ok_X6_init G 17 17 v15) yf_X6_init rfl yv_X6_init ml_X7_41 rfl (by decide) (by decide) (Nat.le_of_ble_eq_true rfl) dX7_init_97 rfl (fun r n' w hq => ?_)
  obtain ⟨rfl, rfl, hw⟩ := hq
  refine E.count (c' := 13) (s' := 136) (S' := [vr 17, vi 0, vr 6]) rfl rfl rfl ?_
  rw [hw]
  refine E.aastQ (t := 5) (ci := 6) C (by decide) rfl rfl (by decide) dX7_init_100 kd_6 (by decide) (by decide) (by decide) (by rw [ln_6]; decide) kd_17 (by decide) (by decide) (by decide) ?_
  obtain ⟨v16, hv16⟩ : ∃ z, z = upd2 v15 6 0 17 := ⟨_, rfl⟩
  refine E.heq hv16.symm ?_
  have hzv16 : Zb 17 v16 := by rw [hv16]; exact Zb.up hzv15_17 (by decide)
  have fv16_4_0 : v16 4 0 = 5 := by rw [hv16, upd2_ne _ _ _ _ _ _ (by decide)]; exact fv15_4_0
  have fv16_4_1 : v16 4 1 = 6 := by rw [hv16, upd2_ne _ _ _ _ _ _ (by decide)]; exact fv15_4_1
  refine E.iinc C dX7_init_101 rfl (by rw [hn]; decide) rfl (by decide) ?_
  refine E.lset (L' := [some (vr 4), some (vi 1)]) rfl ?_
  refine E.goto C dX7_init_104 (tgt := 82) (by decide) ?_
  refine E.iload_n C dX7_init_82 rfl rfl ?_
  refine E.bipush C dX7_init_83 (by decide) ?_
  refine E.icmp_ge C dX7_init_85 (tgt := 107) (by decide) (fun h => absurd h (by decide)) (fun _ => ?_)
  refine E.aload_n C dX7_init_88 rfl rfl ?_
  refine E.getR C fa_X7_19 rfl dX7_init_89 kd_4 (by decide) fv16_4_1 (by decide) ?_
  refine E.iload_n C dX7_init_92 rfl rfl ?_
  refine E.newO (r := 18) (n' := 18) (c' := 14) (s' := 144) C nw_X7_17 dX7_init_93 (by decide) rfl rfl rfl rfl kd_18 (fun j => hzv16 _ j (by decide)) (by rw [hX]; decide) (by rw [hX]; decide) ?_
  have hzv16_18 : Zb 18 v16 := Zb.le hzv16 (by decide)
  refine E.dupR C dX7_init_96 ?_
  refine E.callI (S := [vr 18, vi 1, vr 6]) (As := []) C hX (ok_X6_init G 18 18 v16) yf_X6_init rfl yv_X6_init ml_X7_41 rfl (by decide) (by decide) (Nat.le_of_ble_eq_true rfl) dX7_init_97 rfl (fun r n' w hq => ?_)
  obtain ⟨rfl, rfl, hw⟩ := hq
  refine E.count (c' := 14) (s' := 144) (S' := [vr 18, vi 1, vr 6]) rfl rfl rfl ?_
  rw [hw]
  refine E.aastQ (t := 5) (ci := 6) C (by decide) rfl rfl (by decide) dX7_init_100 kd_6 (by decide) (by decide) (by decide) (by rw [ln_6]; decide) kd_18 (by decide) (by decide) (by decide) ?_
  obtain ⟨v17, hv17⟩ : ∃ z, z = upd2 v16 6 1 18 := ⟨_, rfl⟩
  refine E.heq hv17.symm ?_
  have hzv17 : Zb 18 v17 := by rw [hv17]; exact Zb.up hzv16_18 (by decide)
  have fv17_4_0 : v17 4 0 = 5 := by rw [hv17, upd2_ne _ _ _ _ _ _ (by decide)]; exact fv16_4_0
  have fv17_4_1 : v17 4 1 = 6 := by rw [hv17, upd2_ne _ _ _ _ _ _ (by decide)]; exact fv16_4_1
  refine E.iinc C dX7_init_101 rfl (by rw [hn]; decide) rfl (by decide) ?_
  refine E.lset (L' := [some (vr 4), some (vi 2)]) rfl ?_
  refine E.goto C dX7_init_104 (tgt := 82) (by decide) ?_
  refine E.iload_n C dX7_init_82 rfl rfl ?_
  refine E.bipush C dX7_init_83 (by decide) ?_
  refine E.icmp_ge C dX7_init_85 (tgt := 107) (by decide) (fun h => absurd h (by decide)) (fun _ => ?_)
  refine E.aload_n C dX7_init_88 rfl rfl ?_
  refine E.getR C fa_X7_19 rfl dX7_init_89 kd_4 (by decide) fv17_4_1 (by decide) ?_
  refine E.iload_n C dX7_init_92 rfl rfl ?_
  refine E.newO (r := 19) (n' := 19) (c' := 15) (s' := 152) C nw_X7_17 dX7_init_93 (by decide) rfl rfl rfl rfl kd_19 (fun j => hzv17 _ j (by decide)) (by rw [hX]; decide) (by rw [hX]; decide) ?_
  have hzv17_19 : Zb 19 v17 := Zb.le hzv17 (by decide)
  refine E.dupR C dX7_init_96 ?_
  refine E.callI (S := [vr 19, vi 2, vr 6]) (As := []) C hX (ok_X6_init G 19 19 v17) yf_X6_init rfl yv_X6_init ml_X7_41 rfl (by decide) (by decide) (Nat.le_of_ble_eq_true rfl) dX7_init_97 rfl (fun r n' w hq => ?_)
  obtain ⟨rfl, rfl, hw⟩ := hq
  refine E.count (c' := 15) (s' := 152) (S' := [vr 19, vi 2, vr 6]) rfl rfl rfl ?_
  rw [hw]
  refine E.aastQ (t := 5) (ci := 6) C (by decide) rfl rfl (by decide) dX7_init_100 kd_6 (by decide) (by decide) (by decide) (by rw [ln_6]; decide) kd_19 (by decide) (by decide) (by decide) ?_
  obtain ⟨v18, hv18⟩ : ∃ z, z = upd2 v17 6 2 19 := ⟨_, rfl⟩
  refine E.heq hv18.symm ?_
  have hzv18 : Zb 19 v18 := by rw [hv18]; exact Zb.up hzv17_19 (by decide)
  have fv18_4_0 : v18 4 0 = 5 := by rw [hv18, upd2_ne _ _ _ _ _ _ (by decide)]; exact fv17_4_0
  have fv18_4_1 : v18 4 1 = 6 := by rw [hv18, upd2_ne _ _ _ _ _ _ (by decide)]; exact fv17_4_1
  refine E.iinc C dX7_init_101 rfl (by rw [hn]; decide) rfl (by decide) ?_
  refine E.lset (L' := [some (vr 4), some (vi 3)]) rfl ?_
  refine E.goto C dX7_init_104 (tgt := 82) (by decide) ?_
  refine E.iload_n C dX7_init_82 rfl rfl ?_
  refine E.bipush C dX7_init_83 (by decide) ?_
  refine E.icmp_ge C dX7_init_85 (tgt := 107) (by decide) (fun h => absurd h (by decide)) (fun _ => ?_)
  refine E.aload_n C dX7_init_88 rfl rfl ?_
  refine E.getR C fa_X7_19 rfl dX7_init_89 kd_4 (by decide) fv18_4_1 (by decide) ?_
  refine E.iload_n C dX7_init_92 rfl rfl ?_
  refine E.newO (r := 20) (n' := 20) (c' := 16) (s' := 160) C nw_X7_17 dX7_init_93 (by decide) rfl rfl rfl rfl kd_20 (fun j => hzv18 _ j (by decide)) (by rw [hX]; decide) (by rw [hX]; decide) ?_
  have hzv18_20 : Zb 20 v18 := Zb.le hzv18 (by decide)
  refine E.dupR C dX7_init_96 ?_
  refine E.callI (S := [vr 20, vi 3, vr 6]) (As := []) C hX (ok_X6_init G 20 20 v18) yf_X6_init rfl yv_X6_init ml_X7_41 rfl (by decide) (by decide) (Nat.le_of_ble_eq_true rfl) dX7_init_97 rfl (fun r n' w hq => ?_)
  obtain ⟨rfl, rfl, hw⟩ := hq
  refine E.count (c' := 16) (s' := 160) (S' := [vr 20, vi 3, vr 6]) rfl rfl rfl ?_
  rw [hw]
  refine E.aastQ (t := 5) (ci := 6) C (by decide) rfl rfl (by decide) dX7_init_100 kd_6 (by decide) (by decide) (by decide) (by rw [ln_6]; decide) kd_20 (by decide) (by decide) (by decide) ?_
  obtain ⟨v19, hv19⟩ : ∃ z, z = upd2 v18 6 3 20 := ⟨_, rfl⟩
  refine E.heq hv19.symm ?_
  have hzv19 : Zb 20 v19 := by rw [hv19]; exact Zb.up hzv18_20 (by decide)
  have fv19_4_0 : v19 4 0 = 5 := by rw [hv19, upd2_ne _ _ _ _ _ _ (by decide)]; exact fv18_4_0
  have fv19_4_1 : v19 4 1 = 6 := by rw [hv19, upd2_ne _ _ _ _ _ _ (by decide)]; exact fv18_4_1
  refine E.iinc C dX7_init_101 rfl (by rw [hn]; decide) rfl (by decide) ?_
  refine E.lset (L' := [some (vr 4), some (vi 4)]) rfl ?_
  refine E.goto C dX7_init_104 (tgt := 82) (by decide) ?_
  refine E.iload_n C dX7_init_82 rfl rfl ?_
  refine E.bipush C dX7_init_83 (by decide) ?_
  refine E.icmp_ge C dX7_init_85 (tgt := 107) (by decide) (fun h => absurd h (by decide)) (fun _ => ?_)
  refine E.aload_n C dX7_init_88 rfl rfl ?_
  refine E.getR C fa_X7_19 rfl dX7_init_89 kd_4 (by decide) fv19_4_1 (by decide) ?_
  refine E.iload_n C dX7_init_92 rfl rfl ?_
  refine E.newO (r := 21) (n' := 21) (c' := 17) (s' := 168) C nw_X7_17 dX7_init_93 (by decide) rfl rfl rfl rfl kd_21 (fun j => hzv19 _ j (by decide)) (by rw [hX]; decide) (by rw [hX]; decide) ?_
  have hzv19_21 : Zb 21 v19 := Zb.le hzv19 (by decide)
  refine E.dupR C dX7_init_96 ?_
  refine E.callI (S := [vr 21, vi 4, vr 6]) (As := []) C hX (ok_X6_init G 21 21 v19) yf_X6_init rfl yv_X6_init ml_X7_41 rfl (by decide) (by decide) (Nat.le_of_ble_eq_true rfl) dX7_init_97 rfl (fun r n' w hq => ?_)
  obtain ⟨rfl, rfl, hw⟩ := hq
  refine E.count (c' := 17) (s' := 168) (S' := [vr 21, vi 4, vr 6]) rfl rfl rfl ?_
  rw [hw]
  refine E.aastQ (t := 5) (ci := 6) C (by decide) rfl rfl (by decide) dX7_init_100 kd_6 (by decide) (by decide) (by decide) (by rw [ln_6]; decide) kd_21 (by decide) (by decide) (by decide) ?_
  obtain ⟨v20, hv20⟩ : ∃ z, z = upd2 v19 6 4 21 := ⟨_, rfl⟩
  refine E.heq hv20.symm ?_
  have hzv20 : Zb 21 v20 := by rw [hv20]; exact Zb.up hzv19_21 (by decide)
  have fv20_4_0 : v20 4 0 = 5 := by rw [hv20, upd2_ne _ _ _ _ _ _ (by decide)]; exact fv19_4_0
  have fv20_4_1 : v20 4 1 = 6 := by rw [hv20, upd2_ne _ _ _ _ _ _ (by decide)]; exact fv19_4_1
  refine E.iinc C dX7_init_101 rfl (by rw [hn]; decide) rfl (by decide) ?_
  refine E.lset (L' := [some (vr 4), some (vi 5)]) rfl ?_
  refine E.goto C dX7_init_104 (tgt := 82) (by decide) ?_
  refine E.iload_n C dX7_init_82 rfl rfl ?_
  refine E.bipush C dX7_init_83 (by decide) ?_
  refine E.icmp_ge C dX7_init_85 (tgt := 107) (by decide) (fun h => absurd h (by decide)) (fun _ => ?_)
  refine E.aload_n C dX7_init_88 rfl rfl ?_
  refine E.getR C fa_X7_19 rfl dX7_init_89 kd_4 (by decide) fv20_4_1 (by decide) ?_
  refine E.iload_n C dX7_init_92 rfl rfl ?_
  refine E.newO (r := 22) (n' := 22) (c' := 18) (s' := 176) C nw_X7_17 dX7_init_93 (by decide) rfl rfl rfl rfl kd_22 (fun j => hzv20 _ j (by decide)) (by rw [hX]; decide) (by rw [hX]; decide) ?_
  have hzv20_22 : Zb 22 v20 := Zb.le hzv20 (by decide)
  refine E.dupR C dX7_init_96 ?_
  refine E.callI (S := [vr 22, vi 5, vr 6]) (As := []) C hX (ok_X6_init G 22 22 v20) yf_X6_init rfl yv_X6_init ml_X7_41 rfl (by decide) (by decide) (Nat.le_of_ble_eq_true rfl) dX7_init_97 rfl (fun r n' w hq => ?_)
  obtain ⟨rfl, rfl, hw⟩ := hq
  refine E.count (c' := 18) (s' := 176) (S' := [vr 22, vi 5, vr 6]) rfl rfl rfl ?_
  rw [hw]
  refine E.aastQ (t := 5) (ci := 6) C (by decide) rfl rfl (by decide) dX7_init_100 kd_6 (by decide) (by decide) (by decide) (by rw [ln_6]; decide) kd_22 (by decide) (by decide) (by decide) ?_
  obtain ⟨v21, hv21⟩ : ∃ z, z = upd2 v20 6 5 22 := ⟨_, rfl⟩
  refine E.heq hv21.symm ?_
  have hzv21 : Zb 22 v21 := by rw [hv21]; exact Zb.up hzv20_22 (by decide)
  have fv21_4_0 : v21 4 0 = 5 := by rw [hv21, upd2_ne _ _ _ _ _ _ (by decide)]; exact fv20_4_0
  have fv21_4_1 : v21 4 1 = 6 := by rw [hv21, upd2_ne _ _ _ _ _ _ (by decide)]; exact fv20_4_1
  refine E.iinc C dX7_init_101 rfl (by rw [hn]; decide) rfl (by decide) ?_
  refine E.lset (L' := [some (vr 4), some (vi 6)]) rfl ?_
  refine E.goto C dX7_init_104 (tgt := 82) (by decide) ?_
  refine E.iload_n C dX7_init_82 rfl rfl ?_
  refine E.bipush C dX7_init_83 (by decide) ?_
  refine E.icmp_ge C dX7_init_85 (tgt := 107) (by decide) (fun h => absurd h (by decide)) (fun _ => ?_)
  refine E.aload_n C dX7_init_88 rfl rfl ?_
  refine E.getR C fa_X7_19 rfl dX7_init_89 kd_4 (by decide) fv21_4_1 (by decide) ?_
  refine E.iload_n C dX7_init_92 rfl rfl ?_
  refine E.newO (r := 23) (n' := 23) (c' := 19) (s' := 184) C nw_X7_17 dX7_init_93 (by decide) rfl rfl rfl rfl kd_23 (fun j => hzv21 _ j (by decide)) (by rw [hX]; decide) (by rw [hX]; decide) ?_
  have hzv21_23 : Zb 23 v21 := Zb.le hzv21 (by decide)
  refine E.dupR C dX7_init_96 ?_
  refine E.callI (S := [vr 23, vi 6, vr 6]) (As := []) C hX (ok_X6_init G 23 23 v21) yf_X6_init rfl yv_X6_init ml_X7_41 rfl (by decide) (by decide) (Nat.le_of_ble_eq_true rfl) dX7_init_97 rfl (fun r n' w hq => ?_)
  obtain ⟨rfl, rfl, hw⟩ := hq
  refine E.count (c' := 19) (s' := 184) (S' := [vr 23, vi 6, vr 6]) rfl rfl rfl ?_
  rw [hw]
  refine E.aastQ (t := 5) (ci := 6) C (by decide) rfl rfl (by decide) dX7_init_100 kd_6 (by decide) (by decide) (by decide) (by rw [ln_6]; decide) kd_23 (by decide) (by decide) (by decide) ?_
  obtain ⟨v22, hv22⟩ : ∃ z, z = upd2 v21 6 6 23 := ⟨_, rfl⟩
  refine E.heq hv22.symm ?_
  have hzv22 : Zb 23 v22 := by rw [hv22]; exact Zb.up hzv21_23 (by decide)
  have fv22_4_0 : v22 4 0 = 5 := by rw [hv22, upd2_ne _ _ _ _ _ _ (by decide)]; exact fv21_4_0
  have fv22_4_1 : v22 4 1 = 6 := by rw [hv22, upd2_ne _ _ _ _ _ _ (by decide)]; exact fv21_4_1
  refine E.iinc C dX7_init_101 rfl (by rw [hn]; decide) rfl (by decide) ?_
  refine E.lset (L' := [some (vr 4), some (vi 7)]) rfl ?_
  refine E.goto C dX7_init_104 (tgt := 82) (by decide) ?_
  refine E.iload_n C dX7_init_82 rfl rfl ?_
  refine E.bipush C dX7_init_83 (by decide) ?_
  refine E.icmp_ge C dX7_init_85 (tgt := 107) (by decide) (fun h => absurd h (by decide)) (fun _ => ?_)
  refine E.aload_n C dX7_init_88 rfl rfl ?_
  refine E.getR C fa_X7_19 rfl dX7_init_89 kd_4 (by decide) fv22_4_1 (by decide) ?_
  refine E.iload_n C dX7_init_92 rfl rfl ?_
  refine E.newO (r := 24) (n' := 24) (c' := 20) (s' := 192) C nw_X7_17 dX7_init_93 (by decide) rfl rfl rfl rfl kd_24 (fun j => hzv22 _ j (by decide)) (by rw [hX]; decide) (by rw [hX]; decide) ?_
  have hzv22_24 : Zb 24 v22 := Zb.le hzv22 (by decide)
  refine E.dupR C dX7_init_96 ?_
  refine E.callI (S := [vr 24, vi 7, vr 6]) (As := []) C hX (ok_X6_init G 24 24 v22) yf_X6_init rfl yv_X6_init ml_X7_41 rfl (by decide) (by decide) (Nat.le_of_ble_eq_true rfl) dX7_init_97 rfl (fun r n' w hq => ?_)
  obtain ⟨rfl, rfl, hw⟩ := hq
  refine E.count (c' := 20) (s' := 192) (S' := [vr 24, vi 7, vr 6]) rfl rfl rfl ?_
  rw [hw]
  refine E.aastQ (t := 5) (ci := 6) C (by decide) rfl rfl (by decide) dX7_init_100 kd_6 (by decide) (by decide) (by decide) (by rw [ln_6]; decide) kd_24 (by decide) (by decide) (by decide) ?_
  obtain ⟨v23, hv23⟩ : ∃ z, z = upd2 v22 6 7 24 := ⟨_, rfl⟩
  refine E.heq hv23.symm ?_
  have hzv23 : Zb 24 v23 := by rw [hv23]; exact Zb.up hzv22_24 (by decide)
  have fv23_4_0 : v23 4 0 = 5 := by rw [hv23, upd2_ne _ _ _ _ _ _ (by decide)]; exact fv22_4_0
  have fv23_4_1 : v23 4 1 = 6 := by rw [hv23, upd2_ne _ _ _ _ _ _ (by decide)]; exact fv22_4_1
  refine E.iinc C dX7_init_101 rfl (by rw [hn]; decide) rfl (by decide) ?_
  refine E.lset (L' := [some (vr 4), some (vi 8)]) rfl ?_
  refine E.goto C dX7_init_104 (tgt := 82) (by decide) ?_
  refine E.iload_n C dX7_init_82 rfl rfl ?_
  refine E.bipush C dX7_init_83 (by decide) ?_
  refine E.icmp_ge C dX7_init_85 (tgt := 107) (by decide) (fun h => absurd h (by decide)) (fun _ => ?_)
  refine E.aload_n C dX7_init_88 rfl rfl ?_
  refine E.getR C fa_X7_19 rfl dX7_init_89 kd_4 (by decide) fv23_4_1 (by decide) ?_
  refine E.iload_n C dX7_init_92 rfl rfl ?_
  refine E.newO (r := 25) (n' := 25) (c' := 21) (s' := 200) C nw_X7_17 dX7_init_93 (by decide) rfl rfl rfl rfl kd_25 (fun j => hzv23 _ j (by decide)) (by rw [hX]; decide) (by rw [hX]; decide) ?_
  have hzv23_25 : Zb 25 v23 := Zb.le hzv23 (by decide)
  refine E.dupR C dX7_init_96 ?_
  refine E.callI (S := [vr 25, vi 8, vr 6]) (As := []) C hX (ok_X6_init G 25 25 v23) yf_X6_init rfl yv_X6_init ml_X7_41 rfl (by decide) (by decide) (Nat.le_of_ble_eq_true rfl) dX7_init_97 rfl (fun r n' w hq => ?_)
  obtain ⟨rfl, rfl, hw⟩ := hq
  refine E.count (c' := 21) (s' := 200) (S' := [vr 25, vi 8, vr 6]) rfl rfl rfl ?_
  rw [hw]
  refine E.aastQ (t := 5) (ci := 6) C (by decide) rfl rfl (by decide) dX7_init_100 kd_6 (by decide) (by decide) (by decide) (by rw [ln_6]; decide) kd_25 (by decide) (by decide) (by decide) ?_
  obtain ⟨v24, hv24⟩ : ∃ z, z = upd2 v23 6 8 25 := ⟨_, rfl⟩
  refine E.heq hv24.symm ?_
  have hzv24 : Zb 25 v24 := by rw [hv24]; exact Zb.up hzv23_25 (by decide)
  have fv24_4_0 : v24 4 0 = 5 := by rw [hv24, upd2_ne _ _ _ _ _ _ (by decide)]; exact fv23_4_0
  have fv24_4_1 : v24 4 1 = 6 := by rw [hv24, upd2_ne _ _ _ _ _ _ (by decide)]; exact fv23_4_1
  refine E.iinc C dX7_init_101 rfl (by rw [hn]; decide) rfl (by decide) ?_
  refine E.lset (L' := [some (vr 4), some (vi 9)]) rfl ?_
  refine E.goto C dX7_init_104 (tgt := 82) (by decide) ?_
  refine E.iload_n C dX7_init_82 rfl rfl ?_
  refine E.bipush C dX7_init_83 (by decide) ?_
  refine E.icmp_ge C dX7_init_85 (tgt := 107) (by decide) (fun h => absurd h (by decide)) (fun _ => ?_)
  refine E.aload_n C dX7_init_88 rfl rfl ?_
  refine E.getR C fa_X7_19 rfl dX7_init_89 kd_4 (by decide) fv24_4_1 (by decide) ?_
  refine E.iload_n C dX7_init_92 rfl rfl ?_
  refine E.newO (r := 26) (n' := 26) (c' := 22) (s' := 208) C nw_X7_17 dX7_init_93 (by decide) rfl rfl rfl rfl kd_26 (fun j => hzv24 _ j (by decide)) (by rw [hX]; decide) (by rw [hX]; decide) ?_
  have hzv24_26 : Zb 26 v24 := Zb.le hzv24 (by decide)
  refine E.dupR C dX7_init_96 ?_
  refine E.callI (S := [vr 26, vi 9, vr 6]) (As := []) C hX (ok_X6_init G 26 26 v24) yf_X6_init rfl yv_X6_init ml_X7_41 rfl (by decide) (by decide) (Nat.le_of_ble_eq_true rfl) dX7_init_97 rfl (fun r n' w hq => ?_)
  obtain ⟨rfl, rfl, hw⟩ := hq
  refine E.count (c' := 22) (s' := 208) (S' := [vr 26, vi 9, vr 6]) rfl rfl rfl ?_
  rw [hw]
  refine E.aastQ (t := 5) (ci := 6) C (by decide) rfl rfl (by decide) dX7_init_100 kd_6 (by decide) (by decide) (by decide) (by rw [ln_6]; decide) kd_26 (by decide) (by decide) (by decide) ?_
  obtain ⟨v25, hv25⟩ : ∃ z, z = upd2 v24 6 9 26 := ⟨_, rfl⟩
  refine E.heq hv25.symm ?_
  have hzv25 : Zb 26 v25 := by rw [hv25]; exact Zb.up hzv24_26 (by decide)
  have fv25_4_0 : v25 4 0 = 5 := by rw [hv25, upd2_ne _ _ _ _ _ _ (by decide)]; exact fv24_4_0
  have fv25_4_1 : v25 4 1 = 6 := by rw [hv25, upd2_ne _ _ _ _ _ _ (by decide)]; exact fv24_4_1
  refine E.iinc C dX7_init_101 rfl (by rw [hn]; decide) rfl (by decide) ?_
  refine E.lset (L' := [some (vr 4), some (vi 10)]) rfl ?_
  refine E.goto C dX7_init_104 (tgt := 82) (by decide) ?_
  refine E.iload_n C dX7_init_82 rfl rfl ?_
  refine E.bipush C dX7_init_83 (by decide) ?_
  refine E.icmp_ge C dX7_init_85 (tgt := 107) (by decide) (fun _ => ?_) (fun h => absurd (by decide) h)
  refine E.vret C hR dX7_init_107 (fun hi => ⟨rfl, rfl, ?_⟩)
  rw [hv25, hv24, hv23, hv22, hv21, hv20, hv19, hv18, hv17, hv16, hv15, hv14, hv13, hv12, hv11, hv10, hv9, hv8, hv7, hv6, hv5, hv4, hv3, hv2, hv1]
  rfl
def ls_X7_init_27 : List (Int × Int × Int) := [(27, 0, 28), (27, 1, 29), (27, 2, 30), (27, 3, 31), (27, 4, 0), (27, 5, 0), (27, 6, 0), (28, 0, 32), (28, 1, 33), (28, 2, 34), (28, 3, 35), (28, 4, 36), (28, 5, 37), (28, 6, 38), (28, 7, 39), (29, 0, 40), (29, 1, 41), (29, 2, 42), (29, 3, 43), (29, 4, 44), (29, 5, 45), (29, 6, 46), (29, 7, 47), (29, 8, 48), (29, 9, 49)]
set_option maxHeartbeats 4000000 in
set_option maxRecDepth 20000 in
theorem ok_X7_init_27 (G : GT) (v : VT) (hz : Zb 27 v) : MT G yX7_init cX7_init 2 none { frames := 2, cells := 22, slots := 208, locals := 40 } [vr 27] 27 v (fun r n' w => r = none ∧ n' = 49 ∧ w = updL v ls_X7_init_27) := by
  refine MT.of pn_X7_init [some (vr 27), none] 1 rfl rfl (fun X C hX hn hR hnm => ?_)
  have hin := hnm rfl
  refine E.aload_n C dX7_init_0 rfl rfl ?_
  refine E.objInit C hX ob_X7_3 ob_im ob_cd dX7_init_1 (by decide) (by decide) ?_
  refine E.aload_n C dX7_init_4 rfl rfl ?_
  refine E.bipush C dX7_init_5 (by decide) ?_
  refine E.newQ (t := 3) (Cn := RX0) (r := 28) (n' := 28) (c' := 1) (s' := 8) (m := 8) C cl_X7_9 C.2.2.2.2.2.2.2.2.2.1 (by decide) rfl dX7_init_7 (by decide) rfl rfl rfl rfl kd_28 ln_28 rfl (by decide) (fun j => hz _ j (by decide)) (by rw [hX]; decide) (by rw [hX]; decide) ?_
  have hzv_28 : Zb 28 v := Zb.le hz (by decide)
  refine E.putR C (Or.inr ⟨_, rfl⟩) fp_X7_11 rfl hin dX7_init_10 kd_27 (by decide) (by decide) (by decide) (by decide) ?_
  obtain ⟨v1, hv1⟩ : ∃ z, z = upd2 v 27 0 28 := ⟨_, rfl⟩
  refine E.heq hv1.symm ?_
  have hzv1 : Zb 28 v1 := by rw [hv1]; exact Zb.up hzv_28 (by decide)
  have fv1_27_0 : v1 27 0 = 28 := by rw [hv1]; exact upd2_same _ _ _ _
  refine E.aload_n C dX7_init_13 rfl rfl ?_
  refine E.bipush C dX7_init_14 (by decide) ?_
  refine E.newQ (t := 5) (Cn := RX6) (r := 29) (n' := 29) (c' := 2) (s' := 18) (m := 10) C cl_X7_17 C.2.2.2.2.2.2.2.2.2.2.2.1 (by decide) rfl dX7_init_16 (by decide) rfl rfl rfl rfl kd_29 ln_29 rfl (by decide) (fun j => hzv1 _ j (by decide)) (by rw [hX]; decide) (by rw [hX]; decide) ?_
  have hzv1_29 : Zb 29 v1 := Zb.le hzv1 (by decide)
  refine E.putR C (Or.inr ⟨_, rfl⟩) fp_X7_19 rfl hin dX7_init_19 kd_27 (by decide) (by decide) (by decide) (by decide) ?_
  obtain ⟨v2, hv2⟩ : ∃ z, z = upd2 v1 27 1 29 := ⟨_, rfl⟩
  refine E.heq hv2.symm ?_
  have hzv2 : Zb 29 v2 := by rw [hv2]; exact Zb.up hzv1_29 (by decide)
  have fv2_27_0 : v2 27 0 = 28 := by rw [hv2, upd2_ne _ _ _ _ _ _ (by decide)]; exact fv1_27_0
  have fv2_27_1 : v2 27 1 = 29 := by rw [hv2]; exact upd2_same _ _ _ _
  refine E.aload_n C dX7_init_22 rfl rfl ?_
  refine E.bipush C dX7_init_23 (by decide) ?_
  refine E.newA (t := 1) (ty := .int) (r := 30) (n' := 30) (c' := 3) (s' := 98) (m := 80) C rfl ac_int (by decide) rfl (fun _ _ h => h) rfl (by decide) dX7_init_25 (by decide) rfl rfl rfl rfl kd_30 ln_30 rfl (by decide) (fun j => hzv2 _ j (by decide)) (by rw [hX]; decide) (by rw [hX]; decide) ?_
  have hzv2_30 : Zb 30 v2 := Zb.le hzv2 (by decide)
  refine E.putR C (Or.inr ⟨_, rfl⟩) fp_X7_23 rfl hin dX7_init_27 kd_27 (by decide) (by decide) (by decide) (by decide) ?_
  obtain ⟨v3, hv3⟩ : ∃ z, z = upd2 v2 27 2 30 := ⟨_, rfl⟩
  refine E.heq hv3.symm ?_
  have hzv3 : Zb 30 v3 := by rw [hv3]; exact Zb.up hzv2_30 (by decide)
  have fv3_27_0 : v3 27 0 = 28 := by rw [hv3, upd2_ne _ _ _ _ _ _ (by decide)]; exact fv2_27_0
  have fv3_27_1 : v3 27 1 = 29 := by rw [hv3, upd2_ne _ _ _ _ _ _ (by decide)]; exact fv2_27_1
  refine E.aload_n C dX7_init_30 rfl rfl ?_
  refine E.bipush C dX7_init_31 (by decide) ?_
  refine E.newA (t := 1) (ty := .int) (r := 31) (n' := 31) (c' := 4) (s' := 104) (m := 6) C rfl ac_int (by decide) rfl (fun _ _ h => h) rfl (by decide) dX7_init_33 (by decide) rfl rfl rfl rfl kd_31 ln_31 rfl (by decide) (fun j => hzv3 _ j (by decide)) (by rw [hX]; decide) (by rw [hX]; decide) ?_
  have hzv3_31 : Zb 31 v3 := Zb.le hzv3 (by decide)
  refine E.putR C (Or.inr ⟨_, rfl⟩) fp_X7_27 rfl hin dX7_init_35 kd_27 (by decide) (by decide) (by decide) (by decide) ?_
  obtain ⟨v4, hv4⟩ : ∃ z, z = upd2 v3 27 3 31 := ⟨_, rfl⟩
  refine E.heq hv4.symm ?_
  have hzv4 : Zb 31 v4 := by rw [hv4]; exact Zb.up hzv3_31 (by decide)
  have fv4_27_0 : v4 27 0 = 28 := by rw [hv4, upd2_ne _ _ _ _ _ _ (by decide)]; exact fv3_27_0
  have fv4_27_1 : v4 27 1 = 29 := by rw [hv4, upd2_ne _ _ _ _ _ _ (by decide)]; exact fv3_27_1
  refine E.aload_n C dX7_init_38 rfl rfl ?_
  refine E.iconst C dX7_init_39 (by decide) ?_
  refine E.putI C fp_X7_30 rfl dX7_init_40 kd_27 (by decide) ?_
  obtain ⟨v5, hv5⟩ : ∃ z, z = upd2 v4 27 4 0 := ⟨_, rfl⟩
  refine E.heq hv5.symm ?_
  have hzv5 : Zb 31 v5 := by rw [hv5]; exact Zb.up hzv4 (by decide)
  have fv5_27_0 : v5 27 0 = 28 := by rw [hv5, upd2_ne _ _ _ _ _ _ (by decide)]; exact fv4_27_0
  have fv5_27_1 : v5 27 1 = 29 := by rw [hv5, upd2_ne _ _ _ _ _ _ (by decide)]; exact fv4_27_1
  refine E.aload_n C dX7_init_43 rfl rfl ?_
  refine E.iconst C dX7_init_44 (by decide) ?_
  refine E.putI C fp_X7_34 rfl dX7_init_45 kd_27 (by decide) ?_
  obtain ⟨v6, hv6⟩ : ∃ z, z = upd2 v5 27 5 0 := ⟨_, rfl⟩
  refine E.heq hv6.symm ?_
  have hzv6 : Zb 31 v6 := by rw [hv6]; exact Zb.up hzv5 (by decide)
  have fv6_27_0 : v6 27 0 = 28 := by rw [hv6, upd2_ne _ _ _ _ _ _ (by decide)]; exact fv5_27_0
  have fv6_27_1 : v6 27 1 = 29 := by rw [hv6, upd2_ne _ _ _ _ _ _ (by decide)]; exact fv5_27_1
  refine E.aload_n C dX7_init_48 rfl rfl ?_
  refine E.iconst C dX7_init_49 (by decide) ?_
  refine E.putI C fp_X7_37 rfl dX7_init_50 kd_27 (by decide) ?_
  obtain ⟨v7, hv7⟩ : ∃ z, z = upd2 v6 27 6 0 := ⟨_, rfl⟩
  refine E.heq hv7.symm ?_
  have hzv7 : Zb 31 v7 := by rw [hv7]; exact Zb.up hzv6 (by decide)
  have fv7_27_0 : v7 27 0 = 28 := by rw [hv7, upd2_ne _ _ _ _ _ _ (by decide)]; exact fv6_27_0
  have fv7_27_1 : v7 27 1 = 29 := by rw [hv7, upd2_ne _ _ _ _ _ _ (by decide)]; exact fv6_27_1
  refine E.iconst C dX7_init_53 (by decide) ?_
  refine E.istore_n C dX7_init_54 rfl (by rw [hn]; decide) rfl ?_
  refine E.lset (L' := [some (vr 27), some (vi 0)]) rfl ?_
  refine E.iload_n C dX7_init_55 rfl rfl ?_
  refine E.bipush C dX7_init_56 (by decide) ?_
  refine E.icmp_ge C dX7_init_58 (tgt := 80) (by decide) (fun h => absurd h (by decide)) (fun _ => ?_)
  refine E.aload_n C dX7_init_61 rfl rfl ?_
  refine E.getR C fa_X7_11 rfl dX7_init_62 kd_27 (by decide) fv7_27_0 (by decide) ?_
  refine E.iload_n C dX7_init_65 rfl rfl ?_
  refine E.newO (r := 32) (n' := 32) (c' := 5) (s' := 107) C nw_X7_9 dX7_init_66 (by decide) rfl rfl rfl rfl kd_32 (fun j => hzv7 _ j (by decide)) (by rw [hX]; decide) (by rw [hX]; decide) ?_
  have hzv7_32 : Zb 32 v7 := Zb.le hzv7 (by decide)
  refine E.dupR C dX7_init_69 ?_
  refine E.callI (S := [vr 32, vi 0, vr 28]) (As := []) C hX (ok_X0_init G 32 32 v7) yf_X0_init rfl yv_X0_init ml_X7_40 rfl (by decide) (by decide) (Nat.le_of_ble_eq_true rfl) dX7_init_70 rfl (fun r n' w hq => ?_)
  obtain ⟨rfl, rfl, hw⟩ := hq
  refine E.count (c' := 5) (s' := 107) (S' := [vr 32, vi 0, vr 28]) rfl rfl rfl ?_
  rw [hw]
  refine E.aastQ (t := 3) (ci := 0) C (by decide) rfl rfl (by decide) dX7_init_73 kd_28 (by decide) (by decide) (by decide) (by rw [ln_28]; decide) kd_32 (by decide) (by decide) (by decide) ?_
  obtain ⟨v8, hv8⟩ : ∃ z, z = upd2 v7 28 0 32 := ⟨_, rfl⟩
  refine E.heq hv8.symm ?_
  have hzv8 : Zb 32 v8 := by rw [hv8]; exact Zb.up hzv7_32 (by decide)
  have fv8_27_0 : v8 27 0 = 28 := by rw [hv8, upd2_ne _ _ _ _ _ _ (by decide)]; exact fv7_27_0
  have fv8_27_1 : v8 27 1 = 29 := by rw [hv8, upd2_ne _ _ _ _ _ _ (by decide)]; exact fv7_27_1
  refine E.iinc C dX7_init_74 rfl (by rw [hn]; decide) rfl (by decide) ?_
  refine E.lset (L' := [some (vr 27), some (vi 1)]) rfl ?_
  refine E.goto C dX7_init_77 (tgt := 55) (by decide) ?_
  refine E.iload_n C dX7_init_55 rfl rfl ?_
  refine E.bipush C dX7_init_56 (by decide) ?_
  refine E.icmp_ge C dX7_init_58 (tgt := 80) (by decide) (fun h => absurd h (by decide)) (fun _ => ?_)
  refine E.aload_n C dX7_init_61 rfl rfl ?_
  refine E.getR C fa_X7_11 rfl dX7_init_62 kd_27 (by decide) fv8_27_0 (by decide) ?_
  refine E.iload_n C dX7_init_65 rfl rfl ?_
  refine E.newO (r := 33) (n' := 33) (c' := 6) (s' := 110) C nw_X7_9 dX7_init_66 (by decide) rfl rfl rfl rfl kd_33 (fun j => hzv8 _ j (by decide)) (by rw [hX]; decide) (by rw [hX]; decide) ?_
  have hzv8_33 : Zb 33 v8 := Zb.le hzv8 (by decide)
  refine E.dupR C dX7_init_69 ?_
  refine E.callI (S := [vr 33, vi 1, vr 28]) (As := []) C hX (ok_X0_init G 33 33 v8) yf_X0_init rfl yv_X0_init ml_X7_40 rfl (by decide) (by decide) (Nat.le_of_ble_eq_true rfl) dX7_init_70 rfl (fun r n' w hq => ?_)
  obtain ⟨rfl, rfl, hw⟩ := hq
  refine E.count (c' := 6) (s' := 110) (S' := [vr 33, vi 1, vr 28]) rfl rfl rfl ?_
  rw [hw]
  refine E.aastQ (t := 3) (ci := 0) C (by decide) rfl rfl (by decide) dX7_init_73 kd_28 (by decide) (by decide) (by decide) (by rw [ln_28]; decide) kd_33 (by decide) (by decide) (by decide) ?_
  obtain ⟨v9, hv9⟩ : ∃ z, z = upd2 v8 28 1 33 := ⟨_, rfl⟩
  refine E.heq hv9.symm ?_
  have hzv9 : Zb 33 v9 := by rw [hv9]; exact Zb.up hzv8_33 (by decide)
  have fv9_27_0 : v9 27 0 = 28 := by rw [hv9, upd2_ne _ _ _ _ _ _ (by decide)]; exact fv8_27_0
  have fv9_27_1 : v9 27 1 = 29 := by rw [hv9, upd2_ne _ _ _ _ _ _ (by decide)]; exact fv8_27_1
  refine E.iinc C dX7_init_74 rfl (by rw [hn]; decide) rfl (by decide) ?_
  refine E.lset (L' := [some (vr 27), some (vi 2)]) rfl ?_
  refine E.goto C dX7_init_77 (tgt := 55) (by decide) ?_
  refine E.iload_n C dX7_init_55 rfl rfl ?_
  refine E.bipush C dX7_init_56 (by decide) ?_
  refine E.icmp_ge C dX7_init_58 (tgt := 80) (by decide) (fun h => absurd h (by decide)) (fun _ => ?_)
  refine E.aload_n C dX7_init_61 rfl rfl ?_
  refine E.getR C fa_X7_11 rfl dX7_init_62 kd_27 (by decide) fv9_27_0 (by decide) ?_
  refine E.iload_n C dX7_init_65 rfl rfl ?_
  refine E.newO (r := 34) (n' := 34) (c' := 7) (s' := 113) C nw_X7_9 dX7_init_66 (by decide) rfl rfl rfl rfl kd_34 (fun j => hzv9 _ j (by decide)) (by rw [hX]; decide) (by rw [hX]; decide) ?_
  have hzv9_34 : Zb 34 v9 := Zb.le hzv9 (by decide)
  refine E.dupR C dX7_init_69 ?_
  refine E.callI (S := [vr 34, vi 2, vr 28]) (As := []) C hX (ok_X0_init G 34 34 v9) yf_X0_init rfl yv_X0_init ml_X7_40 rfl (by decide) (by decide) (Nat.le_of_ble_eq_true rfl) dX7_init_70 rfl (fun r n' w hq => ?_)
  obtain ⟨rfl, rfl, hw⟩ := hq
  refine E.count (c' := 7) (s' := 113) (S' := [vr 34, vi 2, vr 28]) rfl rfl rfl ?_
  rw [hw]
  refine E.aastQ (t := 3) (ci := 0) C (by decide) rfl rfl (by decide) dX7_init_73 kd_28 (by decide) (by decide) (by decide) (by rw [ln_28]; decide) kd_34 (by decide) (by decide) (by decide) ?_
  obtain ⟨v10, hv10⟩ : ∃ z, z = upd2 v9 28 2 34 := ⟨_, rfl⟩
  refine E.heq hv10.symm ?_
  have hzv10 : Zb 34 v10 := by rw [hv10]; exact Zb.up hzv9_34 (by decide)
  have fv10_27_0 : v10 27 0 = 28 := by rw [hv10, upd2_ne _ _ _ _ _ _ (by decide)]; exact fv9_27_0
  have fv10_27_1 : v10 27 1 = 29 := by rw [hv10, upd2_ne _ _ _ _ _ _ (by decide)]; exact fv9_27_1
  refine E.iinc C dX7_init_74 rfl (by rw [hn]; decide) rfl (by decide) ?_
  refine E.lset (L' := [some (vr 27), some (vi 3)]) rfl ?_
  refine E.goto C dX7_init_77 (tgt := 55) (by decide) ?_
  refine E.iload_n C dX7_init_55 rfl rfl ?_
  refine E.bipush C dX7_init_56 (by decide) ?_
  refine E.icmp_ge C dX7_init_58 (tgt := 80) (by decide) (fun h => absurd h (by decide)) (fun _ => ?_)
  refine E.aload_n C dX7_init_61 rfl rfl ?_
  refine E.getR C fa_X7_11 rfl dX7_init_62 kd_27 (by decide) fv10_27_0 (by decide) ?_
  refine E.iload_n C dX7_init_65 rfl rfl ?_
  refine E.newO (r := 35) (n' := 35) (c' := 8) (s' := 116) C nw_X7_9 dX7_init_66 (by decide) rfl rfl rfl rfl kd_35 (fun j => hzv10 _ j (by decide)) (by rw [hX]; decide) (by rw [hX]; decide) ?_
  have hzv10_35 : Zb 35 v10 := Zb.le hzv10 (by decide)
  refine E.dupR C dX7_init_69 ?_
  refine E.callI (S := [vr 35, vi 3, vr 28]) (As := []) C hX (ok_X0_init G 35 35 v10) yf_X0_init rfl yv_X0_init ml_X7_40 rfl (by decide) (by decide) (Nat.le_of_ble_eq_true rfl) dX7_init_70 rfl (fun r n' w hq => ?_)
  obtain ⟨rfl, rfl, hw⟩ := hq
  refine E.count (c' := 8) (s' := 116) (S' := [vr 35, vi 3, vr 28]) rfl rfl rfl ?_
  rw [hw]
  refine E.aastQ (t := 3) (ci := 0) C (by decide) rfl rfl (by decide) dX7_init_73 kd_28 (by decide) (by decide) (by decide) (by rw [ln_28]; decide) kd_35 (by decide) (by decide) (by decide) ?_
  obtain ⟨v11, hv11⟩ : ∃ z, z = upd2 v10 28 3 35 := ⟨_, rfl⟩
  refine E.heq hv11.symm ?_
  have hzv11 : Zb 35 v11 := by rw [hv11]; exact Zb.up hzv10_35 (by decide)
  have fv11_27_0 : v11 27 0 = 28 := by rw [hv11, upd2_ne _ _ _ _ _ _ (by decide)]; exact fv10_27_0
  have fv11_27_1 : v11 27 1 = 29 := by rw [hv11, upd2_ne _ _ _ _ _ _ (by decide)]; exact fv10_27_1
  refine E.iinc C dX7_init_74 rfl (by rw [hn]; decide) rfl (by decide) ?_
  refine E.lset (L' := [some (vr 27), some (vi 4)]) rfl ?_
  refine E.goto C dX7_init_77 (tgt := 55) (by decide) ?_
  refine E.iload_n C dX7_init_55 rfl rfl ?_
  refine E.bipush C dX7_init_56 (by decide) ?_
  refine E.icmp_ge C dX7_init_58 (tgt := 80) (by decide) (fun h => absurd h (by decide)) (fun _ => ?_)
  refine E.aload_n C dX7_init_61 rfl rfl ?_
  refine E.getR C fa_X7_11 rfl dX7_init_62 kd_27 (by decide) fv11_27_0 (by decide) ?_
  refine E.iload_n C dX7_init_65 rfl rfl ?_
  refine E.newO (r := 36) (n' := 36) (c' := 9) (s' := 119) C nw_X7_9 dX7_init_66 (by decide) rfl rfl rfl rfl kd_36 (fun j => hzv11 _ j (by decide)) (by rw [hX]; decide) (by rw [hX]; decide) ?_
  have hzv11_36 : Zb 36 v11 := Zb.le hzv11 (by decide)
  refine E.dupR C dX7_init_69 ?_
  refine E.callI (S := [vr 36, vi 4, vr 28]) (As := []) C hX (ok_X0_init G 36 36 v11) yf_X0_init rfl yv_X0_init ml_X7_40 rfl (by decide) (by decide) (Nat.le_of_ble_eq_true rfl) dX7_init_70 rfl (fun r n' w hq => ?_)
  obtain ⟨rfl, rfl, hw⟩ := hq
  refine E.count (c' := 9) (s' := 119) (S' := [vr 36, vi 4, vr 28]) rfl rfl rfl ?_
  rw [hw]
  refine E.aastQ (t := 3) (ci := 0) C (by decide) rfl rfl (by decide) dX7_init_73 kd_28 (by decide) (by decide) (by decide) (by rw [ln_28]; decide) kd_36 (by decide) (by decide) (by decide) ?_
  obtain ⟨v12, hv12⟩ : ∃ z, z = upd2 v11 28 4 36 := ⟨_, rfl⟩
  refine E.heq hv12.symm ?_
  have hzv12 : Zb 36 v12 := by rw [hv12]; exact Zb.up hzv11_36 (by decide)
  have fv12_27_0 : v12 27 0 = 28 := by rw [hv12, upd2_ne _ _ _ _ _ _ (by decide)]; exact fv11_27_0
  have fv12_27_1 : v12 27 1 = 29 := by rw [hv12, upd2_ne _ _ _ _ _ _ (by decide)]; exact fv11_27_1
  refine E.iinc C dX7_init_74 rfl (by rw [hn]; decide) rfl (by decide) ?_
  refine E.lset (L' := [some (vr 27), some (vi 5)]) rfl ?_
  refine E.goto C dX7_init_77 (tgt := 55) (by decide) ?_
  refine E.iload_n C dX7_init_55 rfl rfl ?_
  refine E.bipush C dX7_init_56 (by decide) ?_
  refine E.icmp_ge C dX7_init_58 (tgt := 80) (by decide) (fun h => absurd h (by decide)) (fun _ => ?_)
  refine E.aload_n C dX7_init_61 rfl rfl ?_
  refine E.getR C fa_X7_11 rfl dX7_init_62 kd_27 (by decide) fv12_27_0 (by decide) ?_
  refine E.iload_n C dX7_init_65 rfl rfl ?_
  refine E.newO (r := 37) (n' := 37) (c' := 10) (s' := 122) C nw_X7_9 dX7_init_66 (by decide) rfl rfl rfl rfl kd_37 (fun j => hzv12 _ j (by decide)) (by rw [hX]; decide) (by rw [hX]; decide) ?_
  have hzv12_37 : Zb 37 v12 := Zb.le hzv12 (by decide)
  refine E.dupR C dX7_init_69 ?_
  refine E.callI (S := [vr 37, vi 5, vr 28]) (As := []) C hX (ok_X0_init G 37 37 v12) yf_X0_init rfl yv_X0_init ml_X7_40 rfl (by decide) (by decide) (Nat.le_of_ble_eq_true rfl) dX7_init_70 rfl (fun r n' w hq => ?_)
  obtain ⟨rfl, rfl, hw⟩ := hq
  refine E.count (c' := 10) (s' := 122) (S' := [vr 37, vi 5, vr 28]) rfl rfl rfl ?_
  rw [hw]
  refine E.aastQ (t := 3) (ci := 0) C (by decide) rfl rfl (by decide) dX7_init_73 kd_28 (by decide) (by decide) (by decide) (by rw [ln_28]; decide) kd_37 (by decide) (by decide) (by decide) ?_
  obtain ⟨v13, hv13⟩ : ∃ z, z = upd2 v12 28 5 37 := ⟨_, rfl⟩
  refine E.heq hv13.symm ?_
  have hzv13 : Zb 37 v13 := by rw [hv13]; exact Zb.up hzv12_37 (by decide)
  have fv13_27_0 : v13 27 0 = 28 := by rw [hv13, upd2_ne _ _ _ _ _ _ (by decide)]; exact fv12_27_0
  have fv13_27_1 : v13 27 1 = 29 := by rw [hv13, upd2_ne _ _ _ _ _ _ (by decide)]; exact fv12_27_1
  refine E.iinc C dX7_init_74 rfl (by rw [hn]; decide) rfl (by decide) ?_
  refine E.lset (L' := [some (vr 27), some (vi 6)]) rfl ?_
  refine E.goto C dX7_init_77 (tgt := 55) (by decide) ?_
  refine E.iload_n C dX7_init_55 rfl rfl ?_
  refine E.bipush C dX7_init_56 (by decide) ?_
  refine E.icmp_ge C dX7_init_58 (tgt := 80) (by decide) (fun h => absurd h (by decide)) (fun _ => ?_)
  refine E.aload_n C dX7_init_61 rfl rfl ?_
  refine E.getR C fa_X7_11 rfl dX7_init_62 kd_27 (by decide) fv13_27_0 (by decide) ?_
  refine E.iload_n C dX7_init_65 rfl rfl ?_
  refine E.newO (r := 38) (n' := 38) (c' := 11) (s' := 125) C nw_X7_9 dX7_init_66 (by decide) rfl rfl rfl rfl kd_38 (fun j => hzv13 _ j (by decide)) (by rw [hX]; decide) (by rw [hX]; decide) ?_
  have hzv13_38 : Zb 38 v13 := Zb.le hzv13 (by decide)
  refine E.dupR C dX7_init_69 ?_
  refine E.callI (S := [vr 38, vi 6, vr 28]) (As := []) C hX (ok_X0_init G 38 38 v13) yf_X0_init rfl yv_X0_init ml_X7_40 rfl (by decide) (by decide) (Nat.le_of_ble_eq_true rfl) dX7_init_70 rfl (fun r n' w hq => ?_)
  obtain ⟨rfl, rfl, hw⟩ := hq
  refine E.count (c' := 11) (s' := 125) (S' := [vr 38, vi 6, vr 28]) rfl rfl rfl ?_
  rw [hw]
  refine E.aastQ (t := 3) (ci := 0) C (by decide) rfl rfl (by decide) dX7_init_73 kd_28 (by decide) (by decide) (by decide) (by rw [ln_28]; decide) kd_38 (by decide) (by decide) (by decide) ?_
  obtain ⟨v14, hv14⟩ : ∃ z, z = upd2 v13 28 6 38 := ⟨_, rfl⟩
  refine E.heq hv14.symm ?_
  have hzv14 : Zb 38 v14 := by rw [hv14]; exact Zb.up hzv13_38 (by decide)
  have fv14_27_0 : v14 27 0 = 28 := by rw [hv14, upd2_ne _ _ _ _ _ _ (by decide)]; exact fv13_27_0
  have fv14_27_1 : v14 27 1 = 29 := by rw [hv14, upd2_ne _ _ _ _ _ _ (by decide)]; exact fv13_27_1
  refine E.iinc C dX7_init_74 rfl (by rw [hn]; decide) rfl (by decide) ?_
  refine E.lset (L' := [some (vr 27), some (vi 7)]) rfl ?_
  refine E.goto C dX7_init_77 (tgt := 55) (by decide) ?_
  refine E.iload_n C dX7_init_55 rfl rfl ?_
  refine E.bipush C dX7_init_56 (by decide) ?_
  refine E.icmp_ge C dX7_init_58 (tgt := 80) (by decide) (fun h => absurd h (by decide)) (fun _ => ?_)
  refine E.aload_n C dX7_init_61 rfl rfl ?_
  refine E.getR C fa_X7_11 rfl dX7_init_62 kd_27 (by decide) fv14_27_0 (by decide) ?_
  refine E.iload_n C dX7_init_65 rfl rfl ?_
  refine E.newO (r := 39) (n' := 39) (c' := 12) (s' := 128) C nw_X7_9 dX7_init_66 (by decide) rfl rfl rfl rfl kd_39 (fun j => hzv14 _ j (by decide)) (by rw [hX]; decide) (by rw [hX]; decide) ?_
  have hzv14_39 : Zb 39 v14 := Zb.le hzv14 (by decide)
  refine E.dupR C dX7_init_69 ?_
  refine E.callI (S := [vr 39, vi 7, vr 28]) (As := []) C hX (ok_X0_init G 39 39 v14) yf_X0_init rfl yv_X0_init ml_X7_40 rfl (by decide) (by decide) (Nat.le_of_ble_eq_true rfl) dX7_init_70 rfl (fun r n' w hq => ?_)
  obtain ⟨rfl, rfl, hw⟩ := hq
  refine E.count (c' := 12) (s' := 128) (S' := [vr 39, vi 7, vr 28]) rfl rfl rfl ?_
  rw [hw]
  refine E.aastQ (t := 3) (ci := 0) C (by decide) rfl rfl (by decide) dX7_init_73 kd_28 (by decide) (by decide) (by decide) (by rw [ln_28]; decide) kd_39 (by decide) (by decide) (by decide) ?_
  obtain ⟨v15, hv15⟩ : ∃ z, z = upd2 v14 28 7 39 := ⟨_, rfl⟩
  refine E.heq hv15.symm ?_
  have hzv15 : Zb 39 v15 := by rw [hv15]; exact Zb.up hzv14_39 (by decide)
  have fv15_27_0 : v15 27 0 = 28 := by rw [hv15, upd2_ne _ _ _ _ _ _ (by decide)]; exact fv14_27_0
  have fv15_27_1 : v15 27 1 = 29 := by rw [hv15, upd2_ne _ _ _ _ _ _ (by decide)]; exact fv14_27_1
  refine E.iinc C dX7_init_74 rfl (by rw [hn]; decide) rfl (by decide) ?_
  refine E.lset (L' := [some (vr 27), some (vi 8)]) rfl ?_
  refine E.goto C dX7_init_77 (tgt := 55) (by decide) ?_
  refine E.iload_n C dX7_init_55 rfl rfl ?_
  refine E.bipush C dX7_init_56 (by decide) ?_
  refine E.icmp_ge C dX7_init_58 (tgt := 80) (by decide) (fun _ => ?_) (fun h => absurd (by decide) h)
  refine E.iconst C dX7_init_80 (by decide) ?_
  refine E.istore_n C dX7_init_81 rfl (by rw [hn]; decide) rfl ?_
  refine E.lset (L' := [some (vr 27), some (vi 0)]) rfl ?_
  refine E.iload_n C dX7_init_82 rfl rfl ?_
  refine E.bipush C dX7_init_83 (by decide) ?_
  refine E.icmp_ge C dX7_init_85 (tgt := 107) (by decide) (fun h => absurd h (by decide)) (fun _ => ?_)
  refine E.aload_n C dX7_init_88 rfl rfl ?_
  refine E.getR C fa_X7_19 rfl dX7_init_89 kd_27 (by decide) fv15_27_1 (by decide) ?_
  refine E.iload_n C dX7_init_92 rfl rfl ?_
  refine E.newO (r := 40) (n' := 40) (c' := 13) (s' := 136) C nw_X7_17 dX7_init_93 (by decide) rfl rfl rfl rfl kd_40 (fun j => hzv15 _ j (by decide)) (by rw [hX]; decide) (by rw [hX]; decide) ?_
  have hzv15_40 : Zb 40 v15 := Zb.le hzv15 (by decide)
  refine E.dupR C dX7_init_96 ?_
  refine E.callI (S := [vr 40, vi 0, vr 29]) (As := []) C hX (ok_X6_init G 40 40 v15) yf_X6_init rfl yv_X6_init ml_X7_41 rfl (by decide) (by decide) (Nat.le_of_ble_eq_true rfl) dX7_init_97 rfl (fun r n' w hq => ?_)
  obtain ⟨rfl, rfl, hw⟩ := hq
  refine E.count (c' := 13) (s' := 136) (S' := [vr 40, vi 0, vr 29]) rfl rfl rfl ?_
  rw [hw]
  refine E.aastQ (t := 5) (ci := 6) C (by decide) rfl rfl (by decide) dX7_init_100 kd_29 (by decide) (by decide) (by decide) (by rw [ln_29]; decide) kd_40 (by decide) (by decide) (by decide) ?_
  obtain ⟨v16, hv16⟩ : ∃ z, z = upd2 v15 29 0 40 := ⟨_, rfl⟩
  refine E.heq hv16.symm ?_
  have hzv16 : Zb 40 v16 := by rw [hv16]; exact Zb.up hzv15_40 (by decide)
  have fv16_27_0 : v16 27 0 = 28 := by rw [hv16, upd2_ne _ _ _ _ _ _ (by decide)]; exact fv15_27_0
  have fv16_27_1 : v16 27 1 = 29 := by rw [hv16, upd2_ne _ _ _ _ _ _ (by decide)]; exact fv15_27_1
  refine E.iinc C dX7_init_101 rfl (by rw [hn]; decide) rfl (by decide) ?_
  refine E.lset (L' := [some (vr 27), some (vi 1)]) rfl ?_
  refine E.goto C dX7_init_104 (tgt := 82) (by decide) ?_
  refine E.iload_n C dX7_init_82 rfl rfl ?_
  refine E.bipush C dX7_init_83 (by decide) ?_
  refine E.icmp_ge C dX7_init_85 (tgt := 107) (by decide) (fun h => absurd h (by decide)) (fun _ => ?_)
  refine E.aload_n C dX7_init_88 rfl rfl ?_
  refine E.getR C fa_X7_19 rfl dX7_init_89 kd_27 (by decide) fv16_27_1 (by decide) ?_
  refine E.iload_n C dX7_init_92 rfl rfl ?_
  refine E.newO (r := 41) (n' := 41) (c' := 14) (s' := 144) C nw_X7_17 dX7_init_93 (by decide) rfl rfl rfl rfl kd_41 (fun j => hzv16 _ j (by decide)) (by rw [hX]; decide) (by rw [hX]; decide) ?_
  have hzv16_41 : Zb 41 v16 := Zb.le hzv16 (by decide)
  refine E.dupR C dX7_init_96 ?_
  refine E.callI (S := [vr 41, vi 1, vr 29]) (As := []) C hX (ok_X6_init G 41 41 v16) yf_X6_init rfl yv_X6_init ml_X7_41 rfl (by decide) (by decide) (Nat.le_of_ble_eq_true rfl) dX7_init_97 rfl (fun r n' w hq => ?_)
  obtain ⟨rfl, rfl, hw⟩ := hq
  refine E.count (c' := 14) (s' := 144) (S' := [vr 41, vi 1, vr 29]) rfl rfl rfl ?_
  rw [hw]
  refine E.aastQ (t := 5) (ci := 6) C (by decide) rfl rfl (by decide) dX7_init_100 kd_29 (by decide) (by decide) (by decide) (by rw [ln_29]; decide) kd_41 (by decide) (by decide) (by decide) ?_
  obtain ⟨v17, hv17⟩ : ∃ z, z = upd2 v16 29 1 41 := ⟨_, rfl⟩
  refine E.heq hv17.symm ?_
  have hzv17 : Zb 41 v17 := by rw [hv17]; exact Zb.up hzv16_41 (by decide)
  have fv17_27_0 : v17 27 0 = 28 := by rw [hv17, upd2_ne _ _ _ _ _ _ (by decide)]; exact fv16_27_0
  have fv17_27_1 : v17 27 1 = 29 := by rw [hv17, upd2_ne _ _ _ _ _ _ (by decide)]; exact fv16_27_1
  refine E.iinc C dX7_init_101 rfl (by rw [hn]; decide) rfl (by decide) ?_
  refine E.lset (L' := [some (vr 27), some (vi 2)]) rfl ?_
  refine E.goto C dX7_init_104 (tgt := 82) (by decide) ?_
  refine E.iload_n C dX7_init_82 rfl rfl ?_
  refine E.bipush C dX7_init_83 (by decide) ?_
  refine E.icmp_ge C dX7_init_85 (tgt := 107) (by decide) (fun h => absurd h (by decide)) (fun _ => ?_)
  refine E.aload_n C dX7_init_88 rfl rfl ?_
  refine E.getR C fa_X7_19 rfl dX7_init_89 kd_27 (by decide) fv17_27_1 (by decide) ?_
  refine E.iload_n C dX7_init_92 rfl rfl ?_
  refine E.newO (r := 42) (n' := 42) (c' := 15) (s' := 152) C nw_X7_17 dX7_init_93 (by decide) rfl rfl rfl rfl kd_42 (fun j => hzv17 _ j (by decide)) (by rw [hX]; decide) (by rw [hX]; decide) ?_
  have hzv17_42 : Zb 42 v17 := Zb.le hzv17 (by decide)
  refine E.dupR C dX7_init_96 ?_
  refine E.callI (S := [vr 42, vi 2, vr 29]) (As := []) C hX (ok_X6_init G 42 42 v17) yf_X6_init rfl yv_X6_init ml_X7_41 rfl (by decide) (by decide) (Nat.le_of_ble_eq_true rfl) dX7_init_97 rfl (fun r n' w hq => ?_)
  obtain ⟨rfl, rfl, hw⟩ := hq
  refine E.count (c' := 15) (s' := 152) (S' := [vr 42, vi 2, vr 29]) rfl rfl rfl ?_
  rw [hw]
  refine E.aastQ (t := 5) (ci := 6) C (by decide) rfl rfl (by decide) dX7_init_100 kd_29 (by decide) (by decide) (by decide) (by rw [ln_29]; decide) kd_42 (by decide) (by decide) (by decide) ?_
  obtain ⟨v18, hv18⟩ : ∃ z, z = upd2 v17 29 2 42 := ⟨_, rfl⟩
  refine E.heq hv18.symm ?_
  have hzv18 : Zb 42 v18 := by rw [hv18]; exact Zb.up hzv17_42 (by decide)
  have fv18_27_0 : v18 27 0 = 28 := by rw [hv18, upd2_ne _ _ _ _ _ _ (by decide)]; exact fv17_27_0
  have fv18_27_1 : v18 27 1 = 29 := by rw [hv18, upd2_ne _ _ _ _ _ _ (by decide)]; exact fv17_27_1
  refine E.iinc C dX7_init_101 rfl (by rw [hn]; decide) rfl (by decide) ?_
  refine E.lset (L' := [some (vr 27), some (vi 3)]) rfl ?_
  refine E.goto C dX7_init_104 (tgt := 82) (by decide) ?_
  refine E.iload_n C dX7_init_82 rfl rfl ?_
  refine E.bipush C dX7_init_83 (by decide) ?_
  refine E.icmp_ge C dX7_init_85 (tgt := 107) (by decide) (fun h => absurd h (by decide)) (fun _ => ?_)
  refine E.aload_n C dX7_init_88 rfl rfl ?_
  refine E.getR C fa_X7_19 rfl dX7_init_89 kd_27 (by decide) fv18_27_1 (by decide) ?_
  refine E.iload_n C dX7_init_92 rfl rfl ?_
  refine E.newO (r := 43) (n' := 43) (c' := 16) (s' := 160) C nw_X7_17 dX7_init_93 (by decide) rfl rfl rfl rfl kd_43 (fun j => hzv18 _ j (by decide)) (by rw [hX]; decide) (by rw [hX]; decide) ?_
  have hzv18_43 : Zb 43 v18 := Zb.le hzv18 (by decide)
  refine E.dupR C dX7_init_96 ?_
  refine E.callI (S := [vr 43, vi 3, vr 29]) (As := []) C hX (ok_X6_init G 43 43 v18) yf_X6_init rfl yv_X6_init ml_X7_41 rfl (by decide) (by decide) (Nat.le_of_ble_eq_true rfl) dX7_init_97 rfl (fun r n' w hq => ?_)
  obtain ⟨rfl, rfl, hw⟩ := hq
  refine E.count (c' := 16) (s' := 160) (S' := [vr 43, vi 3, vr 29]) rfl rfl rfl ?_
  rw [hw]
  refine E.aastQ (t := 5) (ci := 6) C (by decide) rfl rfl (by decide) dX7_init_100 kd_29 (by decide) (by decide) (by decide) (by rw [ln_29]; decide) kd_43 (by decide) (by decide) (by decide) ?_
  obtain ⟨v19, hv19⟩ : ∃ z, z = upd2 v18 29 3 43 := ⟨_, rfl⟩
  refine E.heq hv19.symm ?_
  have hzv19 : Zb 43 v19 := by rw [hv19]; exact Zb.up hzv18_43 (by decide)
  have fv19_27_0 : v19 27 0 = 28 := by rw [hv19, upd2_ne _ _ _ _ _ _ (by decide)]; exact fv18_27_0
  have fv19_27_1 : v19 27 1 = 29 := by rw [hv19, upd2_ne _ _ _ _ _ _ (by decide)]; exact fv18_27_1
  refine E.iinc C dX7_init_101 rfl (by rw [hn]; decide) rfl (by decide) ?_
  refine E.lset (L' := [some (vr 27), some (vi 4)]) rfl ?_
  refine E.goto C dX7_init_104 (tgt := 82) (by decide) ?_
  refine E.iload_n C dX7_init_82 rfl rfl ?_
  refine E.bipush C dX7_init_83 (by decide) ?_
  refine E.icmp_ge C dX7_init_85 (tgt := 107) (by decide) (fun h => absurd h (by decide)) (fun _ => ?_)
  refine E.aload_n C dX7_init_88 rfl rfl ?_
  refine E.getR C fa_X7_19 rfl dX7_init_89 kd_27 (by decide) fv19_27_1 (by decide) ?_
  refine E.iload_n C dX7_init_92 rfl rfl ?_
  refine E.newO (r := 44) (n' := 44) (c' := 17) (s' := 168) C nw_X7_17 dX7_init_93 (by decide) rfl rfl rfl rfl kd_44 (fun j => hzv19 _ j (by decide)) (by rw [hX]; decide) (by rw [hX]; decide) ?_
  have hzv19_44 : Zb 44 v19 := Zb.le hzv19 (by decide)
  refine E.dupR C dX7_init_96 ?_
  refine E.callI (S := [vr 44, vi 4, vr 29]) (As := []) C hX (ok_X6_init G 44 44 v19) yf_X6_init rfl yv_X6_init ml_X7_41 rfl (by decide) (by decide) (Nat.le_of_ble_eq_true rfl) dX7_init_97 rfl (fun r n' w hq => ?_)
  obtain ⟨rfl, rfl, hw⟩ := hq
  refine E.count (c' := 17) (s' := 168) (S' := [vr 44, vi 4, vr 29]) rfl rfl rfl ?_
  rw [hw]
  refine E.aastQ (t := 5) (ci := 6) C (by decide) rfl rfl (by decide) dX7_init_100 kd_29 (by decide) (by decide) (by decide) (by rw [ln_29]; decide) kd_44 (by decide) (by decide) (by decide) ?_
  obtain ⟨v20, hv20⟩ : ∃ z, z = upd2 v19 29 4 44 := ⟨_, rfl⟩
  refine E.heq hv20.symm ?_
  have hzv20 : Zb 44 v20 := by rw [hv20]; exact Zb.up hzv19_44 (by decide)
  have fv20_27_0 : v20 27 0 = 28 := by rw [hv20, upd2_ne _ _ _ _ _ _ (by decide)]; exact fv19_27_0
  have fv20_27_1 : v20 27 1 = 29 := by rw [hv20, upd2_ne _ _ _ _ _ _ (by decide)]; exact fv19_27_1
  refine E.iinc C dX7_init_101 rfl (by rw [hn]; decide) rfl (by decide) ?_
  refine E.lset (L' := [some (vr 27), some (vi 5)]) rfl ?_
  refine E.goto C dX7_init_104 (tgt := 82) (by decide) ?_
  refine E.iload_n C dX7_init_82 rfl rfl ?_
  refine E.bipush C dX7_init_83 (by decide) ?_
  refine E.icmp_ge C dX7_init_85 (tgt := 107) (by decide) (fun h => absurd h (by decide)) (fun _ => ?_)
  refine E.aload_n C dX7_init_88 rfl rfl ?_
  refine E.getR C fa_X7_19 rfl dX7_init_89 kd_27 (by decide) fv20_27_1 (by decide) ?_
  refine E.iload_n C dX7_init_92 rfl rfl ?_
  refine E.newO (r := 45) (n' := 45) (c' := 18) (s' := 176) C nw_X7_17 dX7_init_93 (by decide) rfl rfl rfl rfl kd_45 (fun j => hzv20 _ j (by decide)) (by rw [hX]; decide) (by rw [hX]; decide) ?_
  have hzv20_45 : Zb 45 v20 := Zb.le hzv20 (by decide)
  refine E.dupR C dX7_init_96 ?_
  refine E.callI (S := [vr 45, vi 5, vr 29]) (As := []) C hX (ok_X6_init G 45 45 v20) yf_X6_init rfl yv_X6_init ml_X7_41 rfl (by decide) (by decide) (Nat.le_of_ble_eq_true rfl) dX7_init_97 rfl (fun r n' w hq => ?_)
  obtain ⟨rfl, rfl, hw⟩ := hq
  refine E.count (c' := 18) (s' := 176) (S' := [vr 45, vi 5, vr 29]) rfl rfl rfl ?_
  rw [hw]
  refine E.aastQ (t := 5) (ci := 6) C (by decide) rfl rfl (by decide) dX7_init_100 kd_29 (by decide) (by decide) (by decide) (by rw [ln_29]; decide) kd_45 (by decide) (by decide) (by decide) ?_
  obtain ⟨v21, hv21⟩ : ∃ z, z = upd2 v20 29 5 45 := ⟨_, rfl⟩
  refine E.heq hv21.symm ?_
  have hzv21 : Zb 45 v21 := by rw [hv21]; exact Zb.up hzv20_45 (by decide)
  have fv21_27_0 : v21 27 0 = 28 := by rw [hv21, upd2_ne _ _ _ _ _ _ (by decide)]; exact fv20_27_0
  have fv21_27_1 : v21 27 1 = 29 := by rw [hv21, upd2_ne _ _ _ _ _ _ (by decide)]; exact fv20_27_1
  refine E.iinc C dX7_init_101 rfl (by rw [hn]; decide) rfl (by decide) ?_
  refine E.lset (L' := [some (vr 27), some (vi 6)]) rfl ?_
  refine E.goto C dX7_init_104 (tgt := 82) (by decide) ?_
  refine E.iload_n C dX7_init_82 rfl rfl ?_
  refine E.bipush C dX7_init_83 (by decide) ?_
  refine E.icmp_ge C dX7_init_85 (tgt := 107) (by decide) (fun h => absurd h (by decide)) (fun _ => ?_)
  refine E.aload_n C dX7_init_88 rfl rfl ?_
  refine E.getR C fa_X7_19 rfl dX7_init_89 kd_27 (by decide) fv21_27_1 (by decide) ?_
  refine E.iload_n C dX7_init_92 rfl rfl ?_
  refine E.newO (r := 46) (n' := 46) (c' := 19) (s' := 184) C nw_X7_17 dX7_init_93 (by decide) rfl rfl rfl rfl kd_46 (fun j => hzv21 _ j (by decide)) (by rw [hX]; decide) (by rw [hX]; decide) ?_
  have hzv21_46 : Zb 46 v21 := Zb.le hzv21 (by decide)
  refine E.dupR C dX7_init_96 ?_
  refine E.callI (S := [vr 46, vi 6, vr 29]) (As := []) C hX (ok_X6_init G 46 46 v21) yf_X6_init rfl yv_X6_init ml_X7_41 rfl (by decide) (by decide) (Nat.le_of_ble_eq_true rfl) dX7_init_97 rfl (fun r n' w hq => ?_)
  obtain ⟨rfl, rfl, hw⟩ := hq
  refine E.count (c' := 19) (s' := 184) (S' := [vr 46, vi 6, vr 29]) rfl rfl rfl ?_
  rw [hw]
  refine E.aastQ (t := 5) (ci := 6) C (by decide) rfl rfl (by decide) dX7_init_100 kd_29 (by decide) (by decide) (by decide) (by rw [ln_29]; decide) kd_46 (by decide) (by decide) (by decide) ?_
  obtain ⟨v22, hv22⟩ : ∃ z, z = upd2 v21 29 6 46 := ⟨_, rfl⟩
  refine E.heq hv22.symm ?_
  have hzv22 : Zb 46 v22 := by rw [hv22]; exact Zb.up hzv21_46 (by decide)
  have fv22_27_0 : v22 27 0 = 28 := by rw [hv22, upd2_ne _ _ _ _ _ _ (by decide)]; exact fv21_27_0
  have fv22_27_1 : v22 27 1 = 29 := by rw [hv22, upd2_ne _ _ _ _ _ _ (by decide)]; exact fv21_27_1
  refine E.iinc C dX7_init_101 rfl (by rw [hn]; decide) rfl (by decide) ?_
  refine E.lset (L' := [some (vr 27), some (vi 7)]) rfl ?_
  refine E.goto C dX7_init_104 (tgt := 82) (by decide) ?_
  refine E.iload_n C dX7_init_82 rfl rfl ?_
  refine E.bipush C dX7_init_83 (by decide) ?_
  refine E.icmp_ge C dX7_init_85 (tgt := 107) (by decide) (fun h => absurd h (by decide)) (fun _ => ?_)
  refine E.aload_n C dX7_init_88 rfl rfl ?_
  refine E.getR C fa_X7_19 rfl dX7_init_89 kd_27 (by decide) fv22_27_1 (by decide) ?_
  refine E.iload_n C dX7_init_92 rfl rfl ?_
  refine E.newO (r := 47) (n' := 47) (c' := 20) (s' := 192) C nw_X7_17 dX7_init_93 (by decide) rfl rfl rfl rfl kd_47 (fun j => hzv22 _ j (by decide)) (by rw [hX]; decide) (by rw [hX]; decide) ?_
  have hzv22_47 : Zb 47 v22 := Zb.le hzv22 (by decide)
  refine E.dupR C dX7_init_96 ?_
  refine E.callI (S := [vr 47, vi 7, vr 29]) (As := []) C hX (ok_X6_init G 47 47 v22) yf_X6_init rfl yv_X6_init ml_X7_41 rfl (by decide) (by decide) (Nat.le_of_ble_eq_true rfl) dX7_init_97 rfl (fun r n' w hq => ?_)
  obtain ⟨rfl, rfl, hw⟩ := hq
  refine E.count (c' := 20) (s' := 192) (S' := [vr 47, vi 7, vr 29]) rfl rfl rfl ?_
  rw [hw]
  refine E.aastQ (t := 5) (ci := 6) C (by decide) rfl rfl (by decide) dX7_init_100 kd_29 (by decide) (by decide) (by decide) (by rw [ln_29]; decide) kd_47 (by decide) (by decide) (by decide) ?_
  obtain ⟨v23, hv23⟩ : ∃ z, z = upd2 v22 29 7 47 := ⟨_, rfl⟩
  refine E.heq hv23.symm ?_
  have hzv23 : Zb 47 v23 := by rw [hv23]; exact Zb.up hzv22_47 (by decide)
  have fv23_27_0 : v23 27 0 = 28 := by rw [hv23, upd2_ne _ _ _ _ _ _ (by decide)]; exact fv22_27_0
  have fv23_27_1 : v23 27 1 = 29 := by rw [hv23, upd2_ne _ _ _ _ _ _ (by decide)]; exact fv22_27_1
  refine E.iinc C dX7_init_101 rfl (by rw [hn]; decide) rfl (by decide) ?_
  refine E.lset (L' := [some (vr 27), some (vi 8)]) rfl ?_
  refine E.goto C dX7_init_104 (tgt := 82) (by decide) ?_
  refine E.iload_n C dX7_init_82 rfl rfl ?_
  refine E.bipush C dX7_init_83 (by decide) ?_
  refine E.icmp_ge C dX7_init_85 (tgt := 107) (by decide) (fun h => absurd h (by decide)) (fun _ => ?_)
  refine E.aload_n C dX7_init_88 rfl rfl ?_
  refine E.getR C fa_X7_19 rfl dX7_init_89 kd_27 (by decide) fv23_27_1 (by decide) ?_
  refine E.iload_n C dX7_init_92 rfl rfl ?_
  refine E.newO (r := 48) (n' := 48) (c' := 21) (s' := 200) C nw_X7_17 dX7_init_93 (by decide) rfl rfl rfl rfl kd_48 (fun j => hzv23 _ j (by decide)) (by rw [hX]; decide) (by rw [hX]; decide) ?_
  have hzv23_48 : Zb 48 v23 := Zb.le hzv23 (by decide)
  refine E.dupR C dX7_init_96 ?_
  refine E.callI (S := [vr 48, vi 8, vr 29]) (As := []) C hX (ok_X6_init G 48 48 v23) yf_X6_init rfl yv_X6_init ml_X7_41 rfl (by decide) (by decide) (Nat.le_of_ble_eq_true rfl) dX7_init_97 rfl (fun r n' w hq => ?_)
  obtain ⟨rfl, rfl, hw⟩ := hq
  refine E.count (c' := 21) (s' := 200) (S' := [vr 48, vi 8, vr 29]) rfl rfl rfl ?_
  rw [hw]
  refine E.aastQ (t := 5) (ci := 6) C (by decide) rfl rfl (by decide) dX7_init_100 kd_29 (by decide) (by decide) (by decide) (by rw [ln_29]; decide) kd_48 (by decide) (by decide) (by decide) ?_
  obtain ⟨v24, hv24⟩ : ∃ z, z = upd2 v23 29 8 48 := ⟨_, rfl⟩
  refine E.heq hv24.symm ?_
  have hzv24 : Zb 48 v24 := by rw [hv24]; exact Zb.up hzv23_48 (by decide)
  have fv24_27_0 : v24 27 0 = 28 := by rw [hv24, upd2_ne _ _ _ _ _ _ (by decide)]; exact fv23_27_0
  have fv24_27_1 : v24 27 1 = 29 := by rw [hv24, upd2_ne _ _ _ _ _ _ (by decide)]; exact fv23_27_1
  refine E.iinc C dX7_init_101 rfl (by rw [hn]; decide) rfl (by decide) ?_
  refine E.lset (L' := [some (vr 27), some (vi 9)]) rfl ?_
  refine E.goto C dX7_init_104 (tgt := 82) (by decide) ?_
  refine E.iload_n C dX7_init_82 rfl rfl ?_
  refine E.bipush C dX7_init_83 (by decide) ?_
  refine E.icmp_ge C dX7_init_85 (tgt := 107) (by decide) (fun h => absurd h (by decide)) (fun _ => ?_)
  refine E.aload_n C dX7_init_88 rfl rfl ?_
  refine E.getR C fa_X7_19 rfl dX7_init_89 kd_27 (by decide) fv24_27_1 (by decide) ?_
  refine E.iload_n C dX7_init_92 rfl rfl ?_
  refine E.newO (r := 49) (n' := 49) (c' := 22) (s' := 208) C nw_X7_17 dX7_init_93 (by decide) rfl rfl rfl rfl kd_49 (fun j => hzv24 _ j (by decide)) (by rw [hX]; decide) (by rw [hX]; decide) ?_
  have hzv24_49 : Zb 49 v24 := Zb.le hzv24 (by decide)
  refine E.dupR C dX7_init_96 ?_
  refine E.callI (S := [vr 49, vi 9, vr 29]) (As := []) C hX (ok_X6_init G 49 49 v24) yf_X6_init rfl yv_X6_init ml_X7_41 rfl (by decide) (by decide) (Nat.le_of_ble_eq_true rfl) dX7_init_97 rfl (fun r n' w hq => ?_)
  obtain ⟨rfl, rfl, hw⟩ := hq
  refine E.count (c' := 22) (s' := 208) (S' := [vr 49, vi 9, vr 29]) rfl rfl rfl ?_
  rw [hw]
  refine E.aastQ (t := 5) (ci := 6) C (by decide) rfl rfl (by decide) dX7_init_100 kd_29 (by decide) (by decide) (by decide) (by rw [ln_29]; decide) kd_49 (by decide) (by decide) (by decide) ?_
  obtain ⟨v25, hv25⟩ : ∃ z, z = upd2 v24 29 9 49 := ⟨_, rfl⟩
  refine E.heq hv25.symm ?_
  have hzv25 : Zb 49 v25 := by rw [hv25]; exact Zb.up hzv24_49 (by decide)
  have fv25_27_0 : v25 27 0 = 28 := by rw [hv25, upd2_ne _ _ _ _ _ _ (by decide)]; exact fv24_27_0
  have fv25_27_1 : v25 27 1 = 29 := by rw [hv25, upd2_ne _ _ _ _ _ _ (by decide)]; exact fv24_27_1
  refine E.iinc C dX7_init_101 rfl (by rw [hn]; decide) rfl (by decide) ?_
  refine E.lset (L' := [some (vr 27), some (vi 10)]) rfl ?_
  refine E.goto C dX7_init_104 (tgt := 82) (by decide) ?_
  refine E.iload_n C dX7_init_82 rfl rfl ?_
  refine E.bipush C dX7_init_83 (by decide) ?_
  refine E.icmp_ge C dX7_init_85 (tgt := 107) (by decide) (fun _ => ?_) (fun h => absurd (by decide) h)
  refine E.vret C hR dX7_init_107 (fun hi => ⟨rfl, rfl, ?_⟩)
  rw [hv25, hv24, hv23, hv22, hv21, hv20, hv19, hv18, hv17, hv16, hv15, hv14, hv13, hv12, hv11, hv10, hv9, hv8, hv7, hv6, hv5, hv4, hv3, hv2, hv1]
  rfl
def ls_X7_init_65 : List (Int × Int × Int) := [(65, 0, 66), (65, 1, 67), (65, 2, 68), (65, 3, 69), (65, 4, 0), (65, 5, 0), (65, 6, 0), (66, 0, 70), (66, 1, 71), (66, 2, 72), (66, 3, 73), (66, 4, 74), (66, 5, 75), (66, 6, 76), (66, 7, 77), (67, 0, 78), (67, 1, 79), (67, 2, 80), (67, 3, 81), (67, 4, 82), (67, 5, 83), (67, 6, 84), (67, 7, 85), (67, 8, 86), (67, 9, 87)]
set_option maxHeartbeats 4000000 in
set_option maxRecDepth 20000 in
theorem ok_X7_init_65 (G : GT) (v : VT) (hz : Zb 65 v) : MT G yX7_init cX7_init 2 none { frames := 2, cells := 22, slots := 208, locals := 40 } [vr 65] 65 v (fun r n' w => r = none ∧ n' = 87 ∧ w = updL v ls_X7_init_65) := by
  refine MT.of pn_X7_init [some (vr 65), none] 1 rfl rfl (fun X C hX hn hR hnm => ?_)
  have hin := hnm rfl
  refine E.aload_n C dX7_init_0 rfl rfl ?_
  refine E.objInit C hX ob_X7_3 ob_im ob_cd dX7_init_1 (by decide) (by decide) ?_
  refine E.aload_n C dX7_init_4 rfl rfl ?_
  refine E.bipush C dX7_init_5 (by decide) ?_
  refine E.newQ (t := 3) (Cn := RX0) (r := 66) (n' := 66) (c' := 1) (s' := 8) (m := 8) C cl_X7_9 C.2.2.2.2.2.2.2.2.2.1 (by decide) rfl dX7_init_7 (by decide) rfl rfl rfl rfl kd_66 ln_66 rfl (by decide) (fun j => hz _ j (by decide)) (by rw [hX]; decide) (by rw [hX]; decide) ?_
  have hzv_66 : Zb 66 v := Zb.le hz (by decide)
  refine E.putR C (Or.inr ⟨_, rfl⟩) fp_X7_11 rfl hin dX7_init_10 kd_65 (by decide) (by decide) (by decide) (by decide) ?_
  obtain ⟨v1, hv1⟩ : ∃ z, z = upd2 v 65 0 66 := ⟨_, rfl⟩
  refine E.heq hv1.symm ?_
  have hzv1 : Zb 66 v1 := by rw [hv1]; exact Zb.up hzv_66 (by decide)
  have fv1_65_0 : v1 65 0 = 66 := by rw [hv1]; exact upd2_same _ _ _ _
  refine E.aload_n C dX7_init_13 rfl rfl ?_
  refine E.bipush C dX7_init_14 (by decide) ?_
  refine E.newQ (t := 5) (Cn := RX6) (r := 67) (n' := 67) (c' := 2) (s' := 18) (m := 10) C cl_X7_17 C.2.2.2.2.2.2.2.2.2.2.2.1 (by decide) rfl dX7_init_16 (by decide) rfl rfl rfl rfl kd_67 ln_67 rfl (by decide) (fun j => hzv1 _ j (by decide)) (by rw [hX]; decide) (by rw [hX]; decide) ?_
  have hzv1_67 : Zb 67 v1 := Zb.le hzv1 (by decide)
  refine E.putR C (Or.inr ⟨_, rfl⟩) fp_X7_19 rfl hin dX7_init_19 kd_65 (by decide) (by decide) (by decide) (by decide) ?_
  obtain ⟨v2, hv2⟩ : ∃ z, z = upd2 v1 65 1 67 := ⟨_, rfl⟩
  refine E.heq hv2.symm ?_
  have hzv2 : Zb 67 v2 := by rw [hv2]; exact Zb.up hzv1_67 (by decide)
  have fv2_65_0 : v2 65 0 = 66 := by rw [hv2, upd2_ne _ _ _ _ _ _ (by decide)]; exact fv1_65_0
  have fv2_65_1 : v2 65 1 = 67 := by rw [hv2]; exact upd2_same _ _ _ _
  refine E.aload_n C dX7_init_22 rfl rfl ?_
  refine E.bipush C dX7_init_23 (by decide) ?_
  refine E.newA (t := 1) (ty := .int) (r := 68) (n' := 68) (c' := 3) (s' := 98) (m := 80) C rfl ac_int (by decide) rfl (fun _ _ h => h) rfl (by decide) dX7_init_25 (by decide) rfl rfl rfl rfl kd_68 ln_68 rfl (by decide) (fun j => hzv2 _ j (by decide)) (by rw [hX]; decide) (by rw [hX]; decide) ?_
  have hzv2_68 : Zb 68 v2 := Zb.le hzv2 (by decide)
  refine E.putR C (Or.inr ⟨_, rfl⟩) fp_X7_23 rfl hin dX7_init_27 kd_65 (by decide) (by decide) (by decide) (by decide) ?_
  obtain ⟨v3, hv3⟩ : ∃ z, z = upd2 v2 65 2 68 := ⟨_, rfl⟩
  refine E.heq hv3.symm ?_
  have hzv3 : Zb 68 v3 := by rw [hv3]; exact Zb.up hzv2_68 (by decide)
  have fv3_65_0 : v3 65 0 = 66 := by rw [hv3, upd2_ne _ _ _ _ _ _ (by decide)]; exact fv2_65_0
  have fv3_65_1 : v3 65 1 = 67 := by rw [hv3, upd2_ne _ _ _ _ _ _ (by decide)]; exact fv2_65_1
  refine E.aload_n C dX7_init_30 rfl rfl ?_
  refine E.bipush C dX7_init_31 (by decide) ?_
  refine E.newA (t := 1) (ty := .int) (r := 69) (n' := 69) (c' := 4) (s' := 104) (m := 6) C rfl ac_int (by decide) rfl (fun _ _ h => h) rfl (by decide) dX7_init_33 (by decide) rfl rfl rfl rfl kd_69 ln_69 rfl (by decide) (fun j => hzv3 _ j (by decide)) (by rw [hX]; decide) (by rw [hX]; decide) ?_
  have hzv3_69 : Zb 69 v3 := Zb.le hzv3 (by decide)
  refine E.putR C (Or.inr ⟨_, rfl⟩) fp_X7_27 rfl hin dX7_init_35 kd_65 (by decide) (by decide) (by decide) (by decide) ?_
  obtain ⟨v4, hv4⟩ : ∃ z, z = upd2 v3 65 3 69 := ⟨_, rfl⟩
  refine E.heq hv4.symm ?_
  have hzv4 : Zb 69 v4 := by rw [hv4]; exact Zb.up hzv3_69 (by decide)
  have fv4_65_0 : v4 65 0 = 66 := by rw [hv4, upd2_ne _ _ _ _ _ _ (by decide)]; exact fv3_65_0
  have fv4_65_1 : v4 65 1 = 67 := by rw [hv4, upd2_ne _ _ _ _ _ _ (by decide)]; exact fv3_65_1
  refine E.aload_n C dX7_init_38 rfl rfl ?_
  refine E.iconst C dX7_init_39 (by decide) ?_
  refine E.putI C fp_X7_30 rfl dX7_init_40 kd_65 (by decide) ?_
  obtain ⟨v5, hv5⟩ : ∃ z, z = upd2 v4 65 4 0 := ⟨_, rfl⟩
  refine E.heq hv5.symm ?_
  have hzv5 : Zb 69 v5 := by rw [hv5]; exact Zb.up hzv4 (by decide)
  have fv5_65_0 : v5 65 0 = 66 := by rw [hv5, upd2_ne _ _ _ _ _ _ (by decide)]; exact fv4_65_0
  have fv5_65_1 : v5 65 1 = 67 := by rw [hv5, upd2_ne _ _ _ _ _ _ (by decide)]; exact fv4_65_1
  refine E.aload_n C dX7_init_43 rfl rfl ?_
  refine E.iconst C dX7_init_44 (by decide) ?_
  refine E.putI C fp_X7_34 rfl dX7_init_45 kd_65 (by decide) ?_
  obtain ⟨v6, hv6⟩ : ∃ z, z = upd2 v5 65 5 0 := ⟨_, rfl⟩
  refine E.heq hv6.symm ?_
  have hzv6 : Zb 69 v6 := by rw [hv6]; exact Zb.up hzv5 (by decide)
  have fv6_65_0 : v6 65 0 = 66 := by rw [hv6, upd2_ne _ _ _ _ _ _ (by decide)]; exact fv5_65_0
  have fv6_65_1 : v6 65 1 = 67 := by rw [hv6, upd2_ne _ _ _ _ _ _ (by decide)]; exact fv5_65_1
  refine E.aload_n C dX7_init_48 rfl rfl ?_
  refine E.iconst C dX7_init_49 (by decide) ?_
  refine E.putI C fp_X7_37 rfl dX7_init_50 kd_65 (by decide) ?_
  obtain ⟨v7, hv7⟩ : ∃ z, z = upd2 v6 65 6 0 := ⟨_, rfl⟩
  refine E.heq hv7.symm ?_
  have hzv7 : Zb 69 v7 := by rw [hv7]; exact Zb.up hzv6 (by decide)
  have fv7_65_0 : v7 65 0 = 66 := by rw [hv7, upd2_ne _ _ _ _ _ _ (by decide)]; exact fv6_65_0
  have fv7_65_1 : v7 65 1 = 67 := by rw [hv7, upd2_ne _ _ _ _ _ _ (by decide)]; exact fv6_65_1
  refine E.iconst C dX7_init_53 (by decide) ?_
  refine E.istore_n C dX7_init_54 rfl (by rw [hn]; decide) rfl ?_
  refine E.lset (L' := [some (vr 65), some (vi 0)]) rfl ?_
  refine E.iload_n C dX7_init_55 rfl rfl ?_
  refine E.bipush C dX7_init_56 (by decide) ?_
  refine E.icmp_ge C dX7_init_58 (tgt := 80) (by decide) (fun h => absurd h (by decide)) (fun _ => ?_)
  refine E.aload_n C dX7_init_61 rfl rfl ?_
  refine E.getR C fa_X7_11 rfl dX7_init_62 kd_65 (by decide) fv7_65_0 (by decide) ?_
  refine E.iload_n C dX7_init_65 rfl rfl ?_
  refine E.newO (r := 70) (n' := 70) (c' := 5) (s' := 107) C nw_X7_9 dX7_init_66 (by decide) rfl rfl rfl rfl kd_70 (fun j => hzv7 _ j (by decide)) (by rw [hX]; decide) (by rw [hX]; decide) ?_
  have hzv7_70 : Zb 70 v7 := Zb.le hzv7 (by decide)
  refine E.dupR C dX7_init_69 ?_
  refine E.callI (S := [vr 70, vi 0, vr 66]) (As := []) C hX (ok_X0_init G 70 70 v7) yf_X0_init rfl yv_X0_init ml_X7_40 rfl (by decide) (by decide) (Nat.le_of_ble_eq_true rfl) dX7_init_70 rfl (fun r n' w hq => ?_)
  obtain ⟨rfl, rfl, hw⟩ := hq
  refine E.count (c' := 5) (s' := 107) (S' := [vr 70, vi 0, vr 66]) rfl rfl rfl ?_
  rw [hw]
  refine E.aastQ (t := 3) (ci := 0) C (by decide) rfl rfl (by decide) dX7_init_73 kd_66 (by decide) (by decide) (by decide) (by rw [ln_66]; decide) kd_70 (by decide) (by decide) (by decide) ?_
  obtain ⟨v8, hv8⟩ : ∃ z, z = upd2 v7 66 0 70 := ⟨_, rfl⟩
  refine E.heq hv8.symm ?_
  have hzv8 : Zb 70 v8 := by rw [hv8]; exact Zb.up hzv7_70 (by decide)
  have fv8_65_0 : v8 65 0 = 66 := by rw [hv8, upd2_ne _ _ _ _ _ _ (by decide)]; exact fv7_65_0
  have fv8_65_1 : v8 65 1 = 67 := by rw [hv8, upd2_ne _ _ _ _ _ _ (by decide)]; exact fv7_65_1
  refine E.iinc C dX7_init_74 rfl (by rw [hn]; decide) rfl (by decide) ?_
  refine E.lset (L' := [some (vr 65), some (vi 1)]) rfl ?_
  refine E.goto C dX7_init_77 (tgt := 55) (by decide) ?_
  refine E.iload_n C dX7_init_55 rfl rfl ?_
  refine E.bipush C dX7_init_56 (by decide) ?_
  refine E.icmp_ge C dX7_init_58 (tgt := 80) (by decide) (fun h => absurd h (by decide)) (fun _ => ?_)
  refine E.aload_n C dX7_init_61 rfl rfl ?_
  refine E.getR C fa_X7_11 rfl dX7_init_62 kd_65 (by decide) fv8_65_0 (by decide) ?_
  refine E.iload_n C dX7_init_65 rfl rfl ?_
  refine E.newO (r := 71) (n' := 71) (c' := 6) (s' := 110) C nw_X7_9 dX7_init_66 (by decide) rfl rfl rfl rfl kd_71 (fun j => hzv8 _ j (by decide)) (by rw [hX]; decide) (by rw [hX]; decide) ?_
  have hzv8_71 : Zb 71 v8 := Zb.le hzv8 (by decide)
  refine E.dupR C dX7_init_69 ?_
  refine E.callI (S := [vr 71, vi 1, vr 66]) (As := []) C hX (ok_X0_init G 71 71 v8) yf_X0_init rfl yv_X0_init ml_X7_40 rfl (by decide) (by decide) (Nat.le_of_ble_eq_true rfl) dX7_init_70 rfl (fun r n' w hq => ?_)
  obtain ⟨rfl, rfl, hw⟩ := hq
  refine E.count (c' := 6) (s' := 110) (S' := [vr 71, vi 1, vr 66]) rfl rfl rfl ?_
  rw [hw]
  refine E.aastQ (t := 3) (ci := 0) C (by decide) rfl rfl (by decide) dX7_init_73 kd_66 (by decide) (by decide) (by decide) (by rw [ln_66]; decide) kd_71 (by decide) (by decide) (by decide) ?_
  obtain ⟨v9, hv9⟩ : ∃ z, z = upd2 v8 66 1 71 := ⟨_, rfl⟩
  refine E.heq hv9.symm ?_
  have hzv9 : Zb 71 v9 := by rw [hv9]; exact Zb.up hzv8_71 (by decide)
  have fv9_65_0 : v9 65 0 = 66 := by rw [hv9, upd2_ne _ _ _ _ _ _ (by decide)]; exact fv8_65_0
  have fv9_65_1 : v9 65 1 = 67 := by rw [hv9, upd2_ne _ _ _ _ _ _ (by decide)]; exact fv8_65_1
  refine E.iinc C dX7_init_74 rfl (by rw [hn]; decide) rfl (by decide) ?_
  refine E.lset (L' := [some (vr 65), some (vi 2)]) rfl ?_
  refine E.goto C dX7_init_77 (tgt := 55) (by decide) ?_
  refine E.iload_n C dX7_init_55 rfl rfl ?_
  refine E.bipush C dX7_init_56 (by decide) ?_
  refine E.icmp_ge C dX7_init_58 (tgt := 80) (by decide) (fun h => absurd h (by decide)) (fun _ => ?_)
  refine E.aload_n C dX7_init_61 rfl rfl ?_
  refine E.getR C fa_X7_11 rfl dX7_init_62 kd_65 (by decide) fv9_65_0 (by decide) ?_
  refine E.iload_n C dX7_init_65 rfl rfl ?_
  refine E.newO (r := 72) (n' := 72) (c' := 7) (s' := 113) C nw_X7_9 dX7_init_66 (by decide) rfl rfl rfl rfl kd_72 (fun j => hzv9 _ j (by decide)) (by rw [hX]; decide) (by rw [hX]; decide) ?_
  have hzv9_72 : Zb 72 v9 := Zb.le hzv9 (by decide)
  refine E.dupR C dX7_init_69 ?_
  refine E.callI (S := [vr 72, vi 2, vr 66]) (As := []) C hX (ok_X0_init G 72 72 v9) yf_X0_init rfl yv_X0_init ml_X7_40 rfl (by decide) (by decide) (Nat.le_of_ble_eq_true rfl) dX7_init_70 rfl (fun r n' w hq => ?_)
  obtain ⟨rfl, rfl, hw⟩ := hq
  refine E.count (c' := 7) (s' := 113) (S' := [vr 72, vi 2, vr 66]) rfl rfl rfl ?_
  rw [hw]
  refine E.aastQ (t := 3) (ci := 0) C (by decide) rfl rfl (by decide) dX7_init_73 kd_66 (by decide) (by decide) (by decide) (by rw [ln_66]; decide) kd_72 (by decide) (by decide) (by decide) ?_
  obtain ⟨v10, hv10⟩ : ∃ z, z = upd2 v9 66 2 72 := ⟨_, rfl⟩
  refine E.heq hv10.symm ?_
  have hzv10 : Zb 72 v10 := by rw [hv10]; exact Zb.up hzv9_72 (by decide)
  have fv10_65_0 : v10 65 0 = 66 := by rw [hv10, upd2_ne _ _ _ _ _ _ (by decide)]; exact fv9_65_0
  have fv10_65_1 : v10 65 1 = 67 := by rw [hv10, upd2_ne _ _ _ _ _ _ (by decide)]; exact fv9_65_1
  refine E.iinc C dX7_init_74 rfl (by rw [hn]; decide) rfl (by decide) ?_
  refine E.lset (L' := [some (vr 65), some (vi 3)]) rfl ?_
  refine E.goto C dX7_init_77 (tgt := 55) (by decide) ?_
  refine E.iload_n C dX7_init_55 rfl rfl ?_
  refine E.bipush C dX7_init_56 (by decide) ?_
  refine E.icmp_ge C dX7_init_58 (tgt := 80) (by decide) (fun h => absurd h (by decide)) (fun _ => ?_)
  refine E.aload_n C dX7_init_61 rfl rfl ?_
  refine E.getR C fa_X7_11 rfl dX7_init_62 kd_65 (by decide) fv10_65_0 (by decide) ?_
  refine E.iload_n C dX7_init_65 rfl rfl ?_
  refine E.newO (r := 73) (n' := 73) (c' := 8) (s' := 116) C nw_X7_9 dX7_init_66 (by decide) rfl rfl rfl rfl kd_73 (fun j => hzv10 _ j (by decide)) (by rw [hX]; decide) (by rw [hX]; decide) ?_
  have hzv10_73 : Zb 73 v10 := Zb.le hzv10 (by decide)
  refine E.dupR C dX7_init_69 ?_
  refine E.callI (S := [vr 73, vi 3, vr 66]) (As := []) C hX (ok_X0_init G 73 73 v10) yf_X0_init rfl yv_X0_init ml_X7_40 rfl (by decide) (by decide) (Nat.le_of_ble_eq_true rfl) dX7_init_70 rfl (fun r n' w hq => ?_)
  obtain ⟨rfl, rfl, hw⟩ := hq
  refine E.count (c' := 8) (s' := 116) (S' := [vr 73, vi 3, vr 66]) rfl rfl rfl ?_
  rw [hw]
  refine E.aastQ (t := 3) (ci := 0) C (by decide) rfl rfl (by decide) dX7_init_73 kd_66 (by decide) (by decide) (by decide) (by rw [ln_66]; decide) kd_73 (by decide) (by decide) (by decide) ?_
  obtain ⟨v11, hv11⟩ : ∃ z, z = upd2 v10 66 3 73 := ⟨_, rfl⟩
  refine E.heq hv11.symm ?_
  have hzv11 : Zb 73 v11 := by rw [hv11]; exact Zb.up hzv10_73 (by decide)
  have fv11_65_0 : v11 65 0 = 66 := by rw [hv11, upd2_ne _ _ _ _ _ _ (by decide)]; exact fv10_65_0
  have fv11_65_1 : v11 65 1 = 67 := by rw [hv11, upd2_ne _ _ _ _ _ _ (by decide)]; exact fv10_65_1
  refine E.iinc C dX7_init_74 rfl (by rw [hn]; decide) rfl (by decide) ?_
  refine E.lset (L' := [some (vr 65), some (vi 4)]) rfl ?_
  refine E.goto C dX7_init_77 (tgt := 55) (by decide) ?_
  refine E.iload_n C dX7_init_55 rfl rfl ?_
  refine E.bipush C dX7_init_56 (by decide) ?_
  refine E.icmp_ge C dX7_init_58 (tgt := 80) (by decide) (fun h => absurd h (by decide)) (fun _ => ?_)
  refine E.aload_n C dX7_init_61 rfl rfl ?_
  refine E.getR C fa_X7_11 rfl dX7_init_62 kd_65 (by decide) fv11_65_0 (by decide) ?_
  refine E.iload_n C dX7_init_65 rfl rfl ?_
  refine E.newO (r := 74) (n' := 74) (c' := 9) (s' := 119) C nw_X7_9 dX7_init_66 (by decide) rfl rfl rfl rfl kd_74 (fun j => hzv11 _ j (by decide)) (by rw [hX]; decide) (by rw [hX]; decide) ?_
  have hzv11_74 : Zb 74 v11 := Zb.le hzv11 (by decide)
  refine E.dupR C dX7_init_69 ?_
  refine E.callI (S := [vr 74, vi 4, vr 66]) (As := []) C hX (ok_X0_init G 74 74 v11) yf_X0_init rfl yv_X0_init ml_X7_40 rfl (by decide) (by decide) (Nat.le_of_ble_eq_true rfl) dX7_init_70 rfl (fun r n' w hq => ?_)
  obtain ⟨rfl, rfl, hw⟩ := hq
  refine E.count (c' := 9) (s' := 119) (S' := [vr 74, vi 4, vr 66]) rfl rfl rfl ?_
  rw [hw]
  refine E.aastQ (t := 3) (ci := 0) C (by decide) rfl rfl (by decide) dX7_init_73 kd_66 (by decide) (by decide) (by decide) (by rw [ln_66]; decide) kd_74 (by decide) (by decide) (by decide) ?_
  obtain ⟨v12, hv12⟩ : ∃ z, z = upd2 v11 66 4 74 := ⟨_, rfl⟩
  refine E.heq hv12.symm ?_
  have hzv12 : Zb 74 v12 := by rw [hv12]; exact Zb.up hzv11_74 (by decide)
  have fv12_65_0 : v12 65 0 = 66 := by rw [hv12, upd2_ne _ _ _ _ _ _ (by decide)]; exact fv11_65_0
  have fv12_65_1 : v12 65 1 = 67 := by rw [hv12, upd2_ne _ _ _ _ _ _ (by decide)]; exact fv11_65_1
  refine E.iinc C dX7_init_74 rfl (by rw [hn]; decide) rfl (by decide) ?_
  refine E.lset (L' := [some (vr 65), some (vi 5)]) rfl ?_
  refine E.goto C dX7_init_77 (tgt := 55) (by decide) ?_
  refine E.iload_n C dX7_init_55 rfl rfl ?_
  refine E.bipush C dX7_init_56 (by decide) ?_
  refine E.icmp_ge C dX7_init_58 (tgt := 80) (by decide) (fun h => absurd h (by decide)) (fun _ => ?_)
  refine E.aload_n C dX7_init_61 rfl rfl ?_
  refine E.getR C fa_X7_11 rfl dX7_init_62 kd_65 (by decide) fv12_65_0 (by decide) ?_
  refine E.iload_n C dX7_init_65 rfl rfl ?_
  refine E.newO (r := 75) (n' := 75) (c' := 10) (s' := 122) C nw_X7_9 dX7_init_66 (by decide) rfl rfl rfl rfl kd_75 (fun j => hzv12 _ j (by decide)) (by rw [hX]; decide) (by rw [hX]; decide) ?_
  have hzv12_75 : Zb 75 v12 := Zb.le hzv12 (by decide)
  refine E.dupR C dX7_init_69 ?_
  refine E.callI (S := [vr 75, vi 5, vr 66]) (As := []) C hX (ok_X0_init G 75 75 v12) yf_X0_init rfl yv_X0_init ml_X7_40 rfl (by decide) (by decide) (Nat.le_of_ble_eq_true rfl) dX7_init_70 rfl (fun r n' w hq => ?_)
  obtain ⟨rfl, rfl, hw⟩ := hq
  refine E.count (c' := 10) (s' := 122) (S' := [vr 75, vi 5, vr 66]) rfl rfl rfl ?_
  rw [hw]
  refine E.aastQ (t := 3) (ci := 0) C (by decide) rfl rfl (by decide) dX7_init_73 kd_66 (by decide) (by decide) (by decide) (by rw [ln_66]; decide) kd_75 (by decide) (by decide) (by decide) ?_
  obtain ⟨v13, hv13⟩ : ∃ z, z = upd2 v12 66 5 75 := ⟨_, rfl⟩
  refine E.heq hv13.symm ?_
  have hzv13 : Zb 75 v13 := by rw [hv13]; exact Zb.up hzv12_75 (by decide)
  have fv13_65_0 : v13 65 0 = 66 := by rw [hv13, upd2_ne _ _ _ _ _ _ (by decide)]; exact fv12_65_0
  have fv13_65_1 : v13 65 1 = 67 := by rw [hv13, upd2_ne _ _ _ _ _ _ (by decide)]; exact fv12_65_1
  refine E.iinc C dX7_init_74 rfl (by rw [hn]; decide) rfl (by decide) ?_
  refine E.lset (L' := [some (vr 65), some (vi 6)]) rfl ?_
  refine E.goto C dX7_init_77 (tgt := 55) (by decide) ?_
  refine E.iload_n C dX7_init_55 rfl rfl ?_
  refine E.bipush C dX7_init_56 (by decide) ?_
  refine E.icmp_ge C dX7_init_58 (tgt := 80) (by decide) (fun h => absurd h (by decide)) (fun _ => ?_)
  refine E.aload_n C dX7_init_61 rfl rfl ?_
  refine E.getR C fa_X7_11 rfl dX7_init_62 kd_65 (by decide) fv13_65_0 (by decide) ?_
  refine E.iload_n C dX7_init_65 rfl rfl ?_
  refine E.newO (r := 76) (n' := 76) (c' := 11) (s' := 125) C nw_X7_9 dX7_init_66 (by decide) rfl rfl rfl rfl kd_76 (fun j => hzv13 _ j (by decide)) (by rw [hX]; decide) (by rw [hX]; decide) ?_
  have hzv13_76 : Zb 76 v13 := Zb.le hzv13 (by decide)
  refine E.dupR C dX7_init_69 ?_
  refine E.callI (S := [vr 76, vi 6, vr 66]) (As := []) C hX (ok_X0_init G 76 76 v13) yf_X0_init rfl yv_X0_init ml_X7_40 rfl (by decide) (by decide) (Nat.le_of_ble_eq_true rfl) dX7_init_70 rfl (fun r n' w hq => ?_)
  obtain ⟨rfl, rfl, hw⟩ := hq
  refine E.count (c' := 11) (s' := 125) (S' := [vr 76, vi 6, vr 66]) rfl rfl rfl ?_
  rw [hw]
  refine E.aastQ (t := 3) (ci := 0) C (by decide) rfl rfl (by decide) dX7_init_73 kd_66 (by decide) (by decide) (by decide) (by rw [ln_66]; decide) kd_76 (by decide) (by decide) (by decide) ?_
  obtain ⟨v14, hv14⟩ : ∃ z, z = upd2 v13 66 6 76 := ⟨_, rfl⟩
  refine E.heq hv14.symm ?_
  have hzv14 : Zb 76 v14 := by rw [hv14]; exact Zb.up hzv13_76 (by decide)
  have fv14_65_0 : v14 65 0 = 66 := by rw [hv14, upd2_ne _ _ _ _ _ _ (by decide)]; exact fv13_65_0
  have fv14_65_1 : v14 65 1 = 67 := by rw [hv14, upd2_ne _ _ _ _ _ _ (by decide)]; exact fv13_65_1
  refine E.iinc C dX7_init_74 rfl (by rw [hn]; decide) rfl (by decide) ?_
  refine E.lset (L' := [some (vr 65), some (vi 7)]) rfl ?_
  refine E.goto C dX7_init_77 (tgt := 55) (by decide) ?_
  refine E.iload_n C dX7_init_55 rfl rfl ?_
  refine E.bipush C dX7_init_56 (by decide) ?_
  refine E.icmp_ge C dX7_init_58 (tgt := 80) (by decide) (fun h => absurd h (by decide)) (fun _ => ?_)
  refine E.aload_n C dX7_init_61 rfl rfl ?_
  refine E.getR C fa_X7_11 rfl dX7_init_62 kd_65 (by decide) fv14_65_0 (by decide) ?_
  refine E.iload_n C dX7_init_65 rfl rfl ?_
  refine E.newO (r := 77) (n' := 77) (c' := 12) (s' := 128) C nw_X7_9 dX7_init_66 (by decide) rfl rfl rfl rfl kd_77 (fun j => hzv14 _ j (by decide)) (by rw [hX]; decide) (by rw [hX]; decide) ?_
  have hzv14_77 : Zb 77 v14 := Zb.le hzv14 (by decide)
  refine E.dupR C dX7_init_69 ?_
  refine E.callI (S := [vr 77, vi 7, vr 66]) (As := []) C hX (ok_X0_init G 77 77 v14) yf_X0_init rfl yv_X0_init ml_X7_40 rfl (by decide) (by decide) (Nat.le_of_ble_eq_true rfl) dX7_init_70 rfl (fun r n' w hq => ?_)
  obtain ⟨rfl, rfl, hw⟩ := hq
  refine E.count (c' := 12) (s' := 128) (S' := [vr 77, vi 7, vr 66]) rfl rfl rfl ?_
  rw [hw]
  refine E.aastQ (t := 3) (ci := 0) C (by decide) rfl rfl (by decide) dX7_init_73 kd_66 (by decide) (by decide) (by decide) (by rw [ln_66]; decide) kd_77 (by decide) (by decide) (by decide) ?_
  obtain ⟨v15, hv15⟩ : ∃ z, z = upd2 v14 66 7 77 := ⟨_, rfl⟩
  refine E.heq hv15.symm ?_
  have hzv15 : Zb 77 v15 := by rw [hv15]; exact Zb.up hzv14_77 (by decide)
  have fv15_65_0 : v15 65 0 = 66 := by rw [hv15, upd2_ne _ _ _ _ _ _ (by decide)]; exact fv14_65_0
  have fv15_65_1 : v15 65 1 = 67 := by rw [hv15, upd2_ne _ _ _ _ _ _ (by decide)]; exact fv14_65_1
  refine E.iinc C dX7_init_74 rfl (by rw [hn]; decide) rfl (by decide) ?_
  refine E.lset (L' := [some (vr 65), some (vi 8)]) rfl ?_
  refine E.goto C dX7_init_77 (tgt := 55) (by decide) ?_
  refine E.iload_n C dX7_init_55 rfl rfl ?_
  refine E.bipush C dX7_init_56 (by decide) ?_
  refine E.icmp_ge C dX7_init_58 (tgt := 80) (by decide) (fun _ => ?_) (fun h => absurd (by decide) h)
  refine E.iconst C dX7_init_80 (by decide) ?_
  refine E.istore_n C dX7_init_81 rfl (by rw [hn]; decide) rfl ?_
  refine E.lset (L' := [some (vr 65), some (vi 0)]) rfl ?_
  refine E.iload_n C dX7_init_82 rfl rfl ?_
  refine E.bipush C dX7_init_83 (by decide) ?_
  refine E.icmp_ge C dX7_init_85 (tgt := 107) (by decide) (fun h => absurd h (by decide)) (fun _ => ?_)
  refine E.aload_n C dX7_init_88 rfl rfl ?_
  refine E.getR C fa_X7_19 rfl dX7_init_89 kd_65 (by decide) fv15_65_1 (by decide) ?_
  refine E.iload_n C dX7_init_92 rfl rfl ?_
  refine E.newO (r := 78) (n' := 78) (c' := 13) (s' := 136) C nw_X7_17 dX7_init_93 (by decide) rfl rfl rfl rfl kd_78 (fun j => hzv15 _ j (by decide)) (by rw [hX]; decide) (by rw [hX]; decide) ?_
  have hzv15_78 : Zb 78 v15 := Zb.le hzv15 (by decide)
  refine E.dupR C dX7_init_96 ?_
  refine E.callI (S := [vr 78, vi 0, vr 67]) (As := []) C hX (ok_X6_init G 78 78 v15) yf_X6_init rfl yv_X6_init ml_X7_41 rfl (by decide) (by decide) (Nat.le_of_ble_eq_true rfl) dX7_init_97 rfl (fun r n' w hq => ?_)
  obtain ⟨rfl, rfl, hw⟩ := hq
  refine E.count (c' := 13) (s' := 136) (S' := [vr 78, vi 0, vr 67]) rfl rfl rfl ?_
  rw [hw]
  refine E.aastQ (t := 5) (ci := 6) C (by decide) rfl rfl (by decide) dX7_init_100 kd_67 (by decide) (by decide) (by decide) (by rw [ln_67]; decide) kd_78 (by decide) (by decide) (by decide) ?_
  obtain ⟨v16, hv16⟩ : ∃ z, z = upd2 v15 67 0 78 := ⟨_, rfl⟩
  refine E.heq hv16.symm ?_
  have hzv16 : Zb 78 v16 := by rw [hv16]; exact Zb.up hzv15_78 (by decide)
  have fv16_65_0 : v16 65 0 = 66 := by rw [hv16, upd2_ne _ _ _ _ _ _ (by decide)]; exact fv15_65_0
  have fv16_65_1 : v16 65 1 = 67 := by rw [hv16, upd2_ne _ _ _ _ _ _ (by decide)]; exact fv15_65_1
  refine E.iinc C dX7_init_101 rfl (by rw [hn]; decide) rfl (by decide) ?_
  refine E.lset (L' := [some (vr 65), some (vi 1)]) rfl ?_
  refine E.goto C dX7_init_104 (tgt := 82) (by decide) ?_
  refine E.iload_n C dX7_init_82 rfl rfl ?_
  refine E.bipush C dX7_init_83 (by decide) ?_
  refine E.icmp_ge C dX7_init_85 (tgt := 107) (by decide) (fun h => absurd h (by decide)) (fun _ => ?_)
  refine E.aload_n C dX7_init_88 rfl rfl ?_
  refine E.getR C fa_X7_19 rfl dX7_init_89 kd_65 (by decide) fv16_65_1 (by decide) ?_
  refine E.iload_n C dX7_init_92 rfl rfl ?_
  refine E.newO (r := 79) (n' := 79) (c' := 14) (s' := 144) C nw_X7_17 dX7_init_93 (by decide) rfl rfl rfl rfl kd_79 (fun j => hzv16 _ j (by decide)) (by rw [hX]; decide) (by rw [hX]; decide) ?_
  have hzv16_79 : Zb 79 v16 := Zb.le hzv16 (by decide)
  refine E.dupR C dX7_init_96 ?_
  refine E.callI (S := [vr 79, vi 1, vr 67]) (As := []) C hX (ok_X6_init G 79 79 v16) yf_X6_init rfl yv_X6_init ml_X7_41 rfl (by decide) (by decide) (Nat.le_of_ble_eq_true rfl) dX7_init_97 rfl (fun r n' w hq => ?_)
  obtain ⟨rfl, rfl, hw⟩ := hq
  refine E.count (c' := 14) (s' := 144) (S' := [vr 79, vi 1, vr 67]) rfl rfl rfl ?_
  rw [hw]
  refine E.aastQ (t := 5) (ci := 6) C (by decide) rfl rfl (by decide) dX7_init_100 kd_67 (by decide) (by decide) (by decide) (by rw [ln_67]; decide) kd_79 (by decide) (by decide) (by decide) ?_
  obtain ⟨v17, hv17⟩ : ∃ z, z = upd2 v16 67 1 79 := ⟨_, rfl⟩
  refine E.heq hv17.symm ?_
  have hzv17 : Zb 79 v17 := by rw [hv17]; exact Zb.up hzv16_79 (by decide)
  have fv17_65_0 : v17 65 0 = 66 := by rw [hv17, upd2_ne _ _ _ _ _ _ (by decide)]; exact fv16_65_0
  have fv17_65_1 : v17 65 1 = 67 := by rw [hv17, upd2_ne _ _ _ _ _ _ (by decide)]; exact fv16_65_1
  refine E.iinc C dX7_init_101 rfl (by rw [hn]; decide) rfl (by decide) ?_
  refine E.lset (L' := [some (vr 65), some (vi 2)]) rfl ?_
  refine E.goto C dX7_init_104 (tgt := 82) (by decide) ?_
  refine E.iload_n C dX7_init_82 rfl rfl ?_
  refine E.bipush C dX7_init_83 (by decide) ?_
  refine E.icmp_ge C dX7_init_85 (tgt := 107) (by decide) (fun h => absurd h (by decide)) (fun _ => ?_)
  refine E.aload_n C dX7_init_88 rfl rfl ?_
  refine E.getR C fa_X7_19 rfl dX7_init_89 kd_65 (by decide) fv17_65_1 (by decide) ?_
  refine E.iload_n C dX7_init_92 rfl rfl ?_
  refine E.newO (r := 80) (n' := 80) (c' := 15) (s' := 152) C nw_X7_17 dX7_init_93 (by decide) rfl rfl rfl rfl kd_80 (fun j => hzv17 _ j (by decide)) (by rw [hX]; decide) (by rw [hX]; decide) ?_
  have hzv17_80 : Zb 80 v17 := Zb.le hzv17 (by decide)
  refine E.dupR C dX7_init_96 ?_
  refine E.callI (S := [vr 80, vi 2, vr 67]) (As := []) C hX (ok_X6_init G 80 80 v17) yf_X6_init rfl yv_X6_init ml_X7_41 rfl (by decide) (by decide) (Nat.le_of_ble_eq_true rfl) dX7_init_97 rfl (fun r n' w hq => ?_)
  obtain ⟨rfl, rfl, hw⟩ := hq
  refine E.count (c' := 15) (s' := 152) (S' := [vr 80, vi 2, vr 67]) rfl rfl rfl ?_
  rw [hw]
  refine E.aastQ (t := 5) (ci := 6) C (by decide) rfl rfl (by decide) dX7_init_100 kd_67 (by decide) (by decide) (by decide) (by rw [ln_67]; decide) kd_80 (by decide) (by decide) (by decide) ?_
  obtain ⟨v18, hv18⟩ : ∃ z, z = upd2 v17 67 2 80 := ⟨_, rfl⟩
  refine E.heq hv18.symm ?_
  have hzv18 : Zb 80 v18 := by rw [hv18]; exact Zb.up hzv17_80 (by decide)
  have fv18_65_0 : v18 65 0 = 66 := by rw [hv18, upd2_ne _ _ _ _ _ _ (by decide)]; exact fv17_65_0
  have fv18_65_1 : v18 65 1 = 67 := by rw [hv18, upd2_ne _ _ _ _ _ _ (by decide)]; exact fv17_65_1
  refine E.iinc C dX7_init_101 rfl (by rw [hn]; decide) rfl (by decide) ?_
  refine E.lset (L' := [some (vr 65), some (vi 3)]) rfl ?_
  refine E.goto C dX7_init_104 (tgt := 82) (by decide) ?_
  refine E.iload_n C dX7_init_82 rfl rfl ?_
  refine E.bipush C dX7_init_83 (by decide) ?_
  refine E.icmp_ge C dX7_init_85 (tgt := 107) (by decide) (fun h => absurd h (by decide)) (fun _ => ?_)
  refine E.aload_n C dX7_init_88 rfl rfl ?_
  refine E.getR C fa_X7_19 rfl dX7_init_89 kd_65 (by decide) fv18_65_1 (by decide) ?_
  refine E.iload_n C dX7_init_92 rfl rfl ?_
  refine E.newO (r := 81) (n' := 81) (c' := 16) (s' := 160) C nw_X7_17 dX7_init_93 (by decide) rfl rfl rfl rfl kd_81 (fun j => hzv18 _ j (by decide)) (by rw [hX]; decide) (by rw [hX]; decide) ?_
  have hzv18_81 : Zb 81 v18 := Zb.le hzv18 (by decide)
  refine E.dupR C dX7_init_96 ?_
  refine E.callI (S := [vr 81, vi 3, vr 67]) (As := []) C hX (ok_X6_init G 81 81 v18) yf_X6_init rfl yv_X6_init ml_X7_41 rfl (by decide) (by decide) (Nat.le_of_ble_eq_true rfl) dX7_init_97 rfl (fun r n' w hq => ?_)
  obtain ⟨rfl, rfl, hw⟩ := hq
  refine E.count (c' := 16) (s' := 160) (S' := [vr 81, vi 3, vr 67]) rfl rfl rfl ?_
  rw [hw]
  refine E.aastQ (t := 5) (ci := 6) C (by decide) rfl rfl (by decide) dX7_init_100 kd_67 (by decide) (by decide) (by decide) (by rw [ln_67]; decide) kd_81 (by decide) (by decide) (by decide) ?_
  obtain ⟨v19, hv19⟩ : ∃ z, z = upd2 v18 67 3 81 := ⟨_, rfl⟩
  refine E.heq hv19.symm ?_
  have hzv19 : Zb 81 v19 := by rw [hv19]; exact Zb.up hzv18_81 (by decide)
  have fv19_65_0 : v19 65 0 = 66 := by rw [hv19, upd2_ne _ _ _ _ _ _ (by decide)]; exact fv18_65_0
  have fv19_65_1 : v19 65 1 = 67 := by rw [hv19, upd2_ne _ _ _ _ _ _ (by decide)]; exact fv18_65_1
  refine E.iinc C dX7_init_101 rfl (by rw [hn]; decide) rfl (by decide) ?_
  refine E.lset (L' := [some (vr 65), some (vi 4)]) rfl ?_
  refine E.goto C dX7_init_104 (tgt := 82) (by decide) ?_
  refine E.iload_n C dX7_init_82 rfl rfl ?_
  refine E.bipush C dX7_init_83 (by decide) ?_
  refine E.icmp_ge C dX7_init_85 (tgt := 107) (by decide) (fun h => absurd h (by decide)) (fun _ => ?_)
  refine E.aload_n C dX7_init_88 rfl rfl ?_
  refine E.getR C fa_X7_19 rfl dX7_init_89 kd_65 (by decide) fv19_65_1 (by decide) ?_
  refine E.iload_n C dX7_init_92 rfl rfl ?_
  refine E.newO (r := 82) (n' := 82) (c' := 17) (s' := 168) C nw_X7_17 dX7_init_93 (by decide) rfl rfl rfl rfl kd_82 (fun j => hzv19 _ j (by decide)) (by rw [hX]; decide) (by rw [hX]; decide) ?_
  have hzv19_82 : Zb 82 v19 := Zb.le hzv19 (by decide)
  refine E.dupR C dX7_init_96 ?_
  refine E.callI (S := [vr 82, vi 4, vr 67]) (As := []) C hX (ok_X6_init G 82 82 v19) yf_X6_init rfl yv_X6_init ml_X7_41 rfl (by decide) (by decide) (Nat.le_of_ble_eq_true rfl) dX7_init_97 rfl (fun r n' w hq => ?_)
  obtain ⟨rfl, rfl, hw⟩ := hq
  refine E.count (c' := 17) (s' := 168) (S' := [vr 82, vi 4, vr 67]) rfl rfl rfl ?_
  rw [hw]
  refine E.aastQ (t := 5) (ci := 6) C (by decide) rfl rfl (by decide) dX7_init_100 kd_67 (by decide) (by decide) (by decide) (by rw [ln_67]; decide) kd_82 (by decide) (by decide) (by decide) ?_
  obtain ⟨v20, hv20⟩ : ∃ z, z = upd2 v19 67 4 82 := ⟨_, rfl⟩
  refine E.heq hv20.symm ?_
  have hzv20 : Zb 82 v20 := by rw [hv20]; exact Zb.up hzv19_82 (by decide)
  have fv20_65_0 : v20 65 0 = 66 := by rw [hv20, upd2_ne _ _ _ _ _ _ (by decide)]; exact fv19_65_0
  have fv20_65_1 : v20 65 1 = 67 := by rw [hv20, upd2_ne _ _ _ _ _ _ (by decide)]; exact fv19_65_1
  refine E.iinc C dX7_init_101 rfl (by rw [hn]; decide) rfl (by decide) ?_
  refine E.lset (L' := [some (vr 65), some (vi 5)]) rfl ?_
  refine E.goto C dX7_init_104 (tgt := 82) (by decide) ?_
  refine E.iload_n C dX7_init_82 rfl rfl ?_
  refine E.bipush C dX7_init_83 (by decide) ?_
  refine E.icmp_ge C dX7_init_85 (tgt := 107) (by decide) (fun h => absurd h (by decide)) (fun _ => ?_)
  refine E.aload_n C dX7_init_88 rfl rfl ?_
  refine E.getR C fa_X7_19 rfl dX7_init_89 kd_65 (by decide) fv20_65_1 (by decide) ?_
  refine E.iload_n C dX7_init_92 rfl rfl ?_
  refine E.newO (r := 83) (n' := 83) (c' := 18) (s' := 176) C nw_X7_17 dX7_init_93 (by decide) rfl rfl rfl rfl kd_83 (fun j => hzv20 _ j (by decide)) (by rw [hX]; decide) (by rw [hX]; decide) ?_
  have hzv20_83 : Zb 83 v20 := Zb.le hzv20 (by decide)
  refine E.dupR C dX7_init_96 ?_
  refine E.callI (S := [vr 83, vi 5, vr 67]) (As := []) C hX (ok_X6_init G 83 83 v20) yf_X6_init rfl yv_X6_init ml_X7_41 rfl (by decide) (by decide) (Nat.le_of_ble_eq_true rfl) dX7_init_97 rfl (fun r n' w hq => ?_)
  obtain ⟨rfl, rfl, hw⟩ := hq
  refine E.count (c' := 18) (s' := 176) (S' := [vr 83, vi 5, vr 67]) rfl rfl rfl ?_
  rw [hw]
  refine E.aastQ (t := 5) (ci := 6) C (by decide) rfl rfl (by decide) dX7_init_100 kd_67 (by decide) (by decide) (by decide) (by rw [ln_67]; decide) kd_83 (by decide) (by decide) (by decide) ?_
  obtain ⟨v21, hv21⟩ : ∃ z, z = upd2 v20 67 5 83 := ⟨_, rfl⟩
  refine E.heq hv21.symm ?_
  have hzv21 : Zb 83 v21 := by rw [hv21]; exact Zb.up hzv20_83 (by decide)
  have fv21_65_0 : v21 65 0 = 66 := by rw [hv21, upd2_ne _ _ _ _ _ _ (by decide)]; exact fv20_65_0
  have fv21_65_1 : v21 65 1 = 67 := by rw [hv21, upd2_ne _ _ _ _ _ _ (by decide)]; exact fv20_65_1
  refine E.iinc C dX7_init_101 rfl (by rw [hn]; decide) rfl (by decide) ?_
  refine E.lset (L' := [some (vr 65), some (vi 6)]) rfl ?_
  refine E.goto C dX7_init_104 (tgt := 82) (by decide) ?_
  refine E.iload_n C dX7_init_82 rfl rfl ?_
  refine E.bipush C dX7_init_83 (by decide) ?_
  refine E.icmp_ge C dX7_init_85 (tgt := 107) (by decide) (fun h => absurd h (by decide)) (fun _ => ?_)
  refine E.aload_n C dX7_init_88 rfl rfl ?_
  refine E.getR C fa_X7_19 rfl dX7_init_89 kd_65 (by decide) fv21_65_1 (by decide) ?_
  refine E.iload_n C dX7_init_92 rfl rfl ?_
  refine E.newO (r := 84) (n' := 84) (c' := 19) (s' := 184) C nw_X7_17 dX7_init_93 (by decide) rfl rfl rfl rfl kd_84 (fun j => hzv21 _ j (by decide)) (by rw [hX]; decide) (by rw [hX]; decide) ?_
  have hzv21_84 : Zb 84 v21 := Zb.le hzv21 (by decide)
  refine E.dupR C dX7_init_96 ?_
  refine E.callI (S := [vr 84, vi 6, vr 67]) (As := []) C hX (ok_X6_init G 84 84 v21) yf_X6_init rfl yv_X6_init ml_X7_41 rfl (by decide) (by decide) (Nat.le_of_ble_eq_true rfl) dX7_init_97 rfl (fun r n' w hq => ?_)
  obtain ⟨rfl, rfl, hw⟩ := hq
  refine E.count (c' := 19) (s' := 184) (S' := [vr 84, vi 6, vr 67]) rfl rfl rfl ?_
  rw [hw]
  refine E.aastQ (t := 5) (ci := 6) C (by decide) rfl rfl (by decide) dX7_init_100 kd_67 (by decide) (by decide) (by decide) (by rw [ln_67]; decide) kd_84 (by decide) (by decide) (by decide) ?_
  obtain ⟨v22, hv22⟩ : ∃ z, z = upd2 v21 67 6 84 := ⟨_, rfl⟩
  refine E.heq hv22.symm ?_
  have hzv22 : Zb 84 v22 := by rw [hv22]; exact Zb.up hzv21_84 (by decide)
  have fv22_65_0 : v22 65 0 = 66 := by rw [hv22, upd2_ne _ _ _ _ _ _ (by decide)]; exact fv21_65_0
  have fv22_65_1 : v22 65 1 = 67 := by rw [hv22, upd2_ne _ _ _ _ _ _ (by decide)]; exact fv21_65_1
  refine E.iinc C dX7_init_101 rfl (by rw [hn]; decide) rfl (by decide) ?_
  refine E.lset (L' := [some (vr 65), some (vi 7)]) rfl ?_
  refine E.goto C dX7_init_104 (tgt := 82) (by decide) ?_
  refine E.iload_n C dX7_init_82 rfl rfl ?_
  refine E.bipush C dX7_init_83 (by decide) ?_
  refine E.icmp_ge C dX7_init_85 (tgt := 107) (by decide) (fun h => absurd h (by decide)) (fun _ => ?_)
  refine E.aload_n C dX7_init_88 rfl rfl ?_
  refine E.getR C fa_X7_19 rfl dX7_init_89 kd_65 (by decide) fv22_65_1 (by decide) ?_
  refine E.iload_n C dX7_init_92 rfl rfl ?_
  refine E.newO (r := 85) (n' := 85) (c' := 20) (s' := 192) C nw_X7_17 dX7_init_93 (by decide) rfl rfl rfl rfl kd_85 (fun j => hzv22 _ j (by decide)) (by rw [hX]; decide) (by rw [hX]; decide) ?_
  have hzv22_85 : Zb 85 v22 := Zb.le hzv22 (by decide)
  refine E.dupR C dX7_init_96 ?_
  refine E.callI (S := [vr 85, vi 7, vr 67]) (As := []) C hX (ok_X6_init G 85 85 v22) yf_X6_init rfl yv_X6_init ml_X7_41 rfl (by decide) (by decide) (Nat.le_of_ble_eq_true rfl) dX7_init_97 rfl (fun r n' w hq => ?_)
  obtain ⟨rfl, rfl, hw⟩ := hq
  refine E.count (c' := 20) (s' := 192) (S' := [vr 85, vi 7, vr 67]) rfl rfl rfl ?_
  rw [hw]
  refine E.aastQ (t := 5) (ci := 6) C (by decide) rfl rfl (by decide) dX7_init_100 kd_67 (by decide) (by decide) (by decide) (by rw [ln_67]; decide) kd_85 (by decide) (by decide) (by decide) ?_
  obtain ⟨v23, hv23⟩ : ∃ z, z = upd2 v22 67 7 85 := ⟨_, rfl⟩
  refine E.heq hv23.symm ?_
  have hzv23 : Zb 85 v23 := by rw [hv23]; exact Zb.up hzv22_85 (by decide)
  have fv23_65_0 : v23 65 0 = 66 := by rw [hv23, upd2_ne _ _ _ _ _ _ (by decide)]; exact fv22_65_0
  have fv23_65_1 : v23 65 1 = 67 := by rw [hv23, upd2_ne _ _ _ _ _ _ (by decide)]; exact fv22_65_1
  refine E.iinc C dX7_init_101 rfl (by rw [hn]; decide) rfl (by decide) ?_
  refine E.lset (L' := [some (vr 65), some (vi 8)]) rfl ?_
  refine E.goto C dX7_init_104 (tgt := 82) (by decide) ?_
  refine E.iload_n C dX7_init_82 rfl rfl ?_
  refine E.bipush C dX7_init_83 (by decide) ?_
  refine E.icmp_ge C dX7_init_85 (tgt := 107) (by decide) (fun h => absurd h (by decide)) (fun _ => ?_)
  refine E.aload_n C dX7_init_88 rfl rfl ?_
  refine E.getR C fa_X7_19 rfl dX7_init_89 kd_65 (by decide) fv23_65_1 (by decide) ?_
  refine E.iload_n C dX7_init_92 rfl rfl ?_
  refine E.newO (r := 86) (n' := 86) (c' := 21) (s' := 200) C nw_X7_17 dX7_init_93 (by decide) rfl rfl rfl rfl kd_86 (fun j => hzv23 _ j (by decide)) (by rw [hX]; decide) (by rw [hX]; decide) ?_
  have hzv23_86 : Zb 86 v23 := Zb.le hzv23 (by decide)
  refine E.dupR C dX7_init_96 ?_
  refine E.callI (S := [vr 86, vi 8, vr 67]) (As := []) C hX (ok_X6_init G 86 86 v23) yf_X6_init rfl yv_X6_init ml_X7_41 rfl (by decide) (by decide) (Nat.le_of_ble_eq_true rfl) dX7_init_97 rfl (fun r n' w hq => ?_)
  obtain ⟨rfl, rfl, hw⟩ := hq
  refine E.count (c' := 21) (s' := 200) (S' := [vr 86, vi 8, vr 67]) rfl rfl rfl ?_
  rw [hw]
  refine E.aastQ (t := 5) (ci := 6) C (by decide) rfl rfl (by decide) dX7_init_100 kd_67 (by decide) (by decide) (by decide) (by rw [ln_67]; decide) kd_86 (by decide) (by decide) (by decide) ?_
  obtain ⟨v24, hv24⟩ : ∃ z, z = upd2 v23 67 8 86 := ⟨_, rfl⟩
  refine E.heq hv24.symm ?_
  have hzv24 : Zb 86 v24 := by rw [hv24]; exact Zb.up hzv23_86 (by decide)
  have fv24_65_0 : v24 65 0 = 66 := by rw [hv24, upd2_ne _ _ _ _ _ _ (by decide)]; exact fv23_65_0
  have fv24_65_1 : v24 65 1 = 67 := by rw [hv24, upd2_ne _ _ _ _ _ _ (by decide)]; exact fv23_65_1
  refine E.iinc C dX7_init_101 rfl (by rw [hn]; decide) rfl (by decide) ?_
  refine E.lset (L' := [some (vr 65), some (vi 9)]) rfl ?_
  refine E.goto C dX7_init_104 (tgt := 82) (by decide) ?_
  refine E.iload_n C dX7_init_82 rfl rfl ?_
  refine E.bipush C dX7_init_83 (by decide) ?_
  refine E.icmp_ge C dX7_init_85 (tgt := 107) (by decide) (fun h => absurd h (by decide)) (fun _ => ?_)
  refine E.aload_n C dX7_init_88 rfl rfl ?_
  refine E.getR C fa_X7_19 rfl dX7_init_89 kd_65 (by decide) fv24_65_1 (by decide) ?_
  refine E.iload_n C dX7_init_92 rfl rfl ?_
  refine E.newO (r := 87) (n' := 87) (c' := 22) (s' := 208) C nw_X7_17 dX7_init_93 (by decide) rfl rfl rfl rfl kd_87 (fun j => hzv24 _ j (by decide)) (by rw [hX]; decide) (by rw [hX]; decide) ?_
  have hzv24_87 : Zb 87 v24 := Zb.le hzv24 (by decide)
  refine E.dupR C dX7_init_96 ?_
  refine E.callI (S := [vr 87, vi 9, vr 67]) (As := []) C hX (ok_X6_init G 87 87 v24) yf_X6_init rfl yv_X6_init ml_X7_41 rfl (by decide) (by decide) (Nat.le_of_ble_eq_true rfl) dX7_init_97 rfl (fun r n' w hq => ?_)
  obtain ⟨rfl, rfl, hw⟩ := hq
  refine E.count (c' := 22) (s' := 208) (S' := [vr 87, vi 9, vr 67]) rfl rfl rfl ?_
  rw [hw]
  refine E.aastQ (t := 5) (ci := 6) C (by decide) rfl rfl (by decide) dX7_init_100 kd_67 (by decide) (by decide) (by decide) (by rw [ln_67]; decide) kd_87 (by decide) (by decide) (by decide) ?_
  obtain ⟨v25, hv25⟩ : ∃ z, z = upd2 v24 67 9 87 := ⟨_, rfl⟩
  refine E.heq hv25.symm ?_
  have hzv25 : Zb 87 v25 := by rw [hv25]; exact Zb.up hzv24_87 (by decide)
  have fv25_65_0 : v25 65 0 = 66 := by rw [hv25, upd2_ne _ _ _ _ _ _ (by decide)]; exact fv24_65_0
  have fv25_65_1 : v25 65 1 = 67 := by rw [hv25, upd2_ne _ _ _ _ _ _ (by decide)]; exact fv24_65_1
  refine E.iinc C dX7_init_101 rfl (by rw [hn]; decide) rfl (by decide) ?_
  refine E.lset (L' := [some (vr 65), some (vi 10)]) rfl ?_
  refine E.goto C dX7_init_104 (tgt := 82) (by decide) ?_
  refine E.iload_n C dX7_init_82 rfl rfl ?_
  refine E.bipush C dX7_init_83 (by decide) ?_
  refine E.icmp_ge C dX7_init_85 (tgt := 107) (by decide) (fun _ => ?_) (fun h => absurd (by decide) h)
  refine E.vret C hR dX7_init_107 (fun hi => ⟨rfl, rfl, ?_⟩)
  rw [hv25, hv24, hv23, hv22, hv21, hv20, hv19, hv18, hv17, hv16, hv15, hv14, hv13, hv12, hv11, hv10, hv9, hv8, hv7, hv6, hv5, hv4, hv3, hv2, hv1]
  rfl
def ls_X7_init_88 : List (Int × Int × Int) := [(88, 0, 89), (88, 1, 90), (88, 2, 91), (88, 3, 92), (88, 4, 0), (88, 5, 0), (88, 6, 0), (89, 0, 93), (89, 1, 94), (89, 2, 95), (89, 3, 96), (89, 4, 97), (89, 5, 98), (89, 6, 99), (89, 7, 100), (90, 0, 101), (90, 1, 102), (90, 2, 103), (90, 3, 104), (90, 4, 105), (90, 5, 106), (90, 6, 107), (90, 7, 108), (90, 8, 109), (90, 9, 110)]
set_option maxHeartbeats 4000000 in
set_option maxRecDepth 20000 in
theorem ok_X7_init_88 (G : GT) (v : VT) (hz : Zb 88 v) : MT G yX7_init cX7_init 2 none { frames := 2, cells := 22, slots := 208, locals := 40 } [vr 88] 88 v (fun r n' w => r = none ∧ n' = 110 ∧ w = updL v ls_X7_init_88) := by
  refine MT.of pn_X7_init [some (vr 88), none] 1 rfl rfl (fun X C hX hn hR hnm => ?_)
  have hin := hnm rfl
  refine E.aload_n C dX7_init_0 rfl rfl ?_
  refine E.objInit C hX ob_X7_3 ob_im ob_cd dX7_init_1 (by decide) (by decide) ?_
  refine E.aload_n C dX7_init_4 rfl rfl ?_
  refine E.bipush C dX7_init_5 (by decide) ?_
  refine E.newQ (t := 3) (Cn := RX0) (r := 89) (n' := 89) (c' := 1) (s' := 8) (m := 8) C cl_X7_9 C.2.2.2.2.2.2.2.2.2.1 (by decide) rfl dX7_init_7 (by decide) rfl rfl rfl rfl kd_89 ln_89 rfl (by decide) (fun j => hz _ j (by decide)) (by rw [hX]; decide) (by rw [hX]; decide) ?_
  have hzv_89 : Zb 89 v := Zb.le hz (by decide)
  refine E.putR C (Or.inr ⟨_, rfl⟩) fp_X7_11 rfl hin dX7_init_10 kd_88 (by decide) (by decide) (by decide) (by decide) ?_
  obtain ⟨v1, hv1⟩ : ∃ z, z = upd2 v 88 0 89 := ⟨_, rfl⟩
  refine E.heq hv1.symm ?_
  have hzv1 : Zb 89 v1 := by rw [hv1]; exact Zb.up hzv_89 (by decide)
  have fv1_88_0 : v1 88 0 = 89 := by rw [hv1]; exact upd2_same _ _ _ _
  refine E.aload_n C dX7_init_13 rfl rfl ?_
  refine E.bipush C dX7_init_14 (by decide) ?_
  refine E.newQ (t := 5) (Cn := RX6) (r := 90) (n' := 90) (c' := 2) (s' := 18) (m := 10) C cl_X7_17 C.2.2.2.2.2.2.2.2.2.2.2.1 (by decide) rfl dX7_init_16 (by decide) rfl rfl rfl rfl kd_90 ln_90 rfl (by decide) (fun j => hzv1 _ j (by decide)) (by rw [hX]; decide) (by rw [hX]; decide) ?_
  have hzv1_90 : Zb 90 v1 := Zb.le hzv1 (by decide)
  refine E.putR C (Or.inr ⟨_, rfl⟩) fp_X7_19 rfl hin dX7_init_19 kd_88 (by decide) (by decide) (by decide) (by decide) ?_
  obtain ⟨v2, hv2⟩ : ∃ z, z = upd2 v1 88 1 90 := ⟨_, rfl⟩
  refine E.heq hv2.symm ?_
  have hzv2 : Zb 90 v2 := by rw [hv2]; exact Zb.up hzv1_90 (by decide)
  have fv2_88_0 : v2 88 0 = 89 := by rw [hv2, upd2_ne _ _ _ _ _ _ (by decide)]; exact fv1_88_0
  have fv2_88_1 : v2 88 1 = 90 := by rw [hv2]; exact upd2_same _ _ _ _
  refine E.aload_n C dX7_init_22 rfl rfl ?_
  refine E.bipush C dX7_init_23 (by decide) ?_
  refine E.newA (t := 1) (ty := .int) (r := 91) (n' := 91) (c' := 3) (s' := 98) (m := 80) C rfl ac_int (by decide) rfl (fun _ _ h => h) rfl (by decide) dX7_init_25 (by decide) rfl rfl rfl rfl kd_91 ln_91 rfl (by decide) (fun j => hzv2 _ j (by decide)) (by rw [hX]; decide) (by rw [hX]; decide) ?_
  have hzv2_91 : Zb 91 v2 := Zb.le hzv2 (by decide)
  refine E.putR C (Or.inr ⟨_, rfl⟩) fp_X7_23 rfl hin dX7_init_27 kd_88 (by decide) (by decide) (by decide) (by decide) ?_
  obtain ⟨v3, hv3⟩ : ∃ z, z = upd2 v2 88 2 91 := ⟨_, rfl⟩
  refine E.heq hv3.symm ?_
  have hzv3 : Zb 91 v3 := by rw [hv3]; exact Zb.up hzv2_91 (by decide)
  have fv3_88_0 : v3 88 0 = 89 := by rw [hv3, upd2_ne _ _ _ _ _ _ (by decide)]; exact fv2_88_0
  have fv3_88_1 : v3 88 1 = 90 := by rw [hv3, upd2_ne _ _ _ _ _ _ (by decide)]; exact fv2_88_1
  refine E.aload_n C dX7_init_30 rfl rfl ?_
  refine E.bipush C dX7_init_31 (by decide) ?_
  refine E.newA (t := 1) (ty := .int) (r := 92) (n' := 92) (c' := 4) (s' := 104) (m := 6) C rfl ac_int (by decide) rfl (fun _ _ h => h) rfl (by decide) dX7_init_33 (by decide) rfl rfl rfl rfl kd_92 ln_92 rfl (by decide) (fun j => hzv3 _ j (by decide)) (by rw [hX]; decide) (by rw [hX]; decide) ?_
  have hzv3_92 : Zb 92 v3 := Zb.le hzv3 (by decide)
  refine E.putR C (Or.inr ⟨_, rfl⟩) fp_X7_27 rfl hin dX7_init_35 kd_88 (by decide) (by decide) (by decide) (by decide) ?_
  obtain ⟨v4, hv4⟩ : ∃ z, z = upd2 v3 88 3 92 := ⟨_, rfl⟩
  refine E.heq hv4.symm ?_
  have hzv4 : Zb 92 v4 := by rw [hv4]; exact Zb.up hzv3_92 (by decide)
  have fv4_88_0 : v4 88 0 = 89 := by rw [hv4, upd2_ne _ _ _ _ _ _ (by decide)]; exact fv3_88_0
  have fv4_88_1 : v4 88 1 = 90 := by rw [hv4, upd2_ne _ _ _ _ _ _ (by decide)]; exact fv3_88_1
  refine E.aload_n C dX7_init_38 rfl rfl ?_
  refine E.iconst C dX7_init_39 (by decide) ?_
  refine E.putI C fp_X7_30 rfl dX7_init_40 kd_88 (by decide) ?_
  obtain ⟨v5, hv5⟩ : ∃ z, z = upd2 v4 88 4 0 := ⟨_, rfl⟩
  refine E.heq hv5.symm ?_
  have hzv5 : Zb 92 v5 := by rw [hv5]; exact Zb.up hzv4 (by decide)
  have fv5_88_0 : v5 88 0 = 89 := by rw [hv5, upd2_ne _ _ _ _ _ _ (by decide)]; exact fv4_88_0
  have fv5_88_1 : v5 88 1 = 90 := by rw [hv5, upd2_ne _ _ _ _ _ _ (by decide)]; exact fv4_88_1
  refine E.aload_n C dX7_init_43 rfl rfl ?_
  refine E.iconst C dX7_init_44 (by decide) ?_
  refine E.putI C fp_X7_34 rfl dX7_init_45 kd_88 (by decide) ?_
  obtain ⟨v6, hv6⟩ : ∃ z, z = upd2 v5 88 5 0 := ⟨_, rfl⟩
  refine E.heq hv6.symm ?_
  have hzv6 : Zb 92 v6 := by rw [hv6]; exact Zb.up hzv5 (by decide)
  have fv6_88_0 : v6 88 0 = 89 := by rw [hv6, upd2_ne _ _ _ _ _ _ (by decide)]; exact fv5_88_0
  have fv6_88_1 : v6 88 1 = 90 := by rw [hv6, upd2_ne _ _ _ _ _ _ (by decide)]; exact fv5_88_1
  refine E.aload_n C dX7_init_48 rfl rfl ?_
  refine E.iconst C dX7_init_49 (by decide) ?_
  refine E.putI C fp_X7_37 rfl dX7_init_50 kd_88 (by decide) ?_
  obtain ⟨v7, hv7⟩ : ∃ z, z = upd2 v6 88 6 0 := ⟨_, rfl⟩
  refine E.heq hv7.symm ?_
  have hzv7 : Zb 92 v7 := by rw [hv7]; exact Zb.up hzv6 (by decide)
  have fv7_88_0 : v7 88 0 = 89 := by rw [hv7, upd2_ne _ _ _ _ _ _ (by decide)]; exact fv6_88_0
  have fv7_88_1 : v7 88 1 = 90 := by rw [hv7, upd2_ne _ _ _ _ _ _ (by decide)]; exact fv6_88_1
  refine E.iconst C dX7_init_53 (by decide) ?_
  refine E.istore_n C dX7_init_54 rfl (by rw [hn]; decide) rfl ?_
  refine E.lset (L' := [some (vr 88), some (vi 0)]) rfl ?_
  refine E.iload_n C dX7_init_55 rfl rfl ?_
  refine E.bipush C dX7_init_56 (by decide) ?_
  refine E.icmp_ge C dX7_init_58 (tgt := 80) (by decide) (fun h => absurd h (by decide)) (fun _ => ?_)
  refine E.aload_n C dX7_init_61 rfl rfl ?_
  refine E.getR C fa_X7_11 rfl dX7_init_62 kd_88 (by decide) fv7_88_0 (by decide) ?_
  refine E.iload_n C dX7_init_65 rfl rfl ?_
  refine E.newO (r := 93) (n' := 93) (c' := 5) (s' := 107) C nw_X7_9 dX7_init_66 (by decide) rfl rfl rfl rfl kd_93 (fun j => hzv7 _ j (by decide)) (by rw [hX]; decide) (by rw [hX]; decide) ?_
  have hzv7_93 : Zb 93 v7 := Zb.le hzv7 (by decide)
  refine E.dupR C dX7_init_69 ?_
  refine E.callI (S := [vr 93, vi 0, vr 89]) (As := []) C hX (ok_X0_init G 93 93 v7) yf_X0_init rfl yv_X0_init ml_X7_40 rfl (by decide) (by decide) (Nat.le_of_ble_eq_true rfl) dX7_init_70 rfl (fun r n' w hq => ?_)
  obtain ⟨rfl, rfl, hw⟩ := hq
  refine E.count (c' := 5) (s' := 107) (S' := [vr 93, vi 0, vr 89]) rfl rfl rfl ?_
  rw [hw]
  refine E.aastQ (t := 3) (ci := 0) C (by decide) rfl rfl (by decide) dX7_init_73 kd_89 (by decide) (by decide) (by decide) (by rw [ln_89]; decide) kd_93 (by decide) (by decide) (by decide) ?_
  obtain ⟨v8, hv8⟩ : ∃ z, z = upd2 v7 89 0 93 := ⟨_, rfl⟩
  refine E.heq hv8.symm ?_
  have hzv8 : Zb 93 v8 := by rw [hv8]; exact Zb.up hzv7_93 (by decide)
  have fv8_88_0 : v8 88 0 = 89 := by rw [hv8, upd2_ne _ _ _ _ _ _ (by decide)]; exact fv7_88_0
  have fv8_88_1 : v8 88 1 = 90 := by rw [hv8, upd2_ne _ _ _ _ _ _ (by decide)]; exact fv7_88_1
  refine E.iinc C dX7_init_74 rfl (by rw [hn]; decide) rfl (by decide) ?_
  refine E.lset (L' := [some (vr 88), some (vi 1)]) rfl ?_
  refine E.goto C dX7_init_77 (tgt := 55) (by decide) ?_
  refine E.iload_n C dX7_init_55 rfl rfl ?_
  refine E.bipush C dX7_init_56 (by decide) ?_
  refine E.icmp_ge C dX7_init_58 (tgt := 80) (by decide) (fun h => absurd h (by decide)) (fun _ => ?_)
  refine E.aload_n C dX7_init_61 rfl rfl ?_
  refine E.getR C fa_X7_11 rfl dX7_init_62 kd_88 (by decide) fv8_88_0 (by decide) ?_
  refine E.iload_n C dX7_init_65 rfl rfl ?_
  refine E.newO (r := 94) (n' := 94) (c' := 6) (s' := 110) C nw_X7_9 dX7_init_66 (by decide) rfl rfl rfl rfl kd_94 (fun j => hzv8 _ j (by decide)) (by rw [hX]; decide) (by rw [hX]; decide) ?_
  have hzv8_94 : Zb 94 v8 := Zb.le hzv8 (by decide)
  refine E.dupR C dX7_init_69 ?_
  refine E.callI (S := [vr 94, vi 1, vr 89]) (As := []) C hX (ok_X0_init G 94 94 v8) yf_X0_init rfl yv_X0_init ml_X7_40 rfl (by decide) (by decide) (Nat.le_of_ble_eq_true rfl) dX7_init_70 rfl (fun r n' w hq => ?_)
  obtain ⟨rfl, rfl, hw⟩ := hq
  refine E.count (c' := 6) (s' := 110) (S' := [vr 94, vi 1, vr 89]) rfl rfl rfl ?_
  rw [hw]
  refine E.aastQ (t := 3) (ci := 0) C (by decide) rfl rfl (by decide) dX7_init_73 kd_89 (by decide) (by decide) (by decide) (by rw [ln_89]; decide) kd_94 (by decide) (by decide) (by decide) ?_
  obtain ⟨v9, hv9⟩ : ∃ z, z = upd2 v8 89 1 94 := ⟨_, rfl⟩
  refine E.heq hv9.symm ?_
  have hzv9 : Zb 94 v9 := by rw [hv9]; exact Zb.up hzv8_94 (by decide)
  have fv9_88_0 : v9 88 0 = 89 := by rw [hv9, upd2_ne _ _ _ _ _ _ (by decide)]; exact fv8_88_0
  have fv9_88_1 : v9 88 1 = 90 := by rw [hv9, upd2_ne _ _ _ _ _ _ (by decide)]; exact fv8_88_1
  refine E.iinc C dX7_init_74 rfl (by rw [hn]; decide) rfl (by decide) ?_
  refine E.lset (L' := [some (vr 88), some (vi 2)]) rfl ?_
  refine E.goto C dX7_init_77 (tgt := 55) (by decide) ?_
  refine E.iload_n C dX7_init_55 rfl rfl ?_
  refine E.bipush C dX7_init_56 (by decide) ?_
  refine E.icmp_ge C dX7_init_58 (tgt := 80) (by decide) (fun h => absurd h (by decide)) (fun _ => ?_)
  refine E.aload_n C dX7_init_61 rfl rfl ?_
  refine E.getR C fa_X7_11 rfl dX7_init_62 kd_88 (by decide) fv9_88_0 (by decide) ?_
  refine E.iload_n C dX7_init_65 rfl rfl ?_
  refine E.newO (r := 95) (n' := 95) (c' := 7) (s' := 113) C nw_X7_9 dX7_init_66 (by decide) rfl rfl rfl rfl kd_95 (fun j => hzv9 _ j (by decide)) (by rw [hX]; decide) (by rw [hX]; decide) ?_
  have hzv9_95 : Zb 95 v9 := Zb.le hzv9 (by decide)
  refine E.dupR C dX7_init_69 ?_
  refine E.callI (S := [vr 95, vi 2, vr 89]) (As := []) C hX (ok_X0_init G 95 95 v9) yf_X0_init rfl yv_X0_init ml_X7_40 rfl (by decide) (by decide) (Nat.le_of_ble_eq_true rfl) dX7_init_70 rfl (fun r n' w hq => ?_)
  obtain ⟨rfl, rfl, hw⟩ := hq
  refine E.count (c' := 7) (s' := 113) (S' := [vr 95, vi 2, vr 89]) rfl rfl rfl ?_
  rw [hw]
  refine E.aastQ (t := 3) (ci := 0) C (by decide) rfl rfl (by decide) dX7_init_73 kd_89 (by decide) (by decide) (by decide) (by rw [ln_89]; decide) kd_95 (by decide) (by decide) (by decide) ?_
  obtain ⟨v10, hv10⟩ : ∃ z, z = upd2 v9 89 2 95 := ⟨_, rfl⟩
  refine E.heq hv10.symm ?_
  have hzv10 : Zb 95 v10 := by rw [hv10]; exact Zb.up hzv9_95 (by decide)
  have fv10_88_0 : v10 88 0 = 89 := by rw [hv10, upd2_ne _ _ _ _ _ _ (by decide)]; exact fv9_88_0
  have fv10_88_1 : v10 88 1 = 90 := by rw [hv10, upd2_ne _ _ _ _ _ _ (by decide)]; exact fv9_88_1
  refine E.iinc C dX7_init_74 rfl (by rw [hn]; decide) rfl (by decide) ?_
  refine E.lset (L' := [some (vr 88), some (vi 3)]) rfl ?_
  refine E.goto C dX7_init_77 (tgt := 55) (by decide) ?_
  refine E.iload_n C dX7_init_55 rfl rfl ?_
  refine E.bipush C dX7_init_56 (by decide) ?_
  refine E.icmp_ge C dX7_init_58 (tgt := 80) (by decide) (fun h => absurd h (by decide)) (fun _ => ?_)
  refine E.aload_n C dX7_init_61 rfl rfl ?_
  refine E.getR C fa_X7_11 rfl dX7_init_62 kd_88 (by decide) fv10_88_0 (by decide) ?_
  refine E.iload_n C dX7_init_65 rfl rfl ?_
  refine E.newO (r := 96) (n' := 96) (c' := 8) (s' := 116) C nw_X7_9 dX7_init_66 (by decide) rfl rfl rfl rfl kd_96 (fun j => hzv10 _ j (by decide)) (by rw [hX]; decide) (by rw [hX]; decide) ?_
  have hzv10_96 : Zb 96 v10 := Zb.le hzv10 (by decide)
  refine E.dupR C dX7_init_69 ?_
  refine E.callI (S := [vr 96, vi 3, vr 89]) (As := []) C hX (ok_X0_init G 96 96 v10) yf_X0_init rfl yv_X0_init ml_X7_40 rfl (by decide) (by decide) (Nat.le_of_ble_eq_true rfl) dX7_init_70 rfl (fun r n' w hq => ?_)
  obtain ⟨rfl, rfl, hw⟩ := hq
  refine E.count (c' := 8) (s' := 116) (S' := [vr 96, vi 3, vr 89]) rfl rfl rfl ?_
  rw [hw]
  refine E.aastQ (t := 3) (ci := 0) C (by decide) rfl rfl (by decide) dX7_init_73 kd_89 (by decide) (by decide) (by decide) (by rw [ln_89]; decide) kd_96 (by decide) (by decide) (by decide) ?_
  obtain ⟨v11, hv11⟩ : ∃ z, z = upd2 v10 89 3 96 := ⟨_, rfl⟩
  refine E.heq hv11.symm ?_
  have hzv11 : Zb 96 v11 := by rw [hv11]; exact Zb.up hzv10_96 (by decide)
  have fv11_88_0 : v11 88 0 = 89 := by rw [hv11, upd2_ne _ _ _ _ _ _ (by decide)]; exact fv10_88_0
  have fv11_88_1 : v11 88 1 = 90 := by rw [hv11, upd2_ne _ _ _ _ _ _ (by decide)]; exact fv10_88_1
  refine E.iinc C dX7_init_74 rfl (by rw [hn]; decide) rfl (by decide) ?_
  refine E.lset (L' := [some (vr 88), some (vi 4)]) rfl ?_
  refine E.goto C dX7_init_77 (tgt := 55) (by decide) ?_
  refine E.iload_n C dX7_init_55 rfl rfl ?_
  refine E.bipush C dX7_init_56 (by decide) ?_
  refine E.icmp_ge C dX7_init_58 (tgt := 80) (by decide) (fun h => absurd h (by decide)) (fun _ => ?_)
  refine E.aload_n C dX7_init_61 rfl rfl ?_
  refine E.getR C fa_X7_11 rfl dX7_init_62 kd_88 (by decide) fv11_88_0 (by decide) ?_
  refine E.iload_n C dX7_init_65 rfl rfl ?_
  refine E.newO (r := 97) (n' := 97) (c' := 9) (s' := 119) C nw_X7_9 dX7_init_66 (by decide) rfl rfl rfl rfl kd_97 (fun j => hzv11 _ j (by decide)) (by rw [hX]; decide) (by rw [hX]; decide) ?_
  have hzv11_97 : Zb 97 v11 := Zb.le hzv11 (by decide)
  refine E.dupR C dX7_init_69 ?_
  refine E.callI (S := [vr 97, vi 4, vr 89]) (As := []) C hX (ok_X0_init G 97 97 v11) yf_X0_init rfl yv_X0_init ml_X7_40 rfl (by decide) (by decide) (Nat.le_of_ble_eq_true rfl) dX7_init_70 rfl (fun r n' w hq => ?_)
  obtain ⟨rfl, rfl, hw⟩ := hq
  refine E.count (c' := 9) (s' := 119) (S' := [vr 97, vi 4, vr 89]) rfl rfl rfl ?_
  rw [hw]
  refine E.aastQ (t := 3) (ci := 0) C (by decide) rfl rfl (by decide) dX7_init_73 kd_89 (by decide) (by decide) (by decide) (by rw [ln_89]; decide) kd_97 (by decide) (by decide) (by decide) ?_
  obtain ⟨v12, hv12⟩ : ∃ z, z = upd2 v11 89 4 97 := ⟨_, rfl⟩
  refine E.heq hv12.symm ?_
  have hzv12 : Zb 97 v12 := by rw [hv12]; exact Zb.up hzv11_97 (by decide)
  have fv12_88_0 : v12 88 0 = 89 := by rw [hv12, upd2_ne _ _ _ _ _ _ (by decide)]; exact fv11_88_0
  have fv12_88_1 : v12 88 1 = 90 := by rw [hv12, upd2_ne _ _ _ _ _ _ (by decide)]; exact fv11_88_1
  refine E.iinc C dX7_init_74 rfl (by rw [hn]; decide) rfl (by decide) ?_
  refine E.lset (L' := [some (vr 88), some (vi 5)]) rfl ?_
  refine E.goto C dX7_init_77 (tgt := 55) (by decide) ?_
  refine E.iload_n C dX7_init_55 rfl rfl ?_
  refine E.bipush C dX7_init_56 (by decide) ?_
  refine E.icmp_ge C dX7_init_58 (tgt := 80) (by decide) (fun h => absurd h (by decide)) (fun _ => ?_)
  refine E.aload_n C dX7_init_61 rfl rfl ?_
  refine E.getR C fa_X7_11 rfl dX7_init_62 kd_88 (by decide) fv12_88_0 (by decide) ?_
  refine E.iload_n C dX7_init_65 rfl rfl ?_
  refine E.newO (r := 98) (n' := 98) (c' := 10) (s' := 122) C nw_X7_9 dX7_init_66 (by decide) rfl rfl rfl rfl kd_98 (fun j => hzv12 _ j (by decide)) (by rw [hX]; decide) (by rw [hX]; decide) ?_
  have hzv12_98 : Zb 98 v12 := Zb.le hzv12 (by decide)
  refine E.dupR C dX7_init_69 ?_
  refine E.callI (S := [vr 98, vi 5, vr 89]) (As := []) C hX (ok_X0_init G 98 98 v12) yf_X0_init rfl yv_X0_init ml_X7_40 rfl (by decide) (by decide) (Nat.le_of_ble_eq_true rfl) dX7_init_70 rfl (fun r n' w hq => ?_)
  obtain ⟨rfl, rfl, hw⟩ := hq
  refine E.count (c' := 10) (s' := 122) (S' := [vr 98, vi 5, vr 89]) rfl rfl rfl ?_
  rw [hw]
  refine E.aastQ (t := 3) (ci := 0) C (by decide) rfl rfl (by decide) dX7_init_73 kd_89 (by decide) (by decide) (by decide) (by rw [ln_89]; decide) kd_98 (by decide) (by decide) (by decide) ?_
  obtain ⟨v13, hv13⟩ : ∃ z, z = upd2 v12 89 5 98 := ⟨_, rfl⟩
  refine E.heq hv13.symm ?_
  have hzv13 : Zb 98 v13 := by rw [hv13]; exact Zb.up hzv12_98 (by decide)
  have fv13_88_0 : v13 88 0 = 89 := by rw [hv13, upd2_ne _ _ _ _ _ _ (by decide)]; exact fv12_88_0
  have fv13_88_1 : v13 88 1 = 90 := by rw [hv13, upd2_ne _ _ _ _ _ _ (by decide)]; exact fv12_88_1
  refine E.iinc C dX7_init_74 rfl (by rw [hn]; decide) rfl (by decide) ?_
  refine E.lset (L' := [some (vr 88), some (vi 6)]) rfl ?_
  refine E.goto C dX7_init_77 (tgt := 55) (by decide) ?_
  refine E.iload_n C dX7_init_55 rfl rfl ?_
  refine E.bipush C dX7_init_56 (by decide) ?_
  refine E.icmp_ge C dX7_init_58 (tgt := 80) (by decide) (fun h => absurd h (by decide)) (fun _ => ?_)
  refine E.aload_n C dX7_init_61 rfl rfl ?_
  refine E.getR C fa_X7_11 rfl dX7_init_62 kd_88 (by decide) fv13_88_0 (by decide) ?_
  refine E.iload_n C dX7_init_65 rfl rfl ?_
  refine E.newO (r := 99) (n' := 99) (c' := 11) (s' := 125) C nw_X7_9 dX7_init_66 (by decide) rfl rfl rfl rfl kd_99 (fun j => hzv13 _ j (by decide)) (by rw [hX]; decide) (by rw [hX]; decide) ?_
  have hzv13_99 : Zb 99 v13 := Zb.le hzv13 (by decide)
  refine E.dupR C dX7_init_69 ?_
  refine E.callI (S := [vr 99, vi 6, vr 89]) (As := []) C hX (ok_X0_init G 99 99 v13) yf_X0_init rfl yv_X0_init ml_X7_40 rfl (by decide) (by decide) (Nat.le_of_ble_eq_true rfl) dX7_init_70 rfl (fun r n' w hq => ?_)
  obtain ⟨rfl, rfl, hw⟩ := hq
  refine E.count (c' := 11) (s' := 125) (S' := [vr 99, vi 6, vr 89]) rfl rfl rfl ?_
  rw [hw]
  refine E.aastQ (t := 3) (ci := 0) C (by decide) rfl rfl (by decide) dX7_init_73 kd_89 (by decide) (by decide) (by decide) (by rw [ln_89]; decide) kd_99 (by decide) (by decide) (by decide) ?_
  obtain ⟨v14, hv14⟩ : ∃ z, z = upd2 v13 89 6 99 := ⟨_, rfl⟩
  refine E.heq hv14.symm ?_
  have hzv14 : Zb 99 v14 := by rw [hv14]; exact Zb.up hzv13_99 (by decide)
  have fv14_88_0 : v14 88 0 = 89 := by rw [hv14, upd2_ne _ _ _ _ _ _ (by decide)]; exact fv13_88_0
  have fv14_88_1 : v14 88 1 = 90 := by rw [hv14, upd2_ne _ _ _ _ _ _ (by decide)]; exact fv13_88_1
  refine E.iinc C dX7_init_74 rfl (by rw [hn]; decide) rfl (by decide) ?_
  refine E.lset (L' := [some (vr 88), some (vi 7)]) rfl ?_
  refine E.goto C dX7_init_77 (tgt := 55) (by decide) ?_
  refine E.iload_n C dX7_init_55 rfl rfl ?_
  refine E.bipush C dX7_init_56 (by decide) ?_
  refine E.icmp_ge C dX7_init_58 (tgt := 80) (by decide) (fun h => absurd h (by decide)) (fun _ => ?_)
  refine E.aload_n C dX7_init_61 rfl rfl ?_
  refine E.getR C fa_X7_11 rfl dX7_init_62 kd_88 (by decide) fv14_88_0 (by decide) ?_
  refine E.iload_n C dX7_init_65 rfl rfl ?_
  refine E.newO (r := 100) (n' := 100) (c' := 12) (s' := 128) C nw_X7_9 dX7_init_66 (by decide) rfl rfl rfl rfl kd_100 (fun j => hzv14 _ j (by decide)) (by rw [hX]; decide) (by rw [hX]; decide) ?_
  have hzv14_100 : Zb 100 v14 := Zb.le hzv14 (by decide)
  refine E.dupR C dX7_init_69 ?_
  refine E.callI (S := [vr 100, vi 7, vr 89]) (As := []) C hX (ok_X0_init G 100 100 v14) yf_X0_init rfl yv_X0_init ml_X7_40 rfl (by decide) (by decide) (Nat.le_of_ble_eq_true rfl) dX7_init_70 rfl (fun r n' w hq => ?_)
  obtain ⟨rfl, rfl, hw⟩ := hq
  refine E.count (c' := 12) (s' := 128) (S' := [vr 100, vi 7, vr 89]) rfl rfl rfl ?_
  rw [hw]
  refine E.aastQ (t := 3) (ci := 0) C (by decide) rfl rfl (by decide) dX7_init_73 kd_89 (by decide) (by decide) (by decide) (by rw [ln_89]; decide) kd_100 (by decide) (by decide) (by decide) ?_
  obtain ⟨v15, hv15⟩ : ∃ z, z = upd2 v14 89 7 100 := ⟨_, rfl⟩
  refine E.heq hv15.symm ?_
  have hzv15 : Zb 100 v15 := by rw [hv15]; exact Zb.up hzv14_100 (by decide)
  have fv15_88_0 : v15 88 0 = 89 := by rw [hv15, upd2_ne _ _ _ _ _ _ (by decide)]; exact fv14_88_0
  have fv15_88_1 : v15 88 1 = 90 := by rw [hv15, upd2_ne _ _ _ _ _ _ (by decide)]; exact fv14_88_1
  refine E.iinc C dX7_init_74 rfl (by rw [hn]; decide) rfl (by decide) ?_
  refine E.lset (L' := [some (vr 88), some (vi 8)]) rfl ?_
  refine E.goto C dX7_init_77 (tgt := 55) (by decide) ?_
  refine E.iload_n C dX7_init_55 rfl rfl ?_
  refine E.bipush C dX7_init_56 (by decide) ?_
  refine E.icmp_ge C dX7_init_58 (tgt := 80) (by decide) (fun _ => ?_) (fun h => absurd (by decide) h)
  refine E.iconst C dX7_init_80 (by decide) ?_
  refine E.istore_n C dX7_init_81 rfl (by rw [hn]; decide) rfl ?_
  refine E.lset (L' := [some (vr 88), some (vi 0)]) rfl ?_
  refine E.iload_n C dX7_init_82 rfl rfl ?_
  refine E.bipush C dX7_init_83 (by decide) ?_
  refine E.icmp_ge C dX7_init_85 (tgt := 107) (by decide) (fun h => absurd h (by decide)) (fun _ => ?_)
  refine E.aload_n C dX7_init_88 rfl rfl ?_
  refine E.getR C fa_X7_19 rfl dX7_init_89 kd_88 (by decide) fv15_88_1 (by decide) ?_
  refine E.iload_n C dX7_init_92 rfl rfl ?_
  refine E.newO (r := 101) (n' := 101) (c' := 13) (s' := 136) C nw_X7_17 dX7_init_93 (by decide) rfl rfl rfl rfl kd_101 (fun j => hzv15 _ j (by decide)) (by rw [hX]; decide) (by rw [hX]; decide) ?_
  have hzv15_101 : Zb 101 v15 := Zb.le hzv15 (by decide)
  refine E.dupR C dX7_init_96 ?_
  refine E.callI (S := [vr 101, vi 0, vr 90]) (As := []) C hX (ok_X6_init G 101 101 v15) yf_X6_init rfl yv_X6_init ml_X7_41 rfl (by decide) (by decide) (Nat.le_of_ble_eq_true rfl) dX7_init_97 rfl (fun r n' w hq => ?_)
  obtain ⟨rfl, rfl, hw⟩ := hq
  refine E.count (c' := 13) (s' := 136) (S' := [vr 101, vi 0, vr 90]) rfl rfl rfl ?_
  rw [hw]
  refine E.aastQ (t := 5) (ci := 6) C (by decide) rfl rfl (by decide) dX7_init_100 kd_90 (by decide) (by decide) (by decide) (by rw [ln_90]; decide) kd_101 (by decide) (by decide) (by decide) ?_
  obtain ⟨v16, hv16⟩ : ∃ z, z = upd2 v15 90 0 101 := ⟨_, rfl⟩
  refine E.heq hv16.symm ?_
  have hzv16 : Zb 101 v16 := by rw [hv16]; exact Zb.up hzv15_101 (by decide)
  have fv16_88_0 : v16 88 0 = 89 := by rw [hv16, upd2_ne _ _ _ _ _ _ (by decide)]; exact fv15_88_0
  have fv16_88_1 : v16 88 1 = 90 := by rw [hv16, upd2_ne _ _ _ _ _ _ (by decide)]; exact fv15_88_1
  refine E.iinc C dX7_init_101 rfl (by rw [hn]; decide) rfl (by decide) ?_
  refine E.lset (L' := [some (vr 88), some (vi 1)]) rfl ?_
  refine E.goto C dX7_init_104 (tgt := 82) (by decide) ?_
  refine E.iload_n C dX7_init_82 rfl rfl ?_
  refine E.bipush C dX7_init_83 (by decide) ?_
  refine E.icmp_ge C dX7_init_85 (tgt := 107) (by decide) (fun h => absurd h (by decide)) (fun _ => ?_)
  refine E.aload_n C dX7_init_88 rfl rfl ?_
  refine E.getR C fa_X7_19 rfl dX7_init_89 kd_88 (by decide) fv16_88_1 (by decide) ?_
  refine E.iload_n C dX7_init_92 rfl rfl ?_
  refine E.newO (r := 102) (n' := 102) (c' := 14) (s' := 144) C nw_X7_17 dX7_init_93 (by decide) rfl rfl rfl rfl kd_102 (fun j => hzv16 _ j (by decide)) (by rw [hX]; decide) (by rw [hX]; decide) ?_
  have hzv16_102 : Zb 102 v16 := Zb.le hzv16 (by decide)
  refine E.dupR C dX7_init_96 ?_
  refine E.callI (S := [vr 102, vi 1, vr 90]) (As := []) C hX (ok_X6_init G 102 102 v16) yf_X6_init rfl yv_X6_init ml_X7_41 rfl (by decide) (by decide) (Nat.le_of_ble_eq_true rfl) dX7_init_97 rfl (fun r n' w hq => ?_)
  obtain ⟨rfl, rfl, hw⟩ := hq
  refine E.count (c' := 14) (s' := 144) (S' := [vr 102, vi 1, vr 90]) rfl rfl rfl ?_
  rw [hw]
  refine E.aastQ (t := 5) (ci := 6) C (by decide) rfl rfl (by decide) dX7_init_100 kd_90 (by decide) (by decide) (by decide) (by rw [ln_90]; decide) kd_102 (by decide) (by decide) (by decide) ?_
  obtain ⟨v17, hv17⟩ : ∃ z, z = upd2 v16 90 1 102 := ⟨_, rfl⟩
  refine E.heq hv17.symm ?_
  have hzv17 : Zb 102 v17 := by rw [hv17]; exact Zb.up hzv16_102 (by decide)
  have fv17_88_0 : v17 88 0 = 89 := by rw [hv17, upd2_ne _ _ _ _ _ _ (by decide)]; exact fv16_88_0
  have fv17_88_1 : v17 88 1 = 90 := by rw [hv17, upd2_ne _ _ _ _ _ _ (by decide)]; exact fv16_88_1
  refine E.iinc C dX7_init_101 rfl (by rw [hn]; decide) rfl (by decide) ?_
  refine E.lset (L' := [some (vr 88), some (vi 2)]) rfl ?_
  refine E.goto C dX7_init_104 (tgt := 82) (by decide) ?_
  refine E.iload_n C dX7_init_82 rfl rfl ?_
  refine E.bipush C dX7_init_83 (by decide) ?_
  refine E.icmp_ge C dX7_init_85 (tgt := 107) (by decide) (fun h => absurd h (by decide)) (fun _ => ?_)
  refine E.aload_n C dX7_init_88 rfl rfl ?_
  refine E.getR C fa_X7_19 rfl dX7_init_89 kd_88 (by decide) fv17_88_1 (by decide) ?_
  refine E.iload_n C dX7_init_92 rfl rfl ?_
  refine E.newO (r := 103) (n' := 103) (c' := 15) (s' := 152) C nw_X7_17 dX7_init_93 (by decide) rfl rfl rfl rfl kd_103 (fun j => hzv17 _ j (by decide)) (by rw [hX]; decide) (by rw [hX]; decide) ?_
  have hzv17_103 : Zb 103 v17 := Zb.le hzv17 (by decide)
  refine E.dupR C dX7_init_96 ?_
  refine E.callI (S := [vr 103, vi 2, vr 90]) (As := []) C hX (ok_X6_init G 103 103 v17) yf_X6_init rfl yv_X6_init ml_X7_41 rfl (by decide) (by decide) (Nat.le_of_ble_eq_true rfl) dX7_init_97 rfl (fun r n' w hq => ?_)
  obtain ⟨rfl, rfl, hw⟩ := hq
  refine E.count (c' := 15) (s' := 152) (S' := [vr 103, vi 2, vr 90]) rfl rfl rfl ?_
  rw [hw]
  refine E.aastQ (t := 5) (ci := 6) C (by decide) rfl rfl (by decide) dX7_init_100 kd_90 (by decide) (by decide) (by decide) (by rw [ln_90]; decide) kd_103 (by decide) (by decide) (by decide) ?_
  obtain ⟨v18, hv18⟩ : ∃ z, z = upd2 v17 90 2 103 := ⟨_, rfl⟩
  refine E.heq hv18.symm ?_
  have hzv18 : Zb 103 v18 := by rw [hv18]; exact Zb.up hzv17_103 (by decide)
  have fv18_88_0 : v18 88 0 = 89 := by rw [hv18, upd2_ne _ _ _ _ _ _ (by decide)]; exact fv17_88_0
  have fv18_88_1 : v18 88 1 = 90 := by rw [hv18, upd2_ne _ _ _ _ _ _ (by decide)]; exact fv17_88_1
  refine E.iinc C dX7_init_101 rfl (by rw [hn]; decide) rfl (by decide) ?_
  refine E.lset (L' := [some (vr 88), some (vi 3)]) rfl ?_
  refine E.goto C dX7_init_104 (tgt := 82) (by decide) ?_
  refine E.iload_n C dX7_init_82 rfl rfl ?_
  refine E.bipush C dX7_init_83 (by decide) ?_
  refine E.icmp_ge C dX7_init_85 (tgt := 107) (by decide) (fun h => absurd h (by decide)) (fun _ => ?_)
  refine E.aload_n C dX7_init_88 rfl rfl ?_
  refine E.getR C fa_X7_19 rfl dX7_init_89 kd_88 (by decide) fv18_88_1 (by decide) ?_
  refine E.iload_n C dX7_init_92 rfl rfl ?_
  refine E.newO (r := 104) (n' := 104) (c' := 16) (s' := 160) C nw_X7_17 dX7_init_93 (by decide) rfl rfl rfl rfl kd_104 (fun j => hzv18 _ j (by decide)) (by rw [hX]; decide) (by rw [hX]; decide) ?_
  have hzv18_104 : Zb 104 v18 := Zb.le hzv18 (by decide)
  refine E.dupR C dX7_init_96 ?_
  refine E.callI (S := [vr 104, vi 3, vr 90]) (As := []) C hX (ok_X6_init G 104 104 v18) yf_X6_init rfl yv_X6_init ml_X7_41 rfl (by decide) (by decide) (Nat.le_of_ble_eq_true rfl) dX7_init_97 rfl (fun r n' w hq => ?_)
  obtain ⟨rfl, rfl, hw⟩ := hq
  refine E.count (c' := 16) (s' := 160) (S' := [vr 104, vi 3, vr 90]) rfl rfl rfl ?_
  rw [hw]
  refine E.aastQ (t := 5) (ci := 6) C (by decide) rfl rfl (by decide) dX7_init_100 kd_90 (by decide) (by decide) (by decide) (by rw [ln_90]; decide) kd_104 (by decide) (by decide) (by decide) ?_
  obtain ⟨v19, hv19⟩ : ∃ z, z = upd2 v18 90 3 104 := ⟨_, rfl⟩
  refine E.heq hv19.symm ?_
  have hzv19 : Zb 104 v19 := by rw [hv19]; exact Zb.up hzv18_104 (by decide)
  have fv19_88_0 : v19 88 0 = 89 := by rw [hv19, upd2_ne _ _ _ _ _ _ (by decide)]; exact fv18_88_0
  have fv19_88_1 : v19 88 1 = 90 := by rw [hv19, upd2_ne _ _ _ _ _ _ (by decide)]; exact fv18_88_1
  refine E.iinc C dX7_init_101 rfl (by rw [hn]; decide) rfl (by decide) ?_
  refine E.lset (L' := [some (vr 88), some (vi 4)]) rfl ?_
  refine E.goto C dX7_init_104 (tgt := 82) (by decide) ?_
  refine E.iload_n C dX7_init_82 rfl rfl ?_
  refine E.bipush C dX7_init_83 (by decide) ?_
  refine E.icmp_ge C dX7_init_85 (tgt := 107) (by decide) (fun h => absurd h (by decide)) (fun _ => ?_)
  refine E.aload_n C dX7_init_88 rfl rfl ?_
  refine E.getR C fa_X7_19 rfl dX7_init_89 kd_88 (by decide) fv19_88_1 (by decide) ?_
  refine E.iload_n C dX7_init_92 rfl rfl ?_
  refine E.newO (r := 105) (n' := 105) (c' := 17) (s' := 168) C nw_X7_17 dX7_init_93 (by decide) rfl rfl rfl rfl kd_105 (fun j => hzv19 _ j (by decide)) (by rw [hX]; decide) (by rw [hX]; decide) ?_
  have hzv19_105 : Zb 105 v19 := Zb.le hzv19 (by decide)
  refine E.dupR C dX7_init_96 ?_
  refine E.callI (S := [vr 105, vi 4, vr 90]) (As := []) C hX (ok_X6_init G 105 105 v19) yf_X6_init rfl yv_X6_init ml_X7_41 rfl (by decide) (by decide) (Nat.le_of_ble_eq_true rfl) dX7_init_97 rfl (fun r n' w hq => ?_)
  obtain ⟨rfl, rfl, hw⟩ := hq
  refine E.count (c' := 17) (s' := 168) (S' := [vr 105, vi 4, vr 90]) rfl rfl rfl ?_
  rw [hw]
  refine E.aastQ (t := 5) (ci := 6) C (by decide) rfl rfl (by decide) dX7_init_100 kd_90 (by decide) (by decide) (by decide) (by rw [ln_90]; decide) kd_105 (by decide) (by decide) (by decide) ?_
  obtain ⟨v20, hv20⟩ : ∃ z, z = upd2 v19 90 4 105 := ⟨_, rfl⟩
  refine E.heq hv20.symm ?_
  have hzv20 : Zb 105 v20 := by rw [hv20]; exact Zb.up hzv19_105 (by decide)
  have fv20_88_0 : v20 88 0 = 89 := by rw [hv20, upd2_ne _ _ _ _ _ _ (by decide)]; exact fv19_88_0
  have fv20_88_1 : v20 88 1 = 90 := by rw [hv20, upd2_ne _ _ _ _ _ _ (by decide)]; exact fv19_88_1
  refine E.iinc C dX7_init_101 rfl (by rw [hn]; decide) rfl (by decide) ?_
  refine E.lset (L' := [some (vr 88), some (vi 5)]) rfl ?_
  refine E.goto C dX7_init_104 (tgt := 82) (by decide) ?_
  refine E.iload_n C dX7_init_82 rfl rfl ?_
  refine E.bipush C dX7_init_83 (by decide) ?_
  refine E.icmp_ge C dX7_init_85 (tgt := 107) (by decide) (fun h => absurd h (by decide)) (fun _ => ?_)
  refine E.aload_n C dX7_init_88 rfl rfl ?_
  refine E.getR C fa_X7_19 rfl dX7_init_89 kd_88 (by decide) fv20_88_1 (by decide) ?_
  refine E.iload_n C dX7_init_92 rfl rfl ?_
  refine E.newO (r := 106) (n' := 106) (c' := 18) (s' := 176) C nw_X7_17 dX7_init_93 (by decide) rfl rfl rfl rfl kd_106 (fun j => hzv20 _ j (by decide)) (by rw [hX]; decide) (by rw [hX]; decide) ?_
  have hzv20_106 : Zb 106 v20 := Zb.le hzv20 (by decide)
  refine E.dupR C dX7_init_96 ?_
  refine E.callI (S := [vr 106, vi 5, vr 90]) (As := []) C hX (ok_X6_init G 106 106 v20) yf_X6_init rfl yv_X6_init ml_X7_41 rfl (by decide) (by decide) (Nat.le_of_ble_eq_true rfl) dX7_init_97 rfl (fun r n' w hq => ?_)
  obtain ⟨rfl, rfl, hw⟩ := hq
  refine E.count (c' := 18) (s' := 176) (S' := [vr 106, vi 5, vr 90]) rfl rfl rfl ?_
  rw [hw]
  refine E.aastQ (t := 5) (ci := 6) C (by decide) rfl rfl (by decide) dX7_init_100 kd_90 (by decide) (by decide) (by decide) (by rw [ln_90]; decide) kd_106 (by decide) (by decide) (by decide) ?_
  obtain ⟨v21, hv21⟩ : ∃ z, z = upd2 v20 90 5 106 := ⟨_, rfl⟩
  refine E.heq hv21.symm ?_
  have hzv21 : Zb 106 v21 := by rw [hv21]; exact Zb.up hzv20_106 (by decide)
  have fv21_88_0 : v21 88 0 = 89 := by rw [hv21, upd2_ne _ _ _ _ _ _ (by decide)]; exact fv20_88_0
  have fv21_88_1 : v21 88 1 = 90 := by rw [hv21, upd2_ne _ _ _ _ _ _ (by decide)]; exact fv20_88_1
  refine E.iinc C dX7_init_101 rfl (by rw [hn]; decide) rfl (by decide) ?_
  refine E.lset (L' := [some (vr 88), some (vi 6)]) rfl ?_
  refine E.goto C dX7_init_104 (tgt := 82) (by decide) ?_
  refine E.iload_n C dX7_init_82 rfl rfl ?_
  refine E.bipush C dX7_init_83 (by decide) ?_
  refine E.icmp_ge C dX7_init_85 (tgt := 107) (by decide) (fun h => absurd h (by decide)) (fun _ => ?_)
  refine E.aload_n C dX7_init_88 rfl rfl ?_
  refine E.getR C fa_X7_19 rfl dX7_init_89 kd_88 (by decide) fv21_88_1 (by decide) ?_
  refine E.iload_n C dX7_init_92 rfl rfl ?_
  refine E.newO (r := 107) (n' := 107) (c' := 19) (s' := 184) C nw_X7_17 dX7_init_93 (by decide) rfl rfl rfl rfl kd_107 (fun j => hzv21 _ j (by decide)) (by rw [hX]; decide) (by rw [hX]; decide) ?_
  have hzv21_107 : Zb 107 v21 := Zb.le hzv21 (by decide)
  refine E.dupR C dX7_init_96 ?_
  refine E.callI (S := [vr 107, vi 6, vr 90]) (As := []) C hX (ok_X6_init G 107 107 v21) yf_X6_init rfl yv_X6_init ml_X7_41 rfl (by decide) (by decide) (Nat.le_of_ble_eq_true rfl) dX7_init_97 rfl (fun r n' w hq => ?_)
  obtain ⟨rfl, rfl, hw⟩ := hq
  refine E.count (c' := 19) (s' := 184) (S' := [vr 107, vi 6, vr 90]) rfl rfl rfl ?_
  rw [hw]
  refine E.aastQ (t := 5) (ci := 6) C (by decide) rfl rfl (by decide) dX7_init_100 kd_90 (by decide) (by decide) (by decide) (by rw [ln_90]; decide) kd_107 (by decide) (by decide) (by decide) ?_
  obtain ⟨v22, hv22⟩ : ∃ z, z = upd2 v21 90 6 107 := ⟨_, rfl⟩
  refine E.heq hv22.symm ?_
  have hzv22 : Zb 107 v22 := by rw [hv22]; exact Zb.up hzv21_107 (by decide)
  have fv22_88_0 : v22 88 0 = 89 := by rw [hv22, upd2_ne _ _ _ _ _ _ (by decide)]; exact fv21_88_0
  have fv22_88_1 : v22 88 1 = 90 := by rw [hv22, upd2_ne _ _ _ _ _ _ (by decide)]; exact fv21_88_1
  refine E.iinc C dX7_init_101 rfl (by rw [hn]; decide) rfl (by decide) ?_
  refine E.lset (L' := [some (vr 88), some (vi 7)]) rfl ?_
  refine E.goto C dX7_init_104 (tgt := 82) (by decide) ?_
  refine E.iload_n C dX7_init_82 rfl rfl ?_
  refine E.bipush C dX7_init_83 (by decide) ?_
  refine E.icmp_ge C dX7_init_85 (tgt := 107) (by decide) (fun h => absurd h (by decide)) (fun _ => ?_)
  refine E.aload_n C dX7_init_88 rfl rfl ?_
  refine E.getR C fa_X7_19 rfl dX7_init_89 kd_88 (by decide) fv22_88_1 (by decide) ?_
  refine E.iload_n C dX7_init_92 rfl rfl ?_
  refine E.newO (r := 108) (n' := 108) (c' := 20) (s' := 192) C nw_X7_17 dX7_init_93 (by decide) rfl rfl rfl rfl kd_108 (fun j => hzv22 _ j (by decide)) (by rw [hX]; decide) (by rw [hX]; decide) ?_
  have hzv22_108 : Zb 108 v22 := Zb.le hzv22 (by decide)
  refine E.dupR C dX7_init_96 ?_
  refine E.callI (S := [vr 108, vi 7, vr 90]) (As := []) C hX (ok_X6_init G 108 108 v22) yf_X6_init rfl yv_X6_init ml_X7_41 rfl (by decide) (by decide) (Nat.le_of_ble_eq_true rfl) dX7_init_97 rfl (fun r n' w hq => ?_)
  obtain ⟨rfl, rfl, hw⟩ := hq
  refine E.count (c' := 20) (s' := 192) (S' := [vr 108, vi 7, vr 90]) rfl rfl rfl ?_
  rw [hw]
  refine E.aastQ (t := 5) (ci := 6) C (by decide) rfl rfl (by decide) dX7_init_100 kd_90 (by decide) (by decide) (by decide) (by rw [ln_90]; decide) kd_108 (by decide) (by decide) (by decide) ?_
  obtain ⟨v23, hv23⟩ : ∃ z, z = upd2 v22 90 7 108 := ⟨_, rfl⟩
  refine E.heq hv23.symm ?_
  have hzv23 : Zb 108 v23 := by rw [hv23]; exact Zb.up hzv22_108 (by decide)
  have fv23_88_0 : v23 88 0 = 89 := by rw [hv23, upd2_ne _ _ _ _ _ _ (by decide)]; exact fv22_88_0
  have fv23_88_1 : v23 88 1 = 90 := by rw [hv23, upd2_ne _ _ _ _ _ _ (by decide)]; exact fv22_88_1
  refine E.iinc C dX7_init_101 rfl (by rw [hn]; decide) rfl (by decide) ?_
  refine E.lset (L' := [some (vr 88), some (vi 8)]) rfl ?_
  refine E.goto C dX7_init_104 (tgt := 82) (by decide) ?_
  refine E.iload_n C dX7_init_82 rfl rfl ?_
  refine E.bipush C dX7_init_83 (by decide) ?_
  refine E.icmp_ge C dX7_init_85 (tgt := 107) (by decide) (fun h => absurd h (by decide)) (fun _ => ?_)
  refine E.aload_n C dX7_init_88 rfl rfl ?_
  refine E.getR C fa_X7_19 rfl dX7_init_89 kd_88 (by decide) fv23_88_1 (by decide) ?_
  refine E.iload_n C dX7_init_92 rfl rfl ?_
  refine E.newO (r := 109) (n' := 109) (c' := 21) (s' := 200) C nw_X7_17 dX7_init_93 (by decide) rfl rfl rfl rfl kd_109 (fun j => hzv23 _ j (by decide)) (by rw [hX]; decide) (by rw [hX]; decide) ?_
  have hzv23_109 : Zb 109 v23 := Zb.le hzv23 (by decide)
  refine E.dupR C dX7_init_96 ?_
  refine E.callI (S := [vr 109, vi 8, vr 90]) (As := []) C hX (ok_X6_init G 109 109 v23) yf_X6_init rfl yv_X6_init ml_X7_41 rfl (by decide) (by decide) (Nat.le_of_ble_eq_true rfl) dX7_init_97 rfl (fun r n' w hq => ?_)
  obtain ⟨rfl, rfl, hw⟩ := hq
  refine E.count (c' := 21) (s' := 200) (S' := [vr 109, vi 8, vr 90]) rfl rfl rfl ?_
  rw [hw]
  refine E.aastQ (t := 5) (ci := 6) C (by decide) rfl rfl (by decide) dX7_init_100 kd_90 (by decide) (by decide) (by decide) (by rw [ln_90]; decide) kd_109 (by decide) (by decide) (by decide) ?_
  obtain ⟨v24, hv24⟩ : ∃ z, z = upd2 v23 90 8 109 := ⟨_, rfl⟩
  refine E.heq hv24.symm ?_
  have hzv24 : Zb 109 v24 := by rw [hv24]; exact Zb.up hzv23_109 (by decide)
  have fv24_88_0 : v24 88 0 = 89 := by rw [hv24, upd2_ne _ _ _ _ _ _ (by decide)]; exact fv23_88_0
  have fv24_88_1 : v24 88 1 = 90 := by rw [hv24, upd2_ne _ _ _ _ _ _ (by decide)]; exact fv23_88_1
  refine E.iinc C dX7_init_101 rfl (by rw [hn]; decide) rfl (by decide) ?_
  refine E.lset (L' := [some (vr 88), some (vi 9)]) rfl ?_
  refine E.goto C dX7_init_104 (tgt := 82) (by decide) ?_
  refine E.iload_n C dX7_init_82 rfl rfl ?_
  refine E.bipush C dX7_init_83 (by decide) ?_
  refine E.icmp_ge C dX7_init_85 (tgt := 107) (by decide) (fun h => absurd h (by decide)) (fun _ => ?_)
  refine E.aload_n C dX7_init_88 rfl rfl ?_
  refine E.getR C fa_X7_19 rfl dX7_init_89 kd_88 (by decide) fv24_88_1 (by decide) ?_
  refine E.iload_n C dX7_init_92 rfl rfl ?_
  refine E.newO (r := 110) (n' := 110) (c' := 22) (s' := 208) C nw_X7_17 dX7_init_93 (by decide) rfl rfl rfl rfl kd_110 (fun j => hzv24 _ j (by decide)) (by rw [hX]; decide) (by rw [hX]; decide) ?_
  have hzv24_110 : Zb 110 v24 := Zb.le hzv24 (by decide)
  refine E.dupR C dX7_init_96 ?_
  refine E.callI (S := [vr 110, vi 9, vr 90]) (As := []) C hX (ok_X6_init G 110 110 v24) yf_X6_init rfl yv_X6_init ml_X7_41 rfl (by decide) (by decide) (Nat.le_of_ble_eq_true rfl) dX7_init_97 rfl (fun r n' w hq => ?_)
  obtain ⟨rfl, rfl, hw⟩ := hq
  refine E.count (c' := 22) (s' := 208) (S' := [vr 110, vi 9, vr 90]) rfl rfl rfl ?_
  rw [hw]
  refine E.aastQ (t := 5) (ci := 6) C (by decide) rfl rfl (by decide) dX7_init_100 kd_90 (by decide) (by decide) (by decide) (by rw [ln_90]; decide) kd_110 (by decide) (by decide) (by decide) ?_
  obtain ⟨v25, hv25⟩ : ∃ z, z = upd2 v24 90 9 110 := ⟨_, rfl⟩
  refine E.heq hv25.symm ?_
  have hzv25 : Zb 110 v25 := by rw [hv25]; exact Zb.up hzv24_110 (by decide)
  have fv25_88_0 : v25 88 0 = 89 := by rw [hv25, upd2_ne _ _ _ _ _ _ (by decide)]; exact fv24_88_0
  have fv25_88_1 : v25 88 1 = 90 := by rw [hv25, upd2_ne _ _ _ _ _ _ (by decide)]; exact fv24_88_1
  refine E.iinc C dX7_init_101 rfl (by rw [hn]; decide) rfl (by decide) ?_
  refine E.lset (L' := [some (vr 88), some (vi 10)]) rfl ?_
  refine E.goto C dX7_init_104 (tgt := 82) (by decide) ?_
  refine E.iload_n C dX7_init_82 rfl rfl ?_
  refine E.bipush C dX7_init_83 (by decide) ?_
  refine E.icmp_ge C dX7_init_85 (tgt := 107) (by decide) (fun _ => ?_) (fun h => absurd (by decide) h)
  refine E.vret C hR dX7_init_107 (fun hi => ⟨rfl, rfl, ?_⟩)
  rw [hv25, hv24, hv23, hv22, hv21, hv20, hv19, hv18, hv17, hv16, hv15, hv14, hv13, hv12, hv11, hv10, hv9, hv8, hv7, hv6, hv5, hv4, hv3, hv2, hv1]
  rfl
def ls_X3_init_50 : List (Int × Int × Int) := [(50, 0, 2), (50, 1, 27)]
set_option maxHeartbeats 4000000 in
set_option maxRecDepth 20000 in
theorem ok_X3_init_50 (G : GT) (v : VT) (hz : Zb 50 v) : MT G yX3_init cX3_init 3 none { frames := 1, cells := 0, slots := 0, locals := 20 } [vr 50, vr 2, vr 27] 50 v (fun r n' w => r = none ∧ n' = 50 ∧ w = updL v ls_X3_init_50) := by
  refine MT.of pn_X3_init [some (vr 50), some (vr 2), some (vr 27)] 0 rfl rfl (fun X C hX hn hR hnm => ?_)
  have hin := hnm rfl
  refine E.aload_n C dX3_init_0 rfl rfl ?_
  refine E.objInit C hX ob_X3_3 ob_im ob_cd dX3_init_1 (by decide) (by decide) ?_
  refine E.aload_n C dX3_init_4 rfl rfl ?_
  refine E.aload_n C dX3_init_5 rfl rfl ?_
  refine E.putR C (Or.inl ⟨_, rfl⟩) fp_X3_9 rfl hin dX3_init_6 kd_50 (by decide) (by decide) (by decide) (by decide) ?_
  obtain ⟨v1, hv1⟩ : ∃ z, z = upd2 v 50 0 2 := ⟨_, rfl⟩
  refine E.heq hv1.symm ?_
  have hzv1 : Zb 50 v1 := by rw [hv1]; exact Zb.up hz (by decide)
  refine E.aload_n C dX3_init_9 rfl rfl ?_
  refine E.aload_n C dX3_init_10 rfl rfl ?_
  refine E.putR C (Or.inl ⟨_, rfl⟩) fp_X3_15 rfl hin dX3_init_11 kd_50 (by decide) (by decide) (by decide) (by decide) ?_
  obtain ⟨v2, hv2⟩ : ∃ z, z = upd2 v1 50 1 27 := ⟨_, rfl⟩
  refine E.heq hv2.symm ?_
  have hzv2 : Zb 50 v2 := by rw [hv2]; exact Zb.up hzv1 (by decide)
  refine E.vret C hR dX3_init_14 (fun hi => ⟨rfl, rfl, ?_⟩)
  rw [hv2, hv1]
  rfl
def ls_X1_init_54 : List (Int × Int × Int) := [(54, 0, 55), (54, 1, 56), (54, 2, 57), (54, 3, 58), (54, 4, 59)]
set_option maxHeartbeats 4000000 in
set_option maxRecDepth 20000 in
theorem ok_X1_init_54 (G : GT) (v : VT) (hz : Zb 54 v) : MT G yX1_init cX1_init 1 none { frames := 1, cells := 5, slots := 64, locals := 20 } [vr 54] 54 v (fun r n' w => r = none ∧ n' = 59 ∧ w = updL v ls_X1_init_54) := by
  refine MT.of pn_X1_init [some (vr 54)] 0 rfl rfl (fun X C hX hn hR hnm => ?_)
  have hin := hnm rfl
  refine E.aload_n C dX1_init_0 rfl rfl ?_
  refine E.objInit C hX ob_X1_3 ob_im ob_cd dX1_init_1 (by decide) (by decide) ?_
  refine E.aload_n C dX1_init_4 rfl rfl ?_
  refine E.bipush C dX1_init_5 (by decide) ?_
  refine E.newA (t := 1) (ty := .int) (r := 55) (n' := 55) (c' := 1) (s' := 8) (m := 8) C rfl ac_int (by decide) rfl (fun _ _ h => h) rfl (by decide) dX1_init_7 (by decide) rfl rfl rfl rfl kd_55 ln_55 rfl (by decide) (fun j => hz _ j (by decide)) (by rw [hX]; decide) (by rw [hX]; decide) ?_
  have hzv_55 : Zb 55 v := Zb.le hz (by decide)
  refine E.putR C (Or.inr ⟨_, rfl⟩) fp_X1_9 rfl hin dX1_init_9 kd_54 (by decide) (by decide) (by decide) (by decide) ?_
  obtain ⟨v1, hv1⟩ : ∃ z, z = upd2 v 54 0 55 := ⟨_, rfl⟩
  refine E.heq hv1.symm ?_
  have hzv1 : Zb 55 v1 := by rw [hv1]; exact Zb.up hzv_55 (by decide)
  refine E.aload_n C dX1_init_12 rfl rfl ?_
  refine E.bipush C dX1_init_13 (by decide) ?_
  refine E.newA (t := 1) (ty := .int) (r := 56) (n' := 56) (c' := 2) (s' := 16) (m := 8) C rfl ac_int (by decide) rfl (fun _ _ h => h) rfl (by decide) dX1_init_15 (by decide) rfl rfl rfl rfl kd_56 ln_56 rfl (by decide) (fun j => hzv1 _ j (by decide)) (by rw [hX]; decide) (by rw [hX]; decide) ?_
  have hzv1_56 : Zb 56 v1 := Zb.le hzv1 (by decide)
  refine E.putR C (Or.inr ⟨_, rfl⟩) fp_X1_15 rfl hin dX1_init_17 kd_54 (by decide) (by decide) (by decide) (by decide) ?_
  obtain ⟨v2, hv2⟩ : ∃ z, z = upd2 v1 54 1 56 := ⟨_, rfl⟩
  refine E.heq hv2.symm ?_
  have hzv2 : Zb 56 v2 := by rw [hv2]; exact Zb.up hzv1_56 (by decide)
  refine E.aload_n C dX1_init_20 rfl rfl ?_
  refine E.bipush C dX1_init_21 (by decide) ?_
  refine E.newA (t := 1) (ty := .int) (r := 57) (n' := 57) (c' := 3) (s' := 36) (m := 20) C rfl ac_int (by decide) rfl (fun _ _ h => h) rfl (by decide) dX1_init_23 (by decide) rfl rfl rfl rfl kd_57 ln_57 rfl (by decide) (fun j => hzv2 _ j (by decide)) (by rw [hX]; decide) (by rw [hX]; decide) ?_
  have hzv2_57 : Zb 57 v2 := Zb.le hzv2 (by decide)
  refine E.putR C (Or.inr ⟨_, rfl⟩) fp_X1_18 rfl hin dX1_init_25 kd_54 (by decide) (by decide) (by decide) (by decide) ?_
  obtain ⟨v3, hv3⟩ : ∃ z, z = upd2 v2 54 2 57 := ⟨_, rfl⟩
  refine E.heq hv3.symm ?_
  have hzv3 : Zb 57 v3 := by rw [hv3]; exact Zb.up hzv2_57 (by decide)
  refine E.aload_n C dX1_init_28 rfl rfl ?_
  refine E.bipush C dX1_init_29 (by decide) ?_
  refine E.newA (t := 1) (ty := .int) (r := 58) (n' := 58) (c' := 4) (s' := 56) (m := 20) C rfl ac_int (by decide) rfl (fun _ _ h => h) rfl (by decide) dX1_init_31 (by decide) rfl rfl rfl rfl kd_58 ln_58 rfl (by decide) (fun j => hzv3 _ j (by decide)) (by rw [hX]; decide) (by rw [hX]; decide) ?_
  have hzv3_58 : Zb 58 v3 := Zb.le hzv3 (by decide)
  refine E.putR C (Or.inr ⟨_, rfl⟩) fp_X1_21 rfl hin dX1_init_33 kd_54 (by decide) (by decide) (by decide) (by decide) ?_
  obtain ⟨v4, hv4⟩ : ∃ z, z = upd2 v3 54 3 58 := ⟨_, rfl⟩
  refine E.heq hv4.symm ?_
  have hzv4 : Zb 58 v4 := by rw [hv4]; exact Zb.up hzv3_58 (by decide)
  refine E.aload_n C dX1_init_36 rfl rfl ?_
  refine E.bipush C dX1_init_37 (by decide) ?_
  refine E.newA (t := 1) (ty := .int) (r := 59) (n' := 59) (c' := 5) (s' := 64) (m := 8) C rfl ac_int (by decide) rfl (fun _ _ h => h) rfl (by decide) dX1_init_39 (by decide) rfl rfl rfl rfl kd_59 ln_59 rfl (by decide) (fun j => hzv4 _ j (by decide)) (by rw [hX]; decide) (by rw [hX]; decide) ?_
  have hzv4_59 : Zb 59 v4 := Zb.le hzv4 (by decide)
  refine E.putR C (Or.inr ⟨_, rfl⟩) fp_X1_24 rfl hin dX1_init_41 kd_54 (by decide) (by decide) (by decide) (by decide) ?_
  obtain ⟨v5, hv5⟩ : ∃ z, z = upd2 v4 54 4 59 := ⟨_, rfl⟩
  refine E.heq hv5.symm ?_
  have hzv5 : Zb 59 v5 := by rw [hv5]; exact Zb.up hzv4_59 (by decide)
  refine E.vret C hR dX1_init_44 (fun hi => ⟨rfl, rfl, ?_⟩)
  rw [hv5, hv4, hv3, hv2, hv1]
  rfl
def ls_X2_init_60 : List (Int × Int × Int) := [(60, 0, 61), (60, 1, 62), (60, 2, 63)]
set_option maxHeartbeats 4000000 in
set_option maxRecDepth 20000 in
theorem ok_X2_init_60 (G : GT) (v : VT) (hz : Zb 60 v) : MT G yX2_init cX2_init 1 none { frames := 1, cells := 3, slots := 518, locals := 20 } [vr 60] 60 v (fun r n' w => r = none ∧ n' = 63 ∧ w = updL v ls_X2_init_60) := by
  refine MT.of pn_X2_init [some (vr 60)] 0 rfl rfl (fun X C hX hn hR hnm => ?_)
  have hin := hnm rfl
  refine E.aload_n C dX2_init_0 rfl rfl ?_
  refine E.objInit C hX ob_X2_3 ob_im ob_cd dX2_init_1 (by decide) (by decide) ?_
  refine E.aload_n C dX2_init_4 rfl rfl ?_
  refine E.bipush C dX2_init_5 (by decide) ?_
  refine E.newA (t := 1) (ty := .int) (r := 61) (n' := 61) (c' := 1) (s' := 6) (m := 6) C rfl ac_int (by decide) rfl (fun _ _ h => h) rfl (by decide) dX2_init_7 (by decide) rfl rfl rfl rfl kd_61 ln_61 rfl (by decide) (fun j => hz _ j (by decide)) (by rw [hX]; decide) (by rw [hX]; decide) ?_
  have hzv_61 : Zb 61 v := Zb.le hz (by decide)
  refine E.putR C (Or.inr ⟨_, rfl⟩) fp_X2_9 rfl hin dX2_init_9 kd_60 (by decide) (by decide) (by decide) (by decide) ?_
  obtain ⟨v1, hv1⟩ : ∃ z, z = upd2 v 60 0 61 := ⟨_, rfl⟩
  refine E.heq hv1.symm ?_
  have hzv1 : Zb 61 v1 := by rw [hv1]; exact Zb.up hzv_61 (by decide)
  refine E.aload_n C dX2_init_12 rfl rfl ?_
  refine E.sipush C dX2_init_13 (by decide) ?_
  refine E.newA (t := 1) (ty := .int) (r := 62) (n' := 62) (c' := 2) (s' := 262) (m := 256) C rfl ac_int (by decide) rfl (fun _ _ h => h) rfl (by decide) dX2_init_16 (by decide) rfl rfl rfl rfl kd_62 ln_62 rfl (by decide) (fun j => hzv1 _ j (by decide)) (by rw [hX]; decide) (by rw [hX]; decide) ?_
  have hzv1_62 : Zb 62 v1 := Zb.le hzv1 (by decide)
  refine E.putR C (Or.inr ⟨_, rfl⟩) fp_X2_15 rfl hin dX2_init_18 kd_60 (by decide) (by decide) (by decide) (by decide) ?_
  obtain ⟨v2, hv2⟩ : ∃ z, z = upd2 v1 60 1 62 := ⟨_, rfl⟩
  refine E.heq hv2.symm ?_
  have hzv2 : Zb 62 v2 := by rw [hv2]; exact Zb.up hzv1_62 (by decide)
  refine E.aload_n C dX2_init_21 rfl rfl ?_
  refine E.sipush C dX2_init_22 (by decide) ?_
  refine E.newA (t := 1) (ty := .int) (r := 63) (n' := 63) (c' := 3) (s' := 518) (m := 256) C rfl ac_int (by decide) rfl (fun _ _ h => h) rfl (by decide) dX2_init_25 (by decide) rfl rfl rfl rfl kd_63 ln_63 rfl (by decide) (fun j => hzv2 _ j (by decide)) (by rw [hX]; decide) (by rw [hX]; decide) ?_
  have hzv2_63 : Zb 63 v2 := Zb.le hzv2 (by decide)
  refine E.putR C (Or.inr ⟨_, rfl⟩) fp_X2_18 rfl hin dX2_init_27 kd_60 (by decide) (by decide) (by decide) (by decide) ?_
  obtain ⟨v3, hv3⟩ : ∃ z, z = upd2 v2 60 2 63 := ⟨_, rfl⟩
  refine E.heq hv3.symm ?_
  have hzv3 : Zb 63 v3 := by rw [hv3]; exact Zb.up hzv2_63 (by decide)
  refine E.vret C hR dX2_init_30 (fun hi => ⟨rfl, rfl, ?_⟩)
  rw [hv3, hv2, hv1]
  rfl
def ls_X4_init_111 : List (Int × Int × Int) := [(111, 0, 112), (111, 1, (-4)), (111, 2, 0)]
set_option maxHeartbeats 4000000 in
set_option maxRecDepth 20000 in
theorem ok_X4_init_111 (G : GT) (v : VT) (hz : Zb 111 v) : MT G yX4_init cX4_init 1 none { frames := 1, cells := 1, slots := 40, locals := 20 } [vr 111] 111 v (fun r n' w => r = none ∧ n' = 112 ∧ w = updL v ls_X4_init_111) := by
  refine MT.of pn_X4_init [some (vr 111)] 0 rfl rfl (fun X C hX hn hR hnm => ?_)
  have hin := hnm rfl
  refine E.aload_n C dX4_init_0 rfl rfl ?_
  refine E.objInit C hX ob_X4_3 ob_im ob_cd dX4_init_1 (by decide) (by decide) ?_
  refine E.aload_n C dX4_init_4 rfl rfl ?_
  refine E.bipush C dX4_init_5 (by decide) ?_
  refine E.newA (t := 1) (ty := .int) (r := 112) (n' := 112) (c' := 1) (s' := 40) (m := 40) C rfl ac_int (by decide) rfl (fun _ _ h => h) rfl (by decide) dX4_init_7 (by decide) rfl rfl rfl rfl kd_112 ln_112 rfl (by decide) (fun j => hz _ j (by decide)) (by rw [hX]; decide) (by rw [hX]; decide) ?_
  have hzv_112 : Zb 112 v := Zb.le hz (by decide)
  refine E.putR C (Or.inr ⟨_, rfl⟩) fp_X4_9 rfl hin dX4_init_9 kd_111 (by decide) (by decide) (by decide) (by decide) ?_
  obtain ⟨v1, hv1⟩ : ∃ z, z = upd2 v 111 0 112 := ⟨_, rfl⟩
  refine E.heq hv1.symm ?_
  have hzv1 : Zb 112 v1 := by rw [hv1]; exact Zb.up hzv_112 (by decide)
  refine E.aload_n C dX4_init_12 rfl rfl ?_
  refine E.bipush C dX4_init_13 (by decide) ?_
  refine E.putI C fp_X4_15 rfl dX4_init_15 kd_111 (by decide) ?_
  obtain ⟨v2, hv2⟩ : ∃ z, z = upd2 v1 111 1 (-4) := ⟨_, rfl⟩
  refine E.heq hv2.symm ?_
  have hzv2 : Zb 112 v2 := by rw [hv2]; exact Zb.up hzv1 (by decide)
  refine E.aload_n C dX4_init_18 rfl rfl ?_
  refine E.iconst C dX4_init_19 (by decide) ?_
  refine E.putI C fp_X4_19 rfl dX4_init_20 kd_111 (by decide) ?_
  obtain ⟨v3, hv3⟩ : ∃ z, z = upd2 v2 111 2 0 := ⟨_, rfl⟩
  refine E.heq hv3.symm ?_
  have hzv3 : Zb 112 v3 := by rw [hv3]; exact Zb.up hzv2 (by decide)
  refine E.vret C hR dX4_init_23 (fun hi => ⟨rfl, rfl, ?_⟩)
  rw [hv3, hv2, hv1]
  rfl
def ls_X4_init_113 : List (Int × Int × Int) := [(113, 0, 114), (113, 1, (-4)), (113, 2, 0)]
set_option maxHeartbeats 4000000 in
set_option maxRecDepth 20000 in
theorem ok_X4_init_113 (G : GT) (v : VT) (hz : Zb 113 v) : MT G yX4_init cX4_init 1 none { frames := 1, cells := 1, slots := 40, locals := 20 } [vr 113] 113 v (fun r n' w => r = none ∧ n' = 114 ∧ w = updL v ls_X4_init_113) := by
  refine MT.of pn_X4_init [some (vr 113)] 0 rfl rfl (fun X C hX hn hR hnm => ?_)
  have hin := hnm rfl
  refine E.aload_n C dX4_init_0 rfl rfl ?_
  refine E.objInit C hX ob_X4_3 ob_im ob_cd dX4_init_1 (by decide) (by decide) ?_
  refine E.aload_n C dX4_init_4 rfl rfl ?_
  refine E.bipush C dX4_init_5 (by decide) ?_
  refine E.newA (t := 1) (ty := .int) (r := 114) (n' := 114) (c' := 1) (s' := 40) (m := 40) C rfl ac_int (by decide) rfl (fun _ _ h => h) rfl (by decide) dX4_init_7 (by decide) rfl rfl rfl rfl kd_114 ln_114 rfl (by decide) (fun j => hz _ j (by decide)) (by rw [hX]; decide) (by rw [hX]; decide) ?_
  have hzv_114 : Zb 114 v := Zb.le hz (by decide)
  refine E.putR C (Or.inr ⟨_, rfl⟩) fp_X4_9 rfl hin dX4_init_9 kd_113 (by decide) (by decide) (by decide) (by decide) ?_
  obtain ⟨v1, hv1⟩ : ∃ z, z = upd2 v 113 0 114 := ⟨_, rfl⟩
  refine E.heq hv1.symm ?_
  have hzv1 : Zb 114 v1 := by rw [hv1]; exact Zb.up hzv_114 (by decide)
  refine E.aload_n C dX4_init_12 rfl rfl ?_
  refine E.bipush C dX4_init_13 (by decide) ?_
  refine E.putI C fp_X4_15 rfl dX4_init_15 kd_113 (by decide) ?_
  obtain ⟨v2, hv2⟩ : ∃ z, z = upd2 v1 113 1 (-4) := ⟨_, rfl⟩
  refine E.heq hv2.symm ?_
  have hzv2 : Zb 114 v2 := by rw [hv2]; exact Zb.up hzv1 (by decide)
  refine E.aload_n C dX4_init_18 rfl rfl ?_
  refine E.iconst C dX4_init_19 (by decide) ?_
  refine E.putI C fp_X4_19 rfl dX4_init_20 kd_113 (by decide) ?_
  obtain ⟨v3, hv3⟩ : ∃ z, z = upd2 v2 113 2 0 := ⟨_, rfl⟩
  refine E.heq hv3.symm ?_
  have hzv3 : Zb 114 v3 := by rw [hv3]; exact Zb.up hzv2 (by decide)
  refine E.vret C hR dX4_init_23 (fun hi => ⟨rfl, rfl, ?_⟩)
  rw [hv3, hv2, hv1]
  rfl
def ls_X4_init_115 : List (Int × Int × Int) := [(115, 0, 116), (115, 1, (-4)), (115, 2, 0)]
set_option maxHeartbeats 4000000 in
set_option maxRecDepth 20000 in
theorem ok_X4_init_115 (G : GT) (v : VT) (hz : Zb 115 v) : MT G yX4_init cX4_init 1 none { frames := 1, cells := 1, slots := 40, locals := 20 } [vr 115] 115 v (fun r n' w => r = none ∧ n' = 116 ∧ w = updL v ls_X4_init_115) := by
  refine MT.of pn_X4_init [some (vr 115)] 0 rfl rfl (fun X C hX hn hR hnm => ?_)
  have hin := hnm rfl
  refine E.aload_n C dX4_init_0 rfl rfl ?_
  refine E.objInit C hX ob_X4_3 ob_im ob_cd dX4_init_1 (by decide) (by decide) ?_
  refine E.aload_n C dX4_init_4 rfl rfl ?_
  refine E.bipush C dX4_init_5 (by decide) ?_
  refine E.newA (t := 1) (ty := .int) (r := 116) (n' := 116) (c' := 1) (s' := 40) (m := 40) C rfl ac_int (by decide) rfl (fun _ _ h => h) rfl (by decide) dX4_init_7 (by decide) rfl rfl rfl rfl kd_116 ln_116 rfl (by decide) (fun j => hz _ j (by decide)) (by rw [hX]; decide) (by rw [hX]; decide) ?_
  have hzv_116 : Zb 116 v := Zb.le hz (by decide)
  refine E.putR C (Or.inr ⟨_, rfl⟩) fp_X4_9 rfl hin dX4_init_9 kd_115 (by decide) (by decide) (by decide) (by decide) ?_
  obtain ⟨v1, hv1⟩ : ∃ z, z = upd2 v 115 0 116 := ⟨_, rfl⟩
  refine E.heq hv1.symm ?_
  have hzv1 : Zb 116 v1 := by rw [hv1]; exact Zb.up hzv_116 (by decide)
  refine E.aload_n C dX4_init_12 rfl rfl ?_
  refine E.bipush C dX4_init_13 (by decide) ?_
  refine E.putI C fp_X4_15 rfl dX4_init_15 kd_115 (by decide) ?_
  obtain ⟨v2, hv2⟩ : ∃ z, z = upd2 v1 115 1 (-4) := ⟨_, rfl⟩
  refine E.heq hv2.symm ?_
  have hzv2 : Zb 116 v2 := by rw [hv2]; exact Zb.up hzv1 (by decide)
  refine E.aload_n C dX4_init_18 rfl rfl ?_
  refine E.iconst C dX4_init_19 (by decide) ?_
  refine E.putI C fp_X4_19 rfl dX4_init_20 kd_115 (by decide) ?_
  obtain ⟨v3, hv3⟩ : ∃ z, z = upd2 v2 115 2 0 := ⟨_, rfl⟩
  refine E.heq hv3.symm ?_
  have hzv3 : Zb 116 v3 := by rw [hv3]; exact Zb.up hzv2 (by decide)
  refine E.vret C hR dX4_init_23 (fun hi => ⟨rfl, rfl, ?_⟩)
  rw [hv3, hv2, hv1]
  rfl
def ls_X4_init_117 : List (Int × Int × Int) := [(117, 0, 118), (117, 1, (-4)), (117, 2, 0)]
set_option maxHeartbeats 4000000 in
set_option maxRecDepth 20000 in
theorem ok_X4_init_117 (G : GT) (v : VT) (hz : Zb 117 v) : MT G yX4_init cX4_init 1 none { frames := 1, cells := 1, slots := 40, locals := 20 } [vr 117] 117 v (fun r n' w => r = none ∧ n' = 118 ∧ w = updL v ls_X4_init_117) := by
  refine MT.of pn_X4_init [some (vr 117)] 0 rfl rfl (fun X C hX hn hR hnm => ?_)
  have hin := hnm rfl
  refine E.aload_n C dX4_init_0 rfl rfl ?_
  refine E.objInit C hX ob_X4_3 ob_im ob_cd dX4_init_1 (by decide) (by decide) ?_
  refine E.aload_n C dX4_init_4 rfl rfl ?_
  refine E.bipush C dX4_init_5 (by decide) ?_
  refine E.newA (t := 1) (ty := .int) (r := 118) (n' := 118) (c' := 1) (s' := 40) (m := 40) C rfl ac_int (by decide) rfl (fun _ _ h => h) rfl (by decide) dX4_init_7 (by decide) rfl rfl rfl rfl kd_118 ln_118 rfl (by decide) (fun j => hz _ j (by decide)) (by rw [hX]; decide) (by rw [hX]; decide) ?_
  have hzv_118 : Zb 118 v := Zb.le hz (by decide)
  refine E.putR C (Or.inr ⟨_, rfl⟩) fp_X4_9 rfl hin dX4_init_9 kd_117 (by decide) (by decide) (by decide) (by decide) ?_
  obtain ⟨v1, hv1⟩ : ∃ z, z = upd2 v 117 0 118 := ⟨_, rfl⟩
  refine E.heq hv1.symm ?_
  have hzv1 : Zb 118 v1 := by rw [hv1]; exact Zb.up hzv_118 (by decide)
  refine E.aload_n C dX4_init_12 rfl rfl ?_
  refine E.bipush C dX4_init_13 (by decide) ?_
  refine E.putI C fp_X4_15 rfl dX4_init_15 kd_117 (by decide) ?_
  obtain ⟨v2, hv2⟩ : ∃ z, z = upd2 v1 117 1 (-4) := ⟨_, rfl⟩
  refine E.heq hv2.symm ?_
  have hzv2 : Zb 118 v2 := by rw [hv2]; exact Zb.up hzv1 (by decide)
  refine E.aload_n C dX4_init_18 rfl rfl ?_
  refine E.iconst C dX4_init_19 (by decide) ?_
  refine E.putI C fp_X4_19 rfl dX4_init_20 kd_117 (by decide) ?_
  obtain ⟨v3, hv3⟩ : ∃ z, z = upd2 v2 117 2 0 := ⟨_, rfl⟩
  refine E.heq hv3.symm ?_
  have hzv3 : Zb 118 v3 := by rw [hv3]; exact Zb.up hzv2 (by decide)
  refine E.vret C hR dX4_init_23 (fun hi => ⟨rfl, rfl, ?_⟩)
  rw [hv3, hv2, hv1]
  rfl
