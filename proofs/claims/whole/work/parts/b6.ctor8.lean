-- the constructor of the class
def ls_X8_init_1 : List (Int × Int × Int) := ls_X5_init_2 ++ ([(1, 0, 2)] ++ (ls_X7_init_4 ++ ([(1, 1, 4)] ++ (ls_X7_init_27 ++ ([(1, 2, 27)] ++ (ls_X3_init_50 ++ ([(1, 3, 50), (1, 4, 51), (1, 5, 52), (1, 6, 53)] ++ (ls_X1_init_54 ++ ([(1, 7, 54)] ++ (ls_X2_init_60 ++ ([(1, 8, 60), (1, 9, 64), (1, 10, 2), (1, 11, 0), (1, 12, 0)] ++ (ls_X7_init_65 ++ ([(51, 0, 65)] ++ (ls_X7_init_88 ++ ([(51, 1, 88)] ++ (ls_X4_init_111 ++ ([(53, 0, 111)] ++ (ls_X4_init_113 ++ ([(53, 1, 113)] ++ (ls_X4_init_115 ++ ([(53, 2, 115)] ++ (ls_X4_init_117 ++ ([(53, 3, 117)])))))))))))))))))))))))
set_option maxHeartbeats 4000000 in
set_option maxRecDepth 20000 in
theorem ok_X8_init_1 (G : GT) (v : VT) (hz : Zb 1 v) : MT G yX8_init cX8_init 2 none { frames := 3, cells := 117, slots := 2053, locals := 61 } [vr 1] 1 v (fun r n' w => r = none ∧ n' = 118 ∧ w = updL v ls_X8_init_1) := by
  refine MT.of pn_X8_init [some (vr 1), none] 1 rfl rfl (fun X C hX hn hR hnm => ?_)
  have hin := hnm rfl
  refine E.aload_n C dX8_init_0 rfl rfl ?_
  refine E.objInit C hX ob_X8_1 ob_im ob_cd dX8_init_1 (by decide) (by decide) ?_
  refine E.aload_n C dX8_init_4 rfl rfl ?_
  refine E.newO (r := 2) (n' := 2) (c' := 1) (s' := 2) C nw_X8_7 dX8_init_5 (by decide) rfl rfl rfl rfl kd_2 (fun j => hz _ j (by decide)) (by rw [hX]; decide) (by rw [hX]; decide) ?_
  have hzv_2 : Zb 2 v := Zb.le hz (by decide)
  refine E.dupR C dX8_init_8 ?_
  refine E.callI (S := [vr 2, vr 1]) (As := []) C hX (ok_X5_init_2 G v hzv_2) yf_X5_init rfl yv_X5_init ml_X8_9 rfl (by decide) (by decide) (Nat.le_of_ble_eq_true rfl) dX8_init_9 rfl (fun r n' w hq => ?_)
  obtain ⟨rfl, rfl, hw⟩ := hq
  refine E.count (c' := 2) (s' := 402) (S' := [vr 2, vr 1]) rfl rfl rfl ?_
  rw [hw]
  obtain ⟨v1, hv1⟩ : ∃ z, z = updL v ls_X5_init_2 := ⟨_, rfl⟩
  refine E.heq hv1.symm ?_
  have hzv1 : Zb 3 v1 := by rw [hv1]; exact Zb.upL (Zb.le hzv_2 (by decide)) (by decide +kernel)
  refine E.putR C (Or.inl ⟨_, rfl⟩) fp_X8_10 rfl hin dX8_init_12 kd_1 (by decide) (by decide) (by decide) (by decide) ?_
  obtain ⟨v2, hv2⟩ : ∃ z, z = upd2 v1 1 0 2 := ⟨_, rfl⟩
  refine E.heq hv2.symm ?_
  have hzv2 : Zb 3 v2 := by rw [hv2]; exact Zb.up hzv1 (by decide)
  have fv2_1_0 : v2 1 0 = 2 := by rw [hv2]; exact upd2_same _ _ _ _
  refine E.aload_n C dX8_init_15 rfl rfl ?_
  refine E.newO (r := 4) (n' := 4) (c' := 3) (s' := 409) C nw_X8_16 dX8_init_16 (by decide) rfl rfl rfl rfl kd_4 (fun j => hzv2 _ j (by decide)) (by rw [hX]; decide) (by rw [hX]; decide) ?_
  have hzv2_4 : Zb 4 v2 := Zb.le hzv2 (by decide)
  refine E.dupR C dX8_init_19 ?_
  refine E.callI (S := [vr 4, vr 1]) (As := []) C hX (ok_X7_init_4 G v2 hzv2_4) yf_X7_init rfl yv_X7_init ml_X8_18 rfl (by decide) (by decide) (Nat.le_of_ble_eq_true rfl) dX8_init_20 rfl (fun r n' w hq => ?_)
  obtain ⟨rfl, rfl, hw⟩ := hq
  refine E.count (c' := 25) (s' := 617) (S' := [vr 4, vr 1]) rfl rfl rfl ?_
  rw [hw]
  obtain ⟨v3, hv3⟩ : ∃ z, z = updL v2 ls_X7_init_4 := ⟨_, rfl⟩
  refine E.heq hv3.symm ?_
  have hzv3 : Zb 26 v3 := by rw [hv3]; exact Zb.upL (Zb.le hzv2_4 (by decide)) (by decide +kernel)
  have fv3_1_0 : v3 1 0 = 2 := by rw [hv3, updL_ne (by decide +kernel)]; exact fv2_1_0
  refine E.putR C (Or.inl ⟨_, rfl⟩) fp_X8_19 rfl hin dX8_init_23 kd_1 (by decide) (by decide) (by decide) (by decide) ?_
  obtain ⟨v4, hv4⟩ : ∃ z, z = upd2 v3 1 1 4 := ⟨_, rfl⟩
  refine E.heq hv4.symm ?_
  have hzv4 : Zb 26 v4 := by rw [hv4]; exact Zb.up hzv3 (by decide)
  have fv4_1_0 : v4 1 0 = 2 := by rw [hv4, upd2_ne _ _ _ _ _ _ (by decide)]; exact fv3_1_0
  refine E.aload_n C dX8_init_26 rfl rfl ?_
  refine E.newO (r := 27) (n' := 27) (c' := 26) (s' := 624) C nw_X8_16 dX8_init_27 (by decide) rfl rfl rfl rfl kd_27 (fun j => hzv4 _ j (by decide)) (by rw [hX]; decide) (by rw [hX]; decide) ?_
  have hzv4_27 : Zb 27 v4 := Zb.le hzv4 (by decide)
  refine E.dupR C dX8_init_30 ?_
  refine E.callI (S := [vr 27, vr 1]) (As := []) C hX (ok_X7_init_27 G v4 hzv4_27) yf_X7_init rfl yv_X7_init ml_X8_18 rfl (by decide) (by decide) (Nat.le_of_ble_eq_true rfl) dX8_init_31 rfl (fun r n' w hq => ?_)
  obtain ⟨rfl, rfl, hw⟩ := hq
  refine E.count (c' := 48) (s' := 832) (S' := [vr 27, vr 1]) rfl rfl rfl ?_
  rw [hw]
  obtain ⟨v5, hv5⟩ : ∃ z, z = updL v4 ls_X7_init_27 := ⟨_, rfl⟩
  refine E.heq hv5.symm ?_
  have hzv5 : Zb 49 v5 := by rw [hv5]; exact Zb.upL (Zb.le hzv4_27 (by decide)) (by decide +kernel)
  have fv5_1_0 : v5 1 0 = 2 := by rw [hv5, updL_ne (by decide +kernel)]; exact fv4_1_0
  refine E.putR C (Or.inl ⟨_, rfl⟩) fp_X8_23 rfl hin dX8_init_34 kd_1 (by decide) (by decide) (by decide) (by decide) ?_
  obtain ⟨v6, hv6⟩ : ∃ z, z = upd2 v5 1 2 27 := ⟨_, rfl⟩
  refine E.heq hv6.symm ?_
  have hzv6 : Zb 49 v6 := by rw [hv6]; exact Zb.up hzv5 (by decide)
  have fv6_1_0 : v6 1 0 = 2 := by rw [hv6, upd2_ne _ _ _ _ _ _ (by decide)]; exact fv5_1_0
  have fv6_1_2 : v6 1 2 = 27 := by rw [hv6]; exact upd2_same _ _ _ _
  refine E.aload_n C dX8_init_37 rfl rfl ?_
  refine E.newO (r := 50) (n' := 50) (c' := 49) (s' := 844) C nw_X8_26 dX8_init_38 (by decide) rfl rfl rfl rfl kd_50 (fun j => hzv6 _ j (by decide)) (by rw [hX]; decide) (by rw [hX]; decide) ?_
  have hzv6_50 : Zb 50 v6 := Zb.le hzv6 (by decide)
  refine E.dupR C dX8_init_41 ?_
  refine E.aload_n C dX8_init_42 rfl rfl ?_
  refine E.getR C fa_X8_10 rfl dX8_init_43 kd_1 (by decide) fv6_1_0 (by decide) ?_
  refine E.aload_n C dX8_init_46 rfl rfl ?_
  refine E.getR C fa_X8_23 rfl dX8_init_47 kd_1 (by decide) fv6_1_2 (by decide) ?_
  refine E.callI (S := [vr 50, vr 1]) (As := [vr 2, vr 27]) C hX (ok_X3_init_50 G v6 hzv6_50) yf_X3_init rfl yv_X3_init ml_X8_28 rfl (by decide) (by decide) (Nat.le_of_ble_eq_true rfl) dX8_init_50 rfl (fun r n' w hq => ?_)
  obtain ⟨rfl, rfl, hw⟩ := hq
  refine E.count (c' := 49) (s' := 844) (S' := [vr 50, vr 1]) rfl rfl rfl ?_
  rw [hw]
  obtain ⟨v7, hv7⟩ : ∃ z, z = updL v6 ls_X3_init_50 := ⟨_, rfl⟩
  refine E.heq hv7.symm ?_
  have hzv7 : Zb 50 v7 := by rw [hv7]; exact Zb.upL (Zb.le hzv6_50 (by decide)) (by decide +kernel)
  have fv7_1_0 : v7 1 0 = 2 := by rw [hv7, updL_ne (by decide +kernel)]; exact fv6_1_0
  have fv7_1_2 : v7 1 2 = 27 := by rw [hv7, updL_ne (by decide +kernel)]; exact fv6_1_2
  refine E.putR C (Or.inl ⟨_, rfl⟩) fp_X8_31 rfl hin dX8_init_53 kd_1 (by decide) (by decide) (by decide) (by decide) ?_
  obtain ⟨v8, hv8⟩ : ∃ z, z = upd2 v7 1 3 50 := ⟨_, rfl⟩
  refine E.heq hv8.symm ?_
  have hzv8 : Zb 50 v8 := by rw [hv8]; exact Zb.up hzv7 (by decide)
  have fv8_1_0 : v8 1 0 = 2 := by rw [hv8, upd2_ne _ _ _ _ _ _ (by decide)]; exact fv7_1_0
  have fv8_1_2 : v8 1 2 = 27 := by rw [hv8, upd2_ne _ _ _ _ _ _ (by decide)]; exact fv7_1_2
  refine E.aload_n C dX8_init_56 rfl rfl ?_
  refine E.iconst C dX8_init_57 (by decide) ?_
  refine E.newQ (t := 6) (Cn := RX7) (r := 51) (n' := 51) (c' := 50) (s' := 846) (m := 2) C cl_X8_16 C.2.2.2.2.2.2.2.2.2.2.2.2.1 (by decide) rfl dX8_init_58 (by decide) rfl rfl rfl rfl kd_51 ln_51 rfl (by decide) (fun j => hzv8 _ j (by decide)) (by rw [hX]; decide) (by rw [hX]; decide) ?_
  have hzv8_51 : Zb 51 v8 := Zb.le hzv8 (by decide)
  refine E.putR C (Or.inr ⟨_, rfl⟩) fp_X8_35 rfl hin dX8_init_61 kd_1 (by decide) (by decide) (by decide) (by decide) ?_
  obtain ⟨v9, hv9⟩ : ∃ z, z = upd2 v8 1 4 51 := ⟨_, rfl⟩
  refine E.heq hv9.symm ?_
  have hzv9 : Zb 51 v9 := by rw [hv9]; exact Zb.up hzv8_51 (by decide)
  have fv9_1_0 : v9 1 0 = 2 := by rw [hv9, upd2_ne _ _ _ _ _ _ (by decide)]; exact fv8_1_0
  have fv9_1_2 : v9 1 2 = 27 := by rw [hv9, upd2_ne _ _ _ _ _ _ (by decide)]; exact fv8_1_2
  have fv9_1_4 : v9 1 4 = 51 := by rw [hv9]; exact upd2_same _ _ _ _
  refine E.aload_n C dX8_init_64 rfl rfl ?_
  refine E.iconst C dX8_init_65 (by decide) ?_
  refine E.newA (t := 2) (ty := .boolean) (r := 52) (n' := 52) (c' := 51) (s' := 848) (m := 2) C rfl ac_boolean (by decide) rfl (fun _ _ h => h) rfl (by decide) dX8_init_66 (by decide) rfl rfl rfl rfl kd_52 ln_52 rfl (by decide) (fun j => hzv9 _ j (by decide)) (by rw [hX]; decide) (by rw [hX]; decide) ?_
  have hzv9_52 : Zb 52 v9 := Zb.le hzv9 (by decide)
  refine E.putR C (Or.inr ⟨_, rfl⟩) fp_X8_39 rfl hin dX8_init_68 kd_1 (by decide) (by decide) (by decide) (by decide) ?_
  obtain ⟨v10, hv10⟩ : ∃ z, z = upd2 v9 1 5 52 := ⟨_, rfl⟩
  refine E.heq hv10.symm ?_
  have hzv10 : Zb 52 v10 := by rw [hv10]; exact Zb.up hzv9_52 (by decide)
  have fv10_1_0 : v10 1 0 = 2 := by rw [hv10, upd2_ne _ _ _ _ _ _ (by decide)]; exact fv9_1_0
  have fv10_1_2 : v10 1 2 = 27 := by rw [hv10, upd2_ne _ _ _ _ _ _ (by decide)]; exact fv9_1_2
  have fv10_1_4 : v10 1 4 = 51 := by rw [hv10, upd2_ne _ _ _ _ _ _ (by decide)]; exact fv9_1_4
  refine E.aload_n C dX8_init_71 rfl rfl ?_
  refine E.iconst C dX8_init_72 (by decide) ?_
  refine E.newQ (t := 4) (Cn := RX4) (r := 53) (n' := 53) (c' := 52) (s' := 852) (m := 4) C cl_X8_43 C.2.2.2.2.2.2.2.2.2.2.1 (by decide) rfl dX8_init_73 (by decide) rfl rfl rfl rfl kd_53 ln_53 rfl (by decide) (fun j => hzv10 _ j (by decide)) (by rw [hX]; decide) (by rw [hX]; decide) ?_
  have hzv10_53 : Zb 53 v10 := Zb.le hzv10 (by decide)
  refine E.putR C (Or.inr ⟨_, rfl⟩) fp_X8_45 rfl hin dX8_init_76 kd_1 (by decide) (by decide) (by decide) (by decide) ?_
  obtain ⟨v11, hv11⟩ : ∃ z, z = upd2 v10 1 6 53 := ⟨_, rfl⟩
  refine E.heq hv11.symm ?_
  have hzv11 : Zb 53 v11 := by rw [hv11]; exact Zb.up hzv10_53 (by decide)
  have fv11_1_0 : v11 1 0 = 2 := by rw [hv11, upd2_ne _ _ _ _ _ _ (by decide)]; exact fv10_1_0
  have fv11_1_2 : v11 1 2 = 27 := by rw [hv11, upd2_ne _ _ _ _ _ _ (by decide)]; exact fv10_1_2
  have fv11_1_4 : v11 1 4 = 51 := by rw [hv11, upd2_ne _ _ _ _ _ _ (by decide)]; exact fv10_1_4
  have fv11_1_6 : v11 1 6 = 53 := by rw [hv11]; exact upd2_same _ _ _ _
  refine E.aload_n C dX8_init_79 rfl rfl ?_
  refine E.newO (r := 54) (n' := 54) (c' := 53) (s' := 860) C nw_X8_49 dX8_init_80 (by decide) rfl rfl rfl rfl kd_54 (fun j => hzv11 _ j (by decide)) (by rw [hX]; decide) (by rw [hX]; decide) ?_
  have hzv11_54 : Zb 54 v11 := Zb.le hzv11 (by decide)
  refine E.dupR C dX8_init_83 ?_
  refine E.callI (S := [vr 54, vr 1]) (As := []) C hX (ok_X1_init_54 G v11 hzv11_54) yf_X1_init rfl yv_X1_init ml_X8_51 rfl (by decide) (by decide) (Nat.le_of_ble_eq_true rfl) dX8_init_84 rfl (fun r n' w hq => ?_)
  obtain ⟨rfl, rfl, hw⟩ := hq
  refine E.count (c' := 58) (s' := 924) (S' := [vr 54, vr 1]) rfl rfl rfl ?_
  rw [hw]
  obtain ⟨v12, hv12⟩ : ∃ z, z = updL v11 ls_X1_init_54 := ⟨_, rfl⟩
  refine E.heq hv12.symm ?_
  have hzv12 : Zb 59 v12 := by rw [hv12]; exact Zb.upL (Zb.le hzv11_54 (by decide)) (by decide +kernel)
  have fv12_1_0 : v12 1 0 = 2 := by rw [hv12, updL_ne (by decide +kernel)]; exact fv11_1_0
  have fv12_1_2 : v12 1 2 = 27 := by rw [hv12, updL_ne (by decide +kernel)]; exact fv11_1_2
  have fv12_1_4 : v12 1 4 = 51 := by rw [hv12, updL_ne (by decide +kernel)]; exact fv11_1_4
  have fv12_1_6 : v12 1 6 = 53 := by rw [hv12, updL_ne (by decide +kernel)]; exact fv11_1_6
  refine E.putR C (Or.inl ⟨_, rfl⟩) fp_X8_52 rfl hin dX8_init_87 kd_1 (by decide) (by decide) (by decide) (by decide) ?_
  obtain ⟨v13, hv13⟩ : ∃ z, z = upd2 v12 1 7 54 := ⟨_, rfl⟩
  refine E.heq hv13.symm ?_
  have hzv13 : Zb 59 v13 := by rw [hv13]; exact Zb.up hzv12 (by decide)
  have fv13_1_0 : v13 1 0 = 2 := by rw [hv13, upd2_ne _ _ _ _ _ _ (by decide)]; exact fv12_1_0
  have fv13_1_2 : v13 1 2 = 27 := by rw [hv13, upd2_ne _ _ _ _ _ _ (by decide)]; exact fv12_1_2
  have fv13_1_4 : v13 1 4 = 51 := by rw [hv13, upd2_ne _ _ _ _ _ _ (by decide)]; exact fv12_1_4
  have fv13_1_6 : v13 1 6 = 53 := by rw [hv13, upd2_ne _ _ _ _ _ _ (by decide)]; exact fv12_1_6
  refine E.aload_n C dX8_init_90 rfl rfl ?_
  refine E.newO (r := 60) (n' := 60) (c' := 59) (s' := 929) C nw_X8_56 dX8_init_91 (by decide) rfl rfl rfl rfl kd_60 (fun j => hzv13 _ j (by decide)) (by rw [hX]; decide) (by rw [hX]; decide) ?_
  have hzv13_60 : Zb 60 v13 := Zb.le hzv13 (by decide)
  refine E.dupR C dX8_init_94 ?_
  refine E.callI (S := [vr 60, vr 1]) (As := []) C hX (ok_X2_init_60 G v13 hzv13_60) yf_X2_init rfl yv_X2_init ml_X8_58 rfl (by decide) (by decide) (Nat.le_of_ble_eq_true rfl) dX8_init_95 rfl (fun r n' w hq => ?_)
  obtain ⟨rfl, rfl, hw⟩ := hq
  refine E.count (c' := 62) (s' := 1447) (S' := [vr 60, vr 1]) rfl rfl rfl ?_
  rw [hw]
  obtain ⟨v14, hv14⟩ : ∃ z, z = updL v13 ls_X2_init_60 := ⟨_, rfl⟩
  refine E.heq hv14.symm ?_
  have hzv14 : Zb 63 v14 := by rw [hv14]; exact Zb.upL (Zb.le hzv13_60 (by decide)) (by decide +kernel)
  have fv14_1_0 : v14 1 0 = 2 := by rw [hv14, updL_ne (by decide +kernel)]; exact fv13_1_0
  have fv14_1_2 : v14 1 2 = 27 := by rw [hv14, updL_ne (by decide +kernel)]; exact fv13_1_2
  have fv14_1_4 : v14 1 4 = 51 := by rw [hv14, updL_ne (by decide +kernel)]; exact fv13_1_4
  have fv14_1_6 : v14 1 6 = 53 := by rw [hv14, updL_ne (by decide +kernel)]; exact fv13_1_6
  refine E.putR C (Or.inl ⟨_, rfl⟩) fp_X8_59 rfl hin dX8_init_98 kd_1 (by decide) (by decide) (by decide) (by decide) ?_
  obtain ⟨v15, hv15⟩ : ∃ z, z = upd2 v14 1 8 60 := ⟨_, rfl⟩
  refine E.heq hv15.symm ?_
  have hzv15 : Zb 63 v15 := by rw [hv15]; exact Zb.up hzv14 (by decide)
  have fv15_1_0 : v15 1 0 = 2 := by rw [hv15, upd2_ne _ _ _ _ _ _ (by decide)]; exact fv14_1_0
  have fv15_1_2 : v15 1 2 = 27 := by rw [hv15, upd2_ne _ _ _ _ _ _ (by decide)]; exact fv14_1_2
  have fv15_1_4 : v15 1 4 = 51 := by rw [hv15, upd2_ne _ _ _ _ _ _ (by decide)]; exact fv14_1_4
  have fv15_1_6 : v15 1 6 = 53 := by rw [hv15, upd2_ne _ _ _ _ _ _ (by decide)]; exact fv14_1_6
  refine E.aload_n C dX8_init_101 rfl rfl ?_
  refine E.iconst C dX8_init_102 (by decide) ?_
  refine E.newA (t := 1) (ty := .int) (r := 64) (n' := 64) (c' := 63) (s' := 1451) (m := 4) C rfl ac_int (by decide) rfl (fun _ _ h => h) rfl (by decide) dX8_init_103 (by decide) rfl rfl rfl rfl kd_64 ln_64 rfl (by decide) (fun j => hzv15 _ j (by decide)) (by rw [hX]; decide) (by rw [hX]; decide) ?_
  have hzv15_64 : Zb 64 v15 := Zb.le hzv15 (by decide)
  refine E.putR C (Or.inr ⟨_, rfl⟩) fp_X8_63 rfl hin dX8_init_105 kd_1 (by decide) (by decide) (by decide) (by decide) ?_
  obtain ⟨v16, hv16⟩ : ∃ z, z = upd2 v15 1 9 64 := ⟨_, rfl⟩
  refine E.heq hv16.symm ?_
  have hzv16 : Zb 64 v16 := by rw [hv16]; exact Zb.up hzv15_64 (by decide)
  have fv16_1_0 : v16 1 0 = 2 := by rw [hv16, upd2_ne _ _ _ _ _ _ (by decide)]; exact fv15_1_0
  have fv16_1_2 : v16 1 2 = 27 := by rw [hv16, upd2_ne _ _ _ _ _ _ (by decide)]; exact fv15_1_2
  have fv16_1_4 : v16 1 4 = 51 := by rw [hv16, upd2_ne _ _ _ _ _ _ (by decide)]; exact fv15_1_4
  have fv16_1_6 : v16 1 6 = 53 := by rw [hv16, upd2_ne _ _ _ _ _ _ (by decide)]; exact fv15_1_6
  refine E.aload_n C dX8_init_108 rfl rfl ?_
  refine E.iconst C dX8_init_109 (by decide) ?_
  refine E.putI C fp_X8_67 rfl dX8_init_110 kd_1 (by decide) ?_
  obtain ⟨v17, hv17⟩ : ∃ z, z = upd2 v16 1 10 2 := ⟨_, rfl⟩
  refine E.heq hv17.symm ?_
  have hzv17 : Zb 64 v17 := by rw [hv17]; exact Zb.up hzv16 (by decide)
  have fv17_1_0 : v17 1 0 = 2 := by rw [hv17, upd2_ne _ _ _ _ _ _ (by decide)]; exact fv16_1_0
  have fv17_1_2 : v17 1 2 = 27 := by rw [hv17, upd2_ne _ _ _ _ _ _ (by decide)]; exact fv16_1_2
  have fv17_1_4 : v17 1 4 = 51 := by rw [hv17, upd2_ne _ _ _ _ _ _ (by decide)]; exact fv16_1_4
  have fv17_1_6 : v17 1 6 = 53 := by rw [hv17, upd2_ne _ _ _ _ _ _ (by decide)]; exact fv16_1_6
  refine E.aload_n C dX8_init_113 rfl rfl ?_
  refine E.iconst C dX8_init_114 (by decide) ?_
  refine E.putI C fp_X8_71 rfl dX8_init_115 kd_1 (by decide) ?_
  obtain ⟨v18, hv18⟩ : ∃ z, z = upd2 v17 1 11 0 := ⟨_, rfl⟩
  refine E.heq hv18.symm ?_
  have hzv18 : Zb 64 v18 := by rw [hv18]; exact Zb.up hzv17 (by decide)
  have fv18_1_0 : v18 1 0 = 2 := by rw [hv18, upd2_ne _ _ _ _ _ _ (by decide)]; exact fv17_1_0
  have fv18_1_2 : v18 1 2 = 27 := by rw [hv18, upd2_ne _ _ _ _ _ _ (by decide)]; exact fv17_1_2
  have fv18_1_4 : v18 1 4 = 51 := by rw [hv18, upd2_ne _ _ _ _ _ _ (by decide)]; exact fv17_1_4
  have fv18_1_6 : v18 1 6 = 53 := by rw [hv18, upd2_ne _ _ _ _ _ _ (by decide)]; exact fv17_1_6
  refine E.aload_n C dX8_init_118 rfl rfl ?_
  refine E.iconst C dX8_init_119 (by decide) ?_
  refine E.putI C fp_X8_74 rfl dX8_init_120 kd_1 (by decide) ?_
  obtain ⟨v19, hv19⟩ : ∃ z, z = upd2 v18 1 12 0 := ⟨_, rfl⟩
  refine E.heq hv19.symm ?_
  have hzv19 : Zb 64 v19 := by rw [hv19]; exact Zb.up hzv18 (by decide)
  have fv19_1_0 : v19 1 0 = 2 := by rw [hv19, upd2_ne _ _ _ _ _ _ (by decide)]; exact fv18_1_0
  have fv19_1_2 : v19 1 2 = 27 := by rw [hv19, upd2_ne _ _ _ _ _ _ (by decide)]; exact fv18_1_2
  have fv19_1_4 : v19 1 4 = 51 := by rw [hv19, upd2_ne _ _ _ _ _ _ (by decide)]; exact fv18_1_4
  have fv19_1_6 : v19 1 6 = 53 := by rw [hv19, upd2_ne _ _ _ _ _ _ (by decide)]; exact fv18_1_6
  refine E.iconst C dX8_init_123 (by decide) ?_
  refine E.istore_n C dX8_init_124 rfl (by rw [hn]; decide) rfl ?_
  refine E.lset (L' := [some (vr 1), some (vi 0)]) rfl ?_
  refine E.iload_n C dX8_init_125 rfl rfl ?_
  refine E.iconst C dX8_init_126 (by decide) ?_
  refine E.icmp_ge C dX8_init_127 (tgt := 149) (by decide) (fun h => absurd h (by decide)) (fun _ => ?_)
  refine E.aload_n C dX8_init_130 rfl rfl ?_
  refine E.getR C fa_X8_35 rfl dX8_init_131 kd_1 (by decide) fv19_1_4 (by decide) ?_
  refine E.iload_n C dX8_init_134 rfl rfl ?_
  refine E.newO (r := 65) (n' := 65) (c' := 64) (s' := 1458) C nw_X8_16 dX8_init_135 (by decide) rfl rfl rfl rfl kd_65 (fun j => hzv19 _ j (by decide)) (by rw [hX]; decide) (by rw [hX]; decide) ?_
  have hzv19_65 : Zb 65 v19 := Zb.le hzv19 (by decide)
  refine E.dupR C dX8_init_138 ?_
  refine E.callI (S := [vr 65, vi 0, vr 51]) (As := []) C hX (ok_X7_init_65 G v19 hzv19_65) yf_X7_init rfl yv_X7_init ml_X8_18 rfl (by decide) (by decide) (Nat.le_of_ble_eq_true rfl) dX8_init_139 rfl (fun r n' w hq => ?_)
  obtain ⟨rfl, rfl, hw⟩ := hq
  refine E.count (c' := 86) (s' := 1666) (S' := [vr 65, vi 0, vr 51]) rfl rfl rfl ?_
  rw [hw]
  obtain ⟨v20, hv20⟩ : ∃ z, z = updL v19 ls_X7_init_65 := ⟨_, rfl⟩
  refine E.heq hv20.symm ?_
  have hzv20 : Zb 87 v20 := by rw [hv20]; exact Zb.upL (Zb.le hzv19_65 (by decide)) (by decide +kernel)
  have fv20_1_0 : v20 1 0 = 2 := by rw [hv20, updL_ne (by decide +kernel)]; exact fv19_1_0
  have fv20_1_2 : v20 1 2 = 27 := by rw [hv20, updL_ne (by decide +kernel)]; exact fv19_1_2
  have fv20_1_4 : v20 1 4 = 51 := by rw [hv20, updL_ne (by decide +kernel)]; exact fv19_1_4
  have fv20_1_6 : v20 1 6 = 53 := by rw [hv20, updL_ne (by decide +kernel)]; exact fv19_1_6
  refine E.aastQ (t := 6) (ci := 7) C (by decide) rfl rfl (by decide) dX8_init_142 kd_51 (by decide) (by decide) (by decide) (by rw [ln_51]; decide) kd_65 (by decide) (by decide) (by decide) ?_
  obtain ⟨v21, hv21⟩ : ∃ z, z = upd2 v20 51 0 65 := ⟨_, rfl⟩
  refine E.heq hv21.symm ?_
  have hzv21 : Zb 87 v21 := by rw [hv21]; exact Zb.up hzv20 (by decide)
  have fv21_1_0 : v21 1 0 = 2 := by rw [hv21, upd2_ne _ _ _ _ _ _ (by decide)]; exact fv20_1_0
  have fv21_1_2 : v21 1 2 = 27 := by rw [hv21, upd2_ne _ _ _ _ _ _ (by decide)]; exact fv20_1_2
  have fv21_1_4 : v21 1 4 = 51 := by rw [hv21, upd2_ne _ _ _ _ _ _ (by decide)]; exact fv20_1_4
  have fv21_1_6 : v21 1 6 = 53 := by rw [hv21, upd2_ne _ _ _ _ _ _ (by decide)]; exact fv20_1_6
  refine E.iinc C dX8_init_143 rfl (by rw [hn]; decide) rfl (by decide) ?_
  refine E.lset (L' := [some (vr 1), some (vi 1)]) rfl ?_
  refine E.goto C dX8_init_146 (tgt := 125) (by decide) ?_
  refine E.iload_n C dX8_init_125 rfl rfl ?_
  refine E.iconst C dX8_init_126 (by decide) ?_
  refine E.icmp_ge C dX8_init_127 (tgt := 149) (by decide) (fun h => absurd h (by decide)) (fun _ => ?_)
  refine E.aload_n C dX8_init_130 rfl rfl ?_
  refine E.getR C fa_X8_35 rfl dX8_init_131 kd_1 (by decide) fv21_1_4 (by decide) ?_
  refine E.iload_n C dX8_init_134 rfl rfl ?_
  refine E.newO (r := 88) (n' := 88) (c' := 87) (s' := 1673) C nw_X8_16 dX8_init_135 (by decide) rfl rfl rfl rfl kd_88 (fun j => hzv21 _ j (by decide)) (by rw [hX]; decide) (by rw [hX]; decide) ?_
  have hzv21_88 : Zb 88 v21 := Zb.le hzv21 (by decide)
  refine E.dupR C dX8_init_138 ?_
  refine E.callI (S := [vr 88, vi 1, vr 51]) (As := []) C hX (ok_X7_init_88 G v21 hzv21_88) yf_X7_init rfl yv_X7_init ml_X8_18 rfl (by decide) (by decide) (Nat.le_of_ble_eq_true rfl) dX8_init_139 rfl (fun r n' w hq => ?_)
  obtain ⟨rfl, rfl, hw⟩ := hq
  refine E.count (c' := 109) (s' := 1881) (S' := [vr 88, vi 1, vr 51]) rfl rfl rfl ?_
  rw [hw]
  obtain ⟨v22, hv22⟩ : ∃ z, z = updL v21 ls_X7_init_88 := ⟨_, rfl⟩
  refine E.heq hv22.symm ?_
  have hzv22 : Zb 110 v22 := by rw [hv22]; exact Zb.upL (Zb.le hzv21_88 (by decide)) (by decide +kernel)
  have fv22_1_0 : v22 1 0 = 2 := by rw [hv22, updL_ne (by decide +kernel)]; exact fv21_1_0
  have fv22_1_2 : v22 1 2 = 27 := by rw [hv22, updL_ne (by decide +kernel)]; exact fv21_1_2
  have fv22_1_4 : v22 1 4 = 51 := by rw [hv22, updL_ne (by decide +kernel)]; exact fv21_1_4
  have fv22_1_6 : v22 1 6 = 53 := by rw [hv22, updL_ne (by decide +kernel)]; exact fv21_1_6
  refine E.aastQ (t := 6) (ci := 7) C (by decide) rfl rfl (by decide) dX8_init_142 kd_51 (by decide) (by decide) (by decide) (by rw [ln_51]; decide) kd_88 (by decide) (by decide) (by decide) ?_
  obtain ⟨v23, hv23⟩ : ∃ z, z = upd2 v22 51 1 88 := ⟨_, rfl⟩
  refine E.heq hv23.symm ?_
  have hzv23 : Zb 110 v23 := by rw [hv23]; exact Zb.up hzv22 (by decide)
  have fv23_1_0 : v23 1 0 = 2 := by rw [hv23, upd2_ne _ _ _ _ _ _ (by decide)]; exact fv22_1_0
  have fv23_1_2 : v23 1 2 = 27 := by rw [hv23, upd2_ne _ _ _ _ _ _ (by decide)]; exact fv22_1_2
  have fv23_1_4 : v23 1 4 = 51 := by rw [hv23, upd2_ne _ _ _ _ _ _ (by decide)]; exact fv22_1_4
  have fv23_1_6 : v23 1 6 = 53 := by rw [hv23, upd2_ne _ _ _ _ _ _ (by decide)]; exact fv22_1_6
  refine E.iinc C dX8_init_143 rfl (by rw [hn]; decide) rfl (by decide) ?_
  refine E.lset (L' := [some (vr 1), some (vi 2)]) rfl ?_
  refine E.goto C dX8_init_146 (tgt := 125) (by decide) ?_
  refine E.iload_n C dX8_init_125 rfl rfl ?_
  refine E.iconst C dX8_init_126 (by decide) ?_
  refine E.icmp_ge C dX8_init_127 (tgt := 149) (by decide) (fun _ => ?_) (fun h => absurd (by decide) h)
  refine E.iconst C dX8_init_149 (by decide) ?_
  refine E.istore_n C dX8_init_150 rfl (by rw [hn]; decide) rfl ?_
  refine E.lset (L' := [some (vr 1), some (vi 0)]) rfl ?_
  refine E.iload_n C dX8_init_151 rfl rfl ?_
  refine E.iconst C dX8_init_152 (by decide) ?_
  refine E.icmp_ge C dX8_init_153 (tgt := 175) (by decide) (fun h => absurd h (by decide)) (fun _ => ?_)
  refine E.aload_n C dX8_init_156 rfl rfl ?_
  refine E.getR C fa_X8_45 rfl dX8_init_157 kd_1 (by decide) fv23_1_6 (by decide) ?_
  refine E.iload_n C dX8_init_160 rfl rfl ?_
  refine E.newO (r := 111) (n' := 111) (c' := 110) (s' := 1884) C nw_X8_43 dX8_init_161 (by decide) rfl rfl rfl rfl kd_111 (fun j => hzv23 _ j (by decide)) (by rw [hX]; decide) (by rw [hX]; decide) ?_
  have hzv23_111 : Zb 111 v23 := Zb.le hzv23 (by decide)
  refine E.dupR C dX8_init_164 ?_
  refine E.callI (S := [vr 111, vi 0, vr 53]) (As := []) C hX (ok_X4_init_111 G v23 hzv23_111) yf_X4_init rfl yv_X4_init ml_X8_77 rfl (by decide) (by decide) (Nat.le_of_ble_eq_true rfl) dX8_init_165 rfl (fun r n' w hq => ?_)
  obtain ⟨rfl, rfl, hw⟩ := hq
  refine E.count (c' := 111) (s' := 1924) (S' := [vr 111, vi 0, vr 53]) rfl rfl rfl ?_
  rw [hw]
  obtain ⟨v24, hv24⟩ : ∃ z, z = updL v23 ls_X4_init_111 := ⟨_, rfl⟩
  refine E.heq hv24.symm ?_
  have hzv24 : Zb 112 v24 := by rw [hv24]; exact Zb.upL (Zb.le hzv23_111 (by decide)) (by decide +kernel)
  have fv24_1_0 : v24 1 0 = 2 := by rw [hv24, updL_ne (by decide +kernel)]; exact fv23_1_0
  have fv24_1_2 : v24 1 2 = 27 := by rw [hv24, updL_ne (by decide +kernel)]; exact fv23_1_2
  have fv24_1_4 : v24 1 4 = 51 := by rw [hv24, updL_ne (by decide +kernel)]; exact fv23_1_4
  have fv24_1_6 : v24 1 6 = 53 := by rw [hv24, updL_ne (by decide +kernel)]; exact fv23_1_6
  refine E.aastQ (t := 4) (ci := 4) C (by decide) rfl rfl (by decide) dX8_init_168 kd_53 (by decide) (by decide) (by decide) (by rw [ln_53]; decide) kd_111 (by decide) (by decide) (by decide) ?_
  obtain ⟨v25, hv25⟩ : ∃ z, z = upd2 v24 53 0 111 := ⟨_, rfl⟩
  refine E.heq hv25.symm ?_
  have hzv25 : Zb 112 v25 := by rw [hv25]; exact Zb.up hzv24 (by decide)
  have fv25_1_0 : v25 1 0 = 2 := by rw [hv25, upd2_ne _ _ _ _ _ _ (by decide)]; exact fv24_1_0
  have fv25_1_2 : v25 1 2 = 27 := by rw [hv25, upd2_ne _ _ _ _ _ _ (by decide)]; exact fv24_1_2
  have fv25_1_4 : v25 1 4 = 51 := by rw [hv25, upd2_ne _ _ _ _ _ _ (by decide)]; exact fv24_1_4
  have fv25_1_6 : v25 1 6 = 53 := by rw [hv25, upd2_ne _ _ _ _ _ _ (by decide)]; exact fv24_1_6
  refine E.iinc C dX8_init_169 rfl (by rw [hn]; decide) rfl (by decide) ?_
  refine E.lset (L' := [some (vr 1), some (vi 1)]) rfl ?_
  refine E.goto C dX8_init_172 (tgt := 151) (by decide) ?_
  refine E.iload_n C dX8_init_151 rfl rfl ?_
  refine E.iconst C dX8_init_152 (by decide) ?_
  refine E.icmp_ge C dX8_init_153 (tgt := 175) (by decide) (fun h => absurd h (by decide)) (fun _ => ?_)
  refine E.aload_n C dX8_init_156 rfl rfl ?_
  refine E.getR C fa_X8_45 rfl dX8_init_157 kd_1 (by decide) fv25_1_6 (by decide) ?_
  refine E.iload_n C dX8_init_160 rfl rfl ?_
  refine E.newO (r := 113) (n' := 113) (c' := 112) (s' := 1927) C nw_X8_43 dX8_init_161 (by decide) rfl rfl rfl rfl kd_113 (fun j => hzv25 _ j (by decide)) (by rw [hX]; decide) (by rw [hX]; decide) ?_
  have hzv25_113 : Zb 113 v25 := Zb.le hzv25 (by decide)
  refine E.dupR C dX8_init_164 ?_
  refine E.callI (S := [vr 113, vi 1, vr 53]) (As := []) C hX (ok_X4_init_113 G v25 hzv25_113) yf_X4_init rfl yv_X4_init ml_X8_77 rfl (by decide) (by decide) (Nat.le_of_ble_eq_true rfl) dX8_init_165 rfl (fun r n' w hq => ?_)
  obtain ⟨rfl, rfl, hw⟩ := hq
  refine E.count (c' := 113) (s' := 1967) (S' := [vr 113, vi 1, vr 53]) rfl rfl rfl ?_
  rw [hw]
  obtain ⟨v26, hv26⟩ : ∃ z, z = updL v25 ls_X4_init_113 := ⟨_, rfl⟩
  refine E.heq hv26.symm ?_
  have hzv26 : Zb 114 v26 := by rw [hv26]; exact Zb.upL (Zb.le hzv25_113 (by decide)) (by decide +kernel)
  have fv26_1_0 : v26 1 0 = 2 := by rw [hv26, updL_ne (by decide +kernel)]; exact fv25_1_0
  have fv26_1_2 : v26 1 2 = 27 := by rw [hv26, updL_ne (by decide +kernel)]; exact fv25_1_2
  have fv26_1_4 : v26 1 4 = 51 := by rw [hv26, updL_ne (by decide +kernel)]; exact fv25_1_4
  have fv26_1_6 : v26 1 6 = 53 := by rw [hv26, updL_ne (by decide +kernel)]; exact fv25_1_6
  refine E.aastQ (t := 4) (ci := 4) C (by decide) rfl rfl (by decide) dX8_init_168 kd_53 (by decide) (by decide) (by decide) (by rw [ln_53]; decide) kd_113 (by decide) (by decide) (by decide) ?_
  obtain ⟨v27, hv27⟩ : ∃ z, z = upd2 v26 53 1 113 := ⟨_, rfl⟩
  refine E.heq hv27.symm ?_
  have hzv27 : Zb 114 v27 := by rw [hv27]; exact Zb.up hzv26 (by decide)
  have fv27_1_0 : v27 1 0 = 2 := by rw [hv27, upd2_ne _ _ _ _ _ _ (by decide)]; exact fv26_1_0
  have fv27_1_2 : v27 1 2 = 27 := by rw [hv27, upd2_ne _ _ _ _ _ _ (by decide)]; exact fv26_1_2
  have fv27_1_4 : v27 1 4 = 51 := by rw [hv27, upd2_ne _ _ _ _ _ _ (by decide)]; exact fv26_1_4
  have fv27_1_6 : v27 1 6 = 53 := by rw [hv27, upd2_ne _ _ _ _ _ _ (by decide)]; exact fv26_1_6
  refine E.iinc C dX8_init_169 rfl (by rw [hn]; decide) rfl (by decide) ?_
  refine E.lset (L' := [some (vr 1), some (vi 2)]) rfl ?_
  refine E.goto C dX8_init_172 (tgt := 151) (by decide) ?_
  refine E.iload_n C dX8_init_151 rfl rfl ?_
  refine E.iconst C dX8_init_152 (by decide) ?_
  refine E.icmp_ge C dX8_init_153 (tgt := 175) (by decide) (fun h => absurd h (by decide)) (fun _ => ?_)
  refine E.aload_n C dX8_init_156 rfl rfl ?_
  refine E.getR C fa_X8_45 rfl dX8_init_157 kd_1 (by decide) fv27_1_6 (by decide) ?_
  refine E.iload_n C dX8_init_160 rfl rfl ?_
  refine E.newO (r := 115) (n' := 115) (c' := 114) (s' := 1970) C nw_X8_43 dX8_init_161 (by decide) rfl rfl rfl rfl kd_115 (fun j => hzv27 _ j (by decide)) (by rw [hX]; decide) (by rw [hX]; decide) ?_
  have hzv27_115 : Zb 115 v27 := Zb.le hzv27 (by decide)
  refine E.dupR C dX8_init_164 ?_
  refine E.callI (S := [vr 115, vi 2, vr 53]) (As := []) C hX (ok_X4_init_115 G v27 hzv27_115) yf_X4_init rfl yv_X4_init ml_X8_77 rfl (by decide) (by decide) (Nat.le_of_ble_eq_true rfl) dX8_init_165 rfl (fun r n' w hq => ?_)
  obtain ⟨rfl, rfl, hw⟩ := hq
  refine E.count (c' := 115) (s' := 2010) (S' := [vr 115, vi 2, vr 53]) rfl rfl rfl ?_
  rw [hw]
  obtain ⟨v28, hv28⟩ : ∃ z, z = updL v27 ls_X4_init_115 := ⟨_, rfl⟩
  refine E.heq hv28.symm ?_
  have hzv28 : Zb 116 v28 := by rw [hv28]; exact Zb.upL (Zb.le hzv27_115 (by decide)) (by decide +kernel)
  have fv28_1_0 : v28 1 0 = 2 := by rw [hv28, updL_ne (by decide +kernel)]; exact fv27_1_0
  have fv28_1_2 : v28 1 2 = 27 := by rw [hv28, updL_ne (by decide +kernel)]; exact fv27_1_2
  have fv28_1_4 : v28 1 4 = 51 := by rw [hv28, updL_ne (by decide +kernel)]; exact fv27_1_4
  have fv28_1_6 : v28 1 6 = 53 := by rw [hv28, updL_ne (by decide +kernel)]; exact fv27_1_6
  refine E.aastQ (t := 4) (ci := 4) C (by decide) rfl rfl (by decide) dX8_init_168 kd_53 (by decide) (by decide) (by decide) (by rw [ln_53]; decide) kd_115 (by decide) (by decide) (by decide) ?_
  obtain ⟨v29, hv29⟩ : ∃ z, z = upd2 v28 53 2 115 := ⟨_, rfl⟩
  refine E.heq hv29.symm ?_
  have hzv29 : Zb 116 v29 := by rw [hv29]; exact Zb.up hzv28 (by decide)
  have fv29_1_0 : v29 1 0 = 2 := by rw [hv29, upd2_ne _ _ _ _ _ _ (by decide)]; exact fv28_1_0
  have fv29_1_2 : v29 1 2 = 27 := by rw [hv29, upd2_ne _ _ _ _ _ _ (by decide)]; exact fv28_1_2
  have fv29_1_4 : v29 1 4 = 51 := by rw [hv29, upd2_ne _ _ _ _ _ _ (by decide)]; exact fv28_1_4
  have fv29_1_6 : v29 1 6 = 53 := by rw [hv29, upd2_ne _ _ _ _ _ _ (by decide)]; exact fv28_1_6
  refine E.iinc C dX8_init_169 rfl (by rw [hn]; decide) rfl (by decide) ?_
  refine E.lset (L' := [some (vr 1), some (vi 3)]) rfl ?_
  refine E.goto C dX8_init_172 (tgt := 151) (by decide) ?_
  refine E.iload_n C dX8_init_151 rfl rfl ?_
  refine E.iconst C dX8_init_152 (by decide) ?_
  refine E.icmp_ge C dX8_init_153 (tgt := 175) (by decide) (fun h => absurd h (by decide)) (fun _ => ?_)
  refine E.aload_n C dX8_init_156 rfl rfl ?_
  refine E.getR C fa_X8_45 rfl dX8_init_157 kd_1 (by decide) fv29_1_6 (by decide) ?_
  refine E.iload_n C dX8_init_160 rfl rfl ?_
  refine E.newO (r := 117) (n' := 117) (c' := 116) (s' := 2013) C nw_X8_43 dX8_init_161 (by decide) rfl rfl rfl rfl kd_117 (fun j => hzv29 _ j (by decide)) (by rw [hX]; decide) (by rw [hX]; decide) ?_
  have hzv29_117 : Zb 117 v29 := Zb.le hzv29 (by decide)
  refine E.dupR C dX8_init_164 ?_
  refine E.callI (S := [vr 117, vi 3, vr 53]) (As := []) C hX (ok_X4_init_117 G v29 hzv29_117) yf_X4_init rfl yv_X4_init ml_X8_77 rfl (by decide) (by decide) (Nat.le_of_ble_eq_true rfl) dX8_init_165 rfl (fun r n' w hq => ?_)
  obtain ⟨rfl, rfl, hw⟩ := hq
  refine E.count (c' := 117) (s' := 2053) (S' := [vr 117, vi 3, vr 53]) rfl rfl rfl ?_
  rw [hw]
  obtain ⟨v30, hv30⟩ : ∃ z, z = updL v29 ls_X4_init_117 := ⟨_, rfl⟩
  refine E.heq hv30.symm ?_
  have hzv30 : Zb 118 v30 := by rw [hv30]; exact Zb.upL (Zb.le hzv29_117 (by decide)) (by decide +kernel)
  have fv30_1_0 : v30 1 0 = 2 := by rw [hv30, updL_ne (by decide +kernel)]; exact fv29_1_0
  have fv30_1_2 : v30 1 2 = 27 := by rw [hv30, updL_ne (by decide +kernel)]; exact fv29_1_2
  have fv30_1_4 : v30 1 4 = 51 := by rw [hv30, updL_ne (by decide +kernel)]; exact fv29_1_4
  have fv30_1_6 : v30 1 6 = 53 := by rw [hv30, updL_ne (by decide +kernel)]; exact fv29_1_6
  refine E.aastQ (t := 4) (ci := 4) C (by decide) rfl rfl (by decide) dX8_init_168 kd_53 (by decide) (by decide) (by decide) (by rw [ln_53]; decide) kd_117 (by decide) (by decide) (by decide) ?_
  obtain ⟨v31, hv31⟩ : ∃ z, z = upd2 v30 53 3 117 := ⟨_, rfl⟩
  refine E.heq hv31.symm ?_
  have hzv31 : Zb 118 v31 := by rw [hv31]; exact Zb.up hzv30 (by decide)
  have fv31_1_0 : v31 1 0 = 2 := by rw [hv31, upd2_ne _ _ _ _ _ _ (by decide)]; exact fv30_1_0
  have fv31_1_2 : v31 1 2 = 27 := by rw [hv31, upd2_ne _ _ _ _ _ _ (by decide)]; exact fv30_1_2
  have fv31_1_4 : v31 1 4 = 51 := by rw [hv31, upd2_ne _ _ _ _ _ _ (by decide)]; exact fv30_1_4
  have fv31_1_6 : v31 1 6 = 53 := by rw [hv31, upd2_ne _ _ _ _ _ _ (by decide)]; exact fv30_1_6
  refine E.iinc C dX8_init_169 rfl (by rw [hn]; decide) rfl (by decide) ?_
  refine E.lset (L' := [some (vr 1), some (vi 4)]) rfl ?_
  refine E.goto C dX8_init_172 (tgt := 151) (by decide) ?_
  refine E.iload_n C dX8_init_151 rfl rfl ?_
  refine E.iconst C dX8_init_152 (by decide) ?_
  refine E.icmp_ge C dX8_init_153 (tgt := 175) (by decide) (fun _ => ?_) (fun h => absurd (by decide) h)
  refine E.vret C hR dX8_init_175 (fun hi => ⟨rfl, rfl, ?_⟩)
  unfold ls_X8_init_1
  rw [updL_app, updL_app, updL_app, updL_app, updL_app, updL_app, updL_app, updL_app, updL_app, updL_app, updL_app, updL_app, updL_app, updL_app, updL_app, updL_app, updL_app, updL_app, updL_app, updL_app, updL_app, updL_app, updL_app, hv31, hv30, hv29, hv28, hv27, hv26, hv25, hv24, hv23, hv22, hv21, hv20, hv19, hv18, hv17, hv16, hv15, hv14, hv13, hv12, hv11, hv10, hv9, hv8, hv7, hv6, hv5, hv4, hv3, hv2, hv1]
  rfl
