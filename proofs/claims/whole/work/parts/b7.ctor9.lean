-- the Model's constructor; the first world
def ls9 : List (Int × Int × Int) := [(119, 0, 120), (119, 1, 121), (119, 3, 122), (119, 8, 123), (119, 17, 124), (119, 18, 125), (119, 19, 126), (119, 20, 127), (119, 21, 128), (119, 22, 129), (119, 23, 130), (119, 24, 131), (119, 25, 132), (119, 28, 133), (119, 29, 134), (119, 34, 135), (119, 35, 136), (119, 36, 137), (135, 0, (-4)), (135, 1, (-4)), (135, 2, (-4)), (135, 3, (-4))]
def hasK (l : List (Int × Int × Int)) (r i : Int) : Bool := l.any (fun q => decide (q.1 = r) && decide (q.2.1 = i))
theorem updL_has {r i : Int} : ∀ {l : List (Int × Int × Int)} {v w : VT}, hasK l r i = true → updL v l r i = updL w l r i
  | [], _, _, h => by simp [hasK] at h
  | q :: l, v, w, h => by
    show updL (upd2 v q.1 q.2.1 q.2.2) l r i = updL (upd2 w q.1 q.2.1 q.2.2) l r i
    by_cases hl : hasK l r i = true
    · exact updL_has hl
    · have hq : q.1 = r ∧ q.2.1 = i := by
        simp only [hasK, List.any_cons, Bool.or_eq_true, Bool.and_eq_true, decide_eq_true_eq] at h
        rcases h with h | h
        · exact h
        · exact absurd (by simpa [hasK] using h) hl
      have hn : ∀ q' ∈ l, ¬ (r = q'.1 ∧ i = q'.2.1) := fun q' hq' e => hl (by
        simp only [hasK, List.any_eq_true, Bool.and_eq_true, decide_eq_true_eq]
        exact ⟨q', hq', e.1.symm, e.2.symm⟩)
      rw [updL_ne hn, updL_ne hn, ← hq.1, ← hq.2, upd2_same, upd2_same]
theorem updL_no {r i : Int} {l : List (Int × Int × Int)} {v : VT} (h : hasK l r i = false) : updL v l r i = v r i :=
  updL_ne (fun q hq e => by
    have : hasK l r i = true := by
      simp only [hasK, List.any_eq_true, Bool.and_eq_true, decide_eq_true_eq]
      exact ⟨q, hq, e.1.symm, e.2.symm⟩
    rw [h] at this
    cases this)
theorem isR_40 {ci k : Nat} (h : isR ci k = true) : k < 40 := by
  unfold isR at h
  by_cases hc : ci < 10
  · have key : ∀ c : Fin 10, (fldR.getD c.val []).length ≤ 40 := by decide +kernel
    have h1 := key ⟨ci, hc⟩
    simp only at h1
    apply Nat.lt_of_not_le
    intro hk
    rw [List.getD_eq_getElem?_getD, List.getElem?_eq_none (by omega)] at h
    simp at h
  · have hl : fldR.length = 10 := by decide +kernel
    rw [List.getD_eq_getElem?_getD (l := fldR), List.getElem?_eq_none (by omega)] at h
    simp at h
theorem isref_bd {r i : Int} (h : isref r i = true) : (1 ≤ r ∧ r ≤ 137) ∧ 0 ≤ i ∧ i < 40 := by
  unfold isref at h
  by_cases hk : kd r < 10
  · rw [if_pos hk] at h
    obtain ⟨h1, h2⟩ := Bool.and_eq_true_iff.mp h
    have h1 := of_decide_eq_true h1
    have h3 := isR_40 h2
    have := kd_bound (r := r) (by omega)
    omega
  · rw [if_neg hk] at h
    simp only [Bool.and_eq_true, decide_eq_true_eq] at h
    obtain ⟨⟨⟨h1, h2⟩, h3⟩, h4⟩ := h
    have hb := kd_bound (r := r) (by omega)
    have key : ∀ r : Fin 138, 13 ≤ kd (r.val : Int) → kd (r.val : Int) ≤ 16 → ln (r.val : Int) ≤ 40 := by decide +kernel
    have := key ⟨r.toNat, by omega⟩
    simp only [Int.toNat_of_nonneg (show 0 ≤ r by omega)] at this
    have := this h1 h2
    omega
def zV : VT := fun _ _ => 0
theorem lay8_fin : ∀ r : Fin 119, ∀ i : Fin 40, isref (r.val : Int) (i.val : Int) = true → updL zV ls_X8_init_1 (r.val : Int) (i.val : Int) = refval (r.val : Int) (i.val : Int) := by decide +kernel
theorem lay8 : ∀ r i, r ≤ 118 → isref r i = true → updL zV ls_X8_init_1 r i = refval r i := fun r i hr h => by
  obtain ⟨h1, h2⟩ := isref_bd h
  have := lay8_fin ⟨r.toNat, by omega⟩ ⟨i.toNat, by omega⟩
  simp only [Int.toNat_of_nonneg (show 0 ≤ r by omega), Int.toNat_of_nonneg h2.1] at this
  exact this h
theorem lay9_fin : ∀ r : Fin 19, ∀ i : Fin 40, isref ((r.val : Int) + 119) (i.val : Int) = true → hasK ls9 ((r.val : Int) + 119) (i.val : Int) = true ∧ updL zV ls9 ((r.val : Int) + 119) (i.val : Int) = refval ((r.val : Int) + 119) (i.val : Int) := by decide +kernel
theorem ls9_lo : ∀ q ∈ ls9, 119 ≤ q.1 := by decide +kernel
theorem lay9 {v : VT} (hv : ∀ r i, r ≤ 118 → isref r i = true → v r i = refval r i) : lay (updL v ls9) := fun r i h => by
  obtain ⟨h1, h2⟩ := isref_bd h
  by_cases hr : r ≤ 118
  · rw [updL_ne (fun q hq e => by have := ls9_lo q hq; omega)]
    exact hv r i hr h
  · have := lay9_fin ⟨(r - 119).toNat, by omega⟩ ⟨i.toNat, by omega⟩
    simp only [Int.toNat_of_nonneg (show 0 ≤ r - 119 by omega), Int.toNat_of_nonneg h2.1, show r - 119 + 119 = r by omega] at this
    obtain ⟨a, b⟩ := this h
    rw [updL_has (w := zV) a]
    exact b
def drD (v : VT) : VT := upd2 (upd2 (upd2 (upd2 (fillF v 122 0 199) 119 4 2) 119 5 0) 119 6 (-4)) 119 7 (-4)
def keD9 (v : VT) : VT := upd2 (upd2 (upd2 (cpyF v 120 122 199) 119 2 (v 119 4)) 121 0 0) 121 1 0
set_option maxHeartbeats 4000000 in
set_option maxRecDepth 20000 in
theorem ok_X9_init (G : GT) (v : VT) (hz : Zb 119 v) (hlay : ∀ r i, r ≤ 118 → isref r i = true → v r i = refval r i) : MT G yX9_init cX9_init 2 none { frames := 1, cells := 18, slots := 1684, locals := 21 } [vr 119] 119 v (fun r n' w => r = none ∧ n' = 1000 ∧ w = keD9 (drD (updL v ls9))) := by
  refine MT.of pn_X9_init [some (vr 119), none] 1 rfl rfl (fun X C hX hn hR hnm => ?_)
  have hin := hnm rfl
  refine E.aload_n C dX9_init_0 rfl rfl ?_
  refine E.objInit C hX ob_X9_1 ob_im ob_cd dX9_init_1 (by decide) (by decide) ?_
  refine E.aload_n C dX9_init_4 rfl rfl ?_
  refine E.sipush C dX9_init_5 (by decide) ?_
  refine E.newA (t := 1) (ty := .int) (r := 120) (n' := 120) (c' := 1) (s' := 796) (m := 796) C rfl ac_int (by decide) rfl (fun _ _ h => h) rfl (by decide) dX9_init_8 (by decide) rfl rfl rfl rfl kd_120 ln_120 rfl (by decide) (fun j => hz _ j (by decide)) (by rw [hX]; decide) (by rw [hX]; decide) ?_
  have hzv_120 : Zb 120 v := Zb.le hz (by decide)
  refine E.putR C (Or.inr ⟨_, rfl⟩) fp_X9_7 rfl hin dX9_init_10 kd_119 (by decide) (by decide) (by decide) (by decide) ?_
  obtain ⟨v1, hv1⟩ : ∃ z, z = upd2 v 119 0 120 := ⟨_, rfl⟩
  refine E.heq hv1.symm ?_
  have hzv1 : Zb 120 v1 := by rw [hv1]; exact Zb.up hzv_120 (by decide)
  refine E.aload_n C dX9_init_13 rfl rfl ?_
  refine E.iconst C dX9_init_14 (by decide) ?_
  refine E.newA (t := 2) (ty := .boolean) (r := 121) (n' := 121) (c' := 2) (s' := 798) (m := 2) C rfl ac_boolean (by decide) rfl (fun _ _ h => h) rfl (by decide) dX9_init_15 (by decide) rfl rfl rfl rfl kd_121 ln_121 rfl (by decide) (fun j => hzv1 _ j (by decide)) (by rw [hX]; decide) (by rw [hX]; decide) ?_
  have hzv1_121 : Zb 121 v1 := Zb.le hzv1 (by decide)
  refine E.putR C (Or.inr ⟨_, rfl⟩) fp_X9_13 rfl hin dX9_init_17 kd_119 (by decide) (by decide) (by decide) (by decide) ?_
  obtain ⟨v2, hv2⟩ : ∃ z, z = upd2 v1 119 1 121 := ⟨_, rfl⟩
  refine E.heq hv2.symm ?_
  have hzv2 : Zb 121 v2 := by rw [hv2]; exact Zb.up hzv1_121 (by decide)
  refine E.aload_n C dX9_init_20 rfl rfl ?_
  refine E.sipush C dX9_init_21 (by decide) ?_
  refine E.newA (t := 1) (ty := .int) (r := 122) (n' := 122) (c' := 3) (s' := 997) (m := 199) C rfl ac_int (by decide) rfl (fun _ _ h => h) rfl (by decide) dX9_init_24 (by decide) rfl rfl rfl rfl kd_122 ln_122 rfl (by decide) (fun j => hzv2 _ j (by decide)) (by rw [hX]; decide) (by rw [hX]; decide) ?_
  have hzv2_122 : Zb 122 v2 := Zb.le hzv2 (by decide)
  refine E.putR C (Or.inr ⟨_, rfl⟩) fp_X9_17 rfl hin dX9_init_26 kd_119 (by decide) (by decide) (by decide) (by decide) ?_
  obtain ⟨v3, hv3⟩ : ∃ z, z = upd2 v2 119 3 122 := ⟨_, rfl⟩
  refine E.heq hv3.symm ?_
  have hzv3 : Zb 122 v3 := by rw [hv3]; exact Zb.up hzv2_122 (by decide)
  refine E.aload_n C dX9_init_29 rfl rfl ?_
  refine E.sipush C dX9_init_30 (by decide) ?_
  refine E.newA (t := 1) (ty := .int) (r := 123) (n' := 123) (c' := 4) (s' := 1397) (m := 400) C rfl ac_int (by decide) rfl (fun _ _ h => h) rfl (by decide) dX9_init_33 (by decide) rfl rfl rfl rfl kd_123 ln_123 rfl (by decide) (fun j => hzv3 _ j (by decide)) (by rw [hX]; decide) (by rw [hX]; decide) ?_
  have hzv3_123 : Zb 123 v3 := Zb.le hzv3 (by decide)
  refine E.putR C (Or.inr ⟨_, rfl⟩) fp_X9_20 rfl hin dX9_init_35 kd_119 (by decide) (by decide) (by decide) (by decide) ?_
  obtain ⟨v4, hv4⟩ : ∃ z, z = upd2 v3 119 8 123 := ⟨_, rfl⟩
  refine E.heq hv4.symm ?_
  have hzv4 : Zb 123 v4 := by rw [hv4]; exact Zb.up hzv3_123 (by decide)
  refine E.aload_n C dX9_init_38 rfl rfl ?_
  refine E.bipush C dX9_init_39 (by decide) ?_
  refine E.newA (t := 1) (ty := .int) (r := 124) (n' := 124) (c' := 5) (s' := 1405) (m := 8) C rfl ac_int (by decide) rfl (fun _ _ h => h) rfl (by decide) dX9_init_41 (by decide) rfl rfl rfl rfl kd_124 ln_124 rfl (by decide) (fun j => hzv4 _ j (by decide)) (by rw [hX]; decide) (by rw [hX]; decide) ?_
  have hzv4_124 : Zb 124 v4 := Zb.le hzv4 (by decide)
  refine E.putR C (Or.inr ⟨_, rfl⟩) fp_X9_23 rfl hin dX9_init_43 kd_119 (by decide) (by decide) (by decide) (by decide) ?_
  obtain ⟨v5, hv5⟩ : ∃ z, z = upd2 v4 119 17 124 := ⟨_, rfl⟩
  refine E.heq hv5.symm ?_
  have hzv5 : Zb 124 v5 := by rw [hv5]; exact Zb.up hzv4_124 (by decide)
  refine E.aload_n C dX9_init_46 rfl rfl ?_
  refine E.bipush C dX9_init_47 (by decide) ?_
  refine E.newA (t := 1) (ty := .int) (r := 125) (n' := 125) (c' := 6) (s' := 1413) (m := 8) C rfl ac_int (by decide) rfl (fun _ _ h => h) rfl (by decide) dX9_init_49 (by decide) rfl rfl rfl rfl kd_125 ln_125 rfl (by decide) (fun j => hzv5 _ j (by decide)) (by rw [hX]; decide) (by rw [hX]; decide) ?_
  have hzv5_125 : Zb 125 v5 := Zb.le hzv5 (by decide)
  refine E.putR C (Or.inr ⟨_, rfl⟩) fp_X9_26 rfl hin dX9_init_51 kd_119 (by decide) (by decide) (by decide) (by decide) ?_
  obtain ⟨v6, hv6⟩ : ∃ z, z = upd2 v5 119 18 125 := ⟨_, rfl⟩
  refine E.heq hv6.symm ?_
  have hzv6 : Zb 125 v6 := by rw [hv6]; exact Zb.up hzv5_125 (by decide)
  refine E.aload_n C dX9_init_54 rfl rfl ?_
  refine E.bipush C dX9_init_55 (by decide) ?_
  refine E.newA (t := 1) (ty := .int) (r := 126) (n' := 126) (c' := 7) (s' := 1433) (m := 20) C rfl ac_int (by decide) rfl (fun _ _ h => h) rfl (by decide) dX9_init_57 (by decide) rfl rfl rfl rfl kd_126 ln_126 rfl (by decide) (fun j => hzv6 _ j (by decide)) (by rw [hX]; decide) (by rw [hX]; decide) ?_
  have hzv6_126 : Zb 126 v6 := Zb.le hzv6 (by decide)
  refine E.putR C (Or.inr ⟨_, rfl⟩) fp_X9_29 rfl hin dX9_init_59 kd_119 (by decide) (by decide) (by decide) (by decide) ?_
  obtain ⟨v7, hv7⟩ : ∃ z, z = upd2 v6 119 19 126 := ⟨_, rfl⟩
  refine E.heq hv7.symm ?_
  have hzv7 : Zb 126 v7 := by rw [hv7]; exact Zb.up hzv6_126 (by decide)
  refine E.aload_n C dX9_init_62 rfl rfl ?_
  refine E.bipush C dX9_init_63 (by decide) ?_
  refine E.newA (t := 1) (ty := .int) (r := 127) (n' := 127) (c' := 8) (s' := 1453) (m := 20) C rfl ac_int (by decide) rfl (fun _ _ h => h) rfl (by decide) dX9_init_65 (by decide) rfl rfl rfl rfl kd_127 ln_127 rfl (by decide) (fun j => hzv7 _ j (by decide)) (by rw [hX]; decide) (by rw [hX]; decide) ?_
  have hzv7_127 : Zb 127 v7 := Zb.le hzv7 (by decide)
  refine E.putR C (Or.inr ⟨_, rfl⟩) fp_X9_32 rfl hin dX9_init_67 kd_119 (by decide) (by decide) (by decide) (by decide) ?_
  obtain ⟨v8, hv8⟩ : ∃ z, z = upd2 v7 119 20 127 := ⟨_, rfl⟩
  refine E.heq hv8.symm ?_
  have hzv8 : Zb 127 v8 := by rw [hv8]; exact Zb.up hzv7_127 (by decide)
  refine E.aload_n C dX9_init_70 rfl rfl ?_
  refine E.bipush C dX9_init_71 (by decide) ?_
  refine E.newA (t := 1) (ty := .int) (r := 128) (n' := 128) (c' := 9) (s' := 1461) (m := 8) C rfl ac_int (by decide) rfl (fun _ _ h => h) rfl (by decide) dX9_init_73 (by decide) rfl rfl rfl rfl kd_128 ln_128 rfl (by decide) (fun j => hzv8 _ j (by decide)) (by rw [hX]; decide) (by rw [hX]; decide) ?_
  have hzv8_128 : Zb 128 v8 := Zb.le hzv8 (by decide)
  refine E.putR C (Or.inr ⟨_, rfl⟩) fp_X9_35 rfl hin dX9_init_75 kd_119 (by decide) (by decide) (by decide) (by decide) ?_
  obtain ⟨v9, hv9⟩ : ∃ z, z = upd2 v8 119 21 128 := ⟨_, rfl⟩
  refine E.heq hv9.symm ?_
  have hzv9 : Zb 128 v9 := by rw [hv9]; exact Zb.up hzv8_128 (by decide)
  refine E.aload_n C dX9_init_78 rfl rfl ?_
  refine E.bipush C dX9_init_79 (by decide) ?_
  refine E.newA (t := 1) (ty := .int) (r := 129) (n' := 129) (c' := 10) (s' := 1469) (m := 8) C rfl ac_int (by decide) rfl (fun _ _ h => h) rfl (by decide) dX9_init_81 (by decide) rfl rfl rfl rfl kd_129 ln_129 rfl (by decide) (fun j => hzv9 _ j (by decide)) (by rw [hX]; decide) (by rw [hX]; decide) ?_
  have hzv9_129 : Zb 129 v9 := Zb.le hzv9 (by decide)
  refine E.putR C (Or.inr ⟨_, rfl⟩) fp_X9_38 rfl hin dX9_init_83 kd_119 (by decide) (by decide) (by decide) (by decide) ?_
  obtain ⟨v10, hv10⟩ : ∃ z, z = upd2 v9 119 22 129 := ⟨_, rfl⟩
  refine E.heq hv10.symm ?_
  have hzv10 : Zb 129 v10 := by rw [hv10]; exact Zb.up hzv9_129 (by decide)
  refine E.aload_n C dX9_init_86 rfl rfl ?_
  refine E.bipush C dX9_init_87 (by decide) ?_
  refine E.newA (t := 1) (ty := .int) (r := 130) (n' := 130) (c' := 11) (s' := 1489) (m := 20) C rfl ac_int (by decide) rfl (fun _ _ h => h) rfl (by decide) dX9_init_89 (by decide) rfl rfl rfl rfl kd_130 ln_130 rfl (by decide) (fun j => hzv10 _ j (by decide)) (by rw [hX]; decide) (by rw [hX]; decide) ?_
  have hzv10_130 : Zb 130 v10 := Zb.le hzv10 (by decide)
  refine E.putR C (Or.inr ⟨_, rfl⟩) fp_X9_41 rfl hin dX9_init_91 kd_119 (by decide) (by decide) (by decide) (by decide) ?_
  obtain ⟨v11, hv11⟩ : ∃ z, z = upd2 v10 119 23 130 := ⟨_, rfl⟩
  refine E.heq hv11.symm ?_
  have hzv11 : Zb 130 v11 := by rw [hv11]; exact Zb.up hzv10_130 (by decide)
  refine E.aload_n C dX9_init_94 rfl rfl ?_
  refine E.iconst C dX9_init_95 (by decide) ?_
  refine E.newA (t := 1) (ty := .int) (r := 131) (n' := 131) (c' := 12) (s' := 1493) (m := 4) C rfl ac_int (by decide) rfl (fun _ _ h => h) rfl (by decide) dX9_init_96 (by decide) rfl rfl rfl rfl kd_131 ln_131 rfl (by decide) (fun j => hzv11 _ j (by decide)) (by rw [hX]; decide) (by rw [hX]; decide) ?_
  have hzv11_131 : Zb 131 v11 := Zb.le hzv11 (by decide)
  refine E.putR C (Or.inr ⟨_, rfl⟩) fp_X9_44 rfl hin dX9_init_98 kd_119 (by decide) (by decide) (by decide) (by decide) ?_
  obtain ⟨v12, hv12⟩ : ∃ z, z = upd2 v11 119 24 131 := ⟨_, rfl⟩
  refine E.heq hv12.symm ?_
  have hzv12 : Zb 131 v12 := by rw [hv12]; exact Zb.up hzv11_131 (by decide)
  refine E.aload_n C dX9_init_101 rfl rfl ?_
  refine E.bipush C dX9_init_102 (by decide) ?_
  refine E.newA (t := 1) (ty := .int) (r := 132) (n' := 132) (c' := 13) (s' := 1503) (m := 10) C rfl ac_int (by decide) rfl (fun _ _ h => h) rfl (by decide) dX9_init_104 (by decide) rfl rfl rfl rfl kd_132 ln_132 rfl (by decide) (fun j => hzv12 _ j (by decide)) (by rw [hX]; decide) (by rw [hX]; decide) ?_
  have hzv12_132 : Zb 132 v12 := Zb.le hzv12 (by decide)
  refine E.putR C (Or.inr ⟨_, rfl⟩) fp_X9_47 rfl hin dX9_init_106 kd_119 (by decide) (by decide) (by decide) (by decide) ?_
  obtain ⟨v13, hv13⟩ : ∃ z, z = upd2 v12 119 25 132 := ⟨_, rfl⟩
  refine E.heq hv13.symm ?_
  have hzv13 : Zb 132 v13 := by rw [hv13]; exact Zb.up hzv12_132 (by decide)
  refine E.aload_n C dX9_init_109 rfl rfl ?_
  refine E.bipush C dX9_init_110 (by decide) ?_
  refine E.newA (t := 1) (ty := .int) (r := 133) (n' := 133) (c' := 14) (s' := 1510) (m := 7) C rfl ac_int (by decide) rfl (fun _ _ h => h) rfl (by decide) dX9_init_112 (by decide) rfl rfl rfl rfl kd_133 ln_133 rfl (by decide) (fun j => hzv13 _ j (by decide)) (by rw [hX]; decide) (by rw [hX]; decide) ?_
  have hzv13_133 : Zb 133 v13 := Zb.le hzv13 (by decide)
  refine E.putR C (Or.inr ⟨_, rfl⟩) fp_X9_50 rfl hin dX9_init_114 kd_119 (by decide) (by decide) (by decide) (by decide) ?_
  obtain ⟨v14, hv14⟩ : ∃ z, z = upd2 v13 119 28 133 := ⟨_, rfl⟩
  refine E.heq hv14.symm ?_
  have hzv14 : Zb 133 v14 := by rw [hv14]; exact Zb.up hzv13_133 (by decide)
  refine E.aload_n C dX9_init_117 rfl rfl ?_
  refine E.bipush C dX9_init_118 (by decide) ?_
  refine E.newA (t := 1) (ty := .int) (r := 134) (n' := 134) (c' := 15) (s' := 1516) (m := 6) C rfl ac_int (by decide) rfl (fun _ _ h => h) rfl (by decide) dX9_init_120 (by decide) rfl rfl rfl rfl kd_134 ln_134 rfl (by decide) (fun j => hzv14 _ j (by decide)) (by rw [hX]; decide) (by rw [hX]; decide) ?_
  have hzv14_134 : Zb 134 v14 := Zb.le hzv14 (by decide)
  refine E.putR C (Or.inr ⟨_, rfl⟩) fp_X9_53 rfl hin dX9_init_122 kd_119 (by decide) (by decide) (by decide) (by decide) ?_
  obtain ⟨v15, hv15⟩ : ∃ z, z = upd2 v14 119 29 134 := ⟨_, rfl⟩
  refine E.heq hv15.symm ?_
  have hzv15 : Zb 134 v15 := by rw [hv15]; exact Zb.up hzv14_134 (by decide)
  refine E.aload_n C dX9_init_125 rfl rfl ?_
  refine E.iconst C dX9_init_126 (by decide) ?_
  refine E.newA (t := 1) (ty := .int) (r := 135) (n' := 135) (c' := 16) (s' := 1520) (m := 4) C rfl ac_int (by decide) rfl (fun _ _ h => h) rfl (by decide) dX9_init_127 (by decide) rfl rfl rfl rfl kd_135 ln_135 rfl (by decide) (fun j => hzv15 _ j (by decide)) (by rw [hX]; decide) (by rw [hX]; decide) ?_
  have hzv15_135 : Zb 135 v15 := Zb.le hzv15 (by decide)
  refine E.putR C (Or.inr ⟨_, rfl⟩) fp_X9_56 rfl hin dX9_init_129 kd_119 (by decide) (by decide) (by decide) (by decide) ?_
  obtain ⟨v16, hv16⟩ : ∃ z, z = upd2 v15 119 34 135 := ⟨_, rfl⟩
  refine E.heq hv16.symm ?_
  have hzv16 : Zb 135 v16 := by rw [hv16]; exact Zb.up hzv15_135 (by decide)
  have fv16_119_34 : v16 119 34 = 135 := by rw [hv16]; exact upd2_same _ _ _ _
  refine E.aload_n C dX9_init_132 rfl rfl ?_
  refine E.iconst C dX9_init_133 (by decide) ?_
  refine E.newA (t := 1) (ty := .int) (r := 136) (n' := 136) (c' := 17) (s' := 1524) (m := 4) C rfl ac_int (by decide) rfl (fun _ _ h => h) rfl (by decide) dX9_init_134 (by decide) rfl rfl rfl rfl kd_136 ln_136 rfl (by decide) (fun j => hzv16 _ j (by decide)) (by rw [hX]; decide) (by rw [hX]; decide) ?_
  have hzv16_136 : Zb 136 v16 := Zb.le hzv16 (by decide)
  refine E.putR C (Or.inr ⟨_, rfl⟩) fp_X9_59 rfl hin dX9_init_136 kd_119 (by decide) (by decide) (by decide) (by decide) ?_
  obtain ⟨v17, hv17⟩ : ∃ z, z = upd2 v16 119 35 136 := ⟨_, rfl⟩
  refine E.heq hv17.symm ?_
  have hzv17 : Zb 136 v17 := by rw [hv17]; exact Zb.up hzv16_136 (by decide)
  have fv17_119_34 : v17 119 34 = 135 := by rw [hv17, upd2_ne _ _ _ _ _ _ (by decide)]; exact fv16_119_34
  refine E.aload_n C dX9_init_139 rfl rfl ?_
  refine E.sipush C dX9_init_140 (by decide) ?_
  refine E.newA (t := 1) (ty := .int) (r := 137) (n' := 137) (c' := 18) (s' := 1684) (m := 160) C rfl ac_int (by decide) rfl (fun _ _ h => h) rfl (by decide) dX9_init_143 (by decide) rfl rfl rfl rfl kd_137 ln_137 rfl (by decide) (fun j => hzv17 _ j (by decide)) (by rw [hX]; decide) (by rw [hX]; decide) ?_
  have hzv17_137 : Zb 137 v17 := Zb.le hzv17 (by decide)
  refine E.putR C (Or.inr ⟨_, rfl⟩) fp_X9_62 rfl hin dX9_init_145 kd_119 (by decide) (by decide) (by decide) (by decide) ?_
  obtain ⟨v18, hv18⟩ : ∃ z, z = upd2 v17 119 36 137 := ⟨_, rfl⟩
  refine E.heq hv18.symm ?_
  have hzv18 : Zb 137 v18 := by rw [hv18]; exact Zb.up hzv17_137 (by decide)
  have fv18_119_34 : v18 119 34 = 135 := by rw [hv18, upd2_ne _ _ _ _ _ _ (by decide)]; exact fv17_119_34
  refine E.iconst C dX9_init_148 (by decide) ?_
  refine E.istore_n C dX9_init_149 rfl (by rw [hn]; decide) rfl ?_
  refine E.lset (L' := [some (vr 119), some (vi 0)]) rfl ?_
  refine E.iload_n C dX9_init_150 rfl rfl ?_
  refine E.iconst C dX9_init_151 (by decide) ?_
  refine E.icmp_ge C dX9_init_152 (tgt := 169) (by decide) (fun h => absurd h (by decide)) (fun _ => ?_)
  refine E.aload_n C dX9_init_155 rfl rfl ?_
  refine E.getR C fa_X9_56 rfl dX9_init_156 kd_119 (by decide) fv18_119_34 (by decide) ?_
  refine E.iload_n C dX9_init_159 rfl rfl ?_
  refine E.bipush C dX9_init_160 (by decide) ?_
  refine E.iast C dX9_init_162 kd_135 (by decide) (by decide) (by rw [ln_135]; decide) ?_
  obtain ⟨v19, hv19⟩ : ∃ z, z = upd2 v18 135 0 (-4) := ⟨_, rfl⟩
  refine E.heq hv19.symm ?_
  have hzv19 : Zb 137 v19 := by rw [hv19]; exact Zb.up hzv18 (by decide)
  have fv19_119_34 : v19 119 34 = 135 := by rw [hv19, upd2_ne _ _ _ _ _ _ (by decide)]; exact fv18_119_34
  refine E.iinc C dX9_init_163 rfl (by rw [hn]; decide) rfl (by decide) ?_
  refine E.lset (L' := [some (vr 119), some (vi 1)]) rfl ?_
  refine E.goto C dX9_init_166 (tgt := 150) (by decide) ?_
  refine E.iload_n C dX9_init_150 rfl rfl ?_
  refine E.iconst C dX9_init_151 (by decide) ?_
  refine E.icmp_ge C dX9_init_152 (tgt := 169) (by decide) (fun h => absurd h (by decide)) (fun _ => ?_)
  refine E.aload_n C dX9_init_155 rfl rfl ?_
  refine E.getR C fa_X9_56 rfl dX9_init_156 kd_119 (by decide) fv19_119_34 (by decide) ?_
  refine E.iload_n C dX9_init_159 rfl rfl ?_
  refine E.bipush C dX9_init_160 (by decide) ?_
  refine E.iast C dX9_init_162 kd_135 (by decide) (by decide) (by rw [ln_135]; decide) ?_
  obtain ⟨v20, hv20⟩ : ∃ z, z = upd2 v19 135 1 (-4) := ⟨_, rfl⟩
  refine E.heq hv20.symm ?_
  have hzv20 : Zb 137 v20 := by rw [hv20]; exact Zb.up hzv19 (by decide)
  have fv20_119_34 : v20 119 34 = 135 := by rw [hv20, upd2_ne _ _ _ _ _ _ (by decide)]; exact fv19_119_34
  refine E.iinc C dX9_init_163 rfl (by rw [hn]; decide) rfl (by decide) ?_
  refine E.lset (L' := [some (vr 119), some (vi 2)]) rfl ?_
  refine E.goto C dX9_init_166 (tgt := 150) (by decide) ?_
  refine E.iload_n C dX9_init_150 rfl rfl ?_
  refine E.iconst C dX9_init_151 (by decide) ?_
  refine E.icmp_ge C dX9_init_152 (tgt := 169) (by decide) (fun h => absurd h (by decide)) (fun _ => ?_)
  refine E.aload_n C dX9_init_155 rfl rfl ?_
  refine E.getR C fa_X9_56 rfl dX9_init_156 kd_119 (by decide) fv20_119_34 (by decide) ?_
  refine E.iload_n C dX9_init_159 rfl rfl ?_
  refine E.bipush C dX9_init_160 (by decide) ?_
  refine E.iast C dX9_init_162 kd_135 (by decide) (by decide) (by rw [ln_135]; decide) ?_
  obtain ⟨v21, hv21⟩ : ∃ z, z = upd2 v20 135 2 (-4) := ⟨_, rfl⟩
  refine E.heq hv21.symm ?_
  have hzv21 : Zb 137 v21 := by rw [hv21]; exact Zb.up hzv20 (by decide)
  have fv21_119_34 : v21 119 34 = 135 := by rw [hv21, upd2_ne _ _ _ _ _ _ (by decide)]; exact fv20_119_34
  refine E.iinc C dX9_init_163 rfl (by rw [hn]; decide) rfl (by decide) ?_
  refine E.lset (L' := [some (vr 119), some (vi 3)]) rfl ?_
  refine E.goto C dX9_init_166 (tgt := 150) (by decide) ?_
  refine E.iload_n C dX9_init_150 rfl rfl ?_
  refine E.iconst C dX9_init_151 (by decide) ?_
  refine E.icmp_ge C dX9_init_152 (tgt := 169) (by decide) (fun h => absurd h (by decide)) (fun _ => ?_)
  refine E.aload_n C dX9_init_155 rfl rfl ?_
  refine E.getR C fa_X9_56 rfl dX9_init_156 kd_119 (by decide) fv21_119_34 (by decide) ?_
  refine E.iload_n C dX9_init_159 rfl rfl ?_
  refine E.bipush C dX9_init_160 (by decide) ?_
  refine E.iast C dX9_init_162 kd_135 (by decide) (by decide) (by rw [ln_135]; decide) ?_
  obtain ⟨v22, hv22⟩ : ∃ z, z = upd2 v21 135 3 (-4) := ⟨_, rfl⟩
  refine E.heq hv22.symm ?_
  have hzv22 : Zb 137 v22 := by rw [hv22]; exact Zb.up hzv21 (by decide)
  have fv22_119_34 : v22 119 34 = 135 := by rw [hv22, upd2_ne _ _ _ _ _ _ (by decide)]; exact fv21_119_34
  refine E.iinc C dX9_init_163 rfl (by rw [hn]; decide) rfl (by decide) ?_
  refine E.lset (L' := [some (vr 119), some (vi 4)]) rfl ?_
  refine E.goto C dX9_init_166 (tgt := 150) (by decide) ?_
  refine E.iload_n C dX9_init_150 rfl rfl ?_
  refine E.iconst C dX9_init_151 (by decide) ?_
  refine E.icmp_ge C dX9_init_152 (tgt := 169) (by decide) (fun _ => ?_) (fun h => absurd (by decide) h)
  have hL : v22 = updL v ls9 := by
    rw [hv22, hv21, hv20, hv19, hv18, hv17, hv16, hv15, hv14, hv13, hv12, hv11, hv10, hv9, hv8, hv7, hv6, hv5, hv4, hv3, hv2, hv1]
    rfl
  rw [hL]
  refine E.full (lay9 hlay) ?_
  refine E.aload_n C dX9_init_169 rfl rfl ?_
  refine E.callV (S := []) (As := []) C hX (ok_X9_firstDraft G (updL v ls9)) yf_X9_firstDraft yv_X9_firstDraft ml_X9_65 rfl (ci := 9) rfl rfl kd_119 (by decide) (by decide) (by decide) (by decide) (by decide) dX9_init_170 rfl (fun r n' w hq => ?_)
  obtain ⟨rfl, rfl, rfl⟩ := hq
  refine E.count (c' := 18) (s' := 1684) (S' := []) rfl rfl rfl ?_
  refine E.aload_n C dX9_init_173 rfl rfl ?_
  refine E.callV (S := []) (As := []) C hX (ok_X9_keepDraft G (drD (updL v ls9))) yf_X9_keepDraft yv_X9_keepDraft ml_X9_68 rfl (ci := 9) rfl rfl kd_119 (by decide) (by decide) (by decide) (by decide) (by decide) dX9_init_174 rfl (fun r n' w hq => ?_)
  obtain ⟨rfl, rfl, rfl⟩ := hq
  refine E.count (c' := 18) (s' := 1684) (S' := []) rfl rfl rfl ?_
  exact E.vret C hR dX9_init_177 (fun hi => ⟨rfl, rfl, rfl⟩)
