set_option maxHeartbeats 4000000 in
set_option maxRecDepth 20000 in
theorem ok_X9_child (G : GT) (c k : Int) (A v : VT) (hA : WFV A 0) (hM : MR A (v 120)) : MNi G yX9_child cX9_child 3 (some .int) 2 46 [vr 119, vi c, vi k] v (fun x w => w = v ∧ x = childI A 0 c k) := by
  refine MN.of pn_X9_child [some (vr 119), some (vi c), some (vi k)] 0 rfl rfl (fun X C hX hn hR => ?_)
  have hN : ∀ i : Nat, i < 3 → i < xn X := fun i h => by rw [hn]; exact h
  refine E.rngk (fun hinv => ?_)
  refine E.loc (fun hloc => ?_)
  have hin_1 : in32 c := hloc _ (List.mem_of_getElem? (i := 1) rfl)
  have hin_2 : in32 k := hloc _ (List.mem_of_getElem? (i := 2) rfl)
  have hc := hM.1
  have hb := hM.2.1
  have hA1 := hA.1
  have hA2 := hA.2.1
  refine E.aload_n C dX9_child_0 rfl rfl ?_
  refine E.iload_n C dX9_child_1 rfl rfl ?_
  refine N.callVp (S := []) (As := [vi c]) C hX (ok_X9_isChild G c v (by omega)) yf_X9_isChild yv_X9_isChild ml_X9_178 rfl rfl rfl kd_119 (by decide) (by decide) (Nat.le_of_ble_eq_true rfl) dX9_child_2 rfl ?_
  refine E.if_ne C dX9_child_5 (tgt := 10) (by decide) (fun h5 => ?_) (fun h5 => ?_)
  · have h5 := b0n.mp h5
    refine E.iload_n C dX9_child_10 rfl rfl ?_
    refine E.i2l C dX9_child_11 ?_
    refine E.lconst C dX9_child_12 (x := 0) rfl ?_
    refine E.ldc2 C ct_X9_182 (x := 2) (by decide) dX9_child_13 ?_
    refine N.callSp (S := []) (As := [vl k, vl 0, vl 2]) C hX (ok_X9_in G k 0 2 v) yf_X9_in yv_X9_in ml_X9_93 rfl (by decide) (Nat.le_of_ble_eq_true rfl) dX9_child_16 rfl ?_
    refine E.if_eq C dX9_child_19 (tgt := 37) (by decide) (fun h19 => ?_) (fun h19 => ?_)
    · have h19 := b0.mp h19
      refine E.iload_n C dX9_child_37 rfl rfl ?_
      refine E.i2l C dX9_child_38 ?_
      refine E.ldc2 C ct_X9_184 (x := 10) (by decide) dX9_child_39 ?_
      refine E.ldc2 C ct_X9_186 (x := 11) (by decide) dX9_child_42 ?_
      refine N.callSp (S := []) (As := [vl k, vl 10, vl 11]) C hX (ok_X9_in G k 10 11 v) yf_X9_in yv_X9_in ml_X9_93 rfl (by decide) (Nat.le_of_ble_eq_true rfl) dX9_child_45 rfl ?_
      refine E.if_eq C dX9_child_48 (tgt := 63) (by decide) (fun h48 => ?_) (fun h48 => ?_)
      · have h48 := b0.mp h48
        refine E.iconst C dX9_child_63 (by decide) ?_
        exact N.iret C hR dX9_child_64 (fun hi hx => by refine ⟨rfl, ?_⟩; unfold childI; first | (rw [if_neg (by omega)]; done) | (rw [if_pos (by omega), if_pos (by omega)]; exact hM.2.2.1 c k (by omega) (by omega) (by omega) (by omega)) | (rw [if_pos (by omega), if_neg (by omega), if_neg (by omega), if_neg (by omega)]; done) | (rw [if_pos (by omega), if_neg (by omega)]; by_cases hk : k = 10; (rw [if_pos hk, hM.2.2.2.2 c (k - 10) (by omega) (by omega) (by omega) (by omega), show k - 10 = 0 by omega]); (rw [if_neg hk, if_pos (by omega), hM.2.2.2.2 c (k - 10) (by omega) (by omega) (by omega) (by omega), show k - 10 = 1 by omega])))
      · have h48 := b0n.mp h48
        refine E.aload_n C dX9_child_51 rfl rfl ?_
        refine E.iload_n C dX9_child_52 rfl rfl ?_
        refine E.iload_n C dX9_child_53 rfl rfl ?_
        refine E.bipush C dX9_child_54 (by decide) ?_
        refine E.isub C dX9_child_56 (by omega) ?_
        refine N.callVp (S := []) (As := [vi c, vi (k - 10)]) C hX (ok_X9_worn G c (k - 10) v (by omega)) yf_X9_worn yv_X9_worn ml_X9_175 rfl rfl rfl kd_119 (by decide) (by decide) (Nat.le_of_ble_eq_true rfl) dX9_child_57 rfl ?_
        refine E.goto C dX9_child_60 (tgt := 64) (by decide) ?_
        exact N.iret C hR dX9_child_64 (fun hi hx => by refine ⟨rfl, ?_⟩; unfold childI; first | (rw [if_neg (by omega)]; done) | (rw [if_pos (by omega), if_pos (by omega)]; exact hM.2.2.1 c k (by omega) (by omega) (by omega) (by omega)) | (rw [if_pos (by omega), if_neg (by omega), if_neg (by omega), if_neg (by omega)]; done) | (rw [if_pos (by omega), if_neg (by omega)]; by_cases hk : k = 10; (rw [if_pos hk, hM.2.2.2.2 c (k - 10) (by omega) (by omega) (by omega) (by omega), show k - 10 = 0 by omega]); (rw [if_neg hk, if_pos (by omega), hM.2.2.2.2 c (k - 10) (by omega) (by omega) (by omega) (by omega), show k - 10 = 1 by omega])))
    · have h19 := b0n.mp h19
      refine E.aload_n C dX9_child_22 rfl rfl ?_
      refine N.getR C fa_X9_7 rfl dX9_child_23 kd_119 (x := 120) (by decide +kernel) (by decide) ?_
      refine E.iconst C dX9_child_26 (by decide) ?_
      refine E.iconst C dX9_child_27 (by decide) ?_
      refine E.iload_n C dX9_child_28 rfl rfl ?_
      refine E.imul C dX9_child_29 (by omega) ?_
      refine E.iadd C dX9_child_30 (by omega) ?_
      refine E.iload_n C dX9_child_31 rfl rfl ?_
      refine E.iadd C dX9_child_32 (by omega) ?_
      refine N.iald C dX9_child_33 kd_120 ln_120 (by omega) (x := v 120 ((1 + (5 * c)) + k)) rfl ?_
      refine E.goto C dX9_child_34 (tgt := 64) (by decide) ?_
      exact N.iret C hR dX9_child_64 (fun hi hx => by refine ⟨rfl, ?_⟩; unfold childI; first | (rw [if_neg (by omega)]; done) | (rw [if_pos (by omega), if_pos (by omega)]; exact hM.2.2.1 c k (by omega) (by omega) (by omega) (by omega)) | (rw [if_pos (by omega), if_neg (by omega), if_neg (by omega), if_neg (by omega)]; done) | (rw [if_pos (by omega), if_neg (by omega)]; by_cases hk : k = 10; (rw [if_pos hk, hM.2.2.2.2 c (k - 10) (by omega) (by omega) (by omega) (by omega), show k - 10 = 0 by omega]); (rw [if_neg hk, if_pos (by omega), hM.2.2.2.2 c (k - 10) (by omega) (by omega) (by omega) (by omega), show k - 10 = 1 by omega])))
  · have h5 := b0.mp h5
    refine E.iconst C dX9_child_8 (by decide) ?_
    exact N.iret C hR dX9_child_9 (fun hi hx => by refine ⟨rfl, ?_⟩; unfold childI; first | (rw [if_neg (by omega)]; done) | (rw [if_pos (by omega), if_pos (by omega)]; exact hM.2.2.1 c k (by omega) (by omega) (by omega) (by omega)) | (rw [if_pos (by omega), if_neg (by omega), if_neg (by omega), if_neg (by omega)]; done) | (rw [if_pos (by omega), if_neg (by omega)]; by_cases hk : k = 10; (rw [if_pos hk, hM.2.2.2.2 c (k - 10) (by omega) (by omega) (by omega) (by omega), show k - 10 = 0 by omega]); (rw [if_neg hk, if_pos (by omega), hM.2.2.2.2 c (k - 10) (by omega) (by omega) (by omega) (by omega), show k - 10 = 1 by omega])))

set_option maxHeartbeats 4000000 in
set_option maxRecDepth 20000 in
theorem ok_X9_thing (G : GT) (t k : Int) (A v : VT) (hA : WFV A 0) (hM : MR A (v 120)) : MNi G yX9_thing cX9_thing 3 (some .int) 2 46 [vr 119, vi t, vi k] v (fun x w => w = v ∧ x = thingI A 0 t k) := by
  refine MN.of pn_X9_thing [some (vr 119), some (vi t), some (vi k)] 0 rfl rfl (fun X C hX hn hR => ?_)
  have hN : ∀ i : Nat, i < 3 → i < xn X := fun i h => by rw [hn]; exact h
  refine E.rngk (fun hinv => ?_)
  refine E.loc (fun hloc => ?_)
  have hin_1 : in32 t := hloc _ (List.mem_of_getElem? (i := 1) rfl)
  have hin_2 : in32 k := hloc _ (List.mem_of_getElem? (i := 2) rfl)
  have hc := hM.1
  have hb := hM.2.1
  have hA1 := hA.1
  have hA2 := hA.2.1
  refine E.aload_n C dX9_thing_0 rfl rfl ?_
  refine E.iload_n C dX9_thing_1 rfl rfl ?_
  refine N.callVp (S := []) (As := [vi t]) C hX (ok_X9_isThing G t v (by omega)) yf_X9_isThing yv_X9_isThing ml_X9_188 rfl rfl rfl kd_119 (by decide) (by decide) (Nat.le_of_ble_eq_true rfl) dX9_thing_2 rfl ?_
  refine E.if_ne C dX9_thing_5 (tgt := 12) (by decide) (fun h5 => ?_) (fun h5 => ?_)
  · have h5 := b0n.mp h5
    refine E.iload_n C dX9_thing_12 rfl rfl ?_
    refine E.i2l C dX9_thing_13 ?_
    refine E.lconst C dX9_thing_14 (x := 0) rfl ?_
    refine E.ldc2 C ct_X9_191 (x := 6) (by decide) dX9_thing_15 ?_
    refine N.callSp (S := []) (As := [vl k, vl 0, vl 6]) C hX (ok_X9_in G k 0 6 v) yf_X9_in yv_X9_in ml_X9_93 rfl (by decide) (Nat.le_of_ble_eq_true rfl) dX9_thing_18 rfl ?_
    refine E.if_eq C dX9_thing_21 (tgt := 33) (by decide) (fun h21 => ?_) (fun h21 => ?_)
    · have h21 := b0.mp h21
      refine E.iload_n C dX9_thing_33 rfl rfl ?_
      refine E.bipush C dX9_thing_34 (by decide) ?_
      refine E.icmp_ne C dX9_thing_36 (tgt := 47) (by decide) (fun h36 => ?_) (fun h36 => ?_)
      · skip
        refine E.iconst C dX9_thing_47 (by decide) ?_
        exact N.iret C hR dX9_thing_48 (fun hi hx => by refine ⟨rfl, ?_⟩; unfold thingI; first | (rw [if_neg (by omega)]; done) | (rw [if_pos (by omega), if_neg (by omega)]; done) | (rw [if_pos (by omega), if_pos (by omega)]; first | exact hM.2.2.2.1 t k (by omega) (by omega) (by omega) (by omega) | (have ek : k = 7 := (by omega); rw [ek]; exact hM.who hA (by omega))))
      · skip
        refine E.aload_n C dX9_thing_39 rfl rfl ?_
        refine E.iload_n C dX9_thing_40 rfl rfl ?_
        refine N.callVp (S := []) (As := [vi t]) C hX (ok_X9_whoWears G t v (by omega) (by omega) (by rw [hM.2.2.2.1 t 0 (by omega) (by omega) (by omega) (by omega)]; have := (hA.2.2.2.1 t (by omega) (by omega)).1; omega)) yf_X9_whoWears yv_X9_whoWears ml_X9_193 rfl rfl rfl kd_119 (by decide) (by decide) (Nat.le_of_ble_eq_true rfl) dX9_thing_41 rfl ?_
        refine E.goto C dX9_thing_44 (tgt := 48) (by decide) ?_
        exact N.iret C hR dX9_thing_48 (fun hi hx => by refine ⟨rfl, ?_⟩; unfold thingI; first | (rw [if_neg (by omega)]; done) | (rw [if_pos (by omega), if_neg (by omega)]; done) | (rw [if_pos (by omega), if_pos (by omega)]; first | exact hM.2.2.2.1 t k (by omega) (by omega) (by omega) (by omega) | (have ek : k = 7 := (by omega); rw [ek]; exact hM.who hA (by omega))))
    · have h21 := b0n.mp h21
      refine E.aload_n C dX9_thing_24 rfl rfl ?_
      refine E.iload_n C dX9_thing_25 rfl rfl ?_
      refine E.iload_n C dX9_thing_26 rfl rfl ?_
      refine N.callVp (S := []) (As := [vi t, vi k]) C hX (ok_X9_of G t k v (by omega)) yf_X9_of yv_X9_of ml_X9_172 rfl rfl rfl kd_119 (by decide) (by decide) (Nat.le_of_ble_eq_true rfl) dX9_thing_27 rfl ?_
      refine E.goto C dX9_thing_30 (tgt := 48) (by decide) ?_
      exact N.iret C hR dX9_thing_48 (fun hi hx => by refine ⟨rfl, ?_⟩; unfold thingI; first | (rw [if_neg (by omega)]; done) | (rw [if_pos (by omega), if_neg (by omega)]; done) | (rw [if_pos (by omega), if_pos (by omega)]; first | exact hM.2.2.2.1 t k (by omega) (by omega) (by omega) (by omega) | (have ek : k = 7 := (by omega); rw [ek]; exact hM.who hA (by omega))))
  · have h5 := b0.mp h5
    refine E.iconst C dX9_thing_8 (by decide) ?_
    refine E.goto C dX9_thing_9 (tgt := 48) (by decide) ?_
    exact N.iret C hR dX9_thing_48 (fun hi hx => by refine ⟨rfl, ?_⟩; unfold thingI; first | (rw [if_neg (by omega)]; done) | (rw [if_pos (by omega), if_neg (by omega)]; done) | (rw [if_pos (by omega), if_pos (by omega)]; first | exact hM.2.2.2.1 t k (by omega) (by omega) (by omega) (by omega) | (have ek : k = 7 := (by omega); rw [ek]; exact hM.who hA (by omega))))

set_option maxHeartbeats 4000000 in
set_option maxRecDepth 20000 in
theorem ok_X9_slack (G : GT) (a : Int) (v : VT) : MNi G yX9_slack cX9_slack 3 (some .int) 1 25 [vr 119, vi a] v (fun x w => (0 ≤ a ∧ a ≤ 4 ∧ x = v 119 2 ∧ w = upd2 v 119 2 a) ∨ (¬ (0 ≤ a ∧ a ≤ 4) ∧ x = -1 ∧ w = v)) := by
  refine MN.of pn_X9_slack [some (vr 119), some (vi a), none] 1 rfl rfl (fun X C hX hn hR => ?_)
  have hN : ∀ i : Nat, i < 3 → i < xn X := fun i h => by rw [hn]; exact h
  refine E.rngk (fun hinv => ?_)
  refine E.loc (fun hloc => ?_)
  have hin_1 : in32 a := hloc _ (List.mem_of_getElem? (i := 1) rfl)
  refine E.iload_n C dX9_slack_0 rfl rfl ?_
  refine E.i2l C dX9_slack_1 ?_
  refine E.lconst C dX9_slack_2 (x := 0) rfl ?_
  refine E.ldc2 C ct_X9_196 (x := 4) (by decide) dX9_slack_3 ?_
  refine N.callSp (S := []) (As := [vl a, vl 0, vl 4]) C hX (ok_X9_in G a 0 4 v) yf_X9_in yv_X9_in ml_X9_93 rfl (by decide) (Nat.le_of_ble_eq_true rfl) dX9_slack_6 rfl ?_
  refine E.if_ne C dX9_slack_9 (tgt := 14) (by decide) (fun h9 => ?_) (fun h9 => ?_)
  · have h9 := b0n.mp h9
    refine E.aload_n C dX9_slack_14 rfl rfl ?_
    refine N.getI C fa_X9_85 rfl dX9_slack_15 kd_119 (x := v 119 2) rfl ?_
    refine N.ist_2 C dX9_slack_18 (hN 2 (by decide)) rfl ?_
    refine E.aload_n C dX9_slack_19 rfl rfl ?_
    refine E.iload_n C dX9_slack_20 rfl rfl ?_
    refine N.putI C fp_X9_85 rfl dX9_slack_21 kd_119 ?_
    refine E.iload_n C dX9_slack_24 rfl rfl ?_
    exact N.iret C hR dX9_slack_25 (fun hi hx => by first | exact Or.inr ⟨by omega, rfl, rfl⟩ | exact Or.inl ⟨by omega, by omega, rfl, rfl⟩)
  · have h9 := b0.mp h9
    refine E.iconst C dX9_slack_12 (by decide) ?_
    exact N.iret C hR dX9_slack_13 (fun hi hx => by first | exact Or.inr ⟨by omega, rfl, rfl⟩ | exact Or.inl ⟨by omega, by omega, rfl, rfl⟩)

set_option maxHeartbeats 4000000 in
set_option maxRecDepth 20000 in
theorem ok_X9_like (G : GT) (c t a : Int) (A v : VT) (hA : WFV A 0) (hM : MR A (v 120)) : MNi G yX9_like cX9_like 5 (some .int) 2 46 [vr 119, vi c, vi t, vi a] v (fun x w => (0 ≤ c ∧ c < A 0 4 ∧ 0 ≤ t ∧ t < A 0 5 ∧ 0 ≤ a ∧ a ≤ 9 ∧ x = v 120 (119 + 10 * c + t) ∧ w = upd2 v 120 (119 + 10 * c + t) a) ∨ (¬ (0 ≤ c ∧ c < A 0 4 ∧ 0 ≤ t ∧ t < A 0 5 ∧ 0 ≤ a ∧ a ≤ 9) ∧ x = -1 ∧ w = v)) := by
  refine MN.of pn_X9_like [some (vr 119), some (vi c), some (vi t), some (vi a), none] 1 rfl rfl (fun X C hX hn hR => ?_)
  have hN : ∀ i : Nat, i < 5 → i < xn X := fun i h => by rw [hn]; exact h
  refine E.rngk (fun hinv => ?_)
  refine E.loc (fun hloc => ?_)
  have hin_1 : in32 c := hloc _ (List.mem_of_getElem? (i := 1) rfl)
  have hin_2 : in32 t := hloc _ (List.mem_of_getElem? (i := 2) rfl)
  have hin_3 : in32 a := hloc _ (List.mem_of_getElem? (i := 3) rfl)
  have hc := hM.1
  have hb := hM.2.1
  have hA1 := hA.1
  have hA2 := hA.2.1
  refine E.aload_n C dX9_like_0 rfl rfl ?_
  refine E.iload_n C dX9_like_1 rfl rfl ?_
  refine N.callVp (S := []) (As := [vi c]) C hX (ok_X9_isChild G c v (by omega)) yf_X9_isChild yv_X9_isChild ml_X9_178 rfl rfl rfl kd_119 (by decide) (by decide) (Nat.le_of_ble_eq_true rfl) dX9_like_2 rfl ?_
  refine E.if_eq C dX9_like_5 (tgt := 28) (by decide) (fun h5 => ?_) (fun h5 => ?_)
  · have h5 := b0.mp h5
    refine E.iconst C dX9_like_28 (by decide) ?_
    exact N.iret C hR dX9_like_29 (fun hi hx => by first | exact Or.inr ⟨by omega, rfl, rfl⟩ | exact Or.inl ⟨by omega, by omega, by omega, by omega, by omega, by omega, rfl, rfl⟩)
  · have h5 := b0n.mp h5
    refine E.aload_n C dX9_like_8 rfl rfl ?_
    refine E.iload_n C dX9_like_9 rfl rfl ?_
    refine N.callVp (S := []) (As := [vi t]) C hX (ok_X9_isThing G t v (by omega)) yf_X9_isThing yv_X9_isThing ml_X9_188 rfl rfl rfl kd_119 (by decide) (by decide) (Nat.le_of_ble_eq_true rfl) dX9_like_10 rfl ?_
    refine E.if_eq C dX9_like_13 (tgt := 28) (by decide) (fun h13 => ?_) (fun h13 => ?_)
    · have h13 := b0.mp h13
      refine E.iconst C dX9_like_28 (by decide) ?_
      exact N.iret C hR dX9_like_29 (fun hi hx => by first | exact Or.inr ⟨by omega, rfl, rfl⟩ | exact Or.inl ⟨by omega, by omega, by omega, by omega, by omega, by omega, rfl, rfl⟩)
    · have h13 := b0n.mp h13
      refine E.iload_n C dX9_like_16 rfl rfl ?_
      refine E.i2l C dX9_like_17 ?_
      refine E.lconst C dX9_like_18 (x := 0) rfl ?_
      refine E.ldc2 C ct_X9_198 (x := 9) (by decide) dX9_like_19 ?_
      refine N.callSp (S := []) (As := [vl a, vl 0, vl 9]) C hX (ok_X9_in G a 0 9 v) yf_X9_in yv_X9_in ml_X9_93 rfl (by decide) (Nat.le_of_ble_eq_true rfl) dX9_like_22 rfl ?_
      refine E.if_ne C dX9_like_25 (tgt := 30) (by decide) (fun h25 => ?_) (fun h25 => ?_)
      · have h25 := b0n.mp h25
        refine E.aload_n C dX9_like_30 rfl rfl ?_
        refine N.getR C fa_X9_7 rfl dX9_like_31 kd_119 (x := 120) (by decide +kernel) (by decide) ?_
        refine E.bipush C dX9_like_34 (by decide) ?_
        refine E.bipush C dX9_like_36 (by decide) ?_
        refine E.iload_n C dX9_like_38 rfl rfl ?_
        refine E.imul C dX9_like_39 (by omega) ?_
        refine E.iadd C dX9_like_40 (by omega) ?_
        refine E.iload_n C dX9_like_41 rfl rfl ?_
        refine E.iadd C dX9_like_42 (by omega) ?_
        refine N.iald C dX9_like_43 kd_120 ln_120 (by omega) (x := v 120 ((119 + (10 * c)) + t)) rfl ?_
        refine N.ist_4 C dX9_like_44 (hN 4 (by decide)) rfl ?_
        refine E.aload_n C dX9_like_46 rfl rfl ?_
        refine N.getR C fa_X9_7 rfl dX9_like_47 kd_119 (x := 120) (by decide +kernel) (by decide) ?_
        refine E.bipush C dX9_like_50 (by decide) ?_
        refine E.bipush C dX9_like_52 (by decide) ?_
        refine E.iload_n C dX9_like_54 rfl rfl ?_
        refine E.imul C dX9_like_55 (by omega) ?_
        refine E.iadd C dX9_like_56 (by omega) ?_
        refine E.iload_n C dX9_like_57 rfl rfl ?_
        refine E.iadd C dX9_like_58 (by omega) ?_
        refine E.iload_n C dX9_like_59 rfl rfl ?_
        refine N.iast C dX9_like_60 kd_120 ln_120 (by omega) ?_
        refine E.iload C dX9_like_61 rfl ?_
        exact N.iret C hR dX9_like_63 (fun hi hx => by first | exact Or.inr ⟨by omega, rfl, rfl⟩ | exact Or.inl ⟨by omega, by omega, by omega, by omega, by omega, by omega, rfl, rfl⟩)
      · have h25 := b0.mp h25
        refine E.iconst C dX9_like_28 (by decide) ?_
        exact N.iret C hR dX9_like_29 (fun hi hx => by first | exact Or.inr ⟨by omega, rfl, rfl⟩ | exact Or.inl ⟨by omega, by omega, by omega, by omega, by omega, by omega, rfl, rfl⟩)

set_option maxHeartbeats 4000000 in
set_option maxRecDepth 20000 in
theorem ok_X9_fits (G : GT) (c t sl : Int) (A v : VT) (hA : WFV A 0) (hM : MR A (v 120)) (hal : v 119 2 = sl) (hsl : 0 ≤ sl ∧ sl ≤ 4) : MNi G yX9_fits cX9_fits 3 (some .int) 3 72 [vr 119, vi c, vi t] v (fun x w => w = v ∧ ((0 ≤ c ∧ c < A 0 4 ∧ 0 ≤ t ∧ t < A 0 5) ∧ x = fitV A 0 c t sl ∨ ¬ (0 ≤ c ∧ c < A 0 4 ∧ 0 ≤ t ∧ t < A 0 5) ∧ x = -1)) := by
  refine MN.of pn_X9_fits [some (vr 119), some (vi c), some (vi t)] 0 rfl rfl (fun X C hX hn hR => ?_)
  have hN : ∀ i : Nat, i < 3 → i < xn X := fun i h => by rw [hn]; exact h
  refine E.rngk (fun hinv => ?_)
  refine E.loc (fun hloc => ?_)
  have hin_1 : in32 c := hloc _ (List.mem_of_getElem? (i := 1) rfl)
  have hin_2 : in32 t := hloc _ (List.mem_of_getElem? (i := 2) rfl)
  have hc := hM.1
  have hb := hM.2.1
  have hA1 := hA.1
  have hA2 := hA.2.1
  refine E.aload_n C dX9_fits_0 rfl rfl ?_
  refine E.iload_n C dX9_fits_1 rfl rfl ?_
  refine N.callVp (S := []) (As := [vi c]) C hX (ok_X9_isChild G c v (by omega)) yf_X9_isChild yv_X9_isChild ml_X9_178 rfl rfl rfl kd_119 (by decide) (by decide) (Nat.le_of_ble_eq_true rfl) dX9_fits_2 rfl ?_
  refine E.if_eq C dX9_fits_5 (tgt := 25) (by decide) (fun h5 => ?_) (fun h5 => ?_)
  · have h5 := b0.mp h5
    refine E.iconst C dX9_fits_25 (by decide) ?_
    exact N.iret C hR dX9_fits_26 (fun hi hx => by first | exact ⟨rfl, Or.inr ⟨by omega, rfl⟩⟩ | exact ⟨rfl, Or.inl ⟨by omega, hM.fit hal (by omega) (by omega)⟩⟩)
  · have h5 := b0n.mp h5
    refine E.aload_n C dX9_fits_8 rfl rfl ?_
    refine E.iload_n C dX9_fits_9 rfl rfl ?_
    refine N.callVp (S := []) (As := [vi t]) C hX (ok_X9_isThing G t v (by omega)) yf_X9_isThing yv_X9_isThing ml_X9_188 rfl rfl rfl kd_119 (by decide) (by decide) (Nat.le_of_ble_eq_true rfl) dX9_fits_10 rfl ?_
    refine E.if_eq C dX9_fits_13 (tgt := 25) (by decide) (fun h13 => ?_) (fun h13 => ?_)
    · have h13 := b0.mp h13
      refine E.iconst C dX9_fits_25 (by decide) ?_
      exact N.iret C hR dX9_fits_26 (fun hi hx => by first | exact ⟨rfl, Or.inr ⟨by omega, rfl⟩⟩ | exact ⟨rfl, Or.inl ⟨by omega, hM.fit hal (by omega) (by omega)⟩⟩)
    · have h13 := b0n.mp h13
      refine E.aload_n C dX9_fits_16 rfl rfl ?_
      refine E.iload_n C dX9_fits_17 rfl rfl ?_
      refine E.iload_n C dX9_fits_18 rfl rfl ?_
      refine N.callVp (S := []) (As := [vi c, vi t]) C hX (ok_X9_fitNow G c t v (by omega) (hM.th hA _ (by omega) (by omega)) ⟨(hM.fz hA _ (by omega) (by omega)).1, (hM.fz hA _ (by omega) (by omega)).2, by omega, by omega⟩) yf_X9_fitNow yv_X9_fitNow ml_X9_206 rfl rfl rfl kd_119 (by decide) (by decide) (Nat.le_of_ble_eq_true rfl) dX9_fits_19 rfl ?_
      refine E.veq (x' := fitI (v 120 (42 + 7 * t + 1)) (v 120 (42 + 7 * t + 2)) (v 120 (42 + 7 * t + 3)) (v 120 (42 + 7 * t + 4)) (v 120 (42 + 7 * t + 5)) (v 120 (42 + 7 * t + 6)) c (v 120 (1 + 5 * c)) (v 119 2)) (by unfold fitS; rfl) ?_
      refine E.goto C dX9_fits_22 (tgt := 26) (by decide) ?_
      exact N.iret C hR dX9_fits_26 (fun hi hx => by first | exact ⟨rfl, Or.inr ⟨by omega, rfl⟩⟩ | exact ⟨rfl, Or.inl ⟨by omega, hM.fit hal (by omega) (by omega)⟩⟩)

set_option maxHeartbeats 4000000 in
set_option maxRecDepth 20000 in
theorem ok_X9_wear (G : GT) (c t sl : Int) (A v : VT) (hA : WFV A 0) (hM : MR A (v 120)) (hal : v 119 2 = sl) (hsl : 0 ≤ sl ∧ sl ≤ 4) : MNi G yX9_wear cX9_wear 5 (some .int) 4 94 [vr 119, vi c, vi t] v (fun x w => (∀ a j, ¬ a = 120 → w a j = v a j) ∧ (∀ j, (j < 1 ∨ j = 41 ∨ 112 ≤ j) → w 120 j = v 120 j) ∧ ((¬ (0 ≤ c ∧ c < A 0 4 ∧ 0 ≤ t ∧ t < A 0 5) ∧ x = -1 ∧ w = v) ∨ ((0 ≤ c ∧ c < A 0 4 ∧ 0 ≤ t ∧ t < A 0 5) ∧ fitV A 0 c t sl = 0 ∧ x = -2 ∧ w = v) ∨ ((0 ≤ c ∧ c < A 0 4 ∧ 0 ≤ t ∧ t < A 0 5) ∧ ¬ fitV A 0 c t sl = 0 ∧ x = wornI A 0 c (A (0 + 13 + t) 0) ∧ MR (wearF A 0 c t sl) (w 120) ∧ WFV (wearF A 0 c t sl) 0))) := by
  refine MN.of pn_X9_wear [some (vr 119), some (vi c), some (vi t), none, none] 2 rfl rfl (fun X C hX hn hR => ?_)
  have hN : ∀ i : Nat, i < 5 → i < xn X := fun i h => by rw [hn]; exact h
  refine E.rngk (fun hinv => ?_)
  refine E.loc (fun hloc => ?_)
  have hin_1 : in32 c := hloc _ (List.mem_of_getElem? (i := 1) rfl)
  have hin_2 : in32 t := hloc _ (List.mem_of_getElem? (i := 2) rfl)
  have hc := hM.1
  have hb := hM.2.1
  have hA1 := hA.1
  have hA2 := hA.2.1
  refine E.aload_n C dX9_wear_0 rfl rfl ?_
  refine E.iload_n C dX9_wear_1 rfl rfl ?_
  refine N.callVp (S := []) (As := [vi c]) C hX (ok_X9_isChild G c v (by omega)) yf_X9_isChild yv_X9_isChild ml_X9_178 rfl rfl rfl kd_119 (by decide) (by decide) (Nat.le_of_ble_eq_true rfl) dX9_wear_2 rfl ?_
  refine E.if_eq C dX9_wear_5 (tgt := 16) (by decide) (fun h5 => ?_) (fun h5 => ?_)
  · have h5 := b0.mp h5
    refine E.iconst C dX9_wear_16 (by decide) ?_
    exact N.iret C hR dX9_wear_17 (fun hi hx => by first | exact ⟨fun a j _ => rfl, fun j _ => rfl, Or.inl ⟨by omega, rfl, rfl⟩⟩ | exact ⟨fun a j _ => rfl, fun j _ => rfl, Or.inr (Or.inl ⟨by omega, by omega, rfl, rfl⟩)⟩ | exact ⟨hmw.2.2.1, hmw.2.2.2, Or.inr (Or.inr ⟨by omega, h24, rfl, hmw.1, hmw.2.1⟩)⟩)
  · have h5 := b0n.mp h5
    refine E.aload_n C dX9_wear_8 rfl rfl ?_
    refine E.iload_n C dX9_wear_9 rfl rfl ?_
    refine N.callVp (S := []) (As := [vi t]) C hX (ok_X9_isThing G t v (by omega)) yf_X9_isThing yv_X9_isThing ml_X9_188 rfl rfl rfl kd_119 (by decide) (by decide) (Nat.le_of_ble_eq_true rfl) dX9_wear_10 rfl ?_
    refine E.if_ne C dX9_wear_13 (tgt := 18) (by decide) (fun h13 => ?_) (fun h13 => ?_)
    · have h13 := b0n.mp h13
      refine E.aload_n C dX9_wear_18 rfl rfl ?_
      refine E.iload_n C dX9_wear_19 rfl rfl ?_
      refine E.iload_n C dX9_wear_20 rfl rfl ?_
      refine N.callVp (S := []) (As := [vi c, vi t]) C hX (ok_X9_fitNow G c t v (by omega) (hM.th hA _ (by omega) (by omega)) ⟨(hM.fz hA _ (by omega) (by omega)).1, (hM.fz hA _ (by omega) (by omega)).2, by omega, by omega⟩) yf_X9_fitNow yv_X9_fitNow ml_X9_206 rfl rfl rfl kd_119 (by decide) (by decide) (Nat.le_of_ble_eq_true rfl) dX9_wear_21 rfl ?_
      refine E.veq (x' := fitI (v 120 (42 + 7 * t + 1)) (v 120 (42 + 7 * t + 2)) (v 120 (42 + 7 * t + 3)) (v 120 (42 + 7 * t + 4)) (v 120 (42 + 7 * t + 5)) (v 120 (42 + 7 * t + 6)) c (v 120 (1 + 5 * c)) (v 119 2)) (by unfold fitS; rfl) ?_
      refine E.veq (x' := fitV A 0 c t sl) (hM.fit hal (by omega) (by omega)) ?_
      refine E.if_ne C dX9_wear_24 (tgt := 30) (by decide) (fun h24 => ?_) (fun h24 => ?_)
      · skip
        have e0 : v 120 (42 + 7 * t + 0) = A (0 + 13 + t) 0 := hM.2.2.2.1 t 0 (by omega) (by omega) (by omega) (by omega)
        obtain ⟨hs01, -, -, -, -, -, -, -, h9, -⟩ := hA.2.2.2.1 t (by omega) (by omega)
        have hmw := hM.wear hA hal (c := c) (t := t) (by omega) (by omega) h24
        unfold preS at hmw
        have htq := hM.th hA t (by omega) (by omega)
        have hzq : -1000 ≤ v 120 (1 + 5 * c) ∧ v 120 (1 + 5 * c) ≤ 1000 ∧ -1000 ≤ v 119 2 ∧ v 119 2 ≤ 1000 := ⟨(hM.fz hA _ (by omega) (by omega)).1, (hM.fz hA _ (by omega) (by omega)).2, by omega, by omega⟩
        refine E.aload_n C dX9_wear_30 rfl rfl ?_
        refine E.iload_n C dX9_wear_31 rfl rfl ?_
        refine E.aload_n C dX9_wear_32 rfl rfl ?_
        refine E.iload_n C dX9_wear_33 rfl rfl ?_
        refine E.iconst C dX9_wear_34 (by decide) ?_
        refine N.callVp (S := [vi c, vr 119]) (As := [vi t, vi 0]) C hX (ok_X9_of G t 0 v (by omega)) yf_X9_of yv_X9_of ml_X9_172 rfl rfl rfl kd_119 (by decide) (by decide) (Nat.le_of_ble_eq_true rfl) dX9_wear_35 rfl ?_
        refine N.callVp (S := []) (As := [vi c, vi (v 120 (42 + 7 * t + 0))]) C hX (ok_X9_worn G c (v 120 (42 + 7 * t + 0)) v (by rw [e0]; omega)) yf_X9_worn yv_X9_worn ml_X9_175 rfl rfl rfl kd_119 (by decide) (by decide) (Nat.le_of_ble_eq_true rfl) dX9_wear_38 rfl ?_
        refine E.veq (x' := wornI A 0 c (A (0 + 13 + t) 0)) (by rw [e0]; exact hM.2.2.2.2 c _ (by omega) (by omega) (by omega) (by omega)) ?_
        refine N.ist_3 C dX9_wear_41 (hN 3 (by decide)) rfl ?_
        refine E.aload_n C dX9_wear_42 rfl rfl ?_
        refine E.iload_n C dX9_wear_43 rfl rfl ?_
        refine N.callVp (S := []) (As := [vi t]) C hX (ok_X9_whoWears G t v (by omega) (by omega) (by rw [e0]; omega)) yf_X9_whoWears yv_X9_whoWears ml_X9_193 rfl rfl rfl kd_119 (by decide) (by decide) (Nat.le_of_ble_eq_true rfl) dX9_wear_44 rfl ?_
        refine E.veq (x' := A (0 + 13 + t) 7) (hM.who hA (by omega)) ?_
        refine N.ist_4 C dX9_wear_47 (hN 4 (by decide)) rfl ?_
        refine E.iload C dX9_wear_49 rfl ?_
        refine E.bipush C dX9_wear_51 (by decide) ?_
        refine E.icmp_eq C dX9_wear_53 (tgt := 68) (by decide) (fun h53 => ?_) (fun h53 => ?_)
        · skip
          first | (rw [if_pos (by omega)] at hmw) | (rw [if_neg (by omega)] at hmw)
          refine E.aload_n C dX9_wear_68 rfl rfl ?_
          refine E.iload_n C dX9_wear_69 rfl rfl ?_
          refine E.iload_n C dX9_wear_70 rfl rfl ?_
          refine N.callVe (S := []) (As := [vi c, vi t]) C hX (ok_X9_putsOn G c t v (by omega) (by first | exact htq | (rw [u_ne (by omega), u_ne (by omega)]; exact htq)) (by first | exact hzq | (rw [u_ne (by omega), u_ne (by omega)]; exact hzq)) (by first | (rw [e0]; omega) | (rw [u_ne (by omega), e0]; omega))) yf_X9_putsOn yv_X9_putsOn ml_X9_213 rfl rfl rfl kd_119 (by decide) (by decide) (Nat.le_of_ble_eq_true rfl) dX9_wear_71 rfl ?_
          refine E.iload_n C dX9_wear_74 rfl rfl ?_
          exact N.iret C hR dX9_wear_75 (fun hi hx => by first | exact ⟨fun a j _ => rfl, fun j _ => rfl, Or.inl ⟨by omega, rfl, rfl⟩⟩ | exact ⟨fun a j _ => rfl, fun j _ => rfl, Or.inr (Or.inl ⟨by omega, by omega, rfl, rfl⟩)⟩ | exact ⟨hmw.2.2.1, hmw.2.2.2, Or.inr (Or.inr ⟨by omega, h24, rfl, hmw.1, hmw.2.1⟩)⟩)
        · skip
          refine E.aload_n C dX9_wear_56 rfl rfl ?_
          refine E.iload C dX9_wear_57 rfl ?_
          refine E.aload_n C dX9_wear_59 rfl rfl ?_
          refine E.iload_n C dX9_wear_60 rfl rfl ?_
          refine E.iconst C dX9_wear_61 (by decide) ?_
          refine N.callVp (S := [vi (A (0 + 13 + t) 7), vr 119]) (As := [vi t, vi 0]) C hX (ok_X9_of G t 0 v (by omega)) yf_X9_of yv_X9_of ml_X9_172 rfl rfl rfl kd_119 (by decide) (by decide) (Nat.le_of_ble_eq_true rfl) dX9_wear_62 rfl ?_
          refine N.callVe (S := []) (As := [vi (A (0 + 13 + t) 7), vi (v 120 (42 + 7 * t + 0))]) C hX (ok_X9_takesOff G (A (0 + 13 + t) 7) (v 120 (42 + 7 * t + 0)) v (by rw [e0]; omega)) yf_X9_takesOff yv_X9_takesOff ml_X9_209 rfl rfl rfl kd_119 (by decide) (by decide) (Nat.le_of_ble_eq_true rfl) dX9_wear_65 rfl ?_
          first | (rw [if_pos (by omega)] at hmw) | (rw [if_neg (by omega)] at hmw)
          refine E.aload_n C dX9_wear_68 rfl rfl ?_
          refine E.iload_n C dX9_wear_69 rfl rfl ?_
          refine E.iload_n C dX9_wear_70 rfl rfl ?_
          refine N.callVe (S := []) (As := [vi c, vi t]) C hX (ok_X9_putsOn G c t (upd2 v 120 (1 + 5 * (A (0 + 13 + t) 7) + 3 + (v 120 (42 + 7 * t + 0))) (-4)) (by omega) (by first | exact htq | (rw [u_ne (by omega), u_ne (by omega)]; exact htq)) (by first | exact hzq | (rw [u_ne (by omega), u_ne (by omega)]; exact hzq)) (by first | (rw [e0]; omega) | (rw [u_ne (by omega), e0]; omega))) yf_X9_putsOn yv_X9_putsOn ml_X9_213 rfl rfl rfl kd_119 (by decide) (by decide) (Nat.le_of_ble_eq_true rfl) dX9_wear_71 rfl ?_
          refine E.iload_n C dX9_wear_74 rfl rfl ?_
          exact N.iret C hR dX9_wear_75 (fun hi hx => by first | exact ⟨fun a j _ => rfl, fun j _ => rfl, Or.inl ⟨by omega, rfl, rfl⟩⟩ | exact ⟨fun a j _ => rfl, fun j _ => rfl, Or.inr (Or.inl ⟨by omega, by omega, rfl, rfl⟩)⟩ | exact ⟨hmw.2.2.1, hmw.2.2.2, Or.inr (Or.inr ⟨by omega, h24, rfl, hmw.1, hmw.2.1⟩)⟩)
      · skip
        refine E.bipush C dX9_wear_27 (by decide) ?_
        exact N.iret C hR dX9_wear_29 (fun hi hx => by first | exact ⟨fun a j _ => rfl, fun j _ => rfl, Or.inl ⟨by omega, rfl, rfl⟩⟩ | exact ⟨fun a j _ => rfl, fun j _ => rfl, Or.inr (Or.inl ⟨by omega, by omega, rfl, rfl⟩)⟩ | exact ⟨hmw.2.2.1, hmw.2.2.2, Or.inr (Or.inr ⟨by omega, h24, rfl, hmw.1, hmw.2.1⟩)⟩)
    · have h13 := b0.mp h13
      refine E.iconst C dX9_wear_16 (by decide) ?_
      exact N.iret C hR dX9_wear_17 (fun hi hx => by first | exact ⟨fun a j _ => rfl, fun j _ => rfl, Or.inl ⟨by omega, rfl, rfl⟩⟩ | exact ⟨fun a j _ => rfl, fun j _ => rfl, Or.inr (Or.inl ⟨by omega, by omega, rfl, rfl⟩)⟩ | exact ⟨hmw.2.2.1, hmw.2.2.2, Or.inr (Or.inr ⟨by omega, h24, rfl, hmw.1, hmw.2.1⟩)⟩)

set_option maxHeartbeats 4000000 in
set_option maxRecDepth 20000 in
theorem ok_X9_doff (G : GT) (c s : Int) (A v : VT) (hA : WFV A 0) (hM : MR A (v 120)) : MNi G yX9_doff cX9_doff 4 (some .int) 2 46 [vr 119, vi c, vi s] v (fun x w => (∀ a j, ¬ a = 120 → w a j = v a j) ∧ (∀ j, (j < 1 ∨ j = 41 ∨ 112 ≤ j) → w 120 j = v 120 j) ∧ ((¬ (0 ≤ c ∧ c < A 0 4 ∧ 0 ≤ s ∧ s ≤ 1) ∧ x = -1 ∧ w = v) ∨ (0 ≤ c ∧ c < A 0 4 ∧ 0 ≤ s ∧ s ≤ 1 ∧ x = wornI A 0 c s ∧ MR (offF A 0 x) (w 120) ∧ WFV (offF A 0 x) 0))) := by
  refine MN.of pn_X9_doff [some (vr 119), some (vi c), some (vi s), none] 1 rfl rfl (fun X C hX hn hR => ?_)
  have hN : ∀ i : Nat, i < 4 → i < xn X := fun i h => by rw [hn]; exact h
  refine E.rngk (fun hinv => ?_)
  refine E.loc (fun hloc => ?_)
  have hin_1 : in32 c := hloc _ (List.mem_of_getElem? (i := 1) rfl)
  have hin_2 : in32 s := hloc _ (List.mem_of_getElem? (i := 2) rfl)
  have hc := hM.1
  have hb := hM.2.1
  have hA1 := hA.1
  have hA2 := hA.2.1
  refine E.aload_n C dX9_doff_0 rfl rfl ?_
  refine E.iload_n C dX9_doff_1 rfl rfl ?_
  refine N.callVp (S := []) (As := [vi c]) C hX (ok_X9_isChild G c v (by omega)) yf_X9_isChild yv_X9_isChild ml_X9_178 rfl rfl rfl kd_119 (by decide) (by decide) (Nat.le_of_ble_eq_true rfl) dX9_doff_2 rfl ?_
  refine E.if_eq C dX9_doff_5 (tgt := 15) (by decide) (fun h5 => ?_) (fun h5 => ?_)
  · have h5 := b0.mp h5
    refine E.iconst C dX9_doff_15 (by decide) ?_
    exact N.iret C hR dX9_doff_16 (fun hi hx => by first | exact ⟨fun a j _ => rfl, fun j _ => rfl, Or.inl ⟨by omega, rfl, rfl⟩⟩ | (have hd := hM.dof hA (c := c) (s := s) (by omega) (by omega); exact ⟨fun a j g => u_ne (Or.inl g), fun j g => u_ne (Or.inr (by omega)), Or.inr ⟨by omega, by omega, by omega, by omega, rfl, by rw [upd2_row]; exact hd.1, hd.2.1⟩⟩))
  · have h5 := b0n.mp h5
    refine E.iload_n C dX9_doff_8 rfl rfl ?_
    refine N.callSp (S := []) (As := [vi s]) C hX (ok_X9_isSlot G s v) yf_X9_isSlot yv_X9_isSlot ml_X9_216 rfl (by decide) (Nat.le_of_ble_eq_true rfl) dX9_doff_9 rfl ?_
    refine E.if_ne C dX9_doff_12 (tgt := 17) (by decide) (fun h12 => ?_) (fun h12 => ?_)
    · have h12 := b0n.mp h12
      refine E.aload_n C dX9_doff_17 rfl rfl ?_
      refine E.iload_n C dX9_doff_18 rfl rfl ?_
      refine E.iload_n C dX9_doff_19 rfl rfl ?_
      refine N.callVp (S := []) (As := [vi c, vi s]) C hX (ok_X9_worn G c s v (by omega)) yf_X9_worn yv_X9_worn ml_X9_175 rfl rfl rfl kd_119 (by decide) (by decide) (Nat.le_of_ble_eq_true rfl) dX9_doff_20 rfl ?_
      refine E.veq (x' := wornI A 0 c s) (hM.2.2.2.2 c s (by omega) (by omega) (by omega) (by omega)) ?_
      refine N.ist_3 C dX9_doff_23 (hN 3 (by decide)) rfl ?_
      refine E.aload_n C dX9_doff_24 rfl rfl ?_
      refine E.iload_n C dX9_doff_25 rfl rfl ?_
      refine E.iload_n C dX9_doff_26 rfl rfl ?_
      refine N.callVe (S := []) (As := [vi c, vi s]) C hX (ok_X9_takesOff G c s v (by omega)) yf_X9_takesOff yv_X9_takesOff ml_X9_209 rfl rfl rfl kd_119 (by decide) (by decide) (Nat.le_of_ble_eq_true rfl) dX9_doff_27 rfl ?_
      refine E.iload_n C dX9_doff_30 rfl rfl ?_
      exact N.iret C hR dX9_doff_31 (fun hi hx => by first | exact ⟨fun a j _ => rfl, fun j _ => rfl, Or.inl ⟨by omega, rfl, rfl⟩⟩ | (have hd := hM.dof hA (c := c) (s := s) (by omega) (by omega); exact ⟨fun a j g => u_ne (Or.inl g), fun j g => u_ne (Or.inr (by omega)), Or.inr ⟨by omega, by omega, by omega, by omega, rfl, by rw [upd2_row]; exact hd.1, hd.2.1⟩⟩))
    · have h12 := b0.mp h12
      refine E.iconst C dX9_doff_15 (by decide) ?_
      exact N.iret C hR dX9_doff_16 (fun hi hx => by first | exact ⟨fun a j _ => rfl, fun j _ => rfl, Or.inl ⟨by omega, rfl, rfl⟩⟩ | (have hd := hM.dof hA (c := c) (s := s) (by omega) (by omega); exact ⟨fun a j g => u_ne (Or.inl g), fun j g => u_ne (Or.inr (by omega)), Or.inr ⟨by omega, by omega, by omega, by omega, rfl, by rw [upd2_row]; exact hd.1, hd.2.1⟩⟩))

set_option maxHeartbeats 4000000 in
set_option maxRecDepth 20000 in
theorem ok_X9_cold (G : GT) (s : Int) (A v : VT) (hA : WFV A 0) (hM : MR A (v 120)) : MNi G yX9_cold cX9_cold 4 (some .int) 2 45 [vr 119, vi s] v (fun x w => w = v ∧ (0 ≤ s ∧ s ≤ 1 ∧ x = orN (fun c => decide (wornI A 0 c s = -4)) (A 0 4).toNat ∨ ¬ (0 ≤ s ∧ s ≤ 1) ∧ x = -1)) := by
  refine MN.of pn_X9_cold [some (vr 119), some (vi s), none, none] 2 rfl rfl (fun X C hX hn hR => ?_)
  have hN : ∀ i : Nat, i < 4 → i < xn X := fun i h => by rw [hn]; exact h
  refine E.rngk (fun hinv => ?_)
  refine E.loc (fun hloc => ?_)
  have hin_1 : in32 s := hloc _ (List.mem_of_getElem? (i := 1) rfl)
  have hc := hM.1
  have hb := hM.2.1
  have hA1 := hA.1
  have hA2 := hA.2.1
  refine E.iload_n C dX9_cold_0 rfl rfl ?_
  refine N.callSp (S := []) (As := [vi s]) C hX (ok_X9_isSlot G s v) yf_X9_isSlot yv_X9_isSlot ml_X9_216 rfl (by decide) (Nat.le_of_ble_eq_true rfl) dX9_cold_1 rfl ?_
  refine E.if_ne C dX9_cold_4 (tgt := 9) (by decide) (fun h4 => ?_) (fun h4 => ?_)
  · have h4 := b0n.mp h4
    refine E.iconst C dX9_cold_9 (by decide) ?_
    refine N.ist_2 C dX9_cold_10 (hN 2 (by decide)) rfl ?_
    refine E.iconst C dX9_cold_11 (by decide) ?_
    refine N.ist_3 C dX9_cold_12 (hN 3 (by decide)) rfl ?_
    have lp13 : ∀ (k13 : Nat) (x : Int) (c : Int), (A 0 4 - c).toNat = k13 → (0 ≤ c ∧ c ≤ A 0 4 ∧ x = orN (fun c => decide (wornI A 0 c s = -4)) c.toNat) → E X G 0 0 1000 v 13 [some (vr 119), some (vi s), some (vi x), some (vi c)] [] := by
      intro k13
      induction k13 using Nat.strongRecOn with
      | ind k13 ih13 =>
        intro x c hk13 hI13
        obtain ⟨hc0, hc1, hx⟩ := hI13
        refine E.iload_n C dX9_cold_13 rfl rfl ?_
        refine E.aload_n C dX9_cold_14 rfl rfl ?_
        refine N.getR C fa_X9_7 rfl dX9_cold_15 kd_119 (x := 120) (by decide +kernel) (by decide) ?_
        refine E.iconst C dX9_cold_18 (by decide) ?_
        refine N.iald C dX9_cold_19 kd_120 ln_120 (by omega) (x := v 120 0) rfl ?_
        refine E.icmp_ge C dX9_cold_20 (tgt := 53) (by decide) (fun h20 => ?_) (fun h20 => ?_)
        · skip
          refine E.iload_n C dX9_cold_53 rfl rfl ?_
          exact N.iret C hR dX9_cold_54 (fun hi hx => by first | exact ⟨rfl, Or.inr ⟨by omega, rfl⟩⟩ | (have ec : c = A 0 4 := (by omega); subst ec; exact ⟨rfl, Or.inl ⟨by omega, by omega, hx⟩⟩))
        · skip
          refine E.iload_n C dX9_cold_23 rfl rfl ?_
          refine E.aload_n C dX9_cold_24 rfl rfl ?_
          refine E.iload_n C dX9_cold_25 rfl rfl ?_
          refine E.iload_n C dX9_cold_26 rfl rfl ?_
          refine N.callVp (S := [vi x]) (As := [vi c, vi s]) C hX (ok_X9_worn G c s v (by omega)) yf_X9_worn yv_X9_worn ml_X9_175 rfl rfl rfl kd_119 (by decide) (by decide) (Nat.le_of_ble_eq_true rfl) dX9_cold_27 rfl ?_
          refine E.veq (x' := wornI A 0 c s) (hM.2.2.2.2 c s (by omega) (by omega) (by omega) (by omega)) ?_
          refine E.bipush C dX9_cold_30 (by decide) ?_
          refine E.icmp_ne C dX9_cold_32 (tgt := 39) (by decide) (fun h32 => ?_) (fun h32 => ?_)
          · skip
            refine E.iconst C dX9_cold_39 (by decide) ?_
            refine N.callSp (S := [vi x]) (As := [vi 0]) C hX (ok_X9_flag G 0 v (by first | omega | exact bdec)) yf_X9_flag yv_X9_flag ml_X9_219 rfl (by decide) (Nat.le_of_ble_eq_true rfl) dX9_cold_40 rfl ?_
            refine E.iload_n C dX9_cold_43 rfl rfl ?_
            refine E.ishl C dX9_cold_44 ?_
            refine E.ior C dX9_cold_45 ?_
            refine N.ist_2 C dX9_cold_46 (hN 2 (by decide)) rfl ?_
            refine N.iinc_3 C dX9_cold_47 (hN 3 (by decide)) rfl (by omega) ?_
            refine E.goto C dX9_cold_50 (tgt := 13) (by decide) ?_
            exact ih13 _ (by omega) (jor x (jshl 0 c)) (c + 1) rfl (by refine ⟨by omega, by omega, ?_⟩; rw [orN_step hc0, hx]; first | (rw [if_pos (decide_eq_true (by omega))]) | (rw [if_neg (by rw [decide_eq_true_iff]; omega), jshl_0 ⟨by omega, by omega⟩, jor_0 (orN_in _ _)]))
          · skip
            refine E.iconst C dX9_cold_35 (by decide) ?_
            refine E.goto C dX9_cold_36 (tgt := 40) (by decide) ?_
            refine N.callSp (S := [vi x]) (As := [vi 1]) C hX (ok_X9_flag G 1 v (by first | omega | exact bdec)) yf_X9_flag yv_X9_flag ml_X9_219 rfl (by decide) (Nat.le_of_ble_eq_true rfl) dX9_cold_40 rfl ?_
            refine E.iload_n C dX9_cold_43 rfl rfl ?_
            refine E.ishl C dX9_cold_44 ?_
            refine E.ior C dX9_cold_45 ?_
            refine N.ist_2 C dX9_cold_46 (hN 2 (by decide)) rfl ?_
            refine N.iinc_3 C dX9_cold_47 (hN 3 (by decide)) rfl (by omega) ?_
            refine E.goto C dX9_cold_50 (tgt := 13) (by decide) ?_
            exact ih13 _ (by omega) (jor x (jshl 1 c)) (c + 1) rfl (by refine ⟨by omega, by omega, ?_⟩; rw [orN_step hc0, hx]; first | (rw [if_pos (decide_eq_true (by omega))]) | (rw [if_neg (by rw [decide_eq_true_iff]; omega), jshl_0 ⟨by omega, by omega⟩, jor_0 (orN_in _ _)]))
    exact lp13 _ 0 0 rfl (by exact ⟨by omega, by omega, rfl⟩)
  · have h4 := b0.mp h4
    refine E.iconst C dX9_cold_7 (by decide) ?_
    exact N.iret C hR dX9_cold_8 (fun hi hx => by first | exact ⟨rfl, Or.inr ⟨by omega, rfl⟩⟩ | (have ec : c = A 0 4 := (by omega); subst ec; exact ⟨rfl, Or.inl ⟨by omega, by omega, hx⟩⟩))

set_option maxHeartbeats 4000000 in
set_option maxRecDepth 20000 in
theorem ok_X9_deal (G : GT) (s k sl : Int) (A v : VT) (hA : WFV A 0) (hM : MR A (v 120)) (hal : v 119 2 = sl) (hsl : 0 ≤ sl ∧ sl ≤ 4) : MNi G yX9_deal cX9_deal 4 (some .int) 5 121 [vr 119, vi s, vi k] v (fun x w => (∀ a j, (¬ a = 119 ∨ ¬ j = 16) → (a < 124 ∨ 130 < a) → w a j = v a j) ∧ ((¬ ((0 ≤ s ∧ s ≤ 1) ∧ ((k = 0 ∨ k = 1) ∨ (0 ≤ w32 (k - 10) ∧ w32 (k - 10) < A 0 4))) ∧ x = -1) ∨ (((0 ≤ s ∧ s ≤ 1) ∧ ((k = 0 ∨ k = 1) ∨ (0 ≤ w32 (k - 10) ∧ w32 (k - 10) < A 0 4))) ∧ x = if k = 0 then warmV A 0 s sl else if k = 1 then A 0 4 - warmV A 0 s sl else dealV A 0 s sl (w32 (k - 10))))) := by
  refine MN.of pn_X9_deal [some (vr 119), some (vi s), some (vi k), none] 1 rfl rfl (fun X C hX hn hR => ?_)
  have hN : ∀ i : Nat, i < 4 → i < xn X := fun i h => by rw [hn]; exact h
  refine E.rngk (fun hinv => ?_)
  refine E.loc (fun hloc => ?_)
  have hin_1 : in32 s := hloc _ (List.mem_of_getElem? (i := 1) rfl)
  have hin_2 : in32 k := hloc _ (List.mem_of_getElem? (i := 2) rfl)
  have hc := hM.1
  have hb := hM.2.1
  have hA1 := hA.1
  have hA2 := hA.2.1
  have hwb := warm_bd (v := A) (o := 0) (s := s) (sl := sl) hA1.1
  refine E.iload_n C dX9_deal_0 rfl rfl ?_
  refine N.callSp (S := []) (As := [vi s]) C hX (ok_X9_isSlot G s v) yf_X9_isSlot yv_X9_isSlot ml_X9_216 rfl (by decide) (Nat.le_of_ble_eq_true rfl) dX9_deal_1 rfl ?_
  refine E.if_eq C dX9_deal_4 (tgt := 28) (by decide) (fun h4 => ?_) (fun h4 => ?_)
  · have h4 := b0.mp h4
    refine E.iconst C dX9_deal_28 (by decide) ?_
    exact N.iret C hR dX9_deal_29 (fun hi hx => by first | exact ⟨fun a j _ _ => rfl, Or.inl ⟨by omega, rfl⟩⟩ | exact ⟨d1, Or.inr ⟨by omega, by rw [if_pos (by omega)]; exact d2⟩⟩ | exact ⟨d1, Or.inr ⟨by omega, by rw [if_neg (by omega), if_pos (by omega), hc, d2]⟩⟩ | exact ⟨d1, Or.inr ⟨by omega, by rw [if_neg (by omega), if_neg (by omega)]; exact d3 _ (by omega) (by omega)⟩⟩)
  · have h4 := b0n.mp h4
    refine E.iload_n C dX9_deal_7 rfl rfl ?_
    refine E.i2l C dX9_deal_8 ?_
    refine E.lconst C dX9_deal_9 (x := 0) rfl ?_
    refine E.lconst C dX9_deal_10 (x := 1) rfl ?_
    refine N.callSp (S := []) (As := [vl k, vl 0, vl 1]) C hX (ok_X9_in G k 0 1 v) yf_X9_in yv_X9_in ml_X9_93 rfl (by decide) (Nat.le_of_ble_eq_true rfl) dX9_deal_11 rfl ?_
    refine E.if_ne C dX9_deal_14 (tgt := 30) (by decide) (fun h14 => ?_) (fun h14 => ?_)
    · have h14 := b0n.mp h14
      refine E.aload_n C dX9_deal_30 rfl rfl ?_
      refine E.iload_n C dX9_deal_31 rfl rfl ?_
      refine N.callVi (S := []) (As := [vi s]) C hX (ok_X9_findDeal G s sl A v hA hM hal hsl) yf_X9_findDeal yv_X9_findDeal ml_X9_248 rfl rfl rfl kd_119 (by decide) (by decide) (Nat.le_of_ble_eq_true rfl) dX9_deal_32 rfl (fun t32 wv32 hb32 hp32 => ?_)
      obtain ⟨d1, d2, d3, -, -⟩ := id hp32
      refine N.ist_3 C dX9_deal_35 (hN 3 (by decide)) rfl ?_
      refine E.iload_n C dX9_deal_36 rfl rfl ?_
      refine E.if_ne C dX9_deal_37 (tgt := 44) (by decide) (fun h37 => ?_) (fun h37 => ?_)
      · skip
        refine E.iload_n C dX9_deal_44 rfl rfl ?_
        refine E.iconst C dX9_deal_45 (by decide) ?_
        refine E.icmp_ne C dX9_deal_46 (tgt := 60) (by decide) (fun h46 => ?_) (fun h46 => ?_)
        · skip
          refine E.aload_n C dX9_deal_60 rfl rfl ?_
          refine N.getR C fa_X9_26 rfl dX9_deal_61 kd_119 (x := 125) (by decide +kernel) (by decide) ?_
          refine E.iload_n C dX9_deal_64 rfl rfl ?_
          refine E.bipush C dX9_deal_65 (by decide) ?_
          refine E.isubW C dX9_deal_67 ?_
          refine N.iald C dX9_deal_68 kd_125 ln_125 (by omega) (x := wv32 125 (w32 (k - 10))) rfl ?_
          exact N.iret C hR dX9_deal_69 (fun hi hx => by first | exact ⟨fun a j _ _ => rfl, Or.inl ⟨by omega, rfl⟩⟩ | exact ⟨d1, Or.inr ⟨by omega, by rw [if_pos (by omega)]; exact d2⟩⟩ | exact ⟨d1, Or.inr ⟨by omega, by rw [if_neg (by omega), if_pos (by omega), hc, d2]⟩⟩ | exact ⟨d1, Or.inr ⟨by omega, by rw [if_neg (by omega), if_neg (by omega)]; exact d3 _ (by omega) (by omega)⟩⟩)
        · skip
          refine E.aload_n C dX9_deal_49 rfl rfl ?_
          refine N.getR C fa_X9_7 rfl dX9_deal_50 kd_119 (x := 120) (by decide +kernel) (by decide) ?_
          refine E.iconst C dX9_deal_53 (by decide) ?_
          refine N.iald C dX9_deal_54 kd_120 ln_120 (by omega) (x := v 120 0) (hp32.1 _ _ (Or.inl (by decide)) (by decide)) ?_
          refine E.iload_n C dX9_deal_55 rfl rfl ?_
          refine E.isub C dX9_deal_56 (by omega) ?_
          refine E.goto C dX9_deal_57 (tgt := 69) (by decide) ?_
          exact N.iret C hR dX9_deal_69 (fun hi hx => by first | exact ⟨fun a j _ _ => rfl, Or.inl ⟨by omega, rfl⟩⟩ | exact ⟨d1, Or.inr ⟨by omega, by rw [if_pos (by omega)]; exact d2⟩⟩ | exact ⟨d1, Or.inr ⟨by omega, by rw [if_neg (by omega), if_pos (by omega), hc, d2]⟩⟩ | exact ⟨d1, Or.inr ⟨by omega, by rw [if_neg (by omega), if_neg (by omega)]; exact d3 _ (by omega) (by omega)⟩⟩)
      · skip
        refine E.iload_n C dX9_deal_40 rfl rfl ?_
        refine E.goto C dX9_deal_41 (tgt := 69) (by decide) ?_
        exact N.iret C hR dX9_deal_69 (fun hi hx => by first | exact ⟨fun a j _ _ => rfl, Or.inl ⟨by omega, rfl⟩⟩ | exact ⟨d1, Or.inr ⟨by omega, by rw [if_pos (by omega)]; exact d2⟩⟩ | exact ⟨d1, Or.inr ⟨by omega, by rw [if_neg (by omega), if_pos (by omega), hc, d2]⟩⟩ | exact ⟨d1, Or.inr ⟨by omega, by rw [if_neg (by omega), if_neg (by omega)]; exact d3 _ (by omega) (by omega)⟩⟩)
    · have h14 := b0.mp h14
      refine E.aload_n C dX9_deal_17 rfl rfl ?_
      refine E.iload_n C dX9_deal_18 rfl rfl ?_
      refine E.bipush C dX9_deal_19 (by decide) ?_
      refine E.isubW C dX9_deal_21 ?_
      refine N.callVp (S := []) (As := [vi (w32 (k - 10))]) C hX (ok_X9_isChild G (w32 (k - 10)) v (by omega)) yf_X9_isChild yv_X9_isChild ml_X9_178 rfl rfl rfl kd_119 (by decide) (by decide) (Nat.le_of_ble_eq_true rfl) dX9_deal_22 rfl ?_
      refine E.if_ne C dX9_deal_25 (tgt := 30) (by decide) (fun h25 => ?_) (fun h25 => ?_)
      · have h25 := b0n.mp h25
        refine E.aload_n C dX9_deal_30 rfl rfl ?_
        refine E.iload_n C dX9_deal_31 rfl rfl ?_
        refine N.callVi (S := []) (As := [vi s]) C hX (ok_X9_findDeal G s sl A v hA hM hal hsl) yf_X9_findDeal yv_X9_findDeal ml_X9_248 rfl rfl rfl kd_119 (by decide) (by decide) (Nat.le_of_ble_eq_true rfl) dX9_deal_32 rfl (fun t32 wv32 hb32 hp32 => ?_)
        obtain ⟨d1, d2, d3, -, -⟩ := id hp32
        refine N.ist_3 C dX9_deal_35 (hN 3 (by decide)) rfl ?_
        refine E.iload_n C dX9_deal_36 rfl rfl ?_
        refine E.if_ne C dX9_deal_37 (tgt := 44) (by decide) (fun h37 => ?_) (fun h37 => ?_)
        · skip
          refine E.iload_n C dX9_deal_44 rfl rfl ?_
          refine E.iconst C dX9_deal_45 (by decide) ?_
          refine E.icmp_ne C dX9_deal_46 (tgt := 60) (by decide) (fun h46 => ?_) (fun h46 => ?_)
          · skip
            refine E.aload_n C dX9_deal_60 rfl rfl ?_
            refine N.getR C fa_X9_26 rfl dX9_deal_61 kd_119 (x := 125) (by decide +kernel) (by decide) ?_
            refine E.iload_n C dX9_deal_64 rfl rfl ?_
            refine E.bipush C dX9_deal_65 (by decide) ?_
            refine E.isubW C dX9_deal_67 ?_
            refine N.iald C dX9_deal_68 kd_125 ln_125 (by omega) (x := wv32 125 (w32 (k - 10))) rfl ?_
            exact N.iret C hR dX9_deal_69 (fun hi hx => by first | exact ⟨fun a j _ _ => rfl, Or.inl ⟨by omega, rfl⟩⟩ | exact ⟨d1, Or.inr ⟨by omega, by rw [if_pos (by omega)]; exact d2⟩⟩ | exact ⟨d1, Or.inr ⟨by omega, by rw [if_neg (by omega), if_pos (by omega), hc, d2]⟩⟩ | exact ⟨d1, Or.inr ⟨by omega, by rw [if_neg (by omega), if_neg (by omega)]; exact d3 _ (by omega) (by omega)⟩⟩)
          · skip
            refine E.aload_n C dX9_deal_49 rfl rfl ?_
            refine N.getR C fa_X9_7 rfl dX9_deal_50 kd_119 (x := 120) (by decide +kernel) (by decide) ?_
            refine E.iconst C dX9_deal_53 (by decide) ?_
            refine N.iald C dX9_deal_54 kd_120 ln_120 (by omega) (x := v 120 0) (hp32.1 _ _ (Or.inl (by decide)) (by decide)) ?_
            refine E.iload_n C dX9_deal_55 rfl rfl ?_
            refine E.isub C dX9_deal_56 (by omega) ?_
            refine E.goto C dX9_deal_57 (tgt := 69) (by decide) ?_
            exact N.iret C hR dX9_deal_69 (fun hi hx => by first | exact ⟨fun a j _ _ => rfl, Or.inl ⟨by omega, rfl⟩⟩ | exact ⟨d1, Or.inr ⟨by omega, by rw [if_pos (by omega)]; exact d2⟩⟩ | exact ⟨d1, Or.inr ⟨by omega, by rw [if_neg (by omega), if_pos (by omega), hc, d2]⟩⟩ | exact ⟨d1, Or.inr ⟨by omega, by rw [if_neg (by omega), if_neg (by omega)]; exact d3 _ (by omega) (by omega)⟩⟩)
        · skip
          refine E.iload_n C dX9_deal_40 rfl rfl ?_
          refine E.goto C dX9_deal_41 (tgt := 69) (by decide) ?_
          exact N.iret C hR dX9_deal_69 (fun hi hx => by first | exact ⟨fun a j _ _ => rfl, Or.inl ⟨by omega, rfl⟩⟩ | exact ⟨d1, Or.inr ⟨by omega, by rw [if_pos (by omega)]; exact d2⟩⟩ | exact ⟨d1, Or.inr ⟨by omega, by rw [if_neg (by omega), if_pos (by omega), hc, d2]⟩⟩ | exact ⟨d1, Or.inr ⟨by omega, by rw [if_neg (by omega), if_neg (by omega)]; exact d3 _ (by omega) (by omega)⟩⟩)
      · have h25 := b0.mp h25
        refine E.iconst C dX9_deal_28 (by decide) ?_
        exact N.iret C hR dX9_deal_29 (fun hi hx => by first | exact ⟨fun a j _ _ => rfl, Or.inl ⟨by omega, rfl⟩⟩ | exact ⟨d1, Or.inr ⟨by omega, by rw [if_pos (by omega)]; exact d2⟩⟩ | exact ⟨d1, Or.inr ⟨by omega, by rw [if_neg (by omega), if_pos (by omega), hc, d2]⟩⟩ | exact ⟨d1, Or.inr ⟨by omega, by rw [if_neg (by omega), if_neg (by omega)]; exact d3 _ (by omega) (by omega)⟩⟩)

set_option maxHeartbeats 4000000 in
set_option maxRecDepth 20000 in
theorem ok_X9_dress (G : GT) (s sl : Int) (A v : VT) (hA : WFV A 0) (hM : MR A (v 120)) (hal : v 119 2 = sl) (hsl : 0 ≤ sl ∧ sl ≤ 4) : MNi G yX9_dress cX9_dress 2 (some .int) 6 144 [vr 119, vi s] v (fun x w => (∀ a j, (¬ a = 119 ∨ ¬ j = 16) → ¬ a = 120 → (a < 124 ∨ 130 < a) → w a j = v a j) ∧ (∀ j, (j < 1 ∨ j = 41 ∨ 112 ≤ j) → w 120 j = v 120 j) ∧ ((¬ (0 ≤ s ∧ s ≤ 1) ∧ x = -1 ∧ w = v) ∨ (0 ≤ s ∧ s ≤ 1 ∧ x = newV A 0 s sl ∧ MR (drsV A 0 s sl) (w 120)))) := by
  refine MN.of pn_X9_dress [some (vr 119), some (vi s)] 0 rfl rfl (fun X C hX hn hR => ?_)
  have hN : ∀ i : Nat, i < 2 → i < xn X := fun i h => by rw [hn]; exact h
  refine E.rngk (fun hinv => ?_)
  refine E.loc (fun hloc => ?_)
  have hin_1 : in32 s := hloc _ (List.mem_of_getElem? (i := 1) rfl)
  have hc := hM.1
  have hb := hM.2.1
  have hA1 := hA.1
  have hA2 := hA.2.1
  refine E.iload_n C dX9_dress_0 rfl rfl ?_
  refine N.callSp (S := []) (As := [vi s]) C hX (ok_X9_isSlot G s v) yf_X9_isSlot yv_X9_isSlot ml_X9_216 rfl (by decide) (Nat.le_of_ble_eq_true rfl) dX9_dress_1 rfl ?_
  refine E.if_eq C dX9_dress_4 (tgt := 15) (by decide) (fun h4 => ?_) (fun h4 => ?_)
  · have h4 := b0.mp h4
    refine E.iconst C dX9_dress_15 (by decide) ?_
    exact N.iret C hR dX9_dress_16 (fun hi hx => by first | exact ⟨fun a j _ _ _ => rfl, fun j _ => rfl, Or.inl ⟨by omega, rfl, rfl⟩⟩ | exact ⟨hp9.1, hp9.2.1, Or.inr ⟨by omega, by omega, hp9.2.2.1, hp9.2.2.2.1⟩⟩)
  · have h4 := b0n.mp h4
    refine E.aload_n C dX9_dress_7 rfl rfl ?_
    refine E.iload_n C dX9_dress_8 rfl rfl ?_
    refine N.callVi (S := []) (As := [vi s]) C hX (ok_X9_dresses G s sl A v hA hM hal hsl (by omega)) yf_X9_dresses yv_X9_dresses ml_X9_251 rfl rfl rfl kd_119 (by decide) (by decide) (Nat.le_of_ble_eq_true rfl) dX9_dress_9 rfl (fun t9 w9 hb9 hp9 => ?_)
    refine E.goto C dX9_dress_12 (tgt := 16) (by decide) ?_
    exact N.iret C hR dX9_dress_16 (fun hi hx => by first | exact ⟨fun a j _ _ _ => rfl, fun j _ => rfl, Or.inl ⟨by omega, rfl, rfl⟩⟩ | exact ⟨hp9.1, hp9.2.1, Or.inr ⟨by omega, by omega, hp9.2.2.1, hp9.2.2.2.1⟩⟩)

set_option maxHeartbeats 4000000 in
set_option maxRecDepth 20000 in
theorem ok_X9_spare (G : GT) (s sl : Int) (A v : VT) (hA : WFV A 0) (hM : MR A (v 120)) (hal : v 119 2 = sl) (hsl : 0 ≤ sl ∧ sl ≤ 4) : MNi G yX9_spare cX9_spare 4 (some .int) 5 121 [vr 119, vi s] v (fun x w => (∀ a j, (¬ a = 119 ∨ ¬ j = 16) → (a < 124 ∨ 130 < a) → w a j = v a j) ∧ ((¬ (0 ≤ s ∧ s ≤ 1) ∧ x = -1) ∨ (0 ≤ s ∧ s ≤ 1 ∧ x = orN (lefB A 0 s sl 1) (A 0 5).toNat))) := by
  refine MN.of pn_X9_spare [some (vr 119), some (vi s), none, none] 2 rfl rfl (fun X C hX hn hR => ?_)
  have hN : ∀ i : Nat, i < 4 → i < xn X := fun i h => by rw [hn]; exact h
  refine E.rngk (fun hinv => ?_)
  refine E.loc (fun hloc => ?_)
  have hin_1 : in32 s := hloc _ (List.mem_of_getElem? (i := 1) rfl)
  have hc := hM.1
  have hb := hM.2.1
  have hA1 := hA.1
  have hA2 := hA.2.1
  refine E.iload_n C dX9_spare_0 rfl rfl ?_
  refine N.callSp (S := []) (As := [vi s]) C hX (ok_X9_isSlot G s v) yf_X9_isSlot yv_X9_isSlot ml_X9_216 rfl (by decide) (Nat.le_of_ble_eq_true rfl) dX9_spare_1 rfl ?_
  refine E.if_ne C dX9_spare_4 (tgt := 9) (by decide) (fun h4 => ?_) (fun h4 => ?_)
  · have h4 := b0n.mp h4
    refine E.aload_n C dX9_spare_9 rfl rfl ?_
    refine E.iload_n C dX9_spare_10 rfl rfl ?_
    refine N.callVi (S := []) (As := [vi s]) C hX (ok_X9_findDeal G s sl A v hA hM hal hsl) yf_X9_findDeal yv_X9_findDeal ml_X9_248 rfl rfl rfl kd_119 (by decide) (by decide) (Nat.le_of_ble_eq_true rfl) dX9_spare_11 rfl (fun t11 w11 hb11 hp11 => ?_)
    obtain ⟨d1, d2, d3, d4, -⟩ := id hp11
    have st11 : ∀ j, w11 120 j = v 120 j := fun j => d1 _ _ (Or.inl (by decide)) (by decide)
    refine E.popI C dX9_spare_14 ?_
    refine E.iconst C dX9_spare_15 (by decide) ?_
    refine N.ist_2 C dX9_spare_16 (hN 2 (by decide)) rfl ?_
    refine E.iconst C dX9_spare_17 (by decide) ?_
    refine N.ist_3 C dX9_spare_18 (hN 3 (by decide)) rfl ?_
    have lp19 : ∀ (k19 : Nat) (x : Int) (t : Int), (A 0 5 - t).toNat = k19 → (0 ≤ t ∧ t ≤ A 0 5 ∧ x = orN (lefB A 0 s sl 1) t.toNat) → E X G 0 0 1000 w11 19 [some (vr 119), some (vi s), some (vi x), some (vi t)] [] := by
      intro k19
      induction k19 using Nat.strongRecOn with
      | ind k19 ih19 =>
        intro x t hk19 hI19
        obtain ⟨ht0, ht1, hx⟩ := hI19
        refine E.iload_n C dX9_spare_19 rfl rfl ?_
        refine E.aload_n C dX9_spare_20 rfl rfl ?_
        refine N.getR C fa_X9_7 rfl dX9_spare_21 kd_119 (x := 120) (by decide +kernel) (by decide) ?_
        refine E.bipush C dX9_spare_24 (by decide) ?_
        refine N.iald C dX9_spare_26 kd_120 ln_120 (by omega) (x := v 120 41) (hp11.1 _ _ (Or.inl (by decide)) (by decide)) ?_
        refine E.icmp_ge C dX9_spare_27 (tgt := 78) (by decide) (fun h27 => ?_) (fun h27 => ?_)
        · skip
          refine E.iload_n C dX9_spare_78 rfl rfl ?_
          exact N.iret C hR dX9_spare_79 (fun hi hx => by first | exact ⟨fun a j _ _ => rfl, Or.inl ⟨by omega, rfl⟩⟩ | (have ec : t = A 0 5 := (by omega); subst ec; exact ⟨d1, Or.inr ⟨by omega, by omega, hx⟩⟩))
        · skip
          have hlq := lefB_iff (A := A) (o := 0) (s := s) (sl := sl) (q := 1) (t := t) (ow := w11 126) (fr_iff hA d4 d3 ⟨ht0, by omega⟩)
          have hoI := outI_01 (A (0 + 13 + t) 1) (A (0 + 13 + t) 3) (A (0 + 13 + t) 4)
          refine E.iload_n C dX9_spare_30 rfl rfl ?_
          refine E.aload_n C dX9_spare_31 rfl rfl ?_
          refine E.iload_n C dX9_spare_32 rfl rfl ?_
          refine E.iconst C dX9_spare_33 (by decide) ?_
          refine N.callVp (S := [vi x]) (As := [vi t, vi 0]) C hX (ok_X9_of G t 0 w11 (by omega)) yf_X9_of yv_X9_of ml_X9_172 rfl rfl rfl kd_119 (by decide) (by decide) (Nat.le_of_ble_eq_true rfl) dX9_spare_34 rfl ?_
          refine E.veq (x' := (v 120 (42 + 7 * t + 0))) (by rw [show w11 120 (42 + 7 * t + 0) = v 120 (42 + 7 * t + 0) from (hp11.1 _ _ (Or.inl (by decide)) (by decide))]) ?_
          refine E.veq (x' := A (0 + 13 + t) 0) (hM.2.2.2.1 t 0 ht0 (by omega) (by omega) (by omega)) ?_
          refine E.iload_n C dX9_spare_37 rfl rfl ?_
          refine E.icmp_ne C dX9_spare_38 (tgt := 64) (by decide) (fun h38 => ?_) (fun h38 => ?_)
          · skip
            refine E.iconst C dX9_spare_64 (by decide) ?_
            refine N.callSp (S := [vi x]) (As := [vi 0]) C hX (ok_X9_flag G 0 w11 (by first | omega | exact bdec)) yf_X9_flag yv_X9_flag ml_X9_219 rfl (by decide) (Nat.le_of_ble_eq_true rfl) dX9_spare_65 rfl ?_
            refine E.iload_n C dX9_spare_68 rfl rfl ?_
            refine E.ishl C dX9_spare_69 ?_
            refine E.ior C dX9_spare_70 ?_
            refine N.ist_2 C dX9_spare_71 (hN 2 (by decide)) rfl ?_
            refine N.iinc_3 C dX9_spare_72 (hN 3 (by decide)) rfl (by omega) ?_
            refine E.goto C dX9_spare_75 (tgt := 19) (by decide) ?_
            exact ih19 _ (by omega) (jor x (jshl 0 t)) (t + 1) rfl (by refine ⟨by omega, by omega, ?_⟩; rw [orN_step ht0, hx]; first | (rw [if_pos (hlq.mpr (by omega))]) | (rw [if_neg (fun z => by have := hlq.mp z; omega), jshl_0 ⟨by omega, by omega⟩, jor_0 (orN_in _ _)]))
          · skip
            refine E.aload_n C dX9_spare_41 rfl rfl ?_
            refine E.iload_n C dX9_spare_42 rfl rfl ?_
            refine N.callVp (S := [vi x]) (As := [vi t]) C hX (ok_X9_isOut G t w11 (by omega) (by rw [st11]; have := hM.th hA t (by omega) (by omega); omega)) yf_X9_isOut yv_X9_isOut ml_X9_254 rfl rfl rfl kd_119 (by decide) (by decide) (Nat.le_of_ble_eq_true rfl) dX9_spare_43 rfl ?_
            refine E.veq (x' := outI (A (0 + 13 + t) 1) (A (0 + 13 + t) 3) (A (0 + 13 + t) 4)) (by rw [st11, st11, st11, hM.2.2.2.1 t 1 ht0 (by omega) (by omega) (by omega), hM.2.2.2.1 t 3 ht0 (by omega) (by omega) (by omega), hM.2.2.2.1 t 4 ht0 (by omega) (by omega) (by omega)]) ?_
            refine E.if_ne C dX9_spare_46 (tgt := 64) (by decide) (fun h46 => ?_) (fun h46 => ?_)
            · skip
              refine E.iconst C dX9_spare_64 (by decide) ?_
              refine N.callSp (S := [vi x]) (As := [vi 0]) C hX (ok_X9_flag G 0 w11 (by first | omega | exact bdec)) yf_X9_flag yv_X9_flag ml_X9_219 rfl (by decide) (Nat.le_of_ble_eq_true rfl) dX9_spare_65 rfl ?_
              refine E.iload_n C dX9_spare_68 rfl rfl ?_
              refine E.ishl C dX9_spare_69 ?_
              refine E.ior C dX9_spare_70 ?_
              refine N.ist_2 C dX9_spare_71 (hN 2 (by decide)) rfl ?_
              refine N.iinc_3 C dX9_spare_72 (hN 3 (by decide)) rfl (by omega) ?_
              refine E.goto C dX9_spare_75 (tgt := 19) (by decide) ?_
              exact ih19 _ (by omega) (jor x (jshl 0 t)) (t + 1) rfl (by refine ⟨by omega, by omega, ?_⟩; rw [orN_step ht0, hx]; first | (rw [if_pos (hlq.mpr (by omega))]) | (rw [if_neg (fun z => by have := hlq.mp z; omega), jshl_0 ⟨by omega, by omega⟩, jor_0 (orN_in _ _)]))
            · skip
              refine E.aload_n C dX9_spare_49 rfl rfl ?_
              refine N.getR C fa_X9_29 rfl dX9_spare_50 kd_119 (x := 126) (by decide +kernel) (by decide) ?_
              refine E.iload_n C dX9_spare_53 rfl rfl ?_
              refine N.iald C dX9_spare_54 kd_126 ln_126 (by omega) (x := w11 126 t) rfl ?_
              refine E.bipush C dX9_spare_55 (by decide) ?_
              refine E.icmp_ne C dX9_spare_57 (tgt := 64) (by decide) (fun h57 => ?_) (fun h57 => ?_)
              · skip
                refine E.iconst C dX9_spare_64 (by decide) ?_
                refine N.callSp (S := [vi x]) (As := [vi 0]) C hX (ok_X9_flag G 0 w11 (by first | omega | exact bdec)) yf_X9_flag yv_X9_flag ml_X9_219 rfl (by decide) (Nat.le_of_ble_eq_true rfl) dX9_spare_65 rfl ?_
                refine E.iload_n C dX9_spare_68 rfl rfl ?_
                refine E.ishl C dX9_spare_69 ?_
                refine E.ior C dX9_spare_70 ?_
                refine N.ist_2 C dX9_spare_71 (hN 2 (by decide)) rfl ?_
                refine N.iinc_3 C dX9_spare_72 (hN 3 (by decide)) rfl (by omega) ?_
                refine E.goto C dX9_spare_75 (tgt := 19) (by decide) ?_
                exact ih19 _ (by omega) (jor x (jshl 0 t)) (t + 1) rfl (by refine ⟨by omega, by omega, ?_⟩; rw [orN_step ht0, hx]; first | (rw [if_pos (hlq.mpr (by omega))]) | (rw [if_neg (fun z => by have := hlq.mp z; omega), jshl_0 ⟨by omega, by omega⟩, jor_0 (orN_in _ _)]))
              · skip
                refine E.iconst C dX9_spare_60 (by decide) ?_
                refine E.goto C dX9_spare_61 (tgt := 65) (by decide) ?_
                refine N.callSp (S := [vi x]) (As := [vi 1]) C hX (ok_X9_flag G 1 w11 (by first | omega | exact bdec)) yf_X9_flag yv_X9_flag ml_X9_219 rfl (by decide) (Nat.le_of_ble_eq_true rfl) dX9_spare_65 rfl ?_
                refine E.iload_n C dX9_spare_68 rfl rfl ?_
                refine E.ishl C dX9_spare_69 ?_
                refine E.ior C dX9_spare_70 ?_
                refine N.ist_2 C dX9_spare_71 (hN 2 (by decide)) rfl ?_
                refine N.iinc_3 C dX9_spare_72 (hN 3 (by decide)) rfl (by omega) ?_
                refine E.goto C dX9_spare_75 (tgt := 19) (by decide) ?_
                exact ih19 _ (by omega) (jor x (jshl 1 t)) (t + 1) rfl (by refine ⟨by omega, by omega, ?_⟩; rw [orN_step ht0, hx]; first | (rw [if_pos (hlq.mpr (by omega))]) | (rw [if_neg (fun z => by have := hlq.mp z; omega), jshl_0 ⟨by omega, by omega⟩, jor_0 (orN_in _ _)]))
    exact lp19 _ 0 0 rfl (by exact ⟨by omega, by omega, rfl⟩)
  · have h4 := b0.mp h4
    refine E.iconst C dX9_spare_7 (by decide) ?_
    exact N.iret C hR dX9_spare_8 (fun hi hx => by first | exact ⟨fun a j _ _ => rfl, Or.inl ⟨by omega, rfl⟩⟩ | (have ec : t = A 0 5 := (by omega); subst ec; exact ⟨d1, Or.inr ⟨by omega, by omega, hx⟩⟩))

set_option maxHeartbeats 4000000 in
set_option maxRecDepth 20000 in
theorem ok_X9_winter (G : GT) (A v : VT) (hA : WFV A 0) (hM : MR A (v 120)) : MNi G yX9_winter cX9_winter 1 (some .int) 3 68 [vr 119] v (fun x w => (∀ a j, ¬ a = 120 → w a j = v a j) ∧ (∀ j, (j < 1 ∨ j = 41 ∨ 112 ≤ j) → w 120 j = v 120 j) ∧ x = cntN (winP A 0) (A 0 5).toNat ∧ MR (winF A 0 (A 0 5)) (w 120)) := by
  refine MN.of pn_X9_winter [some (vr 119)] 0 rfl rfl (fun X C hX hn hR => ?_)
  have hN : ∀ i : Nat, i < 1 → i < xn X := fun i h => by rw [hn]; exact h
  refine E.rngk (fun hinv => ?_)
  refine E.loc (fun hloc => ?_)
  refine E.aload_n C dX9_winter_0 rfl rfl ?_
  refine N.callVi (S := []) (As := []) C hX (ok_X9_winters G A v hA hM) yf_X9_winters yv_X9_winters ml_X9_257 rfl rfl rfl kd_119 (by decide) (by decide) (Nat.le_of_ble_eq_true rfl) dX9_winter_1 rfl (fun t1 w1 hb1 hp1 => ?_)
  exact N.iret C hR dX9_winter_4 (fun hi hx => by exact hp1)

set_option maxHeartbeats 4000000 in
set_option maxRecDepth 20000 in
theorem ok_X9_spring (G : GT) (q sl : Int) (A v : VT) (hA : WFV A 0) (hM : MR A (v 120)) (hal : v 119 2 = sl) (hsl : 0 ≤ sl ∧ sl ≤ 4) : MNi G yX9_spring cX9_spring 2 (some .int) 4 97 [vr 119, vi q] v (fun x w => (∀ a j, ¬ a = 120 → w a j = v a j) ∧ (∀ j, (j < 1 ∨ j = 41 ∨ 112 ≤ j) → w 120 j = v 120 j) ∧ x = cntN (offB (grwF A 0 q (A 0 4)) 0 (A 0 4) sl) (A 0 5).toNat ∧ MR (sprV A 0 q sl) (w 120)) := by
  refine MN.of pn_X9_spring [some (vr 119), some (vi q)] 0 rfl rfl (fun X C hX hn hR => ?_)
  have hN : ∀ i : Nat, i < 2 → i < xn X := fun i h => by rw [hn]; exact h
  refine E.rngk (fun hinv => ?_)
  refine E.loc (fun hloc => ?_)
  have hin_1 : in32 q := hloc _ (List.mem_of_getElem? (i := 1) rfl)
  refine E.aload_n C dX9_spring_0 rfl rfl ?_
  refine E.iload_n C dX9_spring_1 rfl rfl ?_
  refine N.callVi (S := []) (As := [vi q]) C hX (ok_X9_springs G q sl A v hA hM hal hsl) yf_X9_springs yv_X9_springs ml_X9_264 rfl rfl rfl kd_119 (by decide) (by decide) (Nat.le_of_ble_eq_true rfl) dX9_spring_2 rfl (fun t2 w2 hb2 hp2 => ?_)
  exact N.iret C hR dX9_spring_5 (fun hi hx => by exact hp2)

set_option maxHeartbeats 4000000 in
set_option maxRecDepth 20000 in
theorem ok_X9_ahead (G : GT) (s y q k sl : Int) (A v : VT) (hA : WFV A 0) (hM : MR A (v 120)) (hal : v 119 2 = sl) (hsl : 0 ≤ sl ∧ sl ≤ 4) : MNi G yX9_ahead cX9_ahead 6 (some .int) 7 169 [vr 119, vi s, vi y, vi q, vi k] v (fun x w => (∀ a j, (¬ a = 119 ∨ ¬ j = 16) → ¬ a = 120 → (a < 124 ∨ 131 < a) → w a j = v a j) ∧ (∀ j, j < 597 → w 120 j = v 120 j) ∧ ((¬ ((0 ≤ s ∧ s ≤ 1) ∧ (1 ≤ y ∧ y ≤ 4) ∧ (k = 0 ∨ (10 ≤ k ∧ k ≤ 9 + y))) ∧ x = -1) ∨ (((0 ≤ s ∧ s ≤ 1) ∧ (1 ≤ y ∧ y ≤ 4) ∧ (k = 0 ∨ (10 ≤ k ∧ k ≤ 9 + y))) ∧ x = if k = 0 then ahdS A 0 s q sl y.toNat else ahdN A 0 s q sl (k - 10).toNat))) := by
  refine MN.of pn_X9_ahead [some (vr 119), some (vi s), some (vi y), some (vi q), some (vi k), none] 1 rfl rfl (fun X C hX hn hR => ?_)
  have hN : ∀ i : Nat, i < 6 → i < xn X := fun i h => by rw [hn]; exact h
  refine E.rngk (fun hinv => ?_)
  refine E.loc (fun hloc => ?_)
  have hin_1 : in32 s := hloc _ (List.mem_of_getElem? (i := 1) rfl)
  have hin_2 : in32 y := hloc _ (List.mem_of_getElem? (i := 2) rfl)
  have hin_3 : in32 q := hloc _ (List.mem_of_getElem? (i := 3) rfl)
  have hin_4 : in32 k := hloc _ (List.mem_of_getElem? (i := 4) rfl)
  have hc := hM.1
  have hb := hM.2.1
  have hA1 := hA.1
  have hA2 := hA.2.1
  refine E.iload_n C dX9_ahead_0 rfl rfl ?_
  refine N.callSp (S := []) (As := [vi s]) C hX (ok_X9_isSlot G s v) yf_X9_isSlot yv_X9_isSlot ml_X9_216 rfl (by decide) (Nat.le_of_ble_eq_true rfl) dX9_ahead_1 rfl ?_
  refine E.if_eq C dX9_ahead_4 (tgt := 36) (by decide) (fun h4 => ?_) (fun h4 => ?_)
  · have h4 := b0.mp h4
    refine E.iconst C dX9_ahead_36 (by decide) ?_
    exact N.iret C hR dX9_ahead_37 (fun hi hx => by first | exact ⟨fun a j _ _ _ => rfl, fun j _ => rfl, Or.inl ⟨by omega, rfl⟩⟩ | exact ⟨hp42.1, hp42.2.1, Or.inr ⟨by omega, by rw [if_pos (by omega)]; exact hp42.2.2.1⟩⟩ | exact ⟨hp42.1, hp42.2.1, Or.inr ⟨by omega, by rw [if_neg (by omega)]; exact hp42.2.2.2 _ (by omega) (by omega)⟩⟩)
  · have h4 := b0n.mp h4
    refine E.iload_n C dX9_ahead_7 rfl rfl ?_
    refine N.callSp (S := []) (As := [vi y]) C hX (ok_X9_areYears G y v) yf_X9_areYears yv_X9_areYears ml_X9_270 rfl (by decide) (Nat.le_of_ble_eq_true rfl) dX9_ahead_8 rfl ?_
    refine E.if_eq C dX9_ahead_11 (tgt := 36) (by decide) (fun h11 => ?_) (fun h11 => ?_)
    · have h11 := b0.mp h11
      refine E.iconst C dX9_ahead_36 (by decide) ?_
      exact N.iret C hR dX9_ahead_37 (fun hi hx => by first | exact ⟨fun a j _ _ _ => rfl, fun j _ => rfl, Or.inl ⟨by omega, rfl⟩⟩ | exact ⟨hp42.1, hp42.2.1, Or.inr ⟨by omega, by rw [if_pos (by omega)]; exact hp42.2.2.1⟩⟩ | exact ⟨hp42.1, hp42.2.1, Or.inr ⟨by omega, by rw [if_neg (by omega)]; exact hp42.2.2.2 _ (by omega) (by omega)⟩⟩)
    · have h11 := b0n.mp h11
      refine E.iload C dX9_ahead_14 rfl ?_
      refine E.if_eq C dX9_ahead_16 (tgt := 38) (by decide) (fun h16 => ?_) (fun h16 => ?_)
      · skip
        refine E.aload_n C dX9_ahead_38 rfl rfl ?_
        refine E.iload_n C dX9_ahead_39 rfl rfl ?_
        refine E.iload_n C dX9_ahead_40 rfl rfl ?_
        refine E.iload_n C dX9_ahead_41 rfl rfl ?_
        refine N.callVi (S := []) (As := [vi s, vi y, vi q]) C hX (ok_X9_aheadBy G s y q sl A v hA hM hal hsl (by omega) (by omega)) yf_X9_aheadBy yv_X9_aheadBy ml_X9_273 rfl rfl rfl kd_119 (by decide) (by decide) (Nat.le_of_ble_eq_true rfl) dX9_ahead_42 rfl (fun t42 w42 hb42 hp42 => ?_)
        refine N.ist_5 C dX9_ahead_45 (hN 5 (by decide)) rfl ?_
        refine E.iload C dX9_ahead_47 rfl ?_
        refine E.if_ne C dX9_ahead_49 (tgt := 57) (by decide) (fun h49 => ?_) (fun h49 => ?_)
        · skip
          refine E.aload_n C dX9_ahead_57 rfl rfl ?_
          refine N.getR C fa_X9_44 rfl dX9_ahead_58 kd_119 (x := 131) (by decide +kernel) (by decide) ?_
          refine E.iload C dX9_ahead_61 rfl ?_
          refine E.bipush C dX9_ahead_63 (by decide) ?_
          refine E.isub C dX9_ahead_65 (by omega) ?_
          refine N.iald C dX9_ahead_66 kd_131 ln_131 (by omega) (x := w42 131 (k - 10)) rfl ?_
          exact N.iret C hR dX9_ahead_67 (fun hi hx => by first | exact ⟨fun a j _ _ _ => rfl, fun j _ => rfl, Or.inl ⟨by omega, rfl⟩⟩ | exact ⟨hp42.1, hp42.2.1, Or.inr ⟨by omega, by rw [if_pos (by omega)]; exact hp42.2.2.1⟩⟩ | exact ⟨hp42.1, hp42.2.1, Or.inr ⟨by omega, by rw [if_neg (by omega)]; exact hp42.2.2.2 _ (by omega) (by omega)⟩⟩)
        · skip
          refine E.iload C dX9_ahead_52 rfl ?_
          refine E.goto C dX9_ahead_54 (tgt := 67) (by decide) ?_
          exact N.iret C hR dX9_ahead_67 (fun hi hx => by first | exact ⟨fun a j _ _ _ => rfl, fun j _ => rfl, Or.inl ⟨by omega, rfl⟩⟩ | exact ⟨hp42.1, hp42.2.1, Or.inr ⟨by omega, by rw [if_pos (by omega)]; exact hp42.2.2.1⟩⟩ | exact ⟨hp42.1, hp42.2.1, Or.inr ⟨by omega, by rw [if_neg (by omega)]; exact hp42.2.2.2 _ (by omega) (by omega)⟩⟩)
      · skip
        refine E.iload C dX9_ahead_19 rfl ?_
        refine E.i2l C dX9_ahead_21 ?_
        refine E.ldc2 C ct_X9_184 (x := 10) (by decide) dX9_ahead_22 ?_
        refine E.bipush C dX9_ahead_25 (by decide) ?_
        refine E.iload_n C dX9_ahead_27 rfl rfl ?_
        refine E.iadd C dX9_ahead_28 (by omega) ?_
        refine E.i2l C dX9_ahead_29 ?_
        refine N.callSp (S := []) (As := [vl k, vl 10, vl (9 + y)]) C hX (ok_X9_in G k 10 (9 + y) v) yf_X9_in yv_X9_in ml_X9_93 rfl (by decide) (Nat.le_of_ble_eq_true rfl) dX9_ahead_30 rfl ?_
        refine E.if_ne C dX9_ahead_33 (tgt := 38) (by decide) (fun h33 => ?_) (fun h33 => ?_)
        · have h33 := b0n.mp h33
          refine E.aload_n C dX9_ahead_38 rfl rfl ?_
          refine E.iload_n C dX9_ahead_39 rfl rfl ?_
          refine E.iload_n C dX9_ahead_40 rfl rfl ?_
          refine E.iload_n C dX9_ahead_41 rfl rfl ?_
          refine N.callVi (S := []) (As := [vi s, vi y, vi q]) C hX (ok_X9_aheadBy G s y q sl A v hA hM hal hsl (by omega) (by omega)) yf_X9_aheadBy yv_X9_aheadBy ml_X9_273 rfl rfl rfl kd_119 (by decide) (by decide) (Nat.le_of_ble_eq_true rfl) dX9_ahead_42 rfl (fun t42 w42 hb42 hp42 => ?_)
          refine N.ist_5 C dX9_ahead_45 (hN 5 (by decide)) rfl ?_
          refine E.iload C dX9_ahead_47 rfl ?_
          refine E.if_ne C dX9_ahead_49 (tgt := 57) (by decide) (fun h49 => ?_) (fun h49 => ?_)
          · skip
            refine E.aload_n C dX9_ahead_57 rfl rfl ?_
            refine N.getR C fa_X9_44 rfl dX9_ahead_58 kd_119 (x := 131) (by decide +kernel) (by decide) ?_
            refine E.iload C dX9_ahead_61 rfl ?_
            refine E.bipush C dX9_ahead_63 (by decide) ?_
            refine E.isub C dX9_ahead_65 (by omega) ?_
            refine N.iald C dX9_ahead_66 kd_131 ln_131 (by omega) (x := w42 131 (k - 10)) rfl ?_
            exact N.iret C hR dX9_ahead_67 (fun hi hx => by first | exact ⟨fun a j _ _ _ => rfl, fun j _ => rfl, Or.inl ⟨by omega, rfl⟩⟩ | exact ⟨hp42.1, hp42.2.1, Or.inr ⟨by omega, by rw [if_pos (by omega)]; exact hp42.2.2.1⟩⟩ | exact ⟨hp42.1, hp42.2.1, Or.inr ⟨by omega, by rw [if_neg (by omega)]; exact hp42.2.2.2 _ (by omega) (by omega)⟩⟩)
          · skip
            refine E.iload C dX9_ahead_52 rfl ?_
            refine E.goto C dX9_ahead_54 (tgt := 67) (by decide) ?_
            exact N.iret C hR dX9_ahead_67 (fun hi hx => by first | exact ⟨fun a j _ _ _ => rfl, fun j _ => rfl, Or.inl ⟨by omega, rfl⟩⟩ | exact ⟨hp42.1, hp42.2.1, Or.inr ⟨by omega, by rw [if_pos (by omega)]; exact hp42.2.2.1⟩⟩ | exact ⟨hp42.1, hp42.2.1, Or.inr ⟨by omega, by rw [if_neg (by omega)]; exact hp42.2.2.2 _ (by omega) (by omega)⟩⟩)
        · have h33 := b0.mp h33
          refine E.iconst C dX9_ahead_36 (by decide) ?_
          exact N.iret C hR dX9_ahead_37 (fun hi hx => by first | exact ⟨fun a j _ _ _ => rfl, fun j _ => rfl, Or.inl ⟨by omega, rfl⟩⟩ | exact ⟨hp42.1, hp42.2.1, Or.inr ⟨by omega, by rw [if_pos (by omega)]; exact hp42.2.2.1⟩⟩ | exact ⟨hp42.1, hp42.2.1, Or.inr ⟨by omega, by rw [if_neg (by omega)]; exact hp42.2.2.2 _ (by omega) (by omega)⟩⟩)
