set_option maxHeartbeats 4000000 in
set_option maxRecDepth 20000 in
theorem ok_X8_dressAll (G : GT) (o s sl : Int) (v : VT) (ho : isV o) (hW : WFV v o) (hal : v 1 10 = sl) (hsl : 0 ≤ sl ∧ sl ≤ 4) : MNi G yX8_dressAll cX8_dressAll 5 (some .int) 4 97 [vr 1, vr o, vi s] v (fun x w => x = newV v o s sl ∧ (∀ a j, (a < 54 ∨ 59 < a) → w a j = drsV v o s sl a j) ∧ WFV (drsV v o s sl) o) := by
  refine MN.of pn_X8_dressAll [some (vr 1), some (vr o), some (vi s), none, none] 2 rfl rfl (fun X C hX hn hR => ?_)
  have hN : ∀ i : Nat, i < 5 → i < xn X := fun i h => by rw [hn]; exact h
  refine E.rngk (fun hinv => ?_)
  refine E.loc (fun hloc => ?_)
  have hin_2 : in32 s := hloc _ (List.mem_of_getElem? (i := 2) rfl)
  have hov := ho
  unfold isV at hov
  have hbq := beg_all (s := s) (sl := sl) hW.1 hW.2.1
  obtain ⟨b5, b6, b7, b8, b9, b10, -, -, -, bfr⟩ := id hbq
  have hW1 := hW.1
  have hW2 := hW.2.1
  refine E.aload_n C dX8_dressAll_0 rfl rfl ?_
  refine N.getR C fa_X8_52 rfl dX8_dressAll_1 kd_1 (x := 54) (by decide +kernel) (by decide) ?_
  refine E.aload_n C dX8_dressAll_4 rfl rfl ?_
  refine E.iload_n C dX8_dressAll_5 rfl rfl ?_
  refine E.aload_n C dX8_dressAll_6 rfl rfl ?_
  refine N.getI C fa_X8_67 rfl dX8_dressAll_7 kd_1 (x := v 1 10) rfl ?_
  refine E.veq (x' := sl) (hal) ?_
  refine N.callVe (S := []) (As := [vr o, vi s, vi sl]) C hX (ok_X1_begin G o s sl v ho hW.1 hW.2.1 hW.th hW.fz ⟨by omega, by omega⟩) yf_X1_begin yv_X1_begin ml_X8_264 rfl rfl rfl kd_54 (by decide) (by decide) (Nat.le_of_ble_eq_true rfl) dX8_dressAll_10 rfl ?_
  refine E.aload_n C dX8_dressAll_13 rfl rfl ?_
  refine N.getR C fa_X8_52 rfl dX8_dressAll_14 kd_1 (x := 54) (by decide +kernel) (by decide) ?_
  refine N.callVv (S := []) (As := []) C hX (ok_X1_warmAll G (begF v o s sl (v o 4) (v o 4) 0) (by rw [b5]; exact hW.1) (by rw [b6]; omega) (by rw [b5, b6]; exact b7) (by rw [b5]; exact b8) (by rw [b5]; exact b9) (by rw [b5, b6]; exact b10)) yf_X1_warmAll yv_X1_warmAll ml_X8_267 rfl rfl rfl kd_54 (by decide) (by decide) (Nat.le_of_ble_eq_true rfl) dX8_dressAll_17 rfl (fun w17 hp17 => ?_)
  rw [b5, b6] at hp17
  have e5 : w17 54 5 = v o 4 := (hp17.1 _ _ (Or.inr (by decide)) (by decide)).trans b5
  have e6 : w17 54 6 = v o 5 := (hp17.1 _ _ (Or.inr (by decide)) (by decide)).trans b6
  have e55 : w17 55 = _ := funext (fun j => hp17.1 55 j (Or.inl (by decide)) (by decide))
  refine E.aload_n C dX8_dressAll_20 rfl rfl ?_
  refine N.getR C fa_X8_52 rfl dX8_dressAll_21 kd_1 (x := 54) (by decide +kernel) (by decide) ?_
  refine N.callVv (S := []) (As := []) C hX (ok_X1_putInOrder G (w17 54 7) w17 (by rw [e5]; exact hW.1) (by rw [e6]; omega) (by rw [e5, e6, e55]; exact b10) (by rw [e5, e6]; exact hp17.2.1) (by rw [e5, e6, e55]; exact hp17.2.2)) yf_X1_putInOrder yv_X1_putInOrder ml_X8_331 rfl rfl rfl kd_54 (by decide) (by decide) (Nat.le_of_ble_eq_true rfl) dX8_dressAll_24 rfl (fun w24 hp24 => ?_)
  have hmq := make_all hbq hp17.1 hp24
  have hs24 := make_sm ho hW1.2 hW2.2 hmq
  have hW24 := hs24.wfv hW
  have hM24 := make_mtc hs24 hmq
  have e244 := hs24.1
  have e245 := hs24.2.1
  have al24 : w24 1 10 = sl := (hmq.1 _ _ (by decide)).trans hal
  have hwb := warm_bd (v := v) (o := o) (s := s) (sl := sl) hW1.1
  have e7 := hmq.2.2.2.1
  refine E.aload_n C dX8_dressAll_27 rfl rfl ?_
  refine E.iload_n C dX8_dressAll_28 rfl rfl ?_
  refine N.callVe (S := []) (As := [vi s]) C hX (ok_X7_undress G o s w24 ho (by rw [e245]; exact hW2)) yf_X7_undress yv_X7_undress ml_X8_334 rfl rfl rfl (kdV ho) (by decide) (by decide) (Nat.le_of_ble_eq_true rfl) dX8_dressAll_29 rfl ?_
  refine E.iconst C dX8_dressAll_32 (by decide) ?_
  refine N.ist_3 C dX8_dressAll_33 (hN 3 (by decide)) rfl ?_
  have lp34 : ∀ (k34 : Nat) (c : Int) (w2 : VT), (v o 4 - c).toNat = k34 → (0 ≤ c ∧ c ≤ v o 4 ∧ w2 = drsN (undF w24 o s (w24 o 5)) o sl (w24 56) c.toNat) → E X G 0 0 1000 w2 34 [some (vr 1), some (vr o), some (vi s), some (vi c), none] [] := by
    intro k34
    induction k34 using Nat.strongRecOn with
    | ind k34 ih34 =>
      intro c w2 hk34 hI34
      obtain ⟨hc0, hc1, hw2⟩ := hI34; have hDI := drs_inv hW24 hM24 c.toNat (by omega); rw [← hw2] at hDI; obtain ⟨i1, i2, -, -, -⟩ := hDI
      refine E.iload_n C dX8_dressAll_34 rfl rfl ?_
      refine E.aload_n C dX8_dressAll_35 rfl rfl ?_
      refine N.getI C fa_X8_192 rfl dX8_dressAll_36 (kdV ho) (x := w24 o 4) (i2 _ _ (by omega)) ?_
      refine E.icmp_ge C dX8_dressAll_39 (tgt := 78) (by decide) (fun h39 => ?_) (fun h39 => ?_)
      · skip
        refine E.aload_n C dX8_dressAll_78 rfl rfl ?_
        refine N.getI C fa_X8_192 rfl dX8_dressAll_79 (kdV ho) (x := w24 o 4) (i2 _ _ (by omega)) ?_
        refine E.aload_n C dX8_dressAll_82 rfl rfl ?_
        refine N.getR C fa_X8_52 rfl dX8_dressAll_83 kd_1 (x := 54) (by decide +kernel) (by decide) ?_
        refine N.getI C fa_X8_189 rfl dX8_dressAll_86 kd_54 (x := w24 54 7) (i2 _ _ (by omega)) ?_
        refine E.isub C dX8_dressAll_89 (by omega) ?_
        exact N.iret C hR dX8_dressAll_90 (fun hi hx => by have ec : c = v o 4 := (by omega); subst ec; exact ⟨by unfold newV; rw [e244, hmq.2.2.2.1], fun a j ha => by rw [hw2]; exact dress_end ho hW hmq a j ha, hW.drv hmq.2.2.2.2.2.2⟩)
      · skip
        refine E.aload_n C dX8_dressAll_42 rfl rfl ?_
        refine N.getR C fa_X8_52 rfl dX8_dressAll_43 kd_1 (x := 54) (by decide +kernel) (by decide) ?_
        refine E.iload_n C dX8_dressAll_46 rfl rfl ?_
        refine N.callVp (S := []) (As := [vi c]) C hX (ok_X1_thingOf G c w2 (by rw [i2 _ _ (by omega), hmq.2.1]; exact hW1)) yf_X1_thingOf yv_X1_thingOf ml_X8_195 rfl rfl rfl kd_54 (by decide) (by decide) (Nat.le_of_ble_eq_true rfl) dX8_dressAll_47 rfl ?_
        refine E.veq (x' := w24 56 c) (by rw [if_pos ⟨hc0, by rw [i2 _ _ (by omega), hmq.2.1]; omega⟩]; exact i2 _ _ (by omega)) ?_
        refine N.ist_4 C dX8_dressAll_50 (hN 4 (by decide)) rfl ?_
        refine E.aload_n C dX8_dressAll_52 rfl rfl ?_
        refine E.iload C dX8_dressAll_53 rfl ?_
        refine N.callVp (S := []) (As := [vi (w24 56 c)]) C hX (ok_X7_hasThing G o (w24 56 c) w2 ho) yf_X7_hasThing yv_X7_hasThing ml_X8_129 rfl rfl rfl (kdV ho) (by decide) (by decide) (Nat.le_of_ble_eq_true rfl) dX8_dressAll_55 rfl ?_
        refine E.veq (x' := (if 0 ≤ (w24 56 c) ∧ (w24 56 c) < (w24 o 5) then 1 else 0)) (by rw [show w2 o 5 = w24 o 5 from (i2 _ _ (by omega))]) ?_
        refine E.if_eq C dX8_dressAll_58 (tgt := 72) (by decide) (fun h58 => ?_) (fun h58 => ?_)
        · have h58 := b0.mp h58
          refine N.iinc_3 C dX8_dressAll_72 (hN 3 (by decide)) rfl (by omega) ?_
          refine E.goto C dX8_dressAll_75 (tgt := 34) (by decide) ?_
          refine E.drop (i := 4) ?_
          exact ih34 _ (by omega) (c + 1) w2 rfl (by refine ⟨by omega, by omega, ?_⟩; rw [drs_step hc0, undF_out (a := o) (by omega), undF_out (a := o + 5 + c) (by omega)]; first | (rw [if_pos (by omega), ← hw2, i2 _ _ (by omega)]) | (rw [if_neg (by omega)]; exact hw2))
        · have h58 := b0n.mp h58
          refine E.aload_n C dX8_dressAll_61 rfl rfl ?_
          refine E.iload_n C dX8_dressAll_62 rfl rfl ?_
          refine E.iload C dX8_dressAll_63 rfl ?_
          refine E.aload_n C dX8_dressAll_65 rfl rfl ?_
          refine N.getI C fa_X8_67 rfl dX8_dressAll_66 kd_1 (x := w24 1 10) (i2 _ _ (by omega)) ?_
          have k14 : w2 o 4 = v o 4 := (i2 _ _ (by omega)).trans e244
          have k15 : w2 o 5 = v o 5 := (i2 _ _ (by omega)).trans e245
          refine E.veq (x' := sl) (al24) ?_
          refine N.callVe (S := []) (As := [vi c, vi (w24 56 c), vi sl]) C hX (ok_X7_putOn G o c (w24 56 c) sl w2 ho (by omega) (i1.th _ (by omega) (by omega)) ⟨(i1.fz _ (by omega) (by omega)).1, (i1.fz _ (by omega) (by omega)).2, by omega, by omega⟩) yf_X7_putOn yv_X7_putOn ml_X8_172 rfl rfl rfl (kdV ho) (by decide) (by decide) (Nat.le_of_ble_eq_true rfl) dX8_dressAll_69 rfl ?_
          refine N.iinc_3 C dX8_dressAll_72 (hN 3 (by decide)) rfl (by omega) ?_
          refine E.goto C dX8_dressAll_75 (tgt := 34) (by decide) ?_
          refine E.drop (i := 4) ?_
          exact ih34 _ (by omega) (c + 1) (putF w2 (o + 13 + (w24 56 c)) c (w2 (o + 5 + c) 0) sl) rfl (by refine ⟨by omega, by omega, ?_⟩; rw [drs_step hc0, undF_out (a := o) (by omega), undF_out (a := o + 5 + c) (by omega)]; first | (rw [if_pos (by omega), ← hw2, i2 _ _ (by omega)]) | (rw [if_neg (by omega)]; exact hw2))
  exact lp34 _ 0 (undF w24 o s (w24 o 5)) rfl (by exact ⟨by omega, by omega, rfl⟩)

set_option maxHeartbeats 4000000 in
set_option maxRecDepth 20000 in
theorem ok_X8_newAhead (G : GT) (s y q sl : Int) (v : VT) (hW : WFV v 27) (hy : 1 ≤ y ∧ y ≤ 4) (hal : v 1 10 = sl) (hsl : 0 ≤ sl ∧ sl ≤ 4) : MNi G yX8_newAhead cX8_newAhead 6 (some .int) 5 121 [vr 1, vi s, vi y, vi q] v (fun x w => x = ahdS v 27 s q sl y.toNat ∧ (∀ i, 0 ≤ i → i < y → w 64 i = ahdN v 27 s q sl i.toNat) ∧ (∀ a j, (a < 27 ∨ 49 < a) → (a < 54 ∨ 59 < a) → ¬ a = 64 → w a j = v a j)) := by
  refine MN.of pn_X8_newAhead [some (vr 1), some (vi s), some (vi y), some (vi q), none, none] 2 rfl rfl (fun X C hX hn hR => ?_)
  have hN : ∀ i : Nat, i < 6 → i < xn X := fun i h => by rw [hn]; exact h
  refine E.rngk (fun hinv => ?_)
  refine E.loc (fun hloc => ?_)
  have hin_1 : in32 s := hloc _ (List.mem_of_getElem? (i := 1) rfl)
  have hin_2 : in32 y := hloc _ (List.mem_of_getElem? (i := 2) rfl)
  have hin_3 : in32 q := hloc _ (List.mem_of_getElem? (i := 3) rfl)
  have hW1 := hW.1
  have hW2 := hW.2.1
  refine E.iconst C dX8_newAhead_0 (by decide) ?_
  refine N.ist_4 C dX8_newAhead_1 (hN 4 (by decide)) rfl ?_
  refine E.iconst C dX8_newAhead_3 (by decide) ?_
  refine N.ist_5 C dX8_newAhead_4 (hN 5 (by decide)) rfl ?_
  have lp6 : ∀ (k6 : Nat) (x : Int) (k : Int) (w : VT), (y - k).toNat = k6 → (0 ≤ k ∧ k ≤ y ∧ x = ahdS v 27 s q sl k.toNat ∧ (∀ i, 0 ≤ i → i < k → w 64 i = ahdN v 27 s q sl i.toNat) ∧ Sm w 27 (yrsN v 27 s q sl k.toNat) 27 ∧ WFV w 27 ∧ (∀ a j, (a < 27 ∨ 49 < a) → (a < 54 ∨ 59 < a) → ¬ a = 64 → w a j = v a j)) → E X G 0 0 1000 w 6 [some (vr 1), some (vi s), some (vi y), some (vi q), some (vi x), some (vi k)] [] := by
    intro k6
    induction k6 using Nat.strongRecOn with
    | ind k6 ih6 =>
      intro x k w hk6 hI6
      obtain ⟨hk0, hk1, hx0, hnb, hsm, hww, hfr⟩ := hI6; have hy4 := yrs_4 (v := v) (o := 27) (s := s) (q := q) (sl := sl) k.toNat; have hab := ahs_bd (s := s) (q := q) (sl := sl) hW1 k.toNat; have hnd := ahn_bd (s := s) (q := q) (sl := sl) hW1 k.toNat; have alw : w 1 10 = sl := (hfr _ _ (by decide) (by decide) (by decide)).trans hal
      refine E.iload C dX8_newAhead_6 rfl ?_
      refine E.iload_n C dX8_newAhead_8 rfl rfl ?_
      refine E.icmp_ge C dX8_newAhead_9 (tgt := 73) (by decide) (fun h9 => ?_) (fun h9 => ?_)
      · skip
        refine E.iload C dX8_newAhead_73 rfl ?_
        exact N.iret C hR dX8_newAhead_75 (fun hi hx => by have ek : k = y := (by omega); subst ek; exact ⟨hx0, hnb, hfr⟩)
      · skip
        refine E.iload C dX8_newAhead_12 rfl ?_
        refine E.iconst C dX8_newAhead_14 (by decide) ?_
        refine E.icmp_ge C dX8_newAhead_15 (tgt := 73) (by decide) (fun h15 => ?_) (fun h15 => ?_)
        · skip
          refine E.iload C dX8_newAhead_73 rfl ?_
          exact N.iret C hR dX8_newAhead_75 (fun hi hx => by have ek : k = y := (by omega); subst ek; exact ⟨hx0, hnb, hfr⟩)
        · skip
          refine E.aload_n C dX8_newAhead_18 rfl rfl ?_
          refine N.getR C fa_X8_63 rfl dX8_newAhead_19 kd_1 (x := 64) (by decide +kernel) (by decide) ?_
          refine E.iload C dX8_newAhead_22 rfl ?_
          refine E.aload_n C dX8_newAhead_24 rfl rfl ?_
          refine E.aload_n C dX8_newAhead_25 rfl rfl ?_
          refine N.getR C fa_X8_23 rfl dX8_newAhead_26 kd_1 (x := 27) (by decide +kernel) (by decide) ?_
          refine E.iload_n C dX8_newAhead_29 rfl rfl ?_
          refine N.callVi (S := [vi k, vr 64]) (As := [vr 27, vi s]) C hX (ok_X8_dressAll G 27 s sl w (Or.inr (Or.inl rfl)) hww alw hsl) yf_X8_dressAll yv_X8_dressAll ml_X8_198 rfl rfl rfl kd_1 (by decide) (by decide) (Nat.le_of_ble_eq_true rfl) dX8_newAhead_30 rfl (fun t30 w30 hb30 hp30 => ?_)
          obtain ⟨hn30, hd30a, hdw⟩ := hp30
          have hn30 : t30 = ahdN v 27 s q sl k.toNat := hn30.trans hsm.new
          have hd30 : ∀ a j, (a < 27 ∨ 49 < a) → (a < 54 ∨ 59 < a) → w30 a j = w a j := fun a j g1 g2 => (hd30a a j g2).trans (drsV_out (by have := hww.2.1; omega))
          refine N.iast C dX8_newAhead_33 kd_64 ln_64 (by omega) ?_
          refine E.iload C dX8_newAhead_34 rfl ?_
          refine E.aload_n C dX8_newAhead_36 rfl rfl ?_
          refine N.getR C fa_X8_63 rfl dX8_newAhead_37 kd_1 (x := 64) (by decide +kernel) (by decide) ?_
          refine E.iload C dX8_newAhead_40 rfl ?_
          refine N.iald C dX8_newAhead_42 kd_64 ln_64 (by omega) (x := t30) (upd2_same _ _ _ _) ?_
          refine E.iadd C dX8_newAhead_43 (by omega) ?_
          refine N.ist_4 C dX8_newAhead_44 (hN 4 (by decide)) rfl ?_
          obtain ⟨w46, hw46⟩ : ∃ z, z = (upd2 w30 64 k t30) := ⟨_, rfl⟩
          refine E.heq hw46.symm ?_
          have f46 : ∀ a j, (a < 27 ∨ 49 < a) → (a < 54 ∨ 59 < a) → ¬ a = 64 → w46 a j = v a j := fun a j g1 g2 g3 => by rw [hw46, upd2_ne _ _ _ _ _ _ (Or.inl g3), hd30 a j g1 g2]; exact hfr a j g1 g2 g3
          have hm46 : Sm w46 27 (drsV w 27 s sl) 27 := sm_of (fun a j g1 g2 => by rw [hw46, upd2_ne _ _ _ _ _ _ (Or.inl (by omega))]; exact hd30a a j (by omega)) (by rw [drsV_45]; exact hww.1.2) (by rw [drsV_45]; exact hww.2.1.2)
          have hys := yr_step (q := q) hsm (by rw [hy4]; exact hW1) hm46 hdw
          have hx46 := hys.2.1
          have hz46 := hys.2.2.1
          have hz1 := hz46.1
          have hz2 := hz46.2.1
          have hx2 := hx46.2.1
          have al46 : w46 1 10 = sl := (f46 _ _ (by decide) (by decide) (by decide)).trans hal
          refine E.aload_n C dX8_newAhead_46 rfl rfl ?_
          refine N.getR C fa_X8_23 rfl dX8_newAhead_47 kd_1 (x := 27) (by decide +kernel) (by decide) ?_
          refine N.callVd (S := []) (As := []) C hX (ok_X7_passWinter G 27 w46 (Or.inr (Or.inl rfl)) hx46.2.1 hx46.wi) yf_X7_passWinter yv_X7_passWinter ml_X8_206 rfl rfl rfl kd_27 (by decide) (by decide) (Nat.le_of_ble_eq_true rfl) dX8_newAhead_50 rfl ?_
          refine E.popI C dX8_newAhead_53 ?_
          refine E.aload_n C dX8_newAhead_54 rfl rfl ?_
          refine N.getR C fa_X8_23 rfl dX8_newAhead_55 kd_1 (x := 27) (by decide +kernel) (by decide) ?_
          refine E.iload_n C dX8_newAhead_58 rfl rfl ?_
          refine E.aload_n C dX8_newAhead_59 rfl rfl ?_
          refine N.getI C fa_X8_67 rfl dX8_newAhead_60 kd_1 (x := (winF w46 27 (w46 27 5)) 1 10) rfl ?_
          refine E.veq (x' := sl) (by rw [winF_out (by omega)]; exact al46) ?_
          refine N.callVd (S := []) (As := [vi q, vi sl]) C hX (ok_X7_passSpring G 27 q sl (winF w46 27 (w46 27 5)) (Or.inr (Or.inl rfl)) hz46.1 hz46.2.1 hz46.ch hz46.th ⟨by omega, by omega⟩) yf_X7_passSpring yv_X7_passSpring ml_X8_209 rfl rfl rfl kd_27 (by decide) (by decide) (Nat.le_of_ble_eq_true rfl) dX8_newAhead_63 rfl ?_
          refine E.popI C dX8_newAhead_66 ?_
          refine N.iinc_5 C dX8_newAhead_67 (hN 5 (by decide)) rfl (by omega) ?_
          refine E.goto C dX8_newAhead_70 (tgt := 6) (by decide) ?_
          exact ih6 _ (by omega) (x + t30) (k + 1) (sprF (grwF (winF w46 27 (w46 27 5)) 27 q ((winF w46 27 (w46 27 5)) 27 4)) 27 ((winF w46 27 (w46 27 5)) 27 4) sl ((winF w46 27 (w46 27 5)) 27 5)) rfl (by refine ⟨by omega, by omega, by rw [ahs_step hk0, ← hx0, hn30], fun i h1 h2 => ?_, by rw [yrs_step hk0]; exact hys.1, hys.2.2.2, fun a j h1 h2 h3 => ?_⟩; (rw [sprF_out (by omega), grwF_out (by omega), winF_out (by omega), hw46]; by_cases hi : i = k; (rw [hi, upd2_same, hn30]); (rw [upd2_ne _ _ _ _ _ _ (Or.inr hi), hd30 _ _ (by decide) (by decide)]; exact hnb i h1 (by omega))); (rw [sprF_out (by omega), grwF_out (by omega), winF_out (by omega)]; exact f46 a j h1 h2 h3))
  exact lp6 _ 0 0 v rfl (by exact ⟨by omega, by omega, rfl, fun i h1 h2 => by omega, Sm.rf, hW, fun a j _ _ _ => rfl⟩)
