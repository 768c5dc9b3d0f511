set_option maxHeartbeats 4000000 in
set_option maxRecDepth 20000 in
theorem ok_X0_grow (G : GT) (r q : Int) (v : VT) (hs : kd r = 0) (hb : 0 ≤ v r 0 ∧ v r 0 ≤ 1000 ∧ 0 ≤ v r 1 ∧ v r 1 ≤ 1000 ∧ 0 ≤ v r 2 ∧ v r 2 ≤ 1000) : MVe G yX0_grow cX0_grow 2 none 1 21 [vr r, vi q] v (upd2 v r 0 (growI (v r 0) (if q = 0 then v r 1 else v r 2))) := by
  refine MN.of pn_X0_grow [some (vr r), some (vi q)] 0 rfl rfl (fun X C hX hn hR => ?_)
  have hN : ∀ i : Nat, i < 2 → i < xn X := fun i h => by rw [hn]; exact h
  refine E.rngk (fun hinv => ?_)
  refine E.loc (fun hloc => ?_)
  have hin_1 : in32 q := hloc _ (List.mem_of_getElem? (i := 1) rfl)
  refine E.aload_n C dX0_grow_0 rfl rfl ?_
  refine E.bipush C dX0_grow_1 (by decide) ?_
  refine E.aload_n C dX0_grow_3 rfl rfl ?_
  refine N.getI C fa_X0_9 rfl dX0_grow_4 hs (x := v r 0) rfl ?_
  refine E.iload_n C dX0_grow_7 rfl rfl ?_
  refine E.if_eq C dX0_grow_8 (tgt := 18) (by decide) (fun h8 => ?_) (fun h8 => ?_)
  · skip
    refine E.aload_n C dX0_grow_18 rfl rfl ?_
    refine N.getI C fa_X0_15 rfl dX0_grow_19 hs (x := v r 1) rfl ?_
    refine E.iadd C dX0_grow_22 (by omega) ?_
    refine N.mmin (S := [vr r]) C hX mm_X0_21 mminR dX0_grow_23 (by decide) (Nat.le_of_ble_eq_true rfl) ?_
    refine N.putI C fp_X0_9 rfl dX0_grow_26 hs ?_
    exact N.vret C hR dX0_grow_29 (fun hi => by simp only [growI]; simp [*])
  · skip
    refine E.aload_n C dX0_grow_11 rfl rfl ?_
    refine N.getI C fa_X0_18 rfl dX0_grow_12 hs (x := v r 2) rfl ?_
    refine E.goto C dX0_grow_15 (tgt := 22) (by decide) ?_
    refine E.iadd C dX0_grow_22 (by omega) ?_
    refine N.mmin (S := [vr r]) C hX mm_X0_21 mminR dX0_grow_23 (by decide) (Nat.le_of_ble_eq_true rfl) ?_
    refine N.putI C fp_X0_9 rfl dX0_grow_26 hs ?_
    exact N.vret C hR dX0_grow_29 (fun hi => by simp only [growI]; simp [*])

set_option maxHeartbeats 4000000 in
set_option maxRecDepth 20000 in
theorem ok_X0_become (G : GT) (r r2 : Int) (v : VT) (hs : kd r = 0) (hs2 : kd r2 = 0) : MVe G yX0_become cX0_become 2 none 0 0 [vr r, vr r2] v (cpyF v r r2 3) := by
  refine MN.of pn_X0_become [some (vr r), some (vr r2)] 0 rfl rfl (fun X C hX hn hR => ?_)
  have hN : ∀ i : Nat, i < 2 → i < xn X := fun i h => by rw [hn]; exact h
  refine E.rngk (fun hinv => ?_)
  refine E.loc (fun hloc => ?_)
  refine E.aload_n C dX0_become_0 rfl rfl ?_
  refine E.aload_n C dX0_become_1 rfl rfl ?_
  refine N.getI C fa_X0_9 rfl dX0_become_2 hs2 (x := v r2 0) rfl ?_
  refine N.putI C fp_X0_9 rfl dX0_become_5 hs ?_
  refine E.aload_n C dX0_become_8 rfl rfl ?_
  refine E.aload_n C dX0_become_9 rfl rfl ?_
  refine N.getI C fa_X0_15 rfl dX0_become_10 hs2 (x := v r2 1) (upd2_ne _ _ _ _ _ _ (Or.inr (by decide))) ?_
  refine N.putI C fp_X0_15 rfl dX0_become_13 hs ?_
  refine E.aload_n C dX0_become_16 rfl rfl ?_
  refine E.aload_n C dX0_become_17 rfl rfl ?_
  refine N.getI C fa_X0_18 rfl dX0_become_18 hs2 (x := v r2 2) ((upd2_ne _ _ _ _ _ _ (Or.inr (by decide))).trans (upd2_ne _ _ _ _ _ _ (Or.inr (by decide)))) ?_
  refine N.putI C fp_X0_18 rfl dX0_become_21 hs ?_
  exact N.vret C hR dX0_become_24 (fun hi => by exact become3 v r r2)

set_option maxHeartbeats 4000000 in
set_option maxRecDepth 20000 in
theorem ok_X6_become (G : GT) (r r2 : Int) (v : VT) (hs : kd r = 6) (hs2 : kd r2 = 6) (hz : v r2 5 = 0 ∨ v r2 5 = 1) : MVe G yX6_become cX6_become 2 none 0 0 [vr r, vr r2] v (cpyF v r r2 8) := by
  refine MN.of pn_X6_become [some (vr r), some (vr r2)] 0 rfl rfl (fun X C hX hn hR => ?_)
  have hN : ∀ i : Nat, i < 2 → i < xn X := fun i h => by rw [hn]; exact h
  refine E.rngk (fun hinv => ?_)
  refine E.loc (fun hloc => ?_)
  refine E.aload_n C dX6_become_0 rfl rfl ?_
  refine E.aload_n C dX6_become_1 rfl rfl ?_
  refine N.getI C fa_X6_9 rfl dX6_become_2 hs2 (x := v r2 0) rfl ?_
  refine N.putI C fp_X6_9 rfl dX6_become_5 hs ?_
  refine E.aload_n C dX6_become_8 rfl rfl ?_
  refine E.aload_n C dX6_become_9 rfl rfl ?_
  refine N.getI C fa_X6_15 rfl dX6_become_10 hs2 (x := v r2 1) (upd2_ne _ _ _ _ _ _ (Or.inr (by decide))) ?_
  refine N.putI C fp_X6_15 rfl dX6_become_13 hs ?_
  refine E.aload_n C dX6_become_16 rfl rfl ?_
  refine E.aload_n C dX6_become_17 rfl rfl ?_
  refine N.getI C fa_X6_18 rfl dX6_become_18 hs2 (x := v r2 2) ((upd2_ne _ _ _ _ _ _ (Or.inr (by decide))).trans (upd2_ne _ _ _ _ _ _ (Or.inr (by decide)))) ?_
  refine N.putI C fp_X6_18 rfl dX6_become_21 hs ?_
  refine E.aload_n C dX6_become_24 rfl rfl ?_
  refine E.aload_n C dX6_become_25 rfl rfl ?_
  refine N.getI C fa_X6_21 rfl dX6_become_26 hs2 (x := v r2 3) ((upd2_ne _ _ _ _ _ _ (Or.inr (by decide))).trans ((upd2_ne _ _ _ _ _ _ (Or.inr (by decide))).trans (upd2_ne _ _ _ _ _ _ (Or.inr (by decide))))) ?_
  refine N.putI C fp_X6_21 rfl dX6_become_29 hs ?_
  refine E.aload_n C dX6_become_32 rfl rfl ?_
  refine E.aload_n C dX6_become_33 rfl rfl ?_
  refine N.getI C fa_X6_24 rfl dX6_become_34 hs2 (x := v r2 4) ((upd2_ne _ _ _ _ _ _ (Or.inr (by decide))).trans ((upd2_ne _ _ _ _ _ _ (Or.inr (by decide))).trans ((upd2_ne _ _ _ _ _ _ (Or.inr (by decide))).trans (upd2_ne _ _ _ _ _ _ (Or.inr (by decide)))))) ?_
  refine N.putI C fp_X6_24 rfl dX6_become_37 hs ?_
  refine E.aload_n C dX6_become_40 rfl rfl ?_
  refine E.aload_n C dX6_become_41 rfl rfl ?_
  refine N.getI C fa_X6_27 rfl dX6_become_42 hs2 (x := v r2 5) ((upd2_ne _ _ _ _ _ _ (Or.inr (by decide))).trans ((upd2_ne _ _ _ _ _ _ (Or.inr (by decide))).trans ((upd2_ne _ _ _ _ _ _ (Or.inr (by decide))).trans ((upd2_ne _ _ _ _ _ _ (Or.inr (by decide))).trans (upd2_ne _ _ _ _ _ _ (Or.inr (by decide))))))) ?_
  refine N.putZ C fp_X6_27 rfl dX6_become_45 hs (by omega) ?_
  refine E.aload_n C dX6_become_48 rfl rfl ?_
  refine E.aload_n C dX6_become_49 rfl rfl ?_
  refine N.getI C fa_X6_31 rfl dX6_become_50 hs2 (x := v r2 6) ((upd2_ne _ _ _ _ _ _ (Or.inr (by decide))).trans ((upd2_ne _ _ _ _ _ _ (Or.inr (by decide))).trans ((upd2_ne _ _ _ _ _ _ (Or.inr (by decide))).trans ((upd2_ne _ _ _ _ _ _ (Or.inr (by decide))).trans ((upd2_ne _ _ _ _ _ _ (Or.inr (by decide))).trans (upd2_ne _ _ _ _ _ _ (Or.inr (by decide)))))))) ?_
  refine N.putI C fp_X6_31 rfl dX6_become_53 hs ?_
  refine E.aload_n C dX6_become_56 rfl rfl ?_
  refine E.aload_n C dX6_become_57 rfl rfl ?_
  refine N.getI C fa_X6_34 rfl dX6_become_58 hs2 (x := v r2 7) ((upd2_ne _ _ _ _ _ _ (Or.inr (by decide))).trans ((upd2_ne _ _ _ _ _ _ (Or.inr (by decide))).trans ((upd2_ne _ _ _ _ _ _ (Or.inr (by decide))).trans ((upd2_ne _ _ _ _ _ _ (Or.inr (by decide))).trans ((upd2_ne _ _ _ _ _ _ (Or.inr (by decide))).trans ((upd2_ne _ _ _ _ _ _ (Or.inr (by decide))).trans (upd2_ne _ _ _ _ _ _ (Or.inr (by decide))))))))) ?_
  refine N.putI C fp_X6_34 rfl dX6_become_61 hs ?_
  exact N.vret C hR dX6_become_64 (fun hi => by exact become8 v r r2)

set_option maxHeartbeats 4000000 in
set_option maxRecDepth 20000 in
theorem ok_X6_becomePlain (G : GT) (r s z l : Int) (v : VT) (hs : kd r = 6) : MVe G yX6_becomePlain cX6_becomePlain 4 none 0 0 [vr r, vi s, vi z, vi l] v (plainF v r s z l) := by
  refine MN.of pn_X6_becomePlain [some (vr r), some (vi s), some (vi z), some (vi l)] 0 rfl rfl (fun X C hX hn hR => ?_)
  have hN : ∀ i : Nat, i < 4 → i < xn X := fun i h => by rw [hn]; exact h
  refine E.rngk (fun hinv => ?_)
  refine E.loc (fun hloc => ?_)
  have hin_1 : in32 s := hloc _ (List.mem_of_getElem? (i := 1) rfl)
  have hin_2 : in32 z := hloc _ (List.mem_of_getElem? (i := 2) rfl)
  have hin_3 : in32 l := hloc _ (List.mem_of_getElem? (i := 3) rfl)
  refine E.aload_n C dX6_becomePlain_0 rfl rfl ?_
  refine E.iload_n C dX6_becomePlain_1 rfl rfl ?_
  refine N.putI C fp_X6_9 rfl dX6_becomePlain_2 hs ?_
  refine E.aload_n C dX6_becomePlain_5 rfl rfl ?_
  refine E.iconst C dX6_becomePlain_6 (by decide) ?_
  refine N.putI C fp_X6_15 rfl dX6_becomePlain_7 hs ?_
  refine E.aload_n C dX6_becomePlain_10 rfl rfl ?_
  refine E.iload_n C dX6_becomePlain_11 rfl rfl ?_
  refine N.putI C fp_X6_18 rfl dX6_becomePlain_12 hs ?_
  refine E.aload_n C dX6_becomePlain_15 rfl rfl ?_
  refine E.iload_n C dX6_becomePlain_16 rfl rfl ?_
  refine N.putI C fp_X6_21 rfl dX6_becomePlain_17 hs ?_
  refine E.aload_n C dX6_becomePlain_20 rfl rfl ?_
  refine E.iconst C dX6_becomePlain_21 (by decide) ?_
  refine N.putI C fp_X6_24 rfl dX6_becomePlain_22 hs ?_
  refine E.aload_n C dX6_becomePlain_25 rfl rfl ?_
  refine E.iconst C dX6_becomePlain_26 (by decide) ?_
  refine N.putZ C fp_X6_27 rfl dX6_becomePlain_27 hs (by omega) ?_
  refine E.aload_n C dX6_becomePlain_30 rfl rfl ?_
  refine E.bipush C dX6_becomePlain_31 (by decide) ?_
  refine N.putI C fp_X6_31 rfl dX6_becomePlain_33 hs ?_
  refine E.aload_n C dX6_becomePlain_36 rfl rfl ?_
  refine E.bipush C dX6_becomePlain_37 (by decide) ?_
  refine N.putI C fp_X6_34 rfl dX6_becomePlain_39 hs ?_
  exact N.vret C hR dX6_becomePlain_42 (fun hi => by rfl)

set_option maxHeartbeats 4000000 in
set_option maxRecDepth 20000 in
theorem ok_X7_hasChild (G : GT) (o c : Int) (v : VT) (ho : isV o) : MP G yX7_hasChild cX7_hasChild 2 (some .boolean) 0 0 [vr o, vi c] v (if 0 ≤ c ∧ c < v o 4 then 1 else 0) := by
  refine MN.of pn_X7_hasChild [some (vr o), some (vi c)] 0 rfl rfl (fun X C hX hn hR => ?_)
  have hN : ∀ i : Nat, i < 2 → i < xn X := fun i h => by rw [hn]; exact h
  refine E.rngk (fun hinv => ?_)
  refine E.loc (fun hloc => ?_)
  have hin_1 : in32 c := hloc _ (List.mem_of_getElem? (i := 1) rfl)
  refine E.iload_n C dX7_hasChild_0 rfl rfl ?_
  refine E.if_lt C dX7_hasChild_1 (tgt := 16) (by decide) (fun h1 => ?_) (fun h1 => ?_)
  · skip
    refine E.iconst C dX7_hasChild_16 (by decide) ?_
    exact N.zret C hR dX7_hasChild_17 (by omega) (fun hi => by refine ⟨?_, rfl⟩; split <;> omega)
  · skip
    refine E.iload_n C dX7_hasChild_4 rfl rfl ?_
    refine E.aload_n C dX7_hasChild_5 rfl rfl ?_
    refine N.getI C fa_X7_30 rfl dX7_hasChild_6 (kdV ho) (x := v o 4) rfl ?_
    refine E.icmp_ge C dX7_hasChild_9 (tgt := 16) (by decide) (fun h9 => ?_) (fun h9 => ?_)
    · skip
      refine E.iconst C dX7_hasChild_16 (by decide) ?_
      exact N.zret C hR dX7_hasChild_17 (by omega) (fun hi => by refine ⟨?_, rfl⟩; split <;> omega)
    · skip
      refine E.iconst C dX7_hasChild_12 (by decide) ?_
      refine E.goto C dX7_hasChild_13 (tgt := 17) (by decide) ?_
      exact N.zret C hR dX7_hasChild_17 (by omega) (fun hi => by refine ⟨?_, rfl⟩; split <;> omega)

set_option maxHeartbeats 4000000 in
set_option maxRecDepth 20000 in
theorem ok_X7_hasThing (G : GT) (o c : Int) (v : VT) (ho : isV o) : MP G yX7_hasThing cX7_hasThing 2 (some .boolean) 0 0 [vr o, vi c] v (if 0 ≤ c ∧ c < v o 5 then 1 else 0) := by
  refine MN.of pn_X7_hasThing [some (vr o), some (vi c)] 0 rfl rfl (fun X C hX hn hR => ?_)
  have hN : ∀ i : Nat, i < 2 → i < xn X := fun i h => by rw [hn]; exact h
  refine E.rngk (fun hinv => ?_)
  refine E.loc (fun hloc => ?_)
  have hin_1 : in32 c := hloc _ (List.mem_of_getElem? (i := 1) rfl)
  refine E.iload_n C dX7_hasThing_0 rfl rfl ?_
  refine E.if_lt C dX7_hasThing_1 (tgt := 16) (by decide) (fun h1 => ?_) (fun h1 => ?_)
  · skip
    refine E.iconst C dX7_hasThing_16 (by decide) ?_
    exact N.zret C hR dX7_hasThing_17 (by omega) (fun hi => by refine ⟨?_, rfl⟩; split <;> omega)
  · skip
    refine E.iload_n C dX7_hasThing_4 rfl rfl ?_
    refine E.aload_n C dX7_hasThing_5 rfl rfl ?_
    refine N.getI C fa_X7_34 rfl dX7_hasThing_6 (kdV ho) (x := v o 5) rfl ?_
    refine E.icmp_ge C dX7_hasThing_9 (tgt := 16) (by decide) (fun h9 => ?_) (fun h9 => ?_)
    · skip
      refine E.iconst C dX7_hasThing_16 (by decide) ?_
      exact N.zret C hR dX7_hasThing_17 (by omega) (fun hi => by refine ⟨?_, rfl⟩; split <;> omega)
    · skip
      refine E.iconst C dX7_hasThing_12 (by decide) ?_
      refine E.goto C dX7_hasThing_13 (tgt := 17) (by decide) ?_
      exact N.zret C hR dX7_hasThing_17 (by omega) (fun hi => by refine ⟨?_, rfl⟩; split <;> omega)

set_option maxHeartbeats 4000000 in
set_option maxRecDepth 20000 in
theorem ok_X7_likingOf (G : GT) (o c t : Int) (v : VT) (ho : isV o) (hb : 0 ≤ c ∧ c < 8 ∧ 0 ≤ t ∧ t < 10) : MP G yX7_likingOf cX7_likingOf 3 (some .int) 0 0 [vr o, vi c, vi t] v (v (o + 3) (c * 10 + t)) := by
  refine MN.of pn_X7_likingOf [some (vr o), some (vi c), some (vi t)] 0 rfl rfl (fun X C hX hn hR => ?_)
  have hN : ∀ i : Nat, i < 3 → i < xn X := fun i h => by rw [hn]; exact h
  refine E.rngk (fun hinv => ?_)
  refine E.loc (fun hloc => ?_)
  have hin_1 : in32 c := hloc _ (List.mem_of_getElem? (i := 1) rfl)
  have hin_2 : in32 t := hloc _ (List.mem_of_getElem? (i := 2) rfl)
  refine E.aload_n C dX7_likingOf_0 rfl rfl ?_
  refine N.getR C fa_X7_23 rfl dX7_likingOf_1 (kdV ho) (x := o + 3) (rvV2 ho) (by have := posVk ho; omega) ?_
  refine E.iload_n C dX7_likingOf_4 rfl rfl ?_
  refine E.bipush C dX7_likingOf_5 (by decide) ?_
  refine E.imul C dX7_likingOf_7 (by omega) ?_
  refine E.iload_n C dX7_likingOf_8 rfl rfl ?_
  refine E.iadd C dX7_likingOf_9 (by omega) ?_
  refine N.iald C dX7_likingOf_10 (kdVl ho) (lnVl ho) (by omega) (x := v (o + 3) ((c * 10) + t)) rfl ?_
  exact N.iret C hR dX7_likingOf_11 (fun hi hx => by exact ⟨rfl, rfl⟩)

set_option maxHeartbeats 4000000 in
set_option maxRecDepth 20000 in
theorem ok_X7_setLiking (G : GT) (o c t x : Int) (v : VT) (ho : isV o) (hb : 0 ≤ c ∧ c < 8 ∧ 0 ≤ t ∧ t < 10) : MVe G yX7_setLiking cX7_setLiking 4 none 0 0 [vr o, vi c, vi t, vi x] v (upd2 v (o + 3) (c * 10 + t) x) := by
  refine MN.of pn_X7_setLiking [some (vr o), some (vi c), some (vi t), some (vi x)] 0 rfl rfl (fun X C hX hn hR => ?_)
  have hN : ∀ i : Nat, i < 4 → i < xn X := fun i h => by rw [hn]; exact h
  refine E.rngk (fun hinv => ?_)
  refine E.loc (fun hloc => ?_)
  have hin_1 : in32 c := hloc _ (List.mem_of_getElem? (i := 1) rfl)
  have hin_2 : in32 t := hloc _ (List.mem_of_getElem? (i := 2) rfl)
  have hin_3 : in32 x := hloc _ (List.mem_of_getElem? (i := 3) rfl)
  refine E.aload_n C dX7_setLiking_0 rfl rfl ?_
  refine N.getR C fa_X7_23 rfl dX7_setLiking_1 (kdV ho) (x := o + 3) (rvV2 ho) (by have := posVk ho; omega) ?_
  refine E.iload_n C dX7_setLiking_4 rfl rfl ?_
  refine E.bipush C dX7_setLiking_5 (by decide) ?_
  refine E.imul C dX7_setLiking_7 (by omega) ?_
  refine E.iload_n C dX7_setLiking_8 rfl rfl ?_
  refine E.iadd C dX7_setLiking_9 (by omega) ?_
  refine E.iload_n C dX7_setLiking_10 rfl rfl ?_
  refine N.iast C dX7_setLiking_11 (kdVl ho) (lnVl ho) (by omega) ?_
  exact N.vret C hR dX7_setLiking_12 (fun hi => by rfl)

set_option maxHeartbeats 4000000 in
set_option maxRecDepth 20000 in
theorem ok_X7_fitOf (G : GT) (o c t sl : Int) (v : VT) (ho : isV o) (hb : 0 ≤ c ∧ c < 8 ∧ 0 ≤ t ∧ t < 10) (hk : thOK v (o + 13 + t)) (hz : -1000 ≤ v (o + 5 + c) 0 ∧ v (o + 5 + c) 0 ≤ 1000 ∧ -1000 ≤ sl ∧ sl ≤ 1000) : MP G yX7_fitOf cX7_fitOf 4 (some .int) 2 46 [vr o, vi c, vi t, vi sl] v (fitI (v (o + 13 + t) 1) (v (o + 13 + t) 2) (v (o + 13 + t) 3) (v (o + 13 + t) 4) (v (o + 13 + t) 5) (v (o + 13 + t) 6) c (v (o + 5 + c) 0) sl) := by
  refine MN.of pn_X7_fitOf [some (vr o), some (vi c), some (vi t), some (vi sl)] 0 rfl rfl (fun X C hX hn hR => ?_)
  have hN : ∀ i : Nat, i < 4 → i < xn X := fun i h => by rw [hn]; exact h
  refine E.rngk (fun hinv => ?_)
  refine E.loc (fun hloc => ?_)
  have hin_1 : in32 c := hloc _ (List.mem_of_getElem? (i := 1) rfl)
  have hin_2 : in32 t := hloc _ (List.mem_of_getElem? (i := 2) rfl)
  have hin_3 : in32 sl := hloc _ (List.mem_of_getElem? (i := 3) rfl)
  refine E.aload_n C dX7_fitOf_0 rfl rfl ?_
  refine N.getR C fa_X7_19 rfl dX7_fitOf_1 (kdV ho) (x := o + 2) (rvV1 ho) (by have := posVk ho; omega) ?_
  refine E.iload_n C dX7_fitOf_4 rfl rfl ?_
  refine N.aald C (t := 5) (by decide) dX7_fitOf_5 (kdVt ho) (lnVt ho) (by omega) (x := o + 13 + t) (rvVt ho (by omega)) (by have := posVk ho; omega) ?_
  refine E.iload_n C dX7_fitOf_6 rfl rfl ?_
  refine E.aload_n C dX7_fitOf_7 rfl rfl ?_
  refine N.getR C fa_X7_11 rfl dX7_fitOf_8 (kdV ho) (x := o + 1) (rvV0 ho) (by have := posVk ho; omega) ?_
  refine E.iload_n C dX7_fitOf_11 rfl rfl ?_
  refine N.aald C (t := 3) (by decide) dX7_fitOf_12 (kdVc ho) (lnVc ho) (by omega) (x := o + 5 + c) (rvVc ho (by omega)) (by have := posVk ho; omega) ?_
  refine N.getI C fa_X7_65 rfl dX7_fitOf_13 (kdVC ho (by omega)) (x := v (o + 5 + c) 0) rfl ?_
  refine E.iload_n C dX7_fitOf_16 rfl rfl ?_
  refine N.callVp (S := []) (As := [vi c, vi (v (o + 5 + c) 0), vi sl]) C hX (ok_X6_fitFor G (o + 13 + t) c (v (o + 5 + c) 0) sl v (kdVT ho (by omega)) hk hz) yf_X6_fitFor yv_X6_fitFor ml_X7_84 rfl rfl rfl (kdVT ho (by omega)) (by decide) (by decide) (Nat.le_of_ble_eq_true rfl) dX7_fitOf_17 rfl ?_
  exact N.iret C hR dX7_fitOf_20 (fun hi hx => by exact ⟨rfl, rfl⟩)

set_option maxHeartbeats 4000000 in
set_option maxRecDepth 20000 in
theorem ok_X7_wornBy (G : GT) (o c s : Int) (v : VT) (ho : isV o) (hb : 0 ≤ v o 5 ∧ v o 5 ≤ 10) : MP G yX7_wornBy cX7_wornBy 4 (some .int) 0 0 [vr o, vi c, vi s] v (wornI v o c s) := by
  refine MN.of pn_X7_wornBy [some (vr o), some (vi c), some (vi s), none] 1 rfl rfl (fun X C hX hn hR => ?_)
  have hN : ∀ i : Nat, i < 4 → i < xn X := fun i h => by rw [hn]; exact h
  refine E.rngk (fun hinv => ?_)
  refine E.loc (fun hloc => ?_)
  have hin_1 : in32 c := hloc _ (List.mem_of_getElem? (i := 1) rfl)
  have hin_2 : in32 s := hloc _ (List.mem_of_getElem? (i := 2) rfl)
  refine E.iconst C dX7_wornBy_0 (by decide) ?_
  refine N.ist_3 C dX7_wornBy_1 (hN 3 (by decide)) rfl ?_
  have lp2 : ∀ (k2 : Nat) (t : Int), (v o 5 - t).toNat = k2 → (0 ≤ t ∧ t ≤ v o 5 ∧ ∀ j, 0 ≤ j → j < t → ¬ (v (o + 13 + j) 0 = s ∧ v (o + 13 + j) 7 = c)) → E X G 0 0 1000 v 2 [some (vr o), some (vi c), some (vi s), some (vi t)] [] := by
    intro k2
    induction k2 using Nat.strongRecOn with
    | ind k2 ih2 =>
      intro t hk2 hI2
      obtain ⟨ht0, ht1, hj⟩ := hI2
      refine E.iload_n C dX7_wornBy_2 rfl rfl ?_
      refine E.aload_n C dX7_wornBy_3 rfl rfl ?_
      refine N.getI C fa_X7_34 rfl dX7_wornBy_4 (kdV ho) (x := v o 5) rfl ?_
      refine E.icmp_ge C dX7_wornBy_7 (tgt := 44) (by decide) (fun h7 => ?_) (fun h7 => ?_)
      · skip
        refine E.bipush C dX7_wornBy_44 (by decide) ?_
        exact N.iret C hR dX7_wornBy_46 (fun hi hx => by refine ⟨wornQ_eq hb.1 (Or.inl ⟨rfl, fun j h1 h2 => hj j h1 (by omega)⟩), rfl⟩)
      · skip
        refine E.aload_n C dX7_wornBy_10 rfl rfl ?_
        refine N.getR C fa_X7_19 rfl dX7_wornBy_11 (kdV ho) (x := o + 2) (rvV1 ho) (by have := posVk ho; omega) ?_
        refine E.iload_n C dX7_wornBy_14 rfl rfl ?_
        refine N.aald C (t := 5) (by decide) dX7_wornBy_15 (kdVt ho) (lnVt ho) (by omega) (x := o + 13 + t) (rvVt ho (by omega)) (by have := posVk ho; omega) ?_
        refine N.getI C fa_X7_88 rfl dX7_wornBy_16 (kdVT ho (by omega)) (x := v (o + 13 + t) 0) rfl ?_
        refine E.iload_n C dX7_wornBy_19 rfl rfl ?_
        refine E.icmp_ne C dX7_wornBy_20 (tgt := 38) (by decide) (fun h20 => ?_) (fun h20 => ?_)
        · skip
          refine N.iinc_3 C dX7_wornBy_38 (hN 3 (by decide)) rfl (by omega) ?_
          refine E.goto C dX7_wornBy_41 (tgt := 2) (by decide) ?_
          exact ih2 _ (by omega) (t + 1) rfl (by refine ⟨by omega, by omega, fun j h1 h2 => ?_⟩; by_cases hjt : j = t; (subst hjt; omega); exact hj j h1 (by omega))
        · skip
          refine E.aload_n C dX7_wornBy_23 rfl rfl ?_
          refine N.getR C fa_X7_19 rfl dX7_wornBy_24 (kdV ho) (x := o + 2) (rvV1 ho) (by have := posVk ho; omega) ?_
          refine E.iload_n C dX7_wornBy_27 rfl rfl ?_
          refine N.aald C (t := 5) (by decide) dX7_wornBy_28 (kdVt ho) (lnVt ho) (by omega) (x := o + 13 + t) (rvVt ho (by omega)) (by have := posVk ho; omega) ?_
          refine N.getI C fa_X7_91 rfl dX7_wornBy_29 (kdVT ho (by omega)) (x := v (o + 13 + t) 7) rfl ?_
          refine E.iload_n C dX7_wornBy_32 rfl rfl ?_
          refine E.icmp_ne C dX7_wornBy_33 (tgt := 38) (by decide) (fun h33 => ?_) (fun h33 => ?_)
          · skip
            refine N.iinc_3 C dX7_wornBy_38 (hN 3 (by decide)) rfl (by omega) ?_
            refine E.goto C dX7_wornBy_41 (tgt := 2) (by decide) ?_
            exact ih2 _ (by omega) (t + 1) rfl (by refine ⟨by omega, by omega, fun j h1 h2 => ?_⟩; by_cases hjt : j = t; (subst hjt; omega); exact hj j h1 (by omega))
          · skip
            refine E.iload_n C dX7_wornBy_36 rfl rfl ?_
            exact N.iret C hR dX7_wornBy_37 (fun hi hx => by refine ⟨wornQ_eq hb.1 (Or.inr ⟨by omega, by omega, by omega, by omega, hj⟩), rfl⟩)
  exact lp2 _ 0 rfl (by refine ⟨by omega, by omega, fun j h1 h2 => by omega⟩)
