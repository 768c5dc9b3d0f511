-- the JDK's strings as the class asks them
theorem yf_J0_length_8abf5 : YF yJ0_length_8abf5 cJ0_length_8abf5 1 (some .int) 0 := ⟨in_good (List.mem_of_getElem? (i := 467) (by decide +kernel)) rfl, in_good (List.mem_of_getElem? (i := 85) (by decide +kernel)) rfl, by decide +kernel, by decide +kernel, by decide +kernel⟩
theorem pn_J0_length_8abf5 : plainName yJ0_length_8abf5.cls = true := by decide +kernel
theorem yv_J0_length_8abf5 : Cond.instanceMethod yJ0_length_8abf5 ∈ lw_good ∧ Cond.selects yJ0_length_8abf5.cls yJ0_length_8abf5 yJ0_length_8abf5 ∈ lw_good := ⟨in_good (List.mem_of_getElem? (i := 465) (by decide +kernel)) rfl, in_good (List.mem_of_getElem? (i := 466) (by decide +kernel)) rfl⟩
theorem yf_J0_charAt_5068e : YF yJ0_charAt_5068e cJ0_charAt_5068e 2 (some .char) 1 := ⟨in_good (List.mem_of_getElem? (i := 477) (by decide +kernel)) rfl, in_good (List.mem_of_getElem? (i := 85) (by decide +kernel)) rfl, by decide +kernel, by decide +kernel, by decide +kernel⟩
theorem pn_J0_charAt_5068e : plainName yJ0_charAt_5068e.cls = true := by decide +kernel
theorem yv_J0_charAt_5068e : Cond.instanceMethod yJ0_charAt_5068e ∈ lw_good ∧ Cond.selects yJ0_charAt_5068e.cls yJ0_charAt_5068e yJ0_charAt_5068e ∈ lw_good := ⟨in_good (List.mem_of_getElem? (i := 475) (by decide +kernel)) rfl, in_good (List.mem_of_getElem? (i := 476) (by decide +kernel)) rfl⟩
theorem yf_J0_coder_7d493 : YF yJ0_coder_7d493 cJ0_coder_7d493 1 (some .byte) 0 := ⟨in_good (List.mem_of_getElem? (i := 471) (by decide +kernel)) rfl, in_good (List.mem_of_getElem? (i := 85) (by decide +kernel)) rfl, by decide +kernel, by decide +kernel, by decide +kernel⟩
theorem pn_J0_coder_7d493 : plainName yJ0_coder_7d493.cls = true := by decide +kernel
theorem yv_J0_coder_7d493 : Cond.instanceMethod yJ0_coder_7d493 ∈ lw_good ∧ Cond.selects yJ0_coder_7d493.cls yJ0_coder_7d493 yJ0_coder_7d493 ∈ lw_good := ⟨in_good (List.mem_of_getElem? (i := 469) (by decide +kernel)) rfl, in_good (List.mem_of_getElem? (i := 470) (by decide +kernel)) rfl⟩
theorem yf_J0_isLatin1_aae02 : YF yJ0_isLatin1_aae02 cJ0_isLatin1_aae02 1 (some .boolean) 0 := ⟨in_good (List.mem_of_getElem? (i := 481) (by decide +kernel)) rfl, in_good (List.mem_of_getElem? (i := 85) (by decide +kernel)) rfl, by decide +kernel, by decide +kernel, by decide +kernel⟩
theorem pn_J0_isLatin1_aae02 : plainName yJ0_isLatin1_aae02.cls = true := by decide +kernel
theorem yv_J0_isLatin1_aae02 : Cond.instanceMethod yJ0_isLatin1_aae02 ∈ lw_good ∧ Cond.selects yJ0_isLatin1_aae02.cls yJ0_isLatin1_aae02 yJ0_isLatin1_aae02 ∈ lw_good := ⟨in_good (List.mem_of_getElem? (i := 479) (by decide +kernel)) rfl, in_good (List.mem_of_getElem? (i := 480) (by decide +kernel)) rfl⟩
theorem yf_J0_checkIndex_df160 : YF yJ0_checkIndex_df160 cJ0_checkIndex_df160 2 none 2 := ⟨in_good (List.mem_of_getElem? (i := 487) (by decide +kernel)) rfl, in_good (List.mem_of_getElem? (i := 85) (by decide +kernel)) rfl, by decide +kernel, by decide +kernel, by decide +kernel⟩
theorem pn_J0_checkIndex_df160 : plainName yJ0_checkIndex_df160.cls = true := by decide +kernel
theorem yv_J0_checkIndex_df160 : Cond.static yJ0_checkIndex_df160 ∈ lw_good := in_good (List.mem_of_getElem? (i := 486) (by decide +kernel)) rfl
theorem yf_J1_charAt_3b067 : YF yJ1_charAt_3b067 cJ1_charAt_3b067 2 (some .char) 2 := ⟨in_good (List.mem_of_getElem? (i := 484) (by decide +kernel)) rfl, in_good (List.mem_of_getElem? (i := 86) (by decide +kernel)) rfl, by decide +kernel, by decide +kernel, by decide +kernel⟩
theorem pn_J1_charAt_3b067 : plainName yJ1_charAt_3b067.cls = true := by decide +kernel
theorem yv_J1_charAt_3b067 : Cond.static yJ1_charAt_3b067 ∈ lw_good := in_good (List.mem_of_getElem? (i := 483) (by decide +kernel)) rfl
theorem ls_X3_183 : Cond.methodLink RX3 183 yJ0_length_8abf5 ∈ lw_good := in_good (List.mem_of_getElem? (i := 464) (by decide +kernel)) rfl
theorem ls_X3_187 : Cond.methodLink RX3 187 yJ0_charAt_5068e ∈ lw_good := in_good (List.mem_of_getElem? (i := 474) (by decide +kernel)) rfl
theorem ls_J0_335 : Cond.methodLink RJ0 335 yJ0_coder_7d493 ∈ lw_good := in_good (List.mem_of_getElem? (i := 468) (by decide +kernel)) rfl
theorem ls_J0_492 : Cond.methodLink RJ0 492 yJ0_isLatin1_aae02 ∈ lw_good := in_good (List.mem_of_getElem? (i := 478) (by decide +kernel)) rfl
theorem ls_J0_495 : Cond.methodLink RJ0 495 yJ1_charAt_3b067 ∈ lw_good := in_good (List.mem_of_getElem? (i := 482) (by decide +kernel)) rfl
theorem ls_J0_1059 : Cond.methodLink RJ0 1059 yJ3_checkIndex_8e157 ∈ lw_good := in_good (List.mem_of_getElem? (i := 490) (by decide +kernel)) rfl
theorem ls_J1_9 : Cond.methodLink RJ1 9 yJ0_checkIndex_df160 ∈ lw_good := in_good (List.mem_of_getElem? (i := 485) (by decide +kernel)) rfl
theorem fl_J0_9 : Cond.fieldLink RJ0 9 "java/lang/String" "value" "[B" ∈ lw_good := in_good (List.mem_of_getElem? (i := 1505) (by decide +kernel)) rfl
theorem fl_J0_15 : Cond.fieldLink RJ0 15 "java/lang/String" "coder" "B" ∈ lw_good := in_good (List.mem_of_getElem? (i := 1506) (by decide +kernel)) rfl
theorem fl_J0_38 : Cond.fieldLink RJ0 38 "java/lang/String" "COMPACT_STRINGS" "Z" ∈ lw_good := in_good (List.mem_of_getElem? (i := 472) (by decide +kernel)) rfl
theorem fl_J0_1053 : Cond.fieldLink RJ0 1053 "jdk/internal/util/Preconditions" "SIOOBE_FORMATTER" "Ljava/util/function/BiFunction;" ∈ lw_good := in_good (List.mem_of_getElem? (i := 488) (by decide +kernel)) rfl
section JDK
variable {X : XT} {G : GT} {own : String} {cc bytes : ByteArray} {v : VT} {pc maxL np : Nat} {L : List (Option AV)} {S S0 As : List AV} {x j : Int} {index i : Nat} {y : MethodName} {ret : Option FieldType} {fr lo fr0 lo0 : Nat}
theorem N.callTp (C : Cx X G own cc) (hX : xR X = R0 fr0 lo0) (hM : MP G y bytes maxL ret fr lo (sr i :: As) v x) (hy : YF y bytes maxL ret np) (hV : Cond.instanceMethod y ∈ lw_good ∧ Cond.selects y.cls y y ∈ lw_good) (hl : Cond.methodLink own index y ∈ lw_good)
    (hnp : As.length = np) (hq : "java/lang/String" = y.cls) (hi : i < 11) (hR : fr + 1 ≤ fr0 ∧ 8 + (maxL + 11) + lo ≤ lo0)
    (hcat : (S.map catA).sum ≤ 8) (hd : decode cc pc = .ok (.invokevirtual index, 3)) (hst : S0 = As.reverse ++ sr i :: S)
    (kk : E X G 0 0 1000 v (pc + 3) L (vi x :: S)) : E X G 0 0 1000 v pc L S0 :=
  E.callT C hX hM hy hV hl hnp hq hi hR ⟨Nat.le_refl _, Nat.le_refl _⟩ hcat hd hst (fun r n' v' h => by
    obtain ⟨rfl, z, rfl, rfl, rfl⟩ := h
    exact kk)
theorem N.yret {ty : FieldType} {post : Int → VT → Prop} (C : Cx X G own cc) (hR : RtN X G fr lo (some ty) (fun r v' => ∃ x, r = some (vi x) ∧ post x v')) (hn : narrow ty (.int (Int32.ofInt x)) = .int (Int32.ofInt x)) (hd : decode cc pc = .ok (.ireturn, 1)) (hΦ : inv 1000 v → post x v) : E X G 0 0 1000 v pc L [vi x] :=
  E.yret (rm := R0 fr lo) C hR hn hd (fun h1 => ⟨rfl, x, rfl, hΦ h1⟩)
theorem str_rng (hi : i < 11) (h0 : 0 ≤ j) (hj : j < ((strL.getD i 0 : Nat) : Int)) : 97 ≤ strS i j ∧ strS i j ≤ 122 := by
  have h : ∀ i : Fin 11, ∀ k : Fin 6, k.val < strL.getD i.val 0 → 97 ≤ strS i.val (k.val : Int) ∧ strS i.val (k.val : Int) ≤ 122 := by decide +kernel
  have hb : strL.getD i 0 ≤ 6 := (by decide : ∀ i : Nat, i < 11 → strL.getD i 0 ≤ 6) i hi
  have h2 := h ⟨i, hi⟩ ⟨j.toNat, by omega⟩ (by show j.toNat < strL.getD i 0; omega)
  simp only [Int.toNat_of_nonneg h0] at h2
  exact h2
theorem jand_255 (h : 0 ≤ x ∧ x < 128) : jand x 255 = x := by
  have key : ∀ k : Fin 128, jand (k.val : Int) 255 = (k.val : Int) := by decide +kernel
  have h2 := key ⟨x.toNat, by omega⟩
  simp only [Int.toNat_of_nonneg h.1] at h2
  exact h2
theorem jshr_0 (h : 0 ≤ x ∧ x < 128) : jshr x 0 = x := by
  have key : ∀ k : Fin 128, jshr (k.val : Int) 0 = (k.val : Int) := by decide +kernel
  have h2 := key ⟨x.toNat, by omega⟩
  simp only [Int.toNat_of_nonneg h.1] at h2
  exact h2
theorem nar_byte0 : narrow .byte (.int (Int32.ofInt 0)) = .int (Int32.ofInt 0) := by
  show Value.int _ = Value.int _
  congr 1
end JDK

theorem ok_J0_coder (G : GT) (i : Nat) (hi : i < 11) (v : VT) : MP G yJ0_coder_7d493 cJ0_coder_7d493 1 (some .byte) 0 0 [sr i] v 0 := by
  refine MN.of pn_J0_coder_7d493 [some (sr i)] 0 rfl rfl (fun X C hX hn hR => ?_)
  refine E.gtZ C fl_J0_38 dJ0_coder_7d493_0 ?_
  refine E.if_eq C dJ0_coder_7d493_3 (tgt := 13) (by decide) (fun h => absurd h (by decide)) (fun _ => ?_)
  refine E.aload_n C dJ0_coder_7d493_6 rfl rfl ?_
  refine E.gtCod C fl_J0_15 hi dJ0_coder_7d493_7 ?_
  refine E.goto C dJ0_coder_7d493_10 (tgt := 14) (by decide) ?_
  exact N.yret C hR nar_byte0 dJ0_coder_7d493_14 (fun _ => ⟨rfl, rfl⟩)

theorem ok_J0_isLatin1 (G : GT) (i : Nat) (hi : i < 11) (v : VT) : MP G yJ0_isLatin1_aae02 cJ0_isLatin1_aae02 1 (some .boolean) 0 0 [sr i] v 1 := by
  refine MN.of pn_J0_isLatin1_aae02 [some (sr i)] 0 rfl rfl (fun X C hX hn hR => ?_)
  refine E.gtZ C fl_J0_38 dJ0_isLatin1_aae02_0 ?_
  refine E.if_eq C dJ0_isLatin1_aae02_3 (tgt := 17) (by decide) (fun h => absurd h (by decide)) (fun _ => ?_)
  refine E.aload_n C dJ0_isLatin1_aae02_6 rfl rfl ?_
  refine E.gtCod C fl_J0_15 hi dJ0_isLatin1_aae02_7 ?_
  refine E.if_ne C dJ0_isLatin1_aae02_10 (tgt := 17) (by decide) (fun h => absurd rfl h) (fun _ => ?_)
  refine E.iconst C dJ0_isLatin1_aae02_13 (by decide) ?_
  refine E.goto C dJ0_isLatin1_aae02_14 (tgt := 18) (by decide) ?_
  exact N.zret C hR dJ0_isLatin1_aae02_18 (by omega) (fun _ => ⟨rfl, rfl⟩)

theorem ok_J0_length (G : GT) (i : Nat) (hi : i < 11) (v : VT) : MP G yJ0_length_8abf5 cJ0_length_8abf5 1 (some .int) 1 20 [sr i] v ((strL.getD i 0 : Nat) : Int) := by
  refine MN.of pn_J0_length_8abf5 [some (sr i)] 0 rfl rfl (fun X C hX hn hR => ?_)
  have hb : strL.getD i 0 ≤ 6 := (by decide : ∀ i : Nat, i < 11 → strL.getD i 0 ≤ 6) i hi
  refine E.aload_n C dJ0_length_8abf5_0 rfl rfl ?_
  refine E.gtVal C fl_J0_9 hi dJ0_length_8abf5_1 ?_
  refine E.gtLen C hi rfl dJ0_length_8abf5_4 ?_
  refine E.aload_n C dJ0_length_8abf5_5 rfl rfl ?_
  refine N.callTp C hX (ok_J0_coder G i hi v) yf_J0_coder_7d493 yv_J0_coder_7d493 ls_J0_335 rfl rfl hi (by decide) (Nat.le_of_ble_eq_true rfl) dJ0_length_8abf5_6 rfl ?_
  refine E.ishr C dJ0_length_8abf5_9 ?_
  rw [jshr_0 (by omega)]
  exact N.iret C hR dJ0_length_8abf5_10 (fun _ _ => ⟨rfl, rfl⟩)

theorem ok_J3_checkIndex (G : GT) (a b : Int) (w : Value) (v : VT) (ha : in32 a) (hb : in32 b) (hab : 0 ≤ a ∧ a < b) (hw : w.category = 1) : MV G yJ3_checkIndex_8e157 cJ3_checkIndex_8e157 3 (some .int) (R0 0 0) [conc G (vi a), conc G (vi b), w] 1000 v (fun r n' v' => n' = 1000 ∧ r = some (vi a) ∧ v' = v) := by
  refine MV.of pn_J3_checkIndex_8e157 [some (vi a), some (vi b)] ?_ ?_ ?_ (fun X C hX hn hR => ?_)
  · intro z hz
    rcases List.mem_cons.mp hz with h | h
    · cases h; exact ha
    · rcases List.mem_cons.mp h with h | h
      · cases h; exact hb
      · cases h
  · intro q hq
    show q ∈ (0, conc G (vi a)) :: (1, conc G (vi b)) :: _
    rcases List.mem_cons.mp hq with h | h
    · exact List.mem_cons.mpr (Or.inl h)
    · rcases List.mem_cons.mp h with h | h
      · exact List.mem_cons_of_mem _ (List.mem_cons.mpr (Or.inl h))
      · cases h
  · have : lg_sl [conc G (vi a), conc G (vi b), w] = [.val (conc G (vi a)), .val (conc G (vi b)), .val w] := by
      simp only [lg_sl, List.flatMap_cons, List.flatMap_nil, hw]
      rfl
    rw [this]
    exact Nat.le_of_ble_eq_true rfl
  · refine E.iload_n C dJ3_checkIndex_8e157_0 rfl rfl ?_
    refine E.if_lt C dJ3_checkIndex_8e157_1 (tgt := 9) (by decide) (fun h => absurd h (by omega)) (fun _ => ?_)
    refine E.iload_n C dJ3_checkIndex_8e157_4 rfl rfl ?_
    refine E.iload_n C dJ3_checkIndex_8e157_5 rfl rfl ?_
    refine E.icmp_lt C dJ3_checkIndex_8e157_6 (tgt := 16) (by decide) (fun _ => ?_) (fun h => absurd hab.2 h)
    refine E.iload_n C dJ3_checkIndex_8e157_16 rfl rfl ?_
    exact E.iret (rm := R0 0 0) C hR dJ3_checkIndex_8e157_17 (fun h1 h2 => ⟨rfl, rfl, rfl⟩)

theorem ok_J0_checkIndex (G : GT) (a b : Int) (v : VT) (hab : 0 ≤ a ∧ a < b) : MNv G yJ0_checkIndex_df160 cJ0_checkIndex_df160 2 none 1 22 [vi a, vi b] v (fun w => w = v) := by
  refine MN.of pn_J0_checkIndex_df160 [some (vi a), some (vi b)] 0 rfl rfl (fun X C hX hn hR => ?_)
  refine E.loc (fun hloc => ?_)
  have hin_0 : in32 a := hloc _ (List.mem_of_getElem? (i := 0) rfl)
  have hin_1 : in32 b := hloc _ (List.mem_of_getElem? (i := 1) rfl)
  refine E.iload_n C dJ0_checkIndex_df160_0 rfl rfl ?_
  refine E.iload_n C dJ0_checkIndex_df160_1 rfl rfl ?_
  refine E.fmt (rm := R0 0 0) C hX (fun w hw => ok_J3_checkIndex G a b w v hin_0 hin_1 hab hw) yf_J3_checkIndex_8e157 yv_J3_checkIndex_8e157 ls_J0_1059 fl_J0_1053 (by decide) (by decide) dJ0_checkIndex_df160_2 dJ0_checkIndex_df160_5 (fun r n' v' h => ?_)
  obtain ⟨rfl, rfl, rfl⟩ := h
  refine E.popI C dJ0_checkIndex_df160_8 ?_
  exact N.vret C hR dJ0_checkIndex_df160_9 (fun _ => rfl)

theorem ok_J1_charAt (G : GT) (i : Nat) (j : Int) (v : VT) (hi : i < 11) (h0 : 0 ≤ j) (hj : j < ((strL.getD i 0 : Nat) : Int)) : MP G yJ1_charAt_3b067 cJ1_charAt_3b067 2 (some .char) 2 43 [sb i, vi j] v (strS i j) := by
  refine MN.of pn_J1_charAt_3b067 [some (sb i), some (vi j)] 0 rfl rfl (fun X C hX hn hR => ?_)
  have hr := str_rng hi h0 hj
  refine E.iload_n C dJ1_charAt_3b067_0 rfl rfl ?_
  refine E.aload_n C dJ1_charAt_3b067_1 rfl rfl ?_
  refine E.gtLen C hi rfl dJ1_charAt_3b067_2 ?_
  refine N.callSv C hX (ok_J0_checkIndex G j _ v ⟨h0, hj⟩) yf_J0_checkIndex_df160 yv_J0_checkIndex_df160 ml_J1_9 rfl (by decide) (Nat.le_of_ble_eq_true rfl) dJ1_charAt_3b067_3 rfl (fun v' h => ?_)
  subst h
  refine E.aload_n C dJ1_charAt_3b067_6 rfl rfl ?_
  refine E.iload_n C dJ1_charAt_3b067_7 rfl rfl ?_
  refine E.gtByt C hi h0 hj dJ1_charAt_3b067_8 ?_
  refine E.sipush C dJ1_charAt_3b067_9 (by decide) ?_
  refine E.iand C dJ1_charAt_3b067_12 ?_
  rw [jand_255 (by omega)]
  refine E.i2c C (by omega) dJ1_charAt_3b067_13 ?_
  exact N.yret C hR (nar_char (by omega)) dJ1_charAt_3b067_14 (fun _ => ⟨rfl, rfl⟩)

theorem ok_J0_charAt (G : GT) (i : Nat) (j : Int) (v : VT) (hi : i < 11) (h0 : 0 ≤ j) (hj : j < ((strL.getD i 0 : Nat) : Int)) : MP G yJ0_charAt_5068e cJ0_charAt_5068e 2 (some .char) 3 64 [sr i, vi j] v (strS i j) := by
  refine MN.of pn_J0_charAt_5068e [some (sr i), some (vi j)] 0 rfl rfl (fun X C hX hn hR => ?_)
  have hr := str_rng hi h0 hj
  refine E.aload_n C dJ0_charAt_5068e_0 rfl rfl ?_
  refine N.callTp C hX (ok_J0_isLatin1 G i hi v) yf_J0_isLatin1_aae02 yv_J0_isLatin1_aae02 ls_J0_492 rfl rfl hi (by decide) (Nat.le_of_ble_eq_true rfl) dJ0_charAt_5068e_1 rfl ?_
  refine E.if_eq C dJ0_charAt_5068e_4 (tgt := 16) (by decide) (fun h => absurd h (by decide)) (fun _ => ?_)
  refine E.aload_n C dJ0_charAt_5068e_7 rfl rfl ?_
  refine E.gtVal C fl_J0_9 hi dJ0_charAt_5068e_8 ?_
  refine E.iload_n C dJ0_charAt_5068e_11 rfl rfl ?_
  refine N.callSp C hX (ok_J1_charAt G i j v hi h0 hj) yf_J1_charAt_3b067 yv_J1_charAt_3b067 ml_J0_495 rfl (by decide) (Nat.le_of_ble_eq_true rfl) dJ0_charAt_5068e_12 rfl ?_
  exact N.yret C hR (nar_char (by omega)) dJ0_charAt_5068e_15 (fun _ => ⟨rfl, rfl⟩)

