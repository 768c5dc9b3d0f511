-- the law: its loop
section LAWL
variable {X : XT} {G : GT} {v : VT} {i : Int} {Ln : Nat} {sc : Nat → Int32}
set_option maxHeartbeats 4000000 in
theorem law_loop (C : Cx X G RL cL_law) (hw : LW X G Ln sc) (hend : ∀ (u : VT) (j : Int), E X G 137 3791 1000 u 1514 [some (vr 0), some (vr 1), some (vr 119), some (vi j)] []) : ∀ (k : Nat) (v : VT) (i : Int), ((Ln : Int) + 5 - i).toNat = k → (0 ≤ i ∧ i ≤ (Ln : Int) + 5) → INV v → E X G 137 3791 1000 v 18 [some (vr 0), some (vr 1), some (vr 119), some (vi i)] [] := by
  have h25 := hw.2.2.2.1
  have h4 := hw.2.2.2.2.2
  intro k
  induction k using Nat.strongRecOn with
  | ind k ih =>
    intro v i hk hi hI
    have kk : i + 5 ≤ (Ln : Int) → ∀ u, INV u → E X G 137 3791 1000 u 1508 [some (vr 0), some (vr 1), some (vr 119), some (vi i)] [] := fun h5 u hJ => by
      refine E.iinc C dL_law_1508 rfl (by rw [h4]; decide) rfl (by omega) ?_
      refine E.lset (L' := [some (vr 0), some (vr 1), some (vr 119), some (vi (i + 5))]) rfl ?_
      refine E.goto C dL_law_1511 (tgt := 18) (by decide) ?_
      exact ih _ (by omega) u (i + 5) rfl (by omega) hJ
    refine E.iload_n C dL_law_18 rfl rfl ?_
    refine E.aload_n C dL_law_19 rfl rfl ?_
    refine E.slen C hw dL_law_20 ?_
    refine E.iconst C dL_law_21 (by decide) ?_
    refine E.isub C dL_law_22 (by omega) ?_
    refine E.icmp_gt C dL_law_23 (tgt := 1514) (by decide) (fun _ => hend v i) (fun h23 => ?_)
    have hi5 : 0 ≤ i ∧ i + 5 ≤ (Ln : Int) := by omega
    have kk := kk hi5.2
    refine E.aload_n C dL_law_26 rfl rfl ?_
    refine E.iload_n C dL_law_27 rfl rfl ?_
    refine E.sld C hw dL_law_28 (by omega) ?_
    refine E.bipush C dL_law_29 (by decide) ?_
    refine E.iand C dL_law_31 ?_
    generalize jand (scI sc i) 63 = z
    refine E.table C dL_law_32 (tg := fun j => if j = 0 then 204 else if j = 1 then 257 else if j = 2 then 280 else if j = 3 then 293 else if j = 4 then 306 else if j = 5 then 339 else if j = 6 then 372 else if j = 7 then 395 else if j = 8 then 438 else if j = 9 then 471 else if j = 10 then 504 else if j = 11 then 537 else if j = 12 then 560 else if j = 13 then 593 else if j = 14 then 616 else if j = 15 then 639 else if j = 16 then 652 else if j = 17 then 691 else if j = 18 then 760 else if j = 19 then 819 else if j = 20 then 852 else if j = 21 then 921 else if j = 22 then 990 else if j = 23 then 1023 else if j = 24 then 1092 else if j = 25 then 1105 else if j = 26 then 1118 else if j = 27 then 1152 else if j = 28 then 1175 else if j = 29 then 1198 else if j = 30 then 1221 else if j = 31 then 1244 else if j = 32 then 1287 else if j = 33 then 1310 else if j = 34 then 1333 else if j = 35 then 1376 else if j = 36 then 1419 else if j = 37 then 1472 else if j = 38 then 1485 else 0) (tgt := 1508) (fun j h0 h1 => ?_) (by decide) (fun h0 h1 => ?_) (fun h => ?_)
    · rcases (show j = 0 ∨ j = 1 ∨ j = 2 ∨ j = 3 ∨ j = 4 ∨ j = 5 ∨ j = 6 ∨ j = 7 ∨ j = 8 ∨ j = 9 ∨ j = 10 ∨ j = 11 ∨ j = 12 ∨ j = 13 ∨ j = 14 ∨ j = 15 ∨ j = 16 ∨ j = 17 ∨ j = 18 ∨ j = 19 ∨ j = 20 ∨ j = 21 ∨ j = 22 ∨ j = 23 ∨ j = 24 ∨ j = 25 ∨ j = 26 ∨ j = 27 ∨ j = 28 ∨ j = 29 ∨ j = 30 ∨ j = 31 ∨ j = 32 ∨ j = 33 ∨ j = 34 ∨ j = 35 ∨ j = 36 ∨ j = 37 ∨ j = 38 by omega) with rfl | rfl | rfl | rfl | rfl | rfl | rfl | rfl | rfl | rfl | rfl | rfl | rfl | rfl | rfl | rfl | rfl | rfl | rfl | rfl | rfl | rfl | rfl | rfl | rfl | rfl | rfl | rfl | rfl | rfl | rfl | rfl | rfl | rfl | rfl | rfl | rfl | rfl | rfl <;> exact ⟨_, rfl, by decide⟩
    · rcases (show z = 0 ∨ z = 1 ∨ z = 2 ∨ z = 3 ∨ z = 4 ∨ z = 5 ∨ z = 6 ∨ z = 7 ∨ z = 8 ∨ z = 9 ∨ z = 10 ∨ z = 11 ∨ z = 12 ∨ z = 13 ∨ z = 14 ∨ z = 15 ∨ z = 16 ∨ z = 17 ∨ z = 18 ∨ z = 19 ∨ z = 20 ∨ z = 21 ∨ z = 22 ∨ z = 23 ∨ z = 24 ∨ z = 25 ∨ z = 26 ∨ z = 27 ∨ z = 28 ∨ z = 29 ∨ z = 30 ∨ z = 31 ∨ z = 32 ∨ z = 33 ∨ z = 34 ∨ z = 35 ∨ z = 36 ∨ z = 37 ∨ z = 38 by omega) with rfl | rfl | rfl | rfl | rfl | rfl | rfl | rfl | rfl | rfl | rfl | rfl | rfl | rfl | rfl | rfl | rfl | rfl | rfl | rfl | rfl | rfl | rfl | rfl | rfl | rfl | rfl | rfl | rfl | rfl | rfl | rfl | rfl | rfl | rfl | rfl | rfl | rfl | rfl
      · exact E.pceq (pc' := 204) (by decide) (lc_0 C hw hI hi5 kk)
      · exact E.pceq (pc' := 257) (by decide) (lc_1 C hw hI hi5 kk)
      · exact E.pceq (pc' := 280) (by decide) (lc_2 C hw hI hi5 kk)
      · exact E.pceq (pc' := 293) (by decide) (lc_3 C hw hI hi5 kk)
      · exact E.pceq (pc' := 306) (by decide) (lc_4 C hw hI hi5 kk)
      · exact E.pceq (pc' := 339) (by decide) (lc_5 C hw hI hi5 kk)
      · exact E.pceq (pc' := 372) (by decide) (lc_6 C hw hI hi5 kk)
      · exact E.pceq (pc' := 395) (by decide) (lc_7 C hw hI hi5 kk)
      · exact E.pceq (pc' := 438) (by decide) (lc_8 C hw hI hi5 kk)
      · exact E.pceq (pc' := 471) (by decide) (lc_9 C hw hI hi5 kk)
      · exact E.pceq (pc' := 504) (by decide) (lc_10 C hw hI hi5 kk)
      · exact E.pceq (pc' := 537) (by decide) (lc_11 C hw hI hi5 kk)
      · exact E.pceq (pc' := 560) (by decide) (lc_12 C hw hI hi5 kk)
      · exact E.pceq (pc' := 593) (by decide) (lc_13 C hw hI hi5 kk)
      · exact E.pceq (pc' := 616) (by decide) (lc_14 C hw hI hi5 kk)
      · exact E.pceq (pc' := 639) (by decide) (lc_15 C hw hI hi5 kk)
      · exact E.pceq (pc' := 652) (by decide) (lc_16 C hw hI hi5 kk)
      · exact E.pceq (pc' := 691) (by decide) (lc_17 C hw hI hi5 kk)
      · exact E.pceq (pc' := 760) (by decide) (lc_18 C hw hI hi5 kk)
      · exact E.pceq (pc' := 819) (by decide) (lc_19 C hw hI hi5 kk)
      · exact E.pceq (pc' := 852) (by decide) (lc_20 C hw hI hi5 kk)
      · exact E.pceq (pc' := 921) (by decide) (lc_21 C hw hI hi5 kk)
      · exact E.pceq (pc' := 990) (by decide) (lc_22 C hw hI hi5 kk)
      · exact E.pceq (pc' := 1023) (by decide) (lc_23 C hw hI hi5 kk)
      · exact E.pceq (pc' := 1092) (by decide) (lc_24 C hw hI hi5 kk)
      · exact E.pceq (pc' := 1105) (by decide) (lc_25 C hw hI hi5 kk)
      · exact E.pceq (pc' := 1118) (by decide) (lc_26 C hw hI hi5 kk)
      · exact E.pceq (pc' := 1152) (by decide) (lc_27 C hw hI hi5 kk)
      · exact E.pceq (pc' := 1175) (by decide) (lc_28 C hw hI hi5 kk)
      · exact E.pceq (pc' := 1198) (by decide) (lc_29 C hw hI hi5 kk)
      · exact E.pceq (pc' := 1221) (by decide) (lc_30 C hw hI hi5 kk)
      · exact E.pceq (pc' := 1244) (by decide) (lc_31 C hw hI hi5 kk)
      · exact E.pceq (pc' := 1287) (by decide) (lc_32 C hw hI hi5 kk)
      · exact E.pceq (pc' := 1310) (by decide) (lc_33 C hw hI hi5 kk)
      · exact E.pceq (pc' := 1333) (by decide) (lc_34 C hw hI hi5 kk)
      · exact E.pceq (pc' := 1376) (by decide) (lc_35 C hw hI hi5 kk)
      · exact E.pceq (pc' := 1419) (by decide) (lc_36 C hw hI hi5 kk)
      · exact E.pceq (pc' := 1472) (by decide) (lc_37 C hw hI hi5 kk)
      · exact E.pceq (pc' := 1485) (by decide) (lc_38 C hw hI hi5 kk)
    · exact kk v hI
end LAWL
