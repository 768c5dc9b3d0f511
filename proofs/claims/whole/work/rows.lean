section
-- ===== PART A: goes FIRST, ahead of the names: the tables' words, and 'selects' of the private methods out of them =====
/-- a private method of a class that the tables say can be made, by its rows of tables_1 -/
def lw_okq (q : MethodName × Nat) : Prop := (q.1.cls ≠ "java/lang/invoke/MethodHandle" ∧ q.1.cls ≠ "java/lang/invoke/VarHandle") ∧ Cond.instantiable q.1.cls q.2 ∈ tables_1 ∧ Cond.privateMethod q.1 ∈ tables_1 ∧ Cond.instanceMethod q.1 ∈ tables_1
theorem lw_p0 : lw_okq (⟨"HandedDown$Reader", "nextToken", "()V"⟩, 12) := ⟨⟨by decide +kernel, by decide +kernel⟩, List.mem_of_getElem? (i := 166) (by decide +kernel), List.mem_of_getElem? (i := 365) (by decide +kernel), List.mem_of_getElem? (i := 366) (by decide +kernel)⟩
theorem lw_p1 : lw_okq (⟨"HandedDown$Reader", "takeLine", "()Z"⟩, 12) := ⟨⟨by decide +kernel, by decide +kernel⟩, List.mem_of_getElem? (i := 166) (by decide +kernel), List.mem_of_getElem? (i := 379) (by decide +kernel), List.mem_of_getElem? (i := 380) (by decide +kernel)⟩
theorem lw_p2 : lw_okq (⟨"HandedDown$Reader", "refuse", "(I)Z"⟩, 12) := ⟨⟨by decide +kernel, by decide +kernel⟩, List.mem_of_getElem? (i := 166) (by decide +kernel), List.mem_of_getElem? (i := 383) (by decide +kernel), List.mem_of_getElem? (i := 384) (by decide +kernel)⟩
theorem lw_p3 : lw_okq (⟨"HandedDown$Reader", "isNamed", "(Ljava/lang/String;)Z"⟩, 12) := ⟨⟨by decide +kernel, by decide +kernel⟩, List.mem_of_getElem? (i := 166) (by decide +kernel), List.mem_of_getElem? (i := 388) (by decide +kernel), List.mem_of_getElem? (i := 389) (by decide +kernel)⟩
theorem lw_p4 : lw_okq (⟨"HandedDown$Reader", "takeSlack", "()Z"⟩, 12) := ⟨⟨by decide +kernel, by decide +kernel⟩, List.mem_of_getElem? (i := 166) (by decide +kernel), List.mem_of_getElem? (i := 440) (by decide +kernel), List.mem_of_getElem? (i := 441) (by decide +kernel)⟩
theorem lw_p5 : lw_okq (⟨"HandedDown$Reader", "takeNumber", "(II)Z"⟩, 12) := ⟨⟨by decide +kernel, by decide +kernel⟩, List.mem_of_getElem? (i := 166) (by decide +kernel), List.mem_of_getElem? (i := 444) (by decide +kernel), List.mem_of_getElem? (i := 445) (by decide +kernel)⟩
theorem lw_p6 : lw_okq (⟨"HandedDown$Reader", "takeStop", "()Z"⟩, 12) := ⟨⟨by decide +kernel, by decide +kernel⟩, List.mem_of_getElem? (i := 166) (by decide +kernel), List.mem_of_getElem? (i := 449) (by decide +kernel), List.mem_of_getElem? (i := 450) (by decide +kernel)⟩
theorem lw_p7 : lw_okq (⟨"HandedDown$Reader", "takeChild", "()Z"⟩, 12) := ⟨⟨by decide +kernel, by decide +kernel⟩, List.mem_of_getElem? (i := 166) (by decide +kernel), List.mem_of_getElem? (i := 454) (by decide +kernel), List.mem_of_getElem? (i := 455) (by decide +kernel)⟩
theorem lw_p8 : lw_okq (⟨"HandedDown$Reader", "takeThing", "(I)Z"⟩, 12) := ⟨⟨by decide +kernel, by decide +kernel⟩, List.mem_of_getElem? (i := 166) (by decide +kernel), List.mem_of_getElem? (i := 463) (by decide +kernel), List.mem_of_getElem? (i := 464) (by decide +kernel)⟩
theorem lw_p9 : lw_okq (⟨"HandedDown$Reader", "kindNamed", "()I"⟩, 12) := ⟨⟨by decide +kernel, by decide +kernel⟩, List.mem_of_getElem? (i := 166) (by decide +kernel), List.mem_of_getElem? (i := 467) (by decide +kernel), List.mem_of_getElem? (i := 468) (by decide +kernel)⟩
theorem lw_p10 : lw_okq (⟨"HandedDown$Reader", "takeLiking", "()Z"⟩, 12) := ⟨⟨by decide +kernel, by decide +kernel⟩, List.mem_of_getElem? (i := 166) (by decide +kernel), List.mem_of_getElem? (i := 493) (by decide +kernel), List.mem_of_getElem? (i := 494) (by decide +kernel)⟩
theorem lw_p11 : lw_okq (⟨"HandedDown$Reader", "takeMark", "()Z"⟩, 12) := ⟨⟨by decide +kernel, by decide +kernel⟩, List.mem_of_getElem? (i := 166) (by decide +kernel), List.mem_of_getElem? (i := 502) (by decide +kernel), List.mem_of_getElem? (i := 503) (by decide +kernel)⟩
theorem lw_p12 : lw_okq (⟨"HandedDown$Deal", "seekFree", "(II)I"⟩, 8) := ⟨⟨by decide +kernel, by decide +kernel⟩, List.mem_of_getElem? (i := 215) (by decide +kernel), List.mem_of_getElem? (i := 625) (by decide +kernel), List.mem_of_getElem? (i := 626) (by decide +kernel)⟩
theorem lw_p13 : lw_okq (⟨"HandedDown$Deal", "passAlong", "(I)V"⟩, 8) := ⟨⟨by decide +kernel, by decide +kernel⟩, List.mem_of_getElem? (i := 215) (by decide +kernel), List.mem_of_getElem? (i := 629) (by decide +kernel), List.mem_of_getElem? (i := 630) (by decide +kernel)⟩
theorem lw_p14 : lw_okq (⟨"HandedDown$Deal", "give", "(II)V"⟩, 8) := ⟨⟨by decide +kernel, by decide +kernel⟩, List.mem_of_getElem? (i := 215) (by decide +kernel), List.mem_of_getElem? (i := 633) (by decide +kernel), List.mem_of_getElem? (i := 634) (by decide +kernel)⟩
theorem lw_p15 : lw_okq (⟨"HandedDown$Deal", "canHave", "(III)Z"⟩, 8) := ⟨⟨by decide +kernel, by decide +kernel⟩, List.mem_of_getElem? (i := 215) (by decide +kernel), List.mem_of_getElem? (i := 641) (by decide +kernel), List.mem_of_getElem? (i := 642) (by decide +kernel)⟩
def lw_privs_1 : List (MethodName × Nat) := [(⟨"HandedDown$Reader", "nextToken", "()V"⟩, 12), (⟨"HandedDown$Reader", "takeLine", "()Z"⟩, 12), (⟨"HandedDown$Reader", "refuse", "(I)Z"⟩, 12), (⟨"HandedDown$Reader", "isNamed", "(Ljava/lang/String;)Z"⟩, 12), (⟨"HandedDown$Reader", "takeSlack", "()Z"⟩, 12), (⟨"HandedDown$Reader", "takeNumber", "(II)Z"⟩, 12), (⟨"HandedDown$Reader", "takeStop", "()Z"⟩, 12), (⟨"HandedDown$Reader", "takeChild", "()Z"⟩, 12), (⟨"HandedDown$Reader", "takeThing", "(I)Z"⟩, 12), (⟨"HandedDown$Reader", "kindNamed", "()I"⟩, 12), (⟨"HandedDown$Reader", "takeLiking", "()Z"⟩, 12), (⟨"HandedDown$Reader", "takeMark", "()Z"⟩, 12), (⟨"HandedDown$Deal", "seekFree", "(II)I"⟩, 8), (⟨"HandedDown$Deal", "passAlong", "(I)V"⟩, 8), (⟨"HandedDown$Deal", "give", "(II)V"⟩, 8), (⟨"HandedDown$Deal", "canHave", "(III)Z"⟩, 8)]
theorem lw_r1 : ∀ q ∈ lw_privs_1, lw_okq q := List.forall_mem_cons.mpr ⟨lw_p0, List.forall_mem_cons.mpr ⟨lw_p1, List.forall_mem_cons.mpr ⟨lw_p2, List.forall_mem_cons.mpr ⟨lw_p3, List.forall_mem_cons.mpr ⟨lw_p4, List.forall_mem_cons.mpr ⟨lw_p5, List.forall_mem_cons.mpr ⟨lw_p6, List.forall_mem_cons.mpr ⟨lw_p7, List.forall_mem_cons.mpr ⟨lw_p8, List.forall_mem_cons.mpr ⟨lw_p9, List.forall_mem_cons.mpr ⟨lw_p10, List.forall_mem_cons.mpr ⟨lw_p11, List.forall_mem_cons.mpr ⟨lw_p12, List.forall_mem_cons.mpr ⟨lw_p13, List.forall_mem_cons.mpr ⟨lw_p14, List.forall_mem_cons.mpr ⟨lw_p15, fun _ h => absurd h List.not_mem_nil⟩⟩⟩⟩⟩⟩⟩⟩⟩⟩⟩⟩⟩⟩⟩⟩
theorem lw_p16 : lw_okq (⟨"HandedDown", "dressAll", "(LHandedDown$Village;I)I"⟩, 16) := ⟨⟨by decide +kernel, by decide +kernel⟩, List.mem_of_getElem? (i := 20) (by decide +kernel), List.mem_of_getElem? (i := 653) (by decide +kernel), List.mem_of_getElem? (i := 654) (by decide +kernel)⟩
theorem lw_p17 : lw_okq (⟨"HandedDown", "newAhead", "(IIZ)I"⟩, 16) := ⟨⟨by decide +kernel, by decide +kernel⟩, List.mem_of_getElem? (i := 20) (by decide +kernel), List.mem_of_getElem? (i := 707) (by decide +kernel), List.mem_of_getElem? (i := 708) (by decide +kernel)⟩
theorem lw_p18 : lw_okq (⟨"HandedDown", "startCuts", "(IIZ)V"⟩, 16) := ⟨⟨by decide +kernel, by decide +kernel⟩, List.mem_of_getElem? (i := 20) (by decide +kernel), List.mem_of_getElem? (i := 728) (by decide +kernel), List.mem_of_getElem? (i := 729) (by decide +kernel)⟩
theorem lw_p19 : lw_okq (⟨"HandedDown", "tryCuts", "(IIZ)V"⟩, 16) := ⟨⟨by decide +kernel, by decide +kernel⟩, List.mem_of_getElem? (i := 20) (by decide +kernel), List.mem_of_getElem? (i := 732) (by decide +kernel), List.mem_of_getElem? (i := 733) (by decide +kernel)⟩
theorem lw_p20 : lw_okq (⟨"HandedDown$Village", "bothWant", "(IIIII)Z"⟩, 7) := ⟨⟨by decide +kernel, by decide +kernel⟩, List.mem_of_getElem? (i := 44) (by decide +kernel), List.mem_of_getElem? (i := 768) (by decide +kernel), List.mem_of_getElem? (i := 769) (by decide +kernel)⟩
theorem lw_p21 : lw_okq (⟨"HandedDown$MarkRows", "endingsBehind", "(I)I"⟩, 5) := ⟨⟨by decide +kernel, by decide +kernel⟩, List.mem_of_getElem? (i := 248) (by decide +kernel), List.mem_of_getElem? (i := 813) (by decide +kernel), List.mem_of_getElem? (i := 814) (by decide +kernel)⟩
theorem lw_p22 : lw_okq (⟨"HandedDown$MarkRows", "canFollow", "(III)Z"⟩, 5) := ⟨⟨by decide +kernel, by decide +kernel⟩, List.mem_of_getElem? (i := 248) (by decide +kernel), List.mem_of_getElem? (i := 823) (by decide +kernel), List.mem_of_getElem? (i := 824) (by decide +kernel)⟩
theorem lw_p23 : lw_okq (⟨"HandedDown$MarkRows", "firstBehind", "(II)I"⟩, 5) := ⟨⟨by decide +kernel, by decide +kernel⟩, List.mem_of_getElem? (i := 248) (by decide +kernel), List.mem_of_getElem? (i := 835) (by decide +kernel), List.mem_of_getElem? (i := 836) (by decide +kernel)⟩
theorem lw_p24 : lw_okq (⟨"HandedDownModel", "firstDraft", "()V"⟩, 38) := ⟨⟨by decide +kernel, by decide +kernel⟩, List.mem_of_getElem? (i := 928) (by decide +kernel), List.mem_of_getElem? (i := 934) (by decide +kernel), List.mem_of_getElem? (i := 935) (by decide +kernel)⟩
theorem lw_p25 : lw_okq (⟨"HandedDownModel", "keepDraft", "()V"⟩, 38) := ⟨⟨by decide +kernel, by decide +kernel⟩, List.mem_of_getElem? (i := 928) (by decide +kernel), List.mem_of_getElem? (i := 938) (by decide +kernel), List.mem_of_getElem? (i := 939) (by decide +kernel)⟩
theorem lw_p26 : lw_okq (⟨"HandedDownModel", "next", "()V"⟩, 38) := ⟨⟨by decide +kernel, by decide +kernel⟩, List.mem_of_getElem? (i := 928) (by decide +kernel), List.mem_of_getElem? (i := 1073) (by decide +kernel), List.mem_of_getElem? (i := 1074) (by decide +kernel)⟩
theorem lw_p27 : lw_okq (⟨"HandedDownModel", "look", "(I)I"⟩, 38) := ⟨⟨by decide +kernel, by decide +kernel⟩, List.mem_of_getElem? (i := 928) (by decide +kernel), List.mem_of_getElem? (i := 1077) (by decide +kernel), List.mem_of_getElem? (i := 1078) (by decide +kernel)⟩
theorem lw_p28 : lw_okq (⟨"HandedDownModel", "needs", "(ZI)V"⟩, 38) := ⟨⟨by decide +kernel, by decide +kernel⟩, List.mem_of_getElem? (i := 928) (by decide +kernel), List.mem_of_getElem? (i := 1085) (by decide +kernel), List.mem_of_getElem? (i := 1086) (by decide +kernel)⟩
theorem lw_p29 : lw_okq (⟨"HandedDownModel", "readLine", "()V"⟩, 38) := ⟨⟨by decide +kernel, by decide +kernel⟩, List.mem_of_getElem? (i := 928) (by decide +kernel), List.mem_of_getElem? (i := 1089) (by decide +kernel), List.mem_of_getElem? (i := 1090) (by decide +kernel)⟩
theorem lw_p30 : lw_okq (⟨"HandedDownModel", "lineNow", "()I"⟩, 38) := ⟨⟨by decide +kernel, by decide +kernel⟩, List.mem_of_getElem? (i := 928) (by decide +kernel), List.mem_of_getElem? (i := 1093) (by decide +kernel), List.mem_of_getElem? (i := 1094) (by decide +kernel)⟩
theorem lw_p31 : lw_okq (⟨"HandedDownModel", "is", "(IIIII)Z"⟩, 38) := ⟨⟨by decide +kernel, by decide +kernel⟩, List.mem_of_getElem? (i := 928) (by decide +kernel), List.mem_of_getElem? (i := 1097) (by decide +kernel), List.mem_of_getElem? (i := 1098) (by decide +kernel)⟩
def lw_privs_2 : List (MethodName × Nat) := [(⟨"HandedDown", "dressAll", "(LHandedDown$Village;I)I"⟩, 16), (⟨"HandedDown", "newAhead", "(IIZ)I"⟩, 16), (⟨"HandedDown", "startCuts", "(IIZ)V"⟩, 16), (⟨"HandedDown", "tryCuts", "(IIZ)V"⟩, 16), (⟨"HandedDown$Village", "bothWant", "(IIIII)Z"⟩, 7), (⟨"HandedDown$MarkRows", "endingsBehind", "(I)I"⟩, 5), (⟨"HandedDown$MarkRows", "canFollow", "(III)Z"⟩, 5), (⟨"HandedDown$MarkRows", "firstBehind", "(II)I"⟩, 5), (⟨"HandedDownModel", "firstDraft", "()V"⟩, 38), (⟨"HandedDownModel", "keepDraft", "()V"⟩, 38), (⟨"HandedDownModel", "next", "()V"⟩, 38), (⟨"HandedDownModel", "look", "(I)I"⟩, 38), (⟨"HandedDownModel", "needs", "(ZI)V"⟩, 38), (⟨"HandedDownModel", "readLine", "()V"⟩, 38), (⟨"HandedDownModel", "lineNow", "()I"⟩, 38), (⟨"HandedDownModel", "is", "(IIIII)Z"⟩, 38)]
theorem lw_r2 : ∀ q ∈ lw_privs_2, lw_okq q := List.forall_mem_cons.mpr ⟨lw_p16, List.forall_mem_cons.mpr ⟨lw_p17, List.forall_mem_cons.mpr ⟨lw_p18, List.forall_mem_cons.mpr ⟨lw_p19, List.forall_mem_cons.mpr ⟨lw_p20, List.forall_mem_cons.mpr ⟨lw_p21, List.forall_mem_cons.mpr ⟨lw_p22, List.forall_mem_cons.mpr ⟨lw_p23, List.forall_mem_cons.mpr ⟨lw_p24, List.forall_mem_cons.mpr ⟨lw_p25, List.forall_mem_cons.mpr ⟨lw_p26, List.forall_mem_cons.mpr ⟨lw_p27, List.forall_mem_cons.mpr ⟨lw_p28, List.forall_mem_cons.mpr ⟨lw_p29, List.forall_mem_cons.mpr ⟨lw_p30, List.forall_mem_cons.mpr ⟨lw_p31, fun _ h => absurd h List.not_mem_nil⟩⟩⟩⟩⟩⟩⟩⟩⟩⟩⟩⟩⟩⟩⟩⟩
theorem lw_p32 : lw_okq (⟨"HandedDownModel", "ends", "(II)Z"⟩, 38) := ⟨⟨by decide +kernel, by decide +kernel⟩, List.mem_of_getElem? (i := 928) (by decide +kernel), List.mem_of_getElem? (i := 1101) (by decide +kernel), List.mem_of_getElem? (i := 1102) (by decide +kernel)⟩
theorem lw_p33 : lw_okq (⟨"HandedDownModel", "readLineOf", "(I)V"⟩, 38) := ⟨⟨by decide +kernel, by decide +kernel⟩, List.mem_of_getElem? (i := 928) (by decide +kernel), List.mem_of_getElem? (i := 1105) (by decide +kernel), List.mem_of_getElem? (i := 1106) (by decide +kernel)⟩
theorem lw_p34 : lw_okq (⟨"HandedDownModel", "readNumber", "(II)I"⟩, 38) := ⟨⟨by decide +kernel, by decide +kernel⟩, List.mem_of_getElem? (i := 928) (by decide +kernel), List.mem_of_getElem? (i := 1109) (by decide +kernel), List.mem_of_getElem? (i := 1110) (by decide +kernel)⟩
theorem lw_p35 : lw_okq (⟨"HandedDownModel", "readChild", "()V"⟩, 38) := ⟨⟨by decide +kernel, by decide +kernel⟩, List.mem_of_getElem? (i := 928) (by decide +kernel), List.mem_of_getElem? (i := 1113) (by decide +kernel), List.mem_of_getElem? (i := 1114) (by decide +kernel)⟩
theorem lw_p36 : lw_okq (⟨"HandedDownModel", "readLike", "()V"⟩, 38) := ⟨⟨by decide +kernel, by decide +kernel⟩, List.mem_of_getElem? (i := 928) (by decide +kernel), List.mem_of_getElem? (i := 1117) (by decide +kernel), List.mem_of_getElem? (i := 1118) (by decide +kernel)⟩
theorem lw_p37 : lw_okq (⟨"HandedDownModel", "readChildOf", "()I"⟩, 38) := ⟨⟨by decide +kernel, by decide +kernel⟩, List.mem_of_getElem? (i := 928) (by decide +kernel), List.mem_of_getElem? (i := 1121) (by decide +kernel), List.mem_of_getElem? (i := 1122) (by decide +kernel)⟩
theorem lw_p38 : lw_okq (⟨"HandedDownModel", "readThing", "(I)V"⟩, 38) := ⟨⟨by decide +kernel, by decide +kernel⟩, List.mem_of_getElem? (i := 928) (by decide +kernel), List.mem_of_getElem? (i := 1125) (by decide +kernel), List.mem_of_getElem? (i := 1126) (by decide +kernel)⟩
theorem lw_p39 : lw_okq (⟨"HandedDownModel", "kindNow", "()I"⟩, 38) := ⟨⟨by decide +kernel, by decide +kernel⟩, List.mem_of_getElem? (i := 928) (by decide +kernel), List.mem_of_getElem? (i := 1129) (by decide +kernel), List.mem_of_getElem? (i := 1130) (by decide +kernel)⟩
theorem lw_p40 : lw_okq (⟨"HandedDownModel", "isChild", "(I)Z"⟩, 38) := ⟨⟨by decide +kernel, by decide +kernel⟩, List.mem_of_getElem? (i := 928) (by decide +kernel), List.mem_of_getElem? (i := 1141) (by decide +kernel), List.mem_of_getElem? (i := 1142) (by decide +kernel)⟩
theorem lw_p41 : lw_okq (⟨"HandedDownModel", "worn", "(II)I"⟩, 38) := ⟨⟨by decide +kernel, by decide +kernel⟩, List.mem_of_getElem? (i := 928) (by decide +kernel), List.mem_of_getElem? (i := 1148) (by decide +kernel), List.mem_of_getElem? (i := 1149) (by decide +kernel)⟩
theorem lw_p42 : lw_okq (⟨"HandedDownModel", "isThing", "(I)Z"⟩, 38) := ⟨⟨by decide +kernel, by decide +kernel⟩, List.mem_of_getElem? (i := 928) (by decide +kernel), List.mem_of_getElem? (i := 1156) (by decide +kernel), List.mem_of_getElem? (i := 1157) (by decide +kernel)⟩
theorem lw_p43 : lw_okq (⟨"HandedDownModel", "of", "(II)I"⟩, 38) := ⟨⟨by decide +kernel, by decide +kernel⟩, List.mem_of_getElem? (i := 928) (by decide +kernel), List.mem_of_getElem? (i := 1161) (by decide +kernel), List.mem_of_getElem? (i := 1162) (by decide +kernel)⟩
theorem lw_p44 : lw_okq (⟨"HandedDownModel", "whoWears", "(I)I"⟩, 38) := ⟨⟨by decide +kernel, by decide +kernel⟩, List.mem_of_getElem? (i := 928) (by decide +kernel), List.mem_of_getElem? (i := 1165) (by decide +kernel), List.mem_of_getElem? (i := 1166) (by decide +kernel)⟩
theorem lw_p45 : lw_okq (⟨"HandedDownModel", "fitNow", "(II)I"⟩, 38) := ⟨⟨by decide +kernel, by decide +kernel⟩, List.mem_of_getElem? (i := 928) (by decide +kernel), List.mem_of_getElem? (i := 1183) (by decide +kernel), List.mem_of_getElem? (i := 1184) (by decide +kernel)⟩
theorem lw_p46 : lw_okq (⟨"HandedDownModel", "fitOf", "(III)I"⟩, 38) := ⟨⟨by decide +kernel, by decide +kernel⟩, List.mem_of_getElem? (i := 928) (by decide +kernel), List.mem_of_getElem? (i := 1187) (by decide +kernel), List.mem_of_getElem? (i := 1188) (by decide +kernel)⟩
theorem lw_p47 : lw_okq (⟨"HandedDownModel", "takesOff", "(II)V"⟩, 38) := ⟨⟨by decide +kernel, by decide +kernel⟩, List.mem_of_getElem? (i := 928) (by decide +kernel), List.mem_of_getElem? (i := 1196) (by decide +kernel), List.mem_of_getElem? (i := 1197) (by decide +kernel)⟩
def lw_privs_3 : List (MethodName × Nat) := [(⟨"HandedDownModel", "ends", "(II)Z"⟩, 38), (⟨"HandedDownModel", "readLineOf", "(I)V"⟩, 38), (⟨"HandedDownModel", "readNumber", "(II)I"⟩, 38), (⟨"HandedDownModel", "readChild", "()V"⟩, 38), (⟨"HandedDownModel", "readLike", "()V"⟩, 38), (⟨"HandedDownModel", "readChildOf", "()I"⟩, 38), (⟨"HandedDownModel", "readThing", "(I)V"⟩, 38), (⟨"HandedDownModel", "kindNow", "()I"⟩, 38), (⟨"HandedDownModel", "isChild", "(I)Z"⟩, 38), (⟨"HandedDownModel", "worn", "(II)I"⟩, 38), (⟨"HandedDownModel", "isThing", "(I)Z"⟩, 38), (⟨"HandedDownModel", "of", "(II)I"⟩, 38), (⟨"HandedDownModel", "whoWears", "(I)I"⟩, 38), (⟨"HandedDownModel", "fitNow", "(II)I"⟩, 38), (⟨"HandedDownModel", "fitOf", "(III)I"⟩, 38), (⟨"HandedDownModel", "takesOff", "(II)V"⟩, 38)]
theorem lw_r3 : ∀ q ∈ lw_privs_3, lw_okq q := List.forall_mem_cons.mpr ⟨lw_p32, List.forall_mem_cons.mpr ⟨lw_p33, List.forall_mem_cons.mpr ⟨lw_p34, List.forall_mem_cons.mpr ⟨lw_p35, List.forall_mem_cons.mpr ⟨lw_p36, List.forall_mem_cons.mpr ⟨lw_p37, List.forall_mem_cons.mpr ⟨lw_p38, List.forall_mem_cons.mpr ⟨lw_p39, List.forall_mem_cons.mpr ⟨lw_p40, List.forall_mem_cons.mpr ⟨lw_p41, List.forall_mem_cons.mpr ⟨lw_p42, List.forall_mem_cons.mpr ⟨lw_p43, List.forall_mem_cons.mpr ⟨lw_p44, List.forall_mem_cons.mpr ⟨lw_p45, List.forall_mem_cons.mpr ⟨lw_p46, List.forall_mem_cons.mpr ⟨lw_p47, fun _ h => absurd h List.not_mem_nil⟩⟩⟩⟩⟩⟩⟩⟩⟩⟩⟩⟩⟩⟩⟩⟩
theorem lw_p48 : lw_okq (⟨"HandedDownModel", "putsOn", "(II)V"⟩, 38) := ⟨⟨by decide +kernel, by decide +kernel⟩, List.mem_of_getElem? (i := 928) (by decide +kernel), List.mem_of_getElem? (i := 1200) (by decide +kernel), List.mem_of_getElem? (i := 1201) (by decide +kernel)⟩
theorem lw_p49 : lw_okq (⟨"HandedDownModel", "findDeal", "(I)I"⟩, 38) := ⟨⟨by decide +kernel, by decide +kernel⟩, List.mem_of_getElem? (i := 928) (by decide +kernel), List.mem_of_getElem? (i := 1222) (by decide +kernel), List.mem_of_getElem? (i := 1223) (by decide +kernel)⟩
theorem lw_p50 : lw_okq (⟨"HandedDownModel", "findCanHave", "(I)V"⟩, 38) := ⟨⟨by decide +kernel, by decide +kernel⟩, List.mem_of_getElem? (i := 928) (by decide +kernel), List.mem_of_getElem? (i := 1226) (by decide +kernel), List.mem_of_getElem? (i := 1227) (by decide +kernel)⟩
theorem lw_p51 : lw_okq (⟨"HandedDownModel", "findMost", "()I"⟩, 38) := ⟨⟨by decide +kernel, by decide +kernel⟩, List.mem_of_getElem? (i := 928) (by decide +kernel), List.mem_of_getElem? (i := 1230) (by decide +kernel), List.mem_of_getElem? (i := 1231) (by decide +kernel)⟩
theorem lw_p52 : lw_okq (⟨"HandedDownModel", "getsOne", "(II)Z"⟩, 38) := ⟨⟨by decide +kernel, by decide +kernel⟩, List.mem_of_getElem? (i := 928) (by decide +kernel), List.mem_of_getElem? (i := 1234) (by decide +kernel), List.mem_of_getElem? (i := 1235) (by decide +kernel)⟩
theorem lw_p53 : lw_okq (⟨"HandedDownModel", "givesOn", "(II)V"⟩, 38) := ⟨⟨by decide +kernel, by decide +kernel⟩, List.mem_of_getElem? (i := 928) (by decide +kernel), List.mem_of_getElem? (i := 1238) (by decide +kernel), List.mem_of_getElem? (i := 1239) (by decide +kernel)⟩
theorem lw_p54 : lw_okq (⟨"HandedDownModel", "canGet", "(III)Z"⟩, 38) := ⟨⟨by decide +kernel, by decide +kernel⟩, List.mem_of_getElem? (i := 928) (by decide +kernel), List.mem_of_getElem? (i := 1242) (by decide +kernel), List.mem_of_getElem? (i := 1243) (by decide +kernel)⟩
theorem lw_p55 : lw_okq (⟨"HandedDownModel", "keepsDeal", "()V"⟩, 38) := ⟨⟨by decide +kernel, by decide +kernel⟩, List.mem_of_getElem? (i := 928) (by decide +kernel), List.mem_of_getElem? (i := 1246) (by decide +kernel), List.mem_of_getElem? (i := 1247) (by decide +kernel)⟩
theorem lw_p56 : lw_okq (⟨"HandedDownModel", "asKept", "()V"⟩, 38) := ⟨⟨by decide +kernel, by decide +kernel⟩, List.mem_of_getElem? (i := 928) (by decide +kernel), List.mem_of_getElem? (i := 1250) (by decide +kernel), List.mem_of_getElem? (i := 1251) (by decide +kernel)⟩
theorem lw_p57 : lw_okq (⟨"HandedDownModel", "dresses", "(I)I"⟩, 38) := ⟨⟨by decide +kernel, by decide +kernel⟩, List.mem_of_getElem? (i := 928) (by decide +kernel), List.mem_of_getElem? (i := 1258) (by decide +kernel), List.mem_of_getElem? (i := 1259) (by decide +kernel)⟩
theorem lw_p58 : lw_okq (⟨"HandedDownModel", "isOut", "(I)Z"⟩, 38) := ⟨⟨by decide +kernel, by decide +kernel⟩, List.mem_of_getElem? (i := 928) (by decide +kernel), List.mem_of_getElem? (i := 1266) (by decide +kernel), List.mem_of_getElem? (i := 1267) (by decide +kernel)⟩
theorem lw_p59 : lw_okq (⟨"HandedDownModel", "winters", "()I"⟩, 38) := ⟨⟨by decide +kernel, by decide +kernel⟩, List.mem_of_getElem? (i := 928) (by decide +kernel), List.mem_of_getElem? (i := 1274) (by decide +kernel), List.mem_of_getElem? (i := 1275) (by decide +kernel)⟩
theorem lw_p60 : lw_okq (⟨"HandedDownModel", "springs", "(Z)I"⟩, 38) := ⟨⟨by decide +kernel, by decide +kernel⟩, List.mem_of_getElem? (i := 928) (by decide +kernel), List.mem_of_getElem? (i := 1282) (by decide +kernel), List.mem_of_getElem? (i := 1283) (by decide +kernel)⟩
theorem lw_p61 : lw_okq (⟨"HandedDownModel", "grows", "(IZ)V"⟩, 38) := ⟨⟨by decide +kernel, by decide +kernel⟩, List.mem_of_getElem? (i := 928) (by decide +kernel), List.mem_of_getElem? (i := 1286) (by decide +kernel), List.mem_of_getElem? (i := 1287) (by decide +kernel)⟩
theorem lw_p62 : lw_okq (⟨"HandedDownModel", "aheadBy", "(IIZ)I"⟩, 38) := ⟨⟨by decide +kernel, by decide +kernel⟩, List.mem_of_getElem? (i := 928) (by decide +kernel), List.mem_of_getElem? (i := 1297) (by decide +kernel), List.mem_of_getElem? (i := 1298) (by decide +kernel)⟩
theorem lw_p63 : lw_okq (⟨"HandedDownModel", "copies", "(II)V"⟩, 38) := ⟨⟨by decide +kernel, by decide +kernel⟩, List.mem_of_getElem? (i := 928) (by decide +kernel), List.mem_of_getElem? (i := 1301) (by decide +kernel), List.mem_of_getElem? (i := 1302) (by decide +kernel)⟩
def lw_privs_4 : List (MethodName × Nat) := [(⟨"HandedDownModel", "putsOn", "(II)V"⟩, 38), (⟨"HandedDownModel", "findDeal", "(I)I"⟩, 38), (⟨"HandedDownModel", "findCanHave", "(I)V"⟩, 38), (⟨"HandedDownModel", "findMost", "()I"⟩, 38), (⟨"HandedDownModel", "getsOne", "(II)Z"⟩, 38), (⟨"HandedDownModel", "givesOn", "(II)V"⟩, 38), (⟨"HandedDownModel", "canGet", "(III)Z"⟩, 38), (⟨"HandedDownModel", "keepsDeal", "()V"⟩, 38), (⟨"HandedDownModel", "asKept", "()V"⟩, 38), (⟨"HandedDownModel", "dresses", "(I)I"⟩, 38), (⟨"HandedDownModel", "isOut", "(I)Z"⟩, 38), (⟨"HandedDownModel", "winters", "()I"⟩, 38), (⟨"HandedDownModel", "springs", "(Z)I"⟩, 38), (⟨"HandedDownModel", "grows", "(IZ)V"⟩, 38), (⟨"HandedDownModel", "aheadBy", "(IIZ)I"⟩, 38), (⟨"HandedDownModel", "copies", "(II)V"⟩, 38)]
theorem lw_r4 : ∀ q ∈ lw_privs_4, lw_okq q := List.forall_mem_cons.mpr ⟨lw_p48, List.forall_mem_cons.mpr ⟨lw_p49, List.forall_mem_cons.mpr ⟨lw_p50, List.forall_mem_cons.mpr ⟨lw_p51, List.forall_mem_cons.mpr ⟨lw_p52, List.forall_mem_cons.mpr ⟨lw_p53, List.forall_mem_cons.mpr ⟨lw_p54, List.forall_mem_cons.mpr ⟨lw_p55, List.forall_mem_cons.mpr ⟨lw_p56, List.forall_mem_cons.mpr ⟨lw_p57, List.forall_mem_cons.mpr ⟨lw_p58, List.forall_mem_cons.mpr ⟨lw_p59, List.forall_mem_cons.mpr ⟨lw_p60, List.forall_mem_cons.mpr ⟨lw_p61, List.forall_mem_cons.mpr ⟨lw_p62, List.forall_mem_cons.mpr ⟨lw_p63, fun _ h => absurd h List.not_mem_nil⟩⟩⟩⟩⟩⟩⟩⟩⟩⟩⟩⟩⟩⟩⟩⟩
theorem lw_p64 : lw_okq (⟨"HandedDownModel", "findCut", "(IIZI)V"⟩, 38) := ⟨⟨by decide +kernel, by decide +kernel⟩, List.mem_of_getElem? (i := 928) (by decide +kernel), List.mem_of_getElem? (i := 1317) (by decide +kernel), List.mem_of_getElem? (i := 1318) (by decide +kernel)⟩
theorem lw_p65 : lw_okq (⟨"HandedDownModel", "sews", "(III)V"⟩, 38) := ⟨⟨by decide +kernel, by decide +kernel⟩, List.mem_of_getElem? (i := 928) (by decide +kernel), List.mem_of_getElem? (i := 1330) (by decide +kernel), List.mem_of_getElem? (i := 1331) (by decide +kernel)⟩
theorem lw_p66 : lw_okq (⟨"HandedDownModel", "firstSwap", "()I"⟩, 38) := ⟨⟨by decide +kernel, by decide +kernel⟩, List.mem_of_getElem? (i := 928) (by decide +kernel), List.mem_of_getElem? (i := 1343) (by decide +kernel), List.mem_of_getElem? (i := 1344) (by decide +kernel)⟩
theorem lw_p67 : lw_okq (⟨"HandedDownModel", "isSwap", "(III)Z"⟩, 38) := ⟨⟨by decide +kernel, by decide +kernel⟩, List.mem_of_getElem? (i := 928) (by decide +kernel), List.mem_of_getElem? (i := 1347) (by decide +kernel), List.mem_of_getElem? (i := 1348) (by decide +kernel)⟩
theorem lw_p68 : lw_okq (⟨"HandedDownModel", "likes", "(II)I"⟩, 38) := ⟨⟨by decide +kernel, by decide +kernel⟩, List.mem_of_getElem? (i := 928) (by decide +kernel), List.mem_of_getElem? (i := 1351) (by decide +kernel), List.mem_of_getElem? (i := 1352) (by decide +kernel)⟩
theorem lw_p69 : lw_okq (⟨"HandedDownModel", "findRows", "()V"⟩, 38) := ⟨⟨by decide +kernel, by decide +kernel⟩, List.mem_of_getElem? (i := 928) (by decide +kernel), List.mem_of_getElem? (i := 1376) (by decide +kernel), List.mem_of_getElem? (i := 1377) (by decide +kernel)⟩
theorem lw_p70 : lw_okq (⟨"HandedDownModel", "takesRow", "(I)V"⟩, 38) := ⟨⟨by decide +kernel, by decide +kernel⟩, List.mem_of_getElem? (i := 928) (by decide +kernel), List.mem_of_getElem? (i := 1380) (by decide +kernel), List.mem_of_getElem? (i := 1381) (by decide +kernel)⟩
theorem lw_p71 : lw_okq (⟨"HandedDownModel", "canMark", "(II)Z"⟩, 38) := ⟨⟨by decide +kernel, by decide +kernel⟩, List.mem_of_getElem? (i := 928) (by decide +kernel), List.mem_of_getElem? (i := 1384) (by decide +kernel), List.mem_of_getElem? (i := 1385) (by decide +kernel)⟩
theorem lw_p72 : lw_okq (⟨"HandedDownModel", "findLeft", "(II)V"⟩, 38) := ⟨⟨by decide +kernel, by decide +kernel⟩, List.mem_of_getElem? (i := 928) (by decide +kernel), List.mem_of_getElem? (i := 1396) (by decide +kernel), List.mem_of_getElem? (i := 1397) (by decide +kernel)⟩
def lw_privs_5 : List (MethodName × Nat) := [(⟨"HandedDownModel", "findCut", "(IIZI)V"⟩, 38), (⟨"HandedDownModel", "sews", "(III)V"⟩, 38), (⟨"HandedDownModel", "firstSwap", "()I"⟩, 38), (⟨"HandedDownModel", "isSwap", "(III)Z"⟩, 38), (⟨"HandedDownModel", "likes", "(II)I"⟩, 38), (⟨"HandedDownModel", "findRows", "()V"⟩, 38), (⟨"HandedDownModel", "takesRow", "(I)V"⟩, 38), (⟨"HandedDownModel", "canMark", "(II)Z"⟩, 38), (⟨"HandedDownModel", "findLeft", "(II)V"⟩, 38)]
theorem lw_r5 : ∀ q ∈ lw_privs_5, lw_okq q := List.forall_mem_cons.mpr ⟨lw_p64, List.forall_mem_cons.mpr ⟨lw_p65, List.forall_mem_cons.mpr ⟨lw_p66, List.forall_mem_cons.mpr ⟨lw_p67, List.forall_mem_cons.mpr ⟨lw_p68, List.forall_mem_cons.mpr ⟨lw_p69, List.forall_mem_cons.mpr ⟨lw_p70, List.forall_mem_cons.mpr ⟨lw_p71, List.forall_mem_cons.mpr ⟨lw_p72, fun _ h => absurd h List.not_mem_nil⟩⟩⟩⟩⟩⟩⟩⟩⟩
def lw_privs : List (MethodName × Nat) := lw_privs_1 ++ (lw_privs_2 ++ (lw_privs_3 ++ (lw_privs_4 ++ (lw_privs_5))))
def lw_tbl : List Cond := k2_sels lw_privs ++ tables_1
theorem lw_privs_ok : ∀ q ∈ lw_privs, lw_okq q := by
  show ∀ q ∈ lw_privs_1 ++ (lw_privs_2 ++ (lw_privs_3 ++ (lw_privs_4 ++ (lw_privs_5)))), lw_okq q
  exact List.forall_mem_append.mpr ⟨lw_r1, List.forall_mem_append.mpr ⟨lw_r2, List.forall_mem_append.mpr ⟨lw_r3, List.forall_mem_append.mpr ⟨lw_r4, lw_r5⟩⟩⟩⟩
-- ===== names (out of the claim's printed names) =====
def RX0 : String := "HandedDown$Child"
def TX0 : u_T := fun k => match k with
  | 0 => ("HandedDown$Child", "size", "I", false)
  | 1 => ("HandedDown$Child", "low", "I", false)
  | _ => ("HandedDown$Child", "high", "I", false)
def tyX0 : Nat → FieldType := fun k => match k with
  | 0 => .int
  | 1 => .int
  | _ => .int
abbrev wsX00 : List Cond := u_ws RX0 TX0 3
theorem nmX0 : ∀ a, a < 3 → ∀ b, b < 3 → a ≠ b → (TX0 a).2.1 ≠ (TX0 b).2.1 := by decide +kernel
theorem tyX0_ok : ∀ k, k < 3 → parseFieldDescriptor (TX0 k).2.2.1 = some (tyX0 k) := by decide +kernel
abbrev cX0_init : ByteArray := prog_2_method_1_code
def yX0_init : MethodName := ⟨RX0, "<init>", "()V"⟩
abbrev cX0_become : ByteArray := prog_2_method_2_code
def yX0_become : MethodName := ⟨RX0, "become", "(LHandedDown$Child;)V"⟩
abbrev cX0_grow : ByteArray := prog_2_method_3_code
def yX0_grow : MethodName := ⟨RX0, "grow", "(Z)V"⟩
def RX1 : String := "HandedDown$Deal"
def TX1 : u_T := fun k => match k with
  | 0 => ("HandedDown$Deal", "may", "[I", true)
  | 1 => ("HandedDown$Deal", "got", "[I", true)
  | 2 => ("HandedDown$Deal", "owner", "[I", true)
  | 3 => ("HandedDown$Deal", "seeker", "[I", true)
  | 4 => ("HandedDown$Deal", "queue", "[I", true)
  | 5 => ("HandedDown$Deal", "childCount", "I", false)
  | 6 => ("HandedDown$Deal", "thingCount", "I", false)
  | _ => ("HandedDown$Deal", "warm", "I", false)
def tyX1 : Nat → FieldType := fun k => match k with
  | 0 => .array .int
  | 1 => .array .int
  | 2 => .array .int
  | 3 => .array .int
  | 4 => .array .int
  | 5 => .int
  | 6 => .int
  | _ => .int
abbrev wsX10 : List Cond := u_ws RX1 TX1 8
theorem nmX1 : ∀ a, a < 8 → ∀ b, b < 8 → a ≠ b → (TX1 a).2.1 ≠ (TX1 b).2.1 := by decide +kernel
theorem tyX1_ok : ∀ k, k < 8 → parseFieldDescriptor (TX1 k).2.2.1 = some (tyX1 k) := by decide +kernel
abbrev cX1_init : ByteArray := prog_3_method_1_code
def yX1_init : MethodName := ⟨RX1, "<init>", "()V"⟩
abbrev cX1_make : ByteArray := prog_3_method_2_code
def yX1_make : MethodName := ⟨RX1, "make", "(LHandedDown$Village;II)V"⟩
abbrev cX1_begin : ByteArray := prog_3_method_3_code
def yX1_begin : MethodName := ⟨RX1, "begin", "(LHandedDown$Village;II)V"⟩
abbrev cX1_addLent : ByteArray := prog_3_method_4_code
def yX1_addLent : MethodName := ⟨RX1, "addLent", "(LHandedDown$Village;LHandedDown$Village;II)V"⟩
abbrev cX1_warmAll : ByteArray := prog_3_method_5_code
def yX1_warmAll : MethodName := ⟨RX1, "warmAll", "()V"⟩
abbrev cX1_thingOf : ByteArray := prog_3_method_6_code
def yX1_thingOf : MethodName := ⟨RX1, "thingOf", "(I)I"⟩
abbrev cX1_leftOf : ByteArray := prog_3_method_7_code
def yX1_leftOf : MethodName := ⟨RX1, "leftOf", "(LHandedDown$Village;IZ)I"⟩
abbrev cX1_seekFree : ByteArray := prog_3_method_8_code
def yX1_seekFree : MethodName := ⟨RX1, "seekFree", "(II)I"⟩
abbrev cX1_passAlong : ByteArray := prog_3_method_9_code
def yX1_passAlong : MethodName := ⟨RX1, "passAlong", "(I)V"⟩
abbrev cX1_putInOrder : ByteArray := prog_3_method_10_code
def yX1_putInOrder : MethodName := ⟨RX1, "putInOrder", "()V"⟩
abbrev cX1_canHave : ByteArray := prog_3_method_11_code
def yX1_canHave : MethodName := ⟨RX1, "canHave", "(III)Z"⟩
abbrev cX1_give : ByteArray := prog_3_method_12_code
def yX1_give : MethodName := ⟨RX1, "give", "(II)V"⟩
def RX2 : String := "HandedDown$MarkRows"
def TX2 : u_T := fun k => match k with
  | 0 => ("HandedDown$MarkRows", "fitting", "[I", true)
  | 1 => ("HandedDown$MarkRows", "endings", "[I", true)
  | 2 => ("HandedDown$MarkRows", "reached", "[I", true)
  | 3 => ("HandedDown$MarkRows", "childCount", "I", false)
  | _ => ("HandedDown$MarkRows", "markCount", "I", false)
def tyX2 : Nat → FieldType := fun k => match k with
  | 0 => .array .int
  | 1 => .array .int
  | 2 => .array .int
  | 3 => .int
  | _ => .int
abbrev wsX20 : List Cond := u_ws RX2 TX2 5
theorem nmX2 : ∀ a, a < 5 → ∀ b, b < 5 → a ≠ b → (TX2 a).2.1 ≠ (TX2 b).2.1 := by decide +kernel
theorem tyX2_ok : ∀ k, k < 5 → parseFieldDescriptor (TX2 k).2.2.1 = some (tyX2 k) := by decide +kernel
abbrev cX2_init : ByteArray := prog_4_method_1_code
def yX2_init : MethodName := ⟨RX2, "<init>", "()V"⟩
abbrev cX2_trace : ByteArray := prog_4_method_2_code
def yX2_trace : MethodName := ⟨RX2, "trace", "(LHandedDown$Village;I)V"⟩
abbrev cX2_fittingMark : ByteArray := prog_4_method_3_code
def yX2_fittingMark : MethodName := ⟨RX2, "fittingMark", "(LHandedDown$Village;II)I"⟩
abbrev cX2_endingsBehind : ByteArray := prog_4_method_4_code
def yX2_endingsBehind : MethodName := ⟨RX2, "endingsBehind", "(I)I"⟩
abbrev cX2_canFollow : ByteArray := prog_4_method_5_code
def yX2_canFollow : MethodName := ⟨RX2, "canFollow", "(III)Z"⟩
abbrev cX2_howMany : ByteArray := prog_4_method_6_code
def yX2_howMany : MethodName := ⟨RX2, "howMany", "()I"⟩
abbrev cX2_inFirst : ByteArray := prog_4_method_7_code
def yX2_inFirst : MethodName := ⟨RX2, "inFirst", "(I)I"⟩
abbrev cX2_firstBehind : ByteArray := prog_4_method_8_code
def yX2_firstBehind : MethodName := ⟨RX2, "firstBehind", "(II)I"⟩
abbrev cX2_firstOnes : ByteArray := prog_4_method_9_code
def yX2_firstOnes : MethodName := ⟨RX2, "firstOnes", "()I"⟩
abbrev cX2_lastOnes : ByteArray := prog_4_method_10_code
def yX2_lastOnes : MethodName := ⟨RX2, "lastOnes", "()I"⟩
def RX3 : String := "HandedDown$Reader"
def TX3 : u_T := fun k => match k with
  | 0 => ("HandedDown$Reader", "tape", "LHandedDown$Tape;", true)
  | 1 => ("HandedDown$Reader", "told", "LHandedDown$Village;", true)
  | 2 => ("HandedDown$Reader", "behind", "I", false)
  | 3 => ("HandedDown$Reader", "token", "I", false)
  | 4 => ("HandedDown$Reader", "start", "I", false)
  | 5 => ("HandedDown$Reader", "value", "I", false)
  | 6 => ("HandedDown$Reader", "toldSlack", "I", false)
  | 7 => ("HandedDown$Reader", "slackIsTold", "Z", false)
  | 8 => ("HandedDown$Reader", "childrenNeeded", "I", false)
  | 9 => ("HandedDown$Reader", "thingsNeeded", "I", false)
  | 10 => ("HandedDown$Reader", "problem", "I", false)
  | _ => ("HandedDown$Reader", "place", "I", false)
def tyX3 : Nat → FieldType := fun k => match k with
  | 0 => .object "HandedDown$Tape"
  | 1 => .object "HandedDown$Village"
  | 2 => .int
  | 3 => .int
  | 4 => .int
  | 5 => .int
  | 6 => .int
  | 7 => .boolean
  | 8 => .int
  | 9 => .int
  | 10 => .int
  | _ => .int
abbrev wsX30 : List Cond := u_ws RX3 TX3 12
theorem nmX3 : ∀ a, a < 12 → ∀ b, b < 12 → a ≠ b → (TX3 a).2.1 ≠ (TX3 b).2.1 := by decide +kernel
theorem tyX3_ok : ∀ k, k < 12 → parseFieldDescriptor (TX3 k).2.2.1 = some (tyX3 k) := by decide +kernel
abbrev cX3_init : ByteArray := prog_5_method_1_code
def yX3_init : MethodName := ⟨RX3, "<init>", "(LHandedDown$Tape;LHandedDown$Village;)V"⟩
abbrev cX3_readAll : ByteArray := prog_5_method_2_code
def yX3_readAll : MethodName := ⟨RX3, "readAll", "()I"⟩
abbrev cX3_refuse : ByteArray := prog_5_method_3_code
def yX3_refuse : MethodName := ⟨RX3, "refuse", "(I)Z"⟩
abbrev cX3_takeLine : ByteArray := prog_5_method_4_code
def yX3_takeLine : MethodName := ⟨RX3, "takeLine", "()Z"⟩
abbrev cX3_takeSlack : ByteArray := prog_5_method_5_code
def yX3_takeSlack : MethodName := ⟨RX3, "takeSlack", "()Z"⟩
abbrev cX3_takeChild : ByteArray := prog_5_method_6_code
def yX3_takeChild : MethodName := ⟨RX3, "takeChild", "()Z"⟩
abbrev cX3_takeThing : ByteArray := prog_5_method_7_code
def yX3_takeThing : MethodName := ⟨RX3, "takeThing", "(I)Z"⟩
abbrev cX3_kindNamed : ByteArray := prog_5_method_8_code
def yX3_kindNamed : MethodName := ⟨RX3, "kindNamed", "()I"⟩
abbrev cX3_takeLiking : ByteArray := prog_5_method_9_code
def yX3_takeLiking : MethodName := ⟨RX3, "takeLiking", "()Z"⟩
abbrev cX3_takeMark : ByteArray := prog_5_method_10_code
def yX3_takeMark : MethodName := ⟨RX3, "takeMark", "()Z"⟩
abbrev cX3_takeNumber : ByteArray := prog_5_method_11_code
def yX3_takeNumber : MethodName := ⟨RX3, "takeNumber", "(II)Z"⟩
abbrev cX3_takeStop : ByteArray := prog_5_method_12_code
def yX3_takeStop : MethodName := ⟨RX3, "takeStop", "()Z"⟩
abbrev cX3_nextToken : ByteArray := prog_5_method_13_code
def yX3_nextToken : MethodName := ⟨RX3, "nextToken", "()V"⟩
abbrev cX3_isLetter : ByteArray := prog_5_method_14_code
def yX3_isLetter : MethodName := ⟨RX3, "isLetter", "(I)Z"⟩
abbrev cX3_isFigure : ByteArray := prog_5_method_15_code
def yX3_isFigure : MethodName := ⟨RX3, "isFigure", "(I)Z"⟩
abbrev cX3_isNamed : ByteArray := prog_5_method_16_code
def yX3_isNamed : MethodName := ⟨RX3, "isNamed", "(Ljava/lang/String;)Z"⟩
def RX4 : String := "HandedDown$Sheet"
def TX4 : u_T := fun k => match k with
  | 0 => ("HandedDown$Sheet", "cells", "[I", true)
  | 1 => ("HandedDown$Sheet", "lane", "I", false)
  | _ => ("HandedDown$Sheet", "length", "I", false)
def tyX4 : Nat → FieldType := fun k => match k with
  | 0 => .array .int
  | 1 => .int
  | _ => .int
abbrev wsX40 : List Cond := u_ws RX4 TX4 3
theorem nmX4 : ∀ a, a < 3 → ∀ b, b < 3 → a ≠ b → (TX4 a).2.1 ≠ (TX4 b).2.1 := by decide +kernel
theorem tyX4_ok : ∀ k, k < 3 → parseFieldDescriptor (TX4 k).2.2.1 = some (tyX4 k) := by decide +kernel
abbrev cX4_init : ByteArray := prog_6_method_1_code
def yX4_init : MethodName := ⟨RX4, "<init>", "()V"⟩
abbrev cX4_isNothing : ByteArray := prog_6_method_2_code
def yX4_isNothing : MethodName := ⟨RX4, "isNothing", "()Z"⟩
abbrev cX4_hasCell : ByteArray := prog_6_method_3_code
def yX4_hasCell : MethodName := ⟨RX4, "hasCell", "(I)Z"⟩
abbrev cX4_cellAt : ByteArray := prog_6_method_4_code
def yX4_cellAt : MethodName := ⟨RX4, "cellAt", "(I)I"⟩
abbrev cX4_renew : ByteArray := prog_6_method_5_code
def yX4_renew : MethodName := ⟨RX4, "renew", "(II)V"⟩
abbrev cX4_faultAs : ByteArray := prog_6_method_6_code
def yX4_faultAs : MethodName := ⟨RX4, "faultAs", "(I)I"⟩
abbrev cX4_setCell : ByteArray := prog_6_method_7_code
def yX4_setCell : MethodName := ⟨RX4, "setCell", "(II)V"⟩
def RX5 : String := "HandedDown$Tape"
def TX5 : u_T := fun k => match k with
  | 0 => ("HandedDown$Tape", "bytes", "[B", true)
  | _ => ("HandedDown$Tape", "length", "I", false)
def tyX5 : Nat → FieldType := fun k => match k with
  | 0 => .array .byte
  | _ => .int
abbrev wsX50 : List Cond := u_ws RX5 TX5 2
theorem nmX5 : ∀ a, a < 2 → ∀ b, b < 2 → a ≠ b → (TX5 a).2.1 ≠ (TX5 b).2.1 := by decide +kernel
theorem tyX5_ok : ∀ k, k < 2 → parseFieldDescriptor (TX5 k).2.2.1 = some (tyX5 k) := by decide +kernel
abbrev cX5_init : ByteArray := prog_7_method_1_code
def yX5_init : MethodName := ⟨RX5, "<init>", "()V"⟩
abbrev cX5_takeEight : ByteArray := prog_7_method_2_code
def yX5_takeEight : MethodName := ⟨RX5, "takeEight", "(J)Z"⟩
abbrev cX5_byteAt : ByteArray := prog_7_method_3_code
def yX5_byteAt : MethodName := ⟨RX5, "byteAt", "(I)I"⟩
def RX6 : String := "HandedDown$Thing"
def TX6 : u_T := fun k => match k with
  | 0 => ("HandedDown$Thing", "slot", "I", false)
  | 1 => ("HandedDown$Thing", "kind", "I", false)
  | 2 => ("HandedDown$Thing", "size", "I", false)
  | 3 => ("HandedDown$Thing", "lasts", "I", false)
  | 4 => ("HandedDown$Thing", "worn", "I", false)
  | 5 => ("HandedDown$Thing", "letOut", "Z", false)
  | 6 => ("HandedDown$Thing", "heir", "I", false)
  | _ => ("HandedDown$Thing", "wearer", "I", false)
def tyX6 : Nat → FieldType := fun k => match k with
  | 0 => .int
  | 1 => .int
  | 2 => .int
  | 3 => .int
  | 4 => .int
  | 5 => .boolean
  | 6 => .int
  | _ => .int
abbrev wsX60 : List Cond := u_ws RX6 TX6 8
theorem nmX6 : ∀ a, a < 8 → ∀ b, b < 8 → a ≠ b → (TX6 a).2.1 ≠ (TX6 b).2.1 := by decide +kernel
theorem tyX6_ok : ∀ k, k < 8 → parseFieldDescriptor (TX6 k).2.2.1 = some (tyX6 k) := by decide +kernel
abbrev cX6_init : ByteArray := prog_8_method_1_code
def yX6_init : MethodName := ⟨RX6, "<init>", "()V"⟩
abbrev cX6_become : ByteArray := prog_8_method_2_code
def yX6_become : MethodName := ⟨RX6, "become", "(LHandedDown$Thing;)V"⟩
abbrev cX6_becomePlain : ByteArray := prog_8_method_3_code
def yX6_becomePlain : MethodName := ⟨RX6, "becomePlain", "(III)V"⟩
abbrev cX6_isWornOut : ByteArray := prog_8_method_4_code
def yX6_isWornOut : MethodName := ⟨RX6, "isWornOut", "()Z"⟩
abbrev cX6_fitFor : ByteArray := prog_8_method_5_code
def yX6_fitFor : MethodName := ⟨RX6, "fitFor", "(III)I"⟩
def RX7 : String := "HandedDown$Village"
def TX7 : u_T := fun k => match k with
  | 0 => ("HandedDown$Village", "children", "[LHandedDown$Child;", true)
  | 1 => ("HandedDown$Village", "things", "[LHandedDown$Thing;", true)
  | 2 => ("HandedDown$Village", "likings", "[I", true)
  | 3 => ("HandedDown$Village", "marks", "[I", true)
  | 4 => ("HandedDown$Village", "childCount", "I", false)
  | 5 => ("HandedDown$Village", "thingCount", "I", false)
  | _ => ("HandedDown$Village", "markCount", "I", false)
def tyX7 : Nat → FieldType := fun k => match k with
  | 0 => .array (.object "HandedDown$Child")
  | 1 => .array (.object "HandedDown$Thing")
  | 2 => .array .int
  | 3 => .array .int
  | 4 => .int
  | 5 => .int
  | _ => .int
abbrev wsX70 : List Cond := u_ws RX7 TX7 7
theorem nmX7 : ∀ a, a < 7 → ∀ b, b < 7 → a ≠ b → (TX7 a).2.1 ≠ (TX7 b).2.1 := by decide +kernel
theorem tyX7_ok : ∀ k, k < 7 → parseFieldDescriptor (TX7 k).2.2.1 = some (tyX7 k) := by decide +kernel
abbrev cX7_init : ByteArray := prog_9_method_1_code
def yX7_init : MethodName := ⟨RX7, "<init>", "()V"⟩
abbrev cX7_clear : ByteArray := prog_9_method_2_code
def yX7_clear : MethodName := ⟨RX7, "clear", "()V"⟩
abbrev cX7_becomeAll : ByteArray := prog_9_method_3_code
def yX7_becomeAll : MethodName := ⟨RX7, "becomeAll", "(LHandedDown$Village;)V"⟩
abbrev cX7_becomeBodies : ByteArray := prog_9_method_4_code
def yX7_becomeBodies : MethodName := ⟨RX7, "becomeBodies", "(LHandedDown$Village;)V"⟩
abbrev cX7_hasChild : ByteArray := prog_9_method_5_code
def yX7_hasChild : MethodName := ⟨RX7, "hasChild", "(I)Z"⟩
abbrev cX7_hasThing : ByteArray := prog_9_method_6_code
def yX7_hasThing : MethodName := ⟨RX7, "hasThing", "(I)Z"⟩
abbrev cX7_addChild : ByteArray := prog_9_method_7_code
def yX7_addChild : MethodName := ⟨RX7, "addChild", "(III)V"⟩
abbrev cX7_addPlain : ByteArray := prog_9_method_8_code
def yX7_addPlain : MethodName := ⟨RX7, "addPlain", "(III)I"⟩
abbrev cX7_addMark : ByteArray := prog_9_method_9_code
def yX7_addMark : MethodName := ⟨RX7, "addMark", "(I)V"⟩
abbrev cX7_smallestSize : ByteArray := prog_9_method_10_code
def yX7_smallestSize : MethodName := ⟨RX7, "smallestSize", "()I"⟩
abbrev cX7_likingOf : ByteArray := prog_9_method_11_code
def yX7_likingOf : MethodName := ⟨RX7, "likingOf", "(II)I"⟩
abbrev cX7_setLiking : ByteArray := prog_9_method_12_code
def yX7_setLiking : MethodName := ⟨RX7, "setLiking", "(III)V"⟩
abbrev cX7_fitOf : ByteArray := prog_9_method_13_code
def yX7_fitOf : MethodName := ⟨RX7, "fitOf", "(III)I"⟩
abbrev cX7_wornBy : ByteArray := prog_9_method_14_code
def yX7_wornBy : MethodName := ⟨RX7, "wornBy", "(II)I"⟩
abbrev cX7_putOn : ByteArray := prog_9_method_15_code
def yX7_putOn : MethodName := ⟨RX7, "putOn", "(III)V"⟩
abbrev cX7_undress : ByteArray := prog_9_method_16_code
def yX7_undress : MethodName := ⟨RX7, "undress", "(I)V"⟩
abbrev cX7_coldOnes : ByteArray := prog_9_method_17_code
def yX7_coldOnes : MethodName := ⟨RX7, "coldOnes", "(I)I"⟩
abbrev cX7_wornOutCount : ByteArray := prog_9_method_18_code
def yX7_wornOutCount : MethodName := ⟨RX7, "wornOutCount", "()I"⟩
abbrev cX7_passWinter : ByteArray := prog_9_method_19_code
def yX7_passWinter : MethodName := ⟨RX7, "passWinter", "()I"⟩
abbrev cX7_passSpring : ByteArray := prog_9_method_20_code
def yX7_passSpring : MethodName := ⟨RX7, "passSpring", "(ZI)I"⟩
abbrev cX7_growEach : ByteArray := prog_9_method_21_code
def yX7_growEach : MethodName := ⟨RX7, "growEach", "(I)V"⟩
abbrev cX7_strengthen : ByteArray := prog_9_method_22_code
def yX7_strengthen : MethodName := ⟨RX7, "strengthen", "(II)V"⟩
abbrev cX7_firstSwap : ByteArray := prog_9_method_23_code
def yX7_firstSwap : MethodName := ⟨RX7, "firstSwap", "(I)I"⟩
abbrev cX7_bothWant : ByteArray := prog_9_method_24_code
def yX7_bothWant : MethodName := ⟨RX7, "bothWant", "(IIIII)Z"⟩
abbrev cX7_makeSwap : ByteArray := prog_9_method_25_code
def yX7_makeSwap : MethodName := ⟨RX7, "makeSwap", "(III)V"⟩
def RX8 : String := "HandedDown"
def TX8 : u_T := fun k => match k with
  | 0 => ("HandedDown", "tape", "LHandedDown$Tape;", true)
  | 1 => ("HandedDown", "now", "LHandedDown$Village;", true)
  | 2 => ("HandedDown", "trial", "LHandedDown$Village;", true)
  | 3 => ("HandedDown", "reader", "LHandedDown$Reader;", true)
  | 4 => ("HandedDown", "images", "[LHandedDown$Village;", true)
  | 5 => ("HandedDown", "imaged", "[Z", true)
  | 6 => ("HandedDown", "sheets", "[LHandedDown$Sheet;", true)
  | 7 => ("HandedDown", "plan", "LHandedDown$Deal;", true)
  | 8 => ("HandedDown", "markRows", "LHandedDown$MarkRows;", true)
  | 9 => ("HandedDown", "newByYear", "[I", true)
  | 10 => ("HandedDown", "allowed", "I", false)
  | 11 => ("HandedDown", "textFault", "I", false)
  | 12 => ("HandedDown", "sheetFault", "I", false)
  | 13 => ("HandedDown", "bestThing", "I", false)
  | 14 => ("HandedDown", "bestSize", "I", false)
  | _ => ("HandedDown", "bestNew", "I", false)
def tyX8 : Nat → FieldType := fun k => match k with
  | 0 => .object "HandedDown$Tape"
  | 1 => .object "HandedDown$Village"
  | 2 => .object "HandedDown$Village"
  | 3 => .object "HandedDown$Reader"
  | 4 => .array (.object "HandedDown$Village")
  | 5 => .array .boolean
  | 6 => .array (.object "HandedDown$Sheet")
  | 7 => .object "HandedDown$Deal"
  | 8 => .object "HandedDown$MarkRows"
  | 9 => .array .int
  | 10 => .int
  | 11 => .int
  | 12 => .int
  | 13 => .int
  | 14 => .int
  | _ => .int
abbrev wsX80 : List Cond := u_ws RX8 TX8 16
theorem nmX8 : ∀ a, a < 16 → ∀ b, b < 16 → a ≠ b → (TX8 a).2.1 ≠ (TX8 b).2.1 := by decide +kernel
theorem tyX8_ok : ∀ k, k < 16 → parseFieldDescriptor (TX8 k).2.2.1 = some (tyX8 k) := by decide +kernel
abbrev cX8_init : ByteArray := prog_1_method_1_code
def yX8_init : MethodName := ⟨RX8, "<init>", "()V"⟩
abbrev cX8_feed : ByteArray := prog_1_method_2_code
def yX8_feed : MethodName := ⟨RX8, "feed", "(J)I"⟩
abbrev cX8_end : ByteArray := prog_1_method_3_code
def yX8_end : MethodName := ⟨RX8, "end", "(I)I"⟩
abbrev cX8_text : ByteArray := prog_1_method_4_code
def yX8_text : MethodName := ⟨RX8, "text", "()I"⟩
abbrev cX8_fault : ByteArray := prog_1_method_5_code
def yX8_fault : MethodName := ⟨RX8, "fault", "()I"⟩
abbrev cX8_child : ByteArray := prog_1_method_6_code
def yX8_child : MethodName := ⟨RX8, "child", "(II)I"⟩
abbrev cX8_thing : ByteArray := prog_1_method_7_code
def yX8_thing : MethodName := ⟨RX8, "thing", "(II)I"⟩
abbrev cX8_slack : ByteArray := prog_1_method_8_code
def yX8_slack : MethodName := ⟨RX8, "slack", "(I)I"⟩
abbrev cX8_like : ByteArray := prog_1_method_9_code
def yX8_like : MethodName := ⟨RX8, "like", "(III)I"⟩
abbrev cX8_fits : ByteArray := prog_1_method_10_code
def yX8_fits : MethodName := ⟨RX8, "fits", "(II)I"⟩
abbrev cX8_wear : ByteArray := prog_1_method_11_code
def yX8_wear : MethodName := ⟨RX8, "wear", "(II)I"⟩
abbrev cX8_doff : ByteArray := prog_1_method_12_code
def yX8_doff : MethodName := ⟨RX8, "doff", "(II)I"⟩
abbrev cX8_cold : ByteArray := prog_1_method_13_code
def yX8_cold : MethodName := ⟨RX8, "cold", "(I)I"⟩
abbrev cX8_deal : ByteArray := prog_1_method_14_code
def yX8_deal : MethodName := ⟨RX8, "deal", "(II)I"⟩
abbrev cX8_dress : ByteArray := prog_1_method_15_code
def yX8_dress : MethodName := ⟨RX8, "dress", "(I)I"⟩
abbrev cX8_spare : ByteArray := prog_1_method_16_code
def yX8_spare : MethodName := ⟨RX8, "spare", "(I)I"⟩
abbrev cX8_winter : ByteArray := prog_1_method_17_code
def yX8_winter : MethodName := ⟨RX8, "winter", "()I"⟩
abbrev cX8_spring : ByteArray := prog_1_method_18_code
def yX8_spring : MethodName := ⟨RX8, "spring", "(Z)I"⟩
abbrev cX8_ahead : ByteArray := prog_1_method_19_code
def yX8_ahead : MethodName := ⟨RX8, "ahead", "(IIZI)I"⟩
abbrev cX8_strong : ByteArray := prog_1_method_20_code
def yX8_strong : MethodName := ⟨RX8, "strong", "(IIZ)I"⟩
abbrev cX8_cut : ByteArray := prog_1_method_21_code
def yX8_cut : MethodName := ⟨RX8, "cut", "(II)I"⟩
abbrev cX8_pays : ByteArray := prog_1_method_22_code
def yX8_pays : MethodName := ⟨RX8, "pays", "(IIZI)I"⟩
abbrev cX8_best : ByteArray := prog_1_method_23_code
def yX8_best : MethodName := ⟨RX8, "best", "(IIZI)I"⟩
abbrev cX8_sew : ByteArray := prog_1_method_24_code
def yX8_sew : MethodName := ⟨RX8, "sew", "(II)I"⟩
abbrev cX8_wish : ByteArray := prog_1_method_25_code
def yX8_wish : MethodName := ⟨RX8, "wish", "(IIZI)I"⟩
abbrev cX8_swap : ByteArray := prog_1_method_26_code
def yX8_swap : MethodName := ⟨RX8, "swap", "()I"⟩
abbrev cX8_settle : ByteArray := prog_1_method_27_code
def yX8_settle : MethodName := ⟨RX8, "settle", "()I"⟩
abbrev cX8_odds : ByteArray := prog_1_method_28_code
def yX8_odds : MethodName := ⟨RX8, "odds", "(II)J"⟩
abbrev cX8_mark : ByteArray := prog_1_method_29_code
def yX8_mark : MethodName := ⟨RX8, "mark", "(I)I"⟩
abbrev cX8_unmark : ByteArray := prog_1_method_30_code
def yX8_unmark : MethodName := ⟨RX8, "unmark", "(I)I"⟩
abbrev cX8_rows : ByteArray := prog_1_method_31_code
def yX8_rows : MethodName := ⟨RX8, "rows", "(I)I"⟩
abbrev cX8_whose : ByteArray := prog_1_method_32_code
def yX8_whose : MethodName := ⟨RX8, "whose", "(I)I"⟩
abbrev cX8_lend : ByteArray := prog_1_method_33_code
def yX8_lend : MethodName := ⟨RX8, "lend", "(III)I"⟩
abbrev cX8_keep : ByteArray := prog_1_method_34_code
def yX8_keep : MethodName := ⟨RX8, "keep", "(I)I"⟩
abbrev cX8_back : ByteArray := prog_1_method_35_code
def yX8_back : MethodName := ⟨RX8, "back", "(I)I"⟩
abbrev cX8_sheet : ByteArray := prog_1_method_36_code
def yX8_sheet : MethodName := ⟨RX8, "sheet", "(III)I"⟩
abbrev cX8_lay : ByteArray := prog_1_method_37_code
def yX8_lay : MethodName := ⟨RX8, "lay", "(III)I"⟩
abbrev cX8_read : ByteArray := prog_1_method_38_code
def yX8_read : MethodName := ⟨RX8, "read", "(IIII)I"⟩
abbrev cX8_torn : ByteArray := prog_1_method_39_code
def yX8_torn : MethodName := ⟨RX8, "torn", "()I"⟩
abbrev cX8_count : ByteArray := prog_1_method_40_code
def yX8_count : MethodName := ⟨RX8, "count", "(I)I"⟩
abbrev cX8_within : ByteArray := prog_1_method_41_code
def yX8_within : MethodName := ⟨RX8, "within", "(III)Z"⟩
abbrev cX8_isSlot : ByteArray := prog_1_method_42_code
def yX8_isSlot : MethodName := ⟨RX8, "isSlot", "(I)Z"⟩
abbrev cX8_isSize : ByteArray := prog_1_method_43_code
def yX8_isSize : MethodName := ⟨RX8, "isSize", "(I)Z"⟩
abbrev cX8_isYears : ByteArray := prog_1_method_44_code
def yX8_isYears : MethodName := ⟨RX8, "isYears", "(I)Z"⟩
abbrev cX8_isZeroOrOne : ByteArray := prog_1_method_45_code
def yX8_isZeroOrOne : MethodName := ⟨RX8, "isZeroOrOne", "(I)Z"⟩
abbrev cX8_isImage : ByteArray := prog_1_method_46_code
def yX8_isImage : MethodName := ⟨RX8, "isImage", "(I)Z"⟩
abbrev cX8_isSheet : ByteArray := prog_1_method_47_code
def yX8_isSheet : MethodName := ⟨RX8, "isSheet", "(I)Z"⟩
abbrev cX8_isLane : ByteArray := prog_1_method_48_code
def yX8_isLane : MethodName := ⟨RX8, "isLane", "(I)Z"⟩
abbrev cX8_sewRefusal : ByteArray := prog_1_method_49_code
def yX8_sewRefusal : MethodName := ⟨RX8, "sewRefusal", "(III)I"⟩
abbrev cX8_dressAll : ByteArray := prog_1_method_50_code
def yX8_dressAll : MethodName := ⟨RX8, "dressAll", "(LHandedDown$Village;I)I"⟩
abbrev cX8_newAhead : ByteArray := prog_1_method_51_code
def yX8_newAhead : MethodName := ⟨RX8, "newAhead", "(IIZ)I"⟩
abbrev cX8_startCuts : ByteArray := prog_1_method_52_code
def yX8_startCuts : MethodName := ⟨RX8, "startCuts", "(IIZ)V"⟩
abbrev cX8_tryCuts : ByteArray := prog_1_method_53_code
def yX8_tryCuts : MethodName := ⟨RX8, "tryCuts", "(IIZ)V"⟩
def RX9 : String := "HandedDownModel"
def TX9 : u_T := fun k => match k with
  | 0 => ("HandedDownModel", "st", "[I", true)
  | 1 => ("HandedDownModel", "isKept", "[Z", true)
  | 2 => ("HandedDownModel", "slack", "I", false)
  | 3 => ("HandedDownModel", "draft", "[I", true)
  | 4 => ("HandedDownModel", "dSlack", "I", false)
  | 5 => ("HandedDownModel", "hasSlack", "Z", false)
  | 6 => ("HandedDownModel", "highestChild", "I", false)
  | 7 => ("HandedDownModel", "highestThing", "I", false)
  | 8 => ("HandedDownModel", "tape", "[I", true)
  | 9 => ("HandedDownModel", "taped", "I", false)
  | 10 => ("HandedDownModel", "pos", "I", false)
  | 11 => ("HandedDownModel", "from", "I", false)
  | 12 => ("HandedDownModel", "sort", "I", false)
  | 13 => ("HandedDownModel", "value", "I", false)
  | 14 => ("HandedDownModel", "fault", "I", false)
  | 15 => ("HandedDownModel", "wrongAt", "I", false)
  | 16 => ("HandedDownModel", "dealt", "I", false)
  | 17 => ("HandedDownModel", "canHave", "[I", true)
  | 18 => ("HandedDownModel", "given", "[I", true)
  | 19 => ("HandedDownModel", "holder", "[I", true)
  | 20 => ("HandedDownModel", "via", "[I", true)
  | 21 => ("HandedDownModel", "queue", "[I", true)
  | 22 => ("HandedDownModel", "wasGiven", "[I", true)
  | 23 => ("HandedDownModel", "wasHolder", "[I", true)
  | 24 => ("HandedDownModel", "news", "[I", true)
  | 25 => ("HandedDownModel", "lasted", "[I", true)
  | 26 => ("HandedDownModel", "bestSize", "I", false)
  | 27 => ("HandedDownModel", "bestNew", "I", false)
  | 28 => ("HandedDownModel", "row", "[I", true)
  | 29 => ("HandedDownModel", "firstRow", "[I", true)
  | 30 => ("HandedDownModel", "rowMany", "I", false)
  | 31 => ("HandedDownModel", "firsts", "I", false)
  | 32 => ("HandedDownModel", "lasts", "I", false)
  | 33 => ("HandedDownModel", "leftThere", "I", false)
  | 34 => ("HandedDownModel", "lanes", "[I", true)
  | 35 => ("HandedDownModel", "sizes", "[I", true)
  | 36 => ("HandedDownModel", "cells", "[I", true)
  | _ => ("HandedDownModel", "torn", "I", false)
def tyX9 : Nat → FieldType := fun k => match k with
  | 0 => .array .int
  | 1 => .array .boolean
  | 2 => .int
  | 3 => .array .int
  | 4 => .int
  | 5 => .boolean
  | 6 => .int
  | 7 => .int
  | 8 => .array .int
  | 9 => .int
  | 10 => .int
  | 11 => .int
  | 12 => .int
  | 13 => .int
  | 14 => .int
  | 15 => .int
  | 16 => .int
  | 17 => .array .int
  | 18 => .array .int
  | 19 => .array .int
  | 20 => .array .int
  | 21 => .array .int
  | 22 => .array .int
  | 23 => .array .int
  | 24 => .array .int
  | 25 => .array .int
  | 26 => .int
  | 27 => .int
  | 28 => .array .int
  | 29 => .array .int
  | 30 => .int
  | 31 => .int
  | 32 => .int
  | 33 => .int
  | 34 => .array .int
  | 35 => .array .int
  | 36 => .array .int
  | _ => .int
abbrev wsX90 : List Cond := u_ws RX9 TX9 38
theorem nmX9 : ∀ a, a < 38 → ∀ b, b < 38 → a ≠ b → (TX9 a).2.1 ≠ (TX9 b).2.1 := by decide +kernel
theorem tyX9_ok : ∀ k, k < 38 → parseFieldDescriptor (TX9 k).2.2.1 = some (tyX9 k) := by decide +kernel
abbrev cX9_init : ByteArray := prog_11_method_1_code
def yX9_init : MethodName := ⟨RX9, "<init>", "()V"⟩
abbrev cX9_in : ByteArray := prog_11_method_3_code
def yX9_in : MethodName := ⟨RX9, "in", "(JJJ)Z"⟩
abbrev cX9_flag : ByteArray := prog_11_method_4_code
def yX9_flag : MethodName := ⟨RX9, "flag", "(Z)I"⟩
abbrev cX9_firstDraft : ByteArray := prog_11_method_5_code
def yX9_firstDraft : MethodName := ⟨RX9, "firstDraft", "()V"⟩
abbrev cX9_keepDraft : ByteArray := prog_11_method_6_code
def yX9_keepDraft : MethodName := ⟨RX9, "keepDraft", "()V"⟩
abbrev cX9_feed : ByteArray := prog_11_method_7_code
def yX9_feed : MethodName := ⟨RX9, "feed", "(J)I"⟩
abbrev cX9_end : ByteArray := prog_11_method_8_code
def yX9_end : MethodName := ⟨RX9, "end", "(I)I"⟩
abbrev cX9_needs : ByteArray := prog_11_method_9_code
def yX9_needs : MethodName := ⟨RX9, "needs", "(ZI)V"⟩
abbrev cX9_look : ByteArray := prog_11_method_10_code
def yX9_look : MethodName := ⟨RX9, "look", "(I)I"⟩
abbrev cX9_is : ByteArray := prog_11_method_11_code
def yX9_is : MethodName := ⟨RX9, "is", "(IIIII)Z"⟩
abbrev cX9_ends : ByteArray := prog_11_method_12_code
def yX9_ends : MethodName := ⟨RX9, "ends", "(II)Z"⟩
abbrev cX9_lineNow : ByteArray := prog_11_method_13_code
def yX9_lineNow : MethodName := ⟨RX9, "lineNow", "()I"⟩
abbrev cX9_kindNow : ByteArray := prog_11_method_14_code
def yX9_kindNow : MethodName := ⟨RX9, "kindNow", "()I"⟩
abbrev cX9_next : ByteArray := prog_11_method_15_code
def yX9_next : MethodName := ⟨RX9, "next", "()V"⟩
abbrev cX9_readNumber : ByteArray := prog_11_method_16_code
def yX9_readNumber : MethodName := ⟨RX9, "readNumber", "(II)I"⟩
abbrev cX9_readChildOf : ByteArray := prog_11_method_17_code
def yX9_readChildOf : MethodName := ⟨RX9, "readChildOf", "()I"⟩
abbrev cX9_readChild : ByteArray := prog_11_method_18_code
def yX9_readChild : MethodName := ⟨RX9, "readChild", "()V"⟩
abbrev cX9_readThing : ByteArray := prog_11_method_19_code
def yX9_readThing : MethodName := ⟨RX9, "readThing", "(I)V"⟩
abbrev cX9_readLike : ByteArray := prog_11_method_20_code
def yX9_readLike : MethodName := ⟨RX9, "readLike", "()V"⟩
abbrev cX9_readLineOf : ByteArray := prog_11_method_21_code
def yX9_readLineOf : MethodName := ⟨RX9, "readLineOf", "(I)V"⟩
abbrev cX9_readLine : ByteArray := prog_11_method_22_code
def yX9_readLine : MethodName := ⟨RX9, "readLine", "()V"⟩
abbrev cX9_text : ByteArray := prog_11_method_23_code
def yX9_text : MethodName := ⟨RX9, "text", "()I"⟩
abbrev cX9_fault : ByteArray := prog_11_method_24_code
def yX9_fault : MethodName := ⟨RX9, "fault", "()I"⟩
abbrev cX9_isChild : ByteArray := prog_11_method_25_code
def yX9_isChild : MethodName := ⟨RX9, "isChild", "(I)Z"⟩
abbrev cX9_isThing : ByteArray := prog_11_method_26_code
def yX9_isThing : MethodName := ⟨RX9, "isThing", "(I)Z"⟩
abbrev cX9_isSlot : ByteArray := prog_11_method_27_code
def yX9_isSlot : MethodName := ⟨RX9, "isSlot", "(I)Z"⟩
abbrev cX9_of : ByteArray := prog_11_method_28_code
def yX9_of : MethodName := ⟨RX9, "of", "(II)I"⟩
abbrev cX9_worn : ByteArray := prog_11_method_29_code
def yX9_worn : MethodName := ⟨RX9, "worn", "(II)I"⟩
abbrev cX9_whoWears : ByteArray := prog_11_method_30_code
def yX9_whoWears : MethodName := ⟨RX9, "whoWears", "(I)I"⟩
abbrev cX9_child : ByteArray := prog_11_method_31_code
def yX9_child : MethodName := ⟨RX9, "child", "(II)I"⟩
abbrev cX9_thing : ByteArray := prog_11_method_32_code
def yX9_thing : MethodName := ⟨RX9, "thing", "(II)I"⟩
abbrev cX9_slack : ByteArray := prog_11_method_33_code
def yX9_slack : MethodName := ⟨RX9, "slack", "(I)I"⟩
abbrev cX9_like : ByteArray := prog_11_method_34_code
def yX9_like : MethodName := ⟨RX9, "like", "(III)I"⟩
abbrev cX9_isOut : ByteArray := prog_11_method_35_code
def yX9_isOut : MethodName := ⟨RX9, "isOut", "(I)Z"⟩
abbrev cX9_fitOf : ByteArray := prog_11_method_36_code
def yX9_fitOf : MethodName := ⟨RX9, "fitOf", "(III)I"⟩
abbrev cX9_fitNow : ByteArray := prog_11_method_37_code
def yX9_fitNow : MethodName := ⟨RX9, "fitNow", "(II)I"⟩
abbrev cX9_fits : ByteArray := prog_11_method_38_code
def yX9_fits : MethodName := ⟨RX9, "fits", "(II)I"⟩
abbrev cX9_takesOff : ByteArray := prog_11_method_39_code
def yX9_takesOff : MethodName := ⟨RX9, "takesOff", "(II)V"⟩
abbrev cX9_putsOn : ByteArray := prog_11_method_40_code
def yX9_putsOn : MethodName := ⟨RX9, "putsOn", "(II)V"⟩
abbrev cX9_wear : ByteArray := prog_11_method_41_code
def yX9_wear : MethodName := ⟨RX9, "wear", "(II)I"⟩
abbrev cX9_doff : ByteArray := prog_11_method_42_code
def yX9_doff : MethodName := ⟨RX9, "doff", "(II)I"⟩
abbrev cX9_cold : ByteArray := prog_11_method_43_code
def yX9_cold : MethodName := ⟨RX9, "cold", "(I)I"⟩
abbrev cX9_findCanHave : ByteArray := prog_11_method_44_code
def yX9_findCanHave : MethodName := ⟨RX9, "findCanHave", "(I)V"⟩
abbrev cX9_getsOne : ByteArray := prog_11_method_45_code
def yX9_getsOne : MethodName := ⟨RX9, "getsOne", "(II)Z"⟩
abbrev cX9_givesOn : ByteArray := prog_11_method_46_code
def yX9_givesOn : MethodName := ⟨RX9, "givesOn", "(II)V"⟩
abbrev cX9_findMost : ByteArray := prog_11_method_47_code
def yX9_findMost : MethodName := ⟨RX9, "findMost", "()I"⟩
abbrev cX9_keepsDeal : ByteArray := prog_11_method_48_code
def yX9_keepsDeal : MethodName := ⟨RX9, "keepsDeal", "()V"⟩
abbrev cX9_asKept : ByteArray := prog_11_method_49_code
def yX9_asKept : MethodName := ⟨RX9, "asKept", "()V"⟩
abbrev cX9_canGet : ByteArray := prog_11_method_50_code
def yX9_canGet : MethodName := ⟨RX9, "canGet", "(III)Z"⟩
abbrev cX9_findDeal : ByteArray := prog_11_method_51_code
def yX9_findDeal : MethodName := ⟨RX9, "findDeal", "(I)I"⟩
abbrev cX9_deal : ByteArray := prog_11_method_52_code
def yX9_deal : MethodName := ⟨RX9, "deal", "(II)I"⟩
abbrev cX9_dresses : ByteArray := prog_11_method_53_code
def yX9_dresses : MethodName := ⟨RX9, "dresses", "(I)I"⟩
abbrev cX9_dress : ByteArray := prog_11_method_54_code
def yX9_dress : MethodName := ⟨RX9, "dress", "(I)I"⟩
abbrev cX9_spare : ByteArray := prog_11_method_55_code
def yX9_spare : MethodName := ⟨RX9, "spare", "(I)I"⟩
abbrev cX9_winters : ByteArray := prog_11_method_56_code
def yX9_winters : MethodName := ⟨RX9, "winters", "()I"⟩
abbrev cX9_winter : ByteArray := prog_11_method_57_code
def yX9_winter : MethodName := ⟨RX9, "winter", "()I"⟩
abbrev cX9_grows : ByteArray := prog_11_method_58_code
def yX9_grows : MethodName := ⟨RX9, "grows", "(IZ)V"⟩
abbrev cX9_springs : ByteArray := prog_11_method_59_code
def yX9_springs : MethodName := ⟨RX9, "springs", "(Z)I"⟩
abbrev cX9_spring : ByteArray := prog_11_method_60_code
def yX9_spring : MethodName := ⟨RX9, "spring", "(Z)I"⟩
abbrev cX9_copies : ByteArray := prog_11_method_61_code
def yX9_copies : MethodName := ⟨RX9, "copies", "(II)V"⟩
abbrev cX9_aheadBy : ByteArray := prog_11_method_62_code
def yX9_aheadBy : MethodName := ⟨RX9, "aheadBy", "(IIZ)I"⟩
abbrev cX9_areYears : ByteArray := prog_11_method_63_code
def yX9_areYears : MethodName := ⟨RX9, "areYears", "(I)Z"⟩
abbrev cX9_ahead : ByteArray := prog_11_method_64_code
def yX9_ahead : MethodName := ⟨RX9, "ahead", "(IIZI)I"⟩
abbrev cX9_strong : ByteArray := prog_11_method_65_code
def yX9_strong : MethodName := ⟨RX9, "strong", "(IIZ)I"⟩
abbrev cX9_cut : ByteArray := prog_11_method_66_code
def yX9_cut : MethodName := ⟨RX9, "cut", "(II)I"⟩
abbrev cX9_findCut : ByteArray := prog_11_method_67_code
def yX9_findCut : MethodName := ⟨RX9, "findCut", "(IIZI)V"⟩
abbrev cX9_pays : ByteArray := prog_11_method_68_code
def yX9_pays : MethodName := ⟨RX9, "pays", "(IIZI)I"⟩
abbrev cX9_best : ByteArray := prog_11_method_69_code
def yX9_best : MethodName := ⟨RX9, "best", "(IIZI)I"⟩
abbrev cX9_sews : ByteArray := prog_11_method_70_code
def yX9_sews : MethodName := ⟨RX9, "sews", "(III)V"⟩
abbrev cX9_sew : ByteArray := prog_11_method_71_code
def yX9_sew : MethodName := ⟨RX9, "sew", "(II)I"⟩
abbrev cX9_wish : ByteArray := prog_11_method_72_code
def yX9_wish : MethodName := ⟨RX9, "wish", "(IIZI)I"⟩
abbrev cX9_likes : ByteArray := prog_11_method_73_code
def yX9_likes : MethodName := ⟨RX9, "likes", "(II)I"⟩
abbrev cX9_isSwap : ByteArray := prog_11_method_74_code
def yX9_isSwap : MethodName := ⟨RX9, "isSwap", "(III)Z"⟩
abbrev cX9_firstSwap : ByteArray := prog_11_method_75_code
def yX9_firstSwap : MethodName := ⟨RX9, "firstSwap", "()I"⟩
abbrev cX9_swap : ByteArray := prog_11_method_76_code
def yX9_swap : MethodName := ⟨RX9, "swap", "()I"⟩
abbrev cX9_settle : ByteArray := prog_11_method_77_code
def yX9_settle : MethodName := ⟨RX9, "settle", "()I"⟩
abbrev cX9_odds : ByteArray := prog_11_method_78_code
def yX9_odds : MethodName := ⟨RX9, "odds", "(II)J"⟩
abbrev cX9_mark : ByteArray := prog_11_method_79_code
def yX9_mark : MethodName := ⟨RX9, "mark", "(I)I"⟩
abbrev cX9_unmark : ByteArray := prog_11_method_80_code
def yX9_unmark : MethodName := ⟨RX9, "unmark", "(I)I"⟩
abbrev cX9_canMark : ByteArray := prog_11_method_81_code
def yX9_canMark : MethodName := ⟨RX9, "canMark", "(II)Z"⟩
abbrev cX9_takesRow : ByteArray := prog_11_method_82_code
def yX9_takesRow : MethodName := ⟨RX9, "takesRow", "(I)V"⟩
abbrev cX9_findRows : ByteArray := prog_11_method_83_code
def yX9_findRows : MethodName := ⟨RX9, "findRows", "()V"⟩
abbrev cX9_rows : ByteArray := prog_11_method_84_code
def yX9_rows : MethodName := ⟨RX9, "rows", "(I)I"⟩
abbrev cX9_whose : ByteArray := prog_11_method_85_code
def yX9_whose : MethodName := ⟨RX9, "whose", "(I)I"⟩
abbrev cX9_findLeft : ByteArray := prog_11_method_86_code
def yX9_findLeft : MethodName := ⟨RX9, "findLeft", "(II)V"⟩
abbrev cX9_lend : ByteArray := prog_11_method_87_code
def yX9_lend : MethodName := ⟨RX9, "lend", "(III)I"⟩
abbrev cX9_keep : ByteArray := prog_11_method_88_code
def yX9_keep : MethodName := ⟨RX9, "keep", "(I)I"⟩
abbrev cX9_back : ByteArray := prog_11_method_89_code
def yX9_back : MethodName := ⟨RX9, "back", "(I)I"⟩
abbrev cX9_isSheet : ByteArray := prog_11_method_90_code
def yX9_isSheet : MethodName := ⟨RX9, "isSheet", "(II)Z"⟩
abbrev cX9_sheet : ByteArray := prog_11_method_91_code
def yX9_sheet : MethodName := ⟨RX9, "sheet", "(III)I"⟩
abbrev cX9_lay : ByteArray := prog_11_method_92_code
def yX9_lay : MethodName := ⟨RX9, "lay", "(III)I"⟩
abbrev cX9_read : ByteArray := prog_11_method_93_code
def yX9_read : MethodName := ⟨RX9, "read", "(IIII)I"⟩
abbrev cX9_torn : ByteArray := prog_11_method_94_code
def yX9_torn : MethodName := ⟨RX9, "torn", "()I"⟩
abbrev cX9_count : ByteArray := prog_11_method_95_code
def yX9_count : MethodName := ⟨RX9, "count", "(I)I"⟩
def RJ6 : String := "java/lang/Integer"
abbrev cJ6_bitCount_0f7a4 : ByteArray := prog_12_method_49_code
def yJ6_bitCount_0f7a4 : MethodName := ⟨RJ6, "bitCount", "(I)I"⟩
def RJ9 : String := "java/lang/Math"
abbrev cJ9_max_7cf53 : ByteArray := prog_13_method_65_code
def yJ9_max_7cf53 : MethodName := ⟨RJ9, "max", "(II)I"⟩
abbrev cJ9_min_7cf53 : ByteArray := prog_13_method_69_code
def yJ9_min_7cf53 : MethodName := ⟨RJ9, "min", "(II)I"⟩
def RJ0 : String := "java/lang/String"
abbrev cJ0_length_8abf5 : ByteArray := prog_14_method_54_code
def yJ0_length_8abf5 : MethodName := ⟨RJ0, "length", "()I"⟩
abbrev cJ0_charAt_5068e : ByteArray := prog_14_method_56_code
def yJ0_charAt_5068e : MethodName := ⟨RJ0, "charAt", "(I)C"⟩
abbrev cJ0_coder_7d493 : ByteArray := prog_14_method_152_code
def yJ0_coder_7d493 : MethodName := ⟨RJ0, "coder", "()B"⟩
abbrev cJ0_isLatin1_aae02 : ByteArray := prog_14_method_154_code
def yJ0_isLatin1_aae02 : MethodName := ⟨RJ0, "isLatin1", "()Z"⟩
abbrev cJ0_checkIndex_df160 : ByteArray := prog_14_method_155_code
def yJ0_checkIndex_df160 : MethodName := ⟨RJ0, "checkIndex", "(II)V"⟩
def RJ1 : String := "java/lang/StringLatin1"
abbrev cJ1_charAt_3b067 : ByteArray := prog_15_method_2_code
def yJ1_charAt_3b067 : MethodName := ⟨RJ1, "charAt", "([BI)C"⟩
def RJ2 : String := "java/lang/StringUTF16"
abbrev cJ2_getChar_3b067 : ByteArray := prog_16_method_5_code
def yJ2_getChar_3b067 : MethodName := ⟨RJ2, "getChar", "([BI)C"⟩
abbrev cJ2_length_9d52b : ByteArray := prog_16_method_6_code
def yJ2_length_9d52b : MethodName := ⟨RJ2, "length", "([B)I"⟩
abbrev cJ2_charAt_3b067 : ByteArray := prog_16_method_83_code
def yJ2_charAt_3b067 : MethodName := ⟨RJ2, "charAt", "([BI)C"⟩
abbrev cJ2_checkIndex_2214a : ByteArray := prog_16_method_91_code
def yJ2_checkIndex_2214a : MethodName := ⟨RJ2, "checkIndex", "(I[B)V"⟩
def RJ10 : String := "java/lang/System"
def RJ7 : String := "java/util/Arrays"
abbrev cJ7_fill_53178 : ByteArray := prog_18_method_103_code
def yJ7_fill_53178 : MethodName := ⟨RJ7, "fill", "([II)V"⟩
def RJ3 : String := "jdk/internal/util/Preconditions"
abbrev cJ3_checkIndex_8e157 : ByteArray := prog_19_method_11_code
def yJ3_checkIndex_8e157 : MethodName := ⟨RJ3, "checkIndex", "(IILjava/util/function/BiFunction;)I"⟩
def RL : String := "HandedDownLaw"
abbrev cL_law : ByteArray := code
def yL_law : MethodName := ⟨RL, "law", "([I)Z"⟩
abbrev vwCl : List vw_C := [(RX0, TX0, 3), (RX1, TX1, 8), (RX2, TX2, 5), (RX3, TX3, 12), (RX4, TX4, 3), (RX5, TX5, 2), (RX6, TX6, 8), (RX7, TX7, 7), (RX8, TX8, 16), (RX9, TX9, 38)]
end
section
theorem dX0_init_0 : decode cX0_init 0 = .ok (.aload_n 0, 1) := by decide +kernel
theorem dX0_init_1 : decode cX0_init 1 = .ok (.invokespecial 3, 3) := by decide +kernel
theorem dX0_init_4 : decode cX0_init 4 = .ok (.return_, 1) := by decide +kernel
theorem dX0_become_0 : decode cX0_become 0 = .ok (.aload_n 0, 1) := by decide +kernel
theorem dX0_become_1 : decode cX0_become 1 = .ok (.aload_n 1, 1) := by decide +kernel
theorem dX0_become_2 : decode cX0_become 2 = .ok (.getfield 9, 3) := by decide +kernel
theorem dX0_become_5 : decode cX0_become 5 = .ok (.putfield 9, 3) := by decide +kernel
theorem dX0_become_8 : decode cX0_become 8 = .ok (.aload_n 0, 1) := by decide +kernel
theorem dX0_become_9 : decode cX0_become 9 = .ok (.aload_n 1, 1) := by decide +kernel
theorem dX0_become_10 : decode cX0_become 10 = .ok (.getfield 15, 3) := by decide +kernel
theorem dX0_become_13 : decode cX0_become 13 = .ok (.putfield 15, 3) := by decide +kernel
theorem dX0_become_16 : decode cX0_become 16 = .ok (.aload_n 0, 1) := by decide +kernel
theorem dX0_become_17 : decode cX0_become 17 = .ok (.aload_n 1, 1) := by decide +kernel
theorem dX0_become_18 : decode cX0_become 18 = .ok (.getfield 18, 3) := by decide +kernel
theorem dX0_become_21 : decode cX0_become 21 = .ok (.putfield 18, 3) := by decide +kernel
theorem dX0_become_24 : decode cX0_become 24 = .ok (.return_, 1) := by decide +kernel
theorem dX0_grow_0 : decode cX0_grow 0 = .ok (.aload_n 0, 1) := by decide +kernel
theorem dX0_grow_1 : decode cX0_grow 1 = .ok (.bipush 40, 2) := by decide +kernel
theorem dX0_grow_3 : decode cX0_grow 3 = .ok (.aload_n 0, 1) := by decide +kernel
theorem dX0_grow_4 : decode cX0_grow 4 = .ok (.getfield 9, 3) := by decide +kernel
theorem dX0_grow_7 : decode cX0_grow 7 = .ok (.iload_n 1, 1) := by decide +kernel
theorem dX0_grow_8 : decode cX0_grow 8 = .ok (.ifCond .eq 10, 3) := by decide +kernel
theorem dX0_grow_11 : decode cX0_grow 11 = .ok (.aload_n 0, 1) := by decide +kernel
theorem dX0_grow_12 : decode cX0_grow 12 = .ok (.getfield 18, 3) := by decide +kernel
theorem dX0_grow_15 : decode cX0_grow 15 = .ok (.goto 7, 3) := by decide +kernel
theorem dX0_grow_18 : decode cX0_grow 18 = .ok (.aload_n 0, 1) := by decide +kernel
theorem dX0_grow_19 : decode cX0_grow 19 = .ok (.getfield 15, 3) := by decide +kernel
theorem dX0_grow_22 : decode cX0_grow 22 = .ok (.iadd, 1) := by decide +kernel
theorem dX0_grow_23 : decode cX0_grow 23 = .ok (.invokestatic 21, 3) := by decide +kernel
theorem dX0_grow_26 : decode cX0_grow 26 = .ok (.putfield 9, 3) := by decide +kernel
theorem dX0_grow_29 : decode cX0_grow 29 = .ok (.return_, 1) := by decide +kernel
theorem dX1_init_0 : decode cX1_init 0 = .ok (.aload_n 0, 1) := by decide +kernel
theorem dX1_init_1 : decode cX1_init 1 = .ok (.invokespecial 3, 3) := by decide +kernel
theorem dX1_init_4 : decode cX1_init 4 = .ok (.aload_n 0, 1) := by decide +kernel
theorem dX1_init_5 : decode cX1_init 5 = .ok (.bipush 8, 2) := by decide +kernel
theorem dX1_init_7 : decode cX1_init 7 = .ok (.newarray .int, 2) := by decide +kernel
theorem dX1_init_9 : decode cX1_init 9 = .ok (.putfield 9, 3) := by decide +kernel
theorem dX1_init_12 : decode cX1_init 12 = .ok (.aload_n 0, 1) := by decide +kernel
theorem dX1_init_13 : decode cX1_init 13 = .ok (.bipush 8, 2) := by decide +kernel
theorem dX1_init_15 : decode cX1_init 15 = .ok (.newarray .int, 2) := by decide +kernel
theorem dX1_init_17 : decode cX1_init 17 = .ok (.putfield 15, 3) := by decide +kernel
theorem dX1_init_20 : decode cX1_init 20 = .ok (.aload_n 0, 1) := by decide +kernel
theorem dX1_init_21 : decode cX1_init 21 = .ok (.bipush 20, 2) := by decide +kernel
theorem dX1_init_23 : decode cX1_init 23 = .ok (.newarray .int, 2) := by decide +kernel
theorem dX1_init_25 : decode cX1_init 25 = .ok (.putfield 18, 3) := by decide +kernel
theorem dX1_init_28 : decode cX1_init 28 = .ok (.aload_n 0, 1) := by decide +kernel
theorem dX1_init_29 : decode cX1_init 29 = .ok (.bipush 20, 2) := by decide +kernel
theorem dX1_init_31 : decode cX1_init 31 = .ok (.newarray .int, 2) := by decide +kernel
theorem dX1_init_33 : decode cX1_init 33 = .ok (.putfield 21, 3) := by decide +kernel
theorem dX1_init_36 : decode cX1_init 36 = .ok (.aload_n 0, 1) := by decide +kernel
theorem dX1_init_37 : decode cX1_init 37 = .ok (.bipush 8, 2) := by decide +kernel
theorem dX1_init_39 : decode cX1_init 39 = .ok (.newarray .int, 2) := by decide +kernel
theorem dX1_init_41 : decode cX1_init 41 = .ok (.putfield 24, 3) := by decide +kernel
theorem dX1_init_44 : decode cX1_init 44 = .ok (.return_, 1) := by decide +kernel
theorem dX1_make_0 : decode cX1_make 0 = .ok (.aload_n 0, 1) := by decide +kernel
theorem dX1_make_1 : decode cX1_make 1 = .ok (.aload_n 1, 1) := by decide +kernel
theorem dX1_make_2 : decode cX1_make 2 = .ok (.iload_n 2, 1) := by decide +kernel
theorem dX1_make_3 : decode cX1_make 3 = .ok (.iload_n 3, 1) := by decide +kernel
theorem dX1_make_4 : decode cX1_make 4 = .ok (.invokevirtual 27, 3) := by decide +kernel
theorem dX1_make_7 : decode cX1_make 7 = .ok (.aload_n 0, 1) := by decide +kernel
theorem dX1_make_8 : decode cX1_make 8 = .ok (.invokevirtual 31, 3) := by decide +kernel
theorem dX1_make_11 : decode cX1_make 11 = .ok (.aload_n 0, 1) := by decide +kernel
theorem dX1_make_12 : decode cX1_make 12 = .ok (.invokevirtual 34, 3) := by decide +kernel
theorem dX1_make_15 : decode cX1_make 15 = .ok (.return_, 1) := by decide +kernel
theorem dX1_begin_0 : decode cX1_begin 0 = .ok (.aload_n 0, 1) := by decide +kernel
theorem dX1_begin_1 : decode cX1_begin 1 = .ok (.aload_n 1, 1) := by decide +kernel
theorem dX1_begin_2 : decode cX1_begin 2 = .ok (.getfield 37, 3) := by decide +kernel
theorem dX1_begin_5 : decode cX1_begin 5 = .ok (.putfield 43, 3) := by decide +kernel
theorem dX1_begin_8 : decode cX1_begin 8 = .ok (.aload_n 0, 1) := by decide +kernel
theorem dX1_begin_9 : decode cX1_begin 9 = .ok (.aload_n 1, 1) := by decide +kernel
theorem dX1_begin_10 : decode cX1_begin 10 = .ok (.getfield 44, 3) := by decide +kernel
theorem dX1_begin_13 : decode cX1_begin 13 = .ok (.putfield 47, 3) := by decide +kernel
theorem dX1_begin_16 : decode cX1_begin 16 = .ok (.aload_n 0, 1) := by decide +kernel
theorem dX1_begin_17 : decode cX1_begin 17 = .ok (.iconst 0, 1) := by decide +kernel
theorem dX1_begin_18 : decode cX1_begin 18 = .ok (.putfield 48, 3) := by decide +kernel
theorem dX1_begin_21 : decode cX1_begin 21 = .ok (.aload_n 0, 1) := by decide +kernel
theorem dX1_begin_22 : decode cX1_begin 22 = .ok (.getfield 18, 3) := by decide +kernel
theorem dX1_begin_25 : decode cX1_begin 25 = .ok (.bipush (-4), 2) := by decide +kernel
theorem dX1_begin_27 : decode cX1_begin 27 = .ok (.invokestatic 51, 3) := by decide +kernel
theorem dX1_begin_30 : decode cX1_begin 30 = .ok (.iconst 0, 1) := by decide +kernel
theorem dX1_begin_31 : decode cX1_begin 31 = .ok (.istore 4, 2) := by decide +kernel
theorem dX1_begin_33 : decode cX1_begin 33 = .ok (.iload 4, 2) := by decide +kernel
theorem dX1_begin_35 : decode cX1_begin 35 = .ok (.aload_n 0, 1) := by decide +kernel
theorem dX1_begin_36 : decode cX1_begin 36 = .ok (.getfield 43, 3) := by decide +kernel
theorem dX1_begin_39 : decode cX1_begin 39 = .ok (.if_icmp .ge 101, 3) := by decide +kernel
theorem dX1_begin_42 : decode cX1_begin 42 = .ok (.aload_n 0, 1) := by decide +kernel
theorem dX1_begin_43 : decode cX1_begin 43 = .ok (.getfield 15, 3) := by decide +kernel
theorem dX1_begin_46 : decode cX1_begin 46 = .ok (.iload 4, 2) := by decide +kernel
theorem dX1_begin_48 : decode cX1_begin 48 = .ok (.bipush (-4), 2) := by decide +kernel
theorem dX1_begin_50 : decode cX1_begin 50 = .ok (.iastore, 1) := by decide +kernel
theorem dX1_begin_51 : decode cX1_begin 51 = .ok (.aload_n 0, 1) := by decide +kernel
theorem dX1_begin_52 : decode cX1_begin 52 = .ok (.getfield 9, 3) := by decide +kernel
theorem dX1_begin_55 : decode cX1_begin 55 = .ok (.iload 4, 2) := by decide +kernel
theorem dX1_begin_57 : decode cX1_begin 57 = .ok (.iconst 0, 1) := by decide +kernel
theorem dX1_begin_58 : decode cX1_begin 58 = .ok (.iastore, 1) := by decide +kernel
theorem dX1_begin_59 : decode cX1_begin 59 = .ok (.aload_n 1, 1) := by decide +kernel
theorem dX1_begin_60 : decode cX1_begin 60 = .ok (.getfield 57, 3) := by decide +kernel
theorem dX1_begin_63 : decode cX1_begin 63 = .ok (.iload 4, 2) := by decide +kernel
theorem dX1_begin_65 : decode cX1_begin 65 = .ok (.aaload, 1) := by decide +kernel
theorem dX1_begin_66 : decode cX1_begin 66 = .ok (.getfield 61, 3) := by decide +kernel
theorem dX1_begin_69 : decode cX1_begin 69 = .ok (.istore 5, 2) := by decide +kernel
theorem dX1_begin_71 : decode cX1_begin 71 = .ok (.iconst 0, 1) := by decide +kernel
theorem dX1_begin_72 : decode cX1_begin 72 = .ok (.istore 6, 2) := by decide +kernel
theorem dX1_begin_74 : decode cX1_begin 74 = .ok (.iload 6, 2) := by decide +kernel
theorem dX1_begin_76 : decode cX1_begin 76 = .ok (.aload_n 0, 1) := by decide +kernel
theorem dX1_begin_77 : decode cX1_begin 77 = .ok (.getfield 47, 3) := by decide +kernel
theorem dX1_begin_80 : decode cX1_begin 80 = .ok (.if_icmp .ge 54, 3) := by decide +kernel
theorem dX1_begin_83 : decode cX1_begin 83 = .ok (.aload_n 1, 1) := by decide +kernel
theorem dX1_begin_84 : decode cX1_begin 84 = .ok (.getfield 66, 3) := by decide +kernel
theorem dX1_begin_87 : decode cX1_begin 87 = .ok (.iload 6, 2) := by decide +kernel
theorem dX1_begin_89 : decode cX1_begin 89 = .ok (.aaload, 1) := by decide +kernel
theorem dX1_begin_90 : decode cX1_begin 90 = .ok (.astore 7, 2) := by decide +kernel
theorem dX1_begin_92 : decode cX1_begin 92 = .ok (.aload 7, 2) := by decide +kernel
theorem dX1_begin_94 : decode cX1_begin 94 = .ok (.getfield 70, 3) := by decide +kernel
theorem dX1_begin_97 : decode cX1_begin 97 = .ok (.iload_n 2, 1) := by decide +kernel
theorem dX1_begin_98 : decode cX1_begin 98 = .ok (.if_icmp .ne 30, 3) := by decide +kernel
theorem dX1_begin_101 : decode cX1_begin 101 = .ok (.aload 7, 2) := by decide +kernel
theorem dX1_begin_103 : decode cX1_begin 103 = .ok (.iload 4, 2) := by decide +kernel
theorem dX1_begin_105 : decode cX1_begin 105 = .ok (.iload 5, 2) := by decide +kernel
theorem dX1_begin_107 : decode cX1_begin 107 = .ok (.iload_n 3, 1) := by decide +kernel
theorem dX1_begin_108 : decode cX1_begin 108 = .ok (.invokevirtual 75, 3) := by decide +kernel
theorem dX1_begin_111 : decode cX1_begin 111 = .ok (.ifCond .eq 17, 3) := by decide +kernel
theorem dX1_begin_114 : decode cX1_begin 114 = .ok (.aload_n 0, 1) := by decide +kernel
theorem dX1_begin_115 : decode cX1_begin 115 = .ok (.getfield 9, 3) := by decide +kernel
theorem dX1_begin_118 : decode cX1_begin 118 = .ok (.iload 4, 2) := by decide +kernel
theorem dX1_begin_120 : decode cX1_begin 120 = .ok (.dup2, 1) := by decide +kernel
theorem dX1_begin_121 : decode cX1_begin 121 = .ok (.iaload, 1) := by decide +kernel
theorem dX1_begin_122 : decode cX1_begin 122 = .ok (.iconst 1, 1) := by decide +kernel
theorem dX1_begin_123 : decode cX1_begin 123 = .ok (.iload 6, 2) := by decide +kernel
theorem dX1_begin_125 : decode cX1_begin 125 = .ok (.ishl, 1) := by decide +kernel
theorem dX1_begin_126 : decode cX1_begin 126 = .ok (.ior, 1) := by decide +kernel
theorem dX1_begin_127 : decode cX1_begin 127 = .ok (.iastore, 1) := by decide +kernel
theorem dX1_begin_128 : decode cX1_begin 128 = .ok (.iinc 6 1, 3) := by decide +kernel
theorem dX1_begin_131 : decode cX1_begin 131 = .ok (.goto (-57), 3) := by decide +kernel
theorem dX1_begin_134 : decode cX1_begin 134 = .ok (.iinc 4 1, 3) := by decide +kernel
theorem dX1_begin_137 : decode cX1_begin 137 = .ok (.goto (-104), 3) := by decide +kernel
theorem dX1_begin_140 : decode cX1_begin 140 = .ok (.return_, 1) := by decide +kernel
theorem dX1_addLent_0 : decode cX1_addLent 0 = .ok (.aload_n 0, 1) := by decide +kernel
theorem dX1_addLent_1 : decode cX1_addLent 1 = .ok (.bipush 10, 2) := by decide +kernel
theorem dX1_addLent_3 : decode cX1_addLent 3 = .ok (.aload_n 2, 1) := by decide +kernel
theorem dX1_addLent_4 : decode cX1_addLent 4 = .ok (.getfield 44, 3) := by decide +kernel
theorem dX1_addLent_7 : decode cX1_addLent 7 = .ok (.iadd, 1) := by decide +kernel
theorem dX1_addLent_8 : decode cX1_addLent 8 = .ok (.putfield 47, 3) := by decide +kernel
theorem dX1_addLent_11 : decode cX1_addLent 11 = .ok (.iconst 0, 1) := by decide +kernel
theorem dX1_addLent_12 : decode cX1_addLent 12 = .ok (.istore 5, 2) := by decide +kernel
theorem dX1_addLent_14 : decode cX1_addLent 14 = .ok (.iload 5, 2) := by decide +kernel
theorem dX1_addLent_16 : decode cX1_addLent 16 = .ok (.aload_n 0, 1) := by decide +kernel
theorem dX1_addLent_17 : decode cX1_addLent 17 = .ok (.getfield 43, 3) := by decide +kernel
theorem dX1_addLent_20 : decode cX1_addLent 20 = .ok (.if_icmp .ge 85, 3) := by decide +kernel
theorem dX1_addLent_23 : decode cX1_addLent 23 = .ok (.aload_n 1, 1) := by decide +kernel
theorem dX1_addLent_24 : decode cX1_addLent 24 = .ok (.getfield 57, 3) := by decide +kernel
theorem dX1_addLent_27 : decode cX1_addLent 27 = .ok (.iload 5, 2) := by decide +kernel
theorem dX1_addLent_29 : decode cX1_addLent 29 = .ok (.aaload, 1) := by decide +kernel
theorem dX1_addLent_30 : decode cX1_addLent 30 = .ok (.getfield 61, 3) := by decide +kernel
theorem dX1_addLent_33 : decode cX1_addLent 33 = .ok (.istore 6, 2) := by decide +kernel
theorem dX1_addLent_35 : decode cX1_addLent 35 = .ok (.iconst 0, 1) := by decide +kernel
theorem dX1_addLent_36 : decode cX1_addLent 36 = .ok (.istore 7, 2) := by decide +kernel
theorem dX1_addLent_38 : decode cX1_addLent 38 = .ok (.iload 7, 2) := by decide +kernel
theorem dX1_addLent_40 : decode cX1_addLent 40 = .ok (.aload_n 2, 1) := by decide +kernel
theorem dX1_addLent_41 : decode cX1_addLent 41 = .ok (.getfield 44, 3) := by decide +kernel
theorem dX1_addLent_44 : decode cX1_addLent 44 = .ok (.if_icmp .ge 55, 3) := by decide +kernel
theorem dX1_addLent_47 : decode cX1_addLent 47 = .ok (.iload_n 3, 1) := by decide +kernel
theorem dX1_addLent_48 : decode cX1_addLent 48 = .ok (.iload 7, 2) := by decide +kernel
theorem dX1_addLent_50 : decode cX1_addLent 50 = .ok (.ishr, 1) := by decide +kernel
theorem dX1_addLent_51 : decode cX1_addLent 51 = .ok (.iconst 1, 1) := by decide +kernel
theorem dX1_addLent_52 : decode cX1_addLent 52 = .ok (.iand, 1) := by decide +kernel
theorem dX1_addLent_53 : decode cX1_addLent 53 = .ok (.iconst 1, 1) := by decide +kernel
theorem dX1_addLent_54 : decode cX1_addLent 54 = .ok (.if_icmp .ne 39, 3) := by decide +kernel
theorem dX1_addLent_57 : decode cX1_addLent 57 = .ok (.aload_n 2, 1) := by decide +kernel
theorem dX1_addLent_58 : decode cX1_addLent 58 = .ok (.getfield 66, 3) := by decide +kernel
theorem dX1_addLent_61 : decode cX1_addLent 61 = .ok (.iload 7, 2) := by decide +kernel
theorem dX1_addLent_63 : decode cX1_addLent 63 = .ok (.aaload, 1) := by decide +kernel
theorem dX1_addLent_64 : decode cX1_addLent 64 = .ok (.iload 5, 2) := by decide +kernel
theorem dX1_addLent_66 : decode cX1_addLent 66 = .ok (.iload 6, 2) := by decide +kernel
theorem dX1_addLent_68 : decode cX1_addLent 68 = .ok (.iload 4, 2) := by decide +kernel
theorem dX1_addLent_70 : decode cX1_addLent 70 = .ok (.invokevirtual 75, 3) := by decide +kernel
theorem dX1_addLent_73 : decode cX1_addLent 73 = .ok (.ifCond .eq 20, 3) := by decide +kernel
theorem dX1_addLent_76 : decode cX1_addLent 76 = .ok (.aload_n 0, 1) := by decide +kernel
theorem dX1_addLent_77 : decode cX1_addLent 77 = .ok (.getfield 9, 3) := by decide +kernel
theorem dX1_addLent_80 : decode cX1_addLent 80 = .ok (.iload 5, 2) := by decide +kernel
theorem dX1_addLent_82 : decode cX1_addLent 82 = .ok (.dup2, 1) := by decide +kernel
theorem dX1_addLent_83 : decode cX1_addLent 83 = .ok (.iaload, 1) := by decide +kernel
theorem dX1_addLent_84 : decode cX1_addLent 84 = .ok (.iconst 1, 1) := by decide +kernel
theorem dX1_addLent_85 : decode cX1_addLent 85 = .ok (.bipush 10, 2) := by decide +kernel
theorem dX1_addLent_87 : decode cX1_addLent 87 = .ok (.iload 7, 2) := by decide +kernel
theorem dX1_addLent_89 : decode cX1_addLent 89 = .ok (.iadd, 1) := by decide +kernel
theorem dX1_addLent_90 : decode cX1_addLent 90 = .ok (.ishl, 1) := by decide +kernel
theorem dX1_addLent_91 : decode cX1_addLent 91 = .ok (.ior, 1) := by decide +kernel
theorem dX1_addLent_92 : decode cX1_addLent 92 = .ok (.iastore, 1) := by decide +kernel
theorem dX1_addLent_93 : decode cX1_addLent 93 = .ok (.iinc 7 1, 3) := by decide +kernel
theorem dX1_addLent_96 : decode cX1_addLent 96 = .ok (.goto (-58), 3) := by decide +kernel
theorem dX1_addLent_99 : decode cX1_addLent 99 = .ok (.iinc 5 1, 3) := by decide +kernel
theorem dX1_addLent_102 : decode cX1_addLent 102 = .ok (.goto (-88), 3) := by decide +kernel
theorem dX1_addLent_105 : decode cX1_addLent 105 = .ok (.return_, 1) := by decide +kernel
theorem dX1_warmAll_0 : decode cX1_warmAll 0 = .ok (.iconst 0, 1) := by decide +kernel
theorem dX1_warmAll_1 : decode cX1_warmAll 1 = .ok (.istore_n 1, 1) := by decide +kernel
theorem dX1_warmAll_2 : decode cX1_warmAll 2 = .ok (.iload_n 1, 1) := by decide +kernel
theorem dX1_warmAll_3 : decode cX1_warmAll 3 = .ok (.aload_n 0, 1) := by decide +kernel
theorem dX1_warmAll_4 : decode cX1_warmAll 4 = .ok (.getfield 43, 3) := by decide +kernel
theorem dX1_warmAll_7 : decode cX1_warmAll 7 = .ok (.if_icmp .ge 40, 3) := by decide +kernel
theorem dX1_warmAll_10 : decode cX1_warmAll 10 = .ok (.aload_n 0, 1) := by decide +kernel
theorem dX1_warmAll_11 : decode cX1_warmAll 11 = .ok (.iconst 0, 1) := by decide +kernel
theorem dX1_warmAll_12 : decode cX1_warmAll 12 = .ok (.iconst 0, 1) := by decide +kernel
theorem dX1_warmAll_13 : decode cX1_warmAll 13 = .ok (.invokevirtual 79, 3) := by decide +kernel
theorem dX1_warmAll_16 : decode cX1_warmAll 16 = .ok (.istore_n 2, 1) := by decide +kernel
theorem dX1_warmAll_17 : decode cX1_warmAll 17 = .ok (.iload_n 2, 1) := by decide +kernel
theorem dX1_warmAll_18 : decode cX1_warmAll 18 = .ok (.bipush (-4), 2) := by decide +kernel
theorem dX1_warmAll_20 : decode cX1_warmAll 20 = .ok (.if_icmp .ne 6, 3) := by decide +kernel
theorem dX1_warmAll_23 : decode cX1_warmAll 23 = .ok (.goto 24, 3) := by decide +kernel
theorem dX1_warmAll_26 : decode cX1_warmAll 26 = .ok (.aload_n 0, 1) := by decide +kernel
theorem dX1_warmAll_27 : decode cX1_warmAll 27 = .ok (.iload_n 2, 1) := by decide +kernel
theorem dX1_warmAll_28 : decode cX1_warmAll 28 = .ok (.invokevirtual 83, 3) := by decide +kernel
theorem dX1_warmAll_31 : decode cX1_warmAll 31 = .ok (.aload_n 0, 1) := by decide +kernel
theorem dX1_warmAll_32 : decode cX1_warmAll 32 = .ok (.dup, 1) := by decide +kernel
theorem dX1_warmAll_33 : decode cX1_warmAll 33 = .ok (.getfield 48, 3) := by decide +kernel
theorem dX1_warmAll_36 : decode cX1_warmAll 36 = .ok (.iconst 1, 1) := by decide +kernel
theorem dX1_warmAll_37 : decode cX1_warmAll 37 = .ok (.iadd, 1) := by decide +kernel
theorem dX1_warmAll_38 : decode cX1_warmAll 38 = .ok (.putfield 48, 3) := by decide +kernel
theorem dX1_warmAll_41 : decode cX1_warmAll 41 = .ok (.iinc 1 1, 3) := by decide +kernel
theorem dX1_warmAll_44 : decode cX1_warmAll 44 = .ok (.goto (-42), 3) := by decide +kernel
theorem dX1_warmAll_47 : decode cX1_warmAll 47 = .ok (.return_, 1) := by decide +kernel
theorem dX1_thingOf_0 : decode cX1_thingOf 0 = .ok (.iload_n 1, 1) := by decide +kernel
theorem dX1_thingOf_1 : decode cX1_thingOf 1 = .ok (.ifCond .lt 20, 3) := by decide +kernel
theorem dX1_thingOf_4 : decode cX1_thingOf 4 = .ok (.iload_n 1, 1) := by decide +kernel
theorem dX1_thingOf_5 : decode cX1_thingOf 5 = .ok (.aload_n 0, 1) := by decide +kernel
theorem dX1_thingOf_6 : decode cX1_thingOf 6 = .ok (.getfield 43, 3) := by decide +kernel
theorem dX1_thingOf_9 : decode cX1_thingOf 9 = .ok (.if_icmp .ge 12, 3) := by decide +kernel
theorem dX1_thingOf_12 : decode cX1_thingOf 12 = .ok (.aload_n 0, 1) := by decide +kernel
theorem dX1_thingOf_13 : decode cX1_thingOf 13 = .ok (.getfield 15, 3) := by decide +kernel
theorem dX1_thingOf_16 : decode cX1_thingOf 16 = .ok (.iload_n 1, 1) := by decide +kernel
theorem dX1_thingOf_17 : decode cX1_thingOf 17 = .ok (.iaload, 1) := by decide +kernel
theorem dX1_thingOf_18 : decode cX1_thingOf 18 = .ok (.goto 5, 3) := by decide +kernel
theorem dX1_thingOf_21 : decode cX1_thingOf 21 = .ok (.bipush (-4), 2) := by decide +kernel
theorem dX1_thingOf_23 : decode cX1_thingOf 23 = .ok (.ireturn, 1) := by decide +kernel
theorem dX1_leftOf_0 : decode cX1_leftOf 0 = .ok (.iconst 0, 1) := by decide +kernel
theorem dX1_leftOf_1 : decode cX1_leftOf 1 = .ok (.istore 4, 2) := by decide +kernel
theorem dX1_leftOf_3 : decode cX1_leftOf 3 = .ok (.iconst 0, 1) := by decide +kernel
theorem dX1_leftOf_4 : decode cX1_leftOf 4 = .ok (.istore 5, 2) := by decide +kernel
theorem dX1_leftOf_6 : decode cX1_leftOf 6 = .ok (.iload 5, 2) := by decide +kernel
theorem dX1_leftOf_8 : decode cX1_leftOf 8 = .ok (.aload_n 1, 1) := by decide +kernel
theorem dX1_leftOf_9 : decode cX1_leftOf 9 = .ok (.getfield 44, 3) := by decide +kernel
theorem dX1_leftOf_12 : decode cX1_leftOf 12 = .ok (.if_icmp .ge 69, 3) := by decide +kernel
theorem dX1_leftOf_15 : decode cX1_leftOf 15 = .ok (.aload_n 1, 1) := by decide +kernel
theorem dX1_leftOf_16 : decode cX1_leftOf 16 = .ok (.getfield 66, 3) := by decide +kernel
theorem dX1_leftOf_19 : decode cX1_leftOf 19 = .ok (.iload 5, 2) := by decide +kernel
theorem dX1_leftOf_21 : decode cX1_leftOf 21 = .ok (.aaload, 1) := by decide +kernel
theorem dX1_leftOf_22 : decode cX1_leftOf 22 = .ok (.astore 6, 2) := by decide +kernel
theorem dX1_leftOf_24 : decode cX1_leftOf 24 = .ok (.aload 6, 2) := by decide +kernel
theorem dX1_leftOf_26 : decode cX1_leftOf 26 = .ok (.getfield 70, 3) := by decide +kernel
theorem dX1_leftOf_29 : decode cX1_leftOf 29 = .ok (.iload_n 2, 1) := by decide +kernel
theorem dX1_leftOf_30 : decode cX1_leftOf 30 = .ok (.if_icmp .ne 45, 3) := by decide +kernel
theorem dX1_leftOf_33 : decode cX1_leftOf 33 = .ok (.aload_n 0, 1) := by decide +kernel
theorem dX1_leftOf_34 : decode cX1_leftOf 34 = .ok (.getfield 18, 3) := by decide +kernel
theorem dX1_leftOf_37 : decode cX1_leftOf 37 = .ok (.iload 5, 2) := by decide +kernel
theorem dX1_leftOf_39 : decode cX1_leftOf 39 = .ok (.iaload, 1) := by decide +kernel
theorem dX1_leftOf_40 : decode cX1_leftOf 40 = .ok (.bipush (-4), 2) := by decide +kernel
theorem dX1_leftOf_42 : decode cX1_leftOf 42 = .ok (.if_icmp .ne 33, 3) := by decide +kernel
theorem dX1_leftOf_45 : decode cX1_leftOf 45 = .ok (.aload 6, 2) := by decide +kernel
theorem dX1_leftOf_47 : decode cX1_leftOf 47 = .ok (.invokevirtual 87, 3) := by decide +kernel
theorem dX1_leftOf_50 : decode cX1_leftOf 50 = .ok (.ifCond .ne 25, 3) := by decide +kernel
theorem dX1_leftOf_53 : decode cX1_leftOf 53 = .ok (.iload_n 3, 1) := by decide +kernel
theorem dX1_leftOf_54 : decode cX1_leftOf 54 = .ok (.ifCond .ne 12, 3) := by decide +kernel
theorem dX1_leftOf_57 : decode cX1_leftOf 57 = .ok (.aload 6, 2) := by decide +kernel
theorem dX1_leftOf_59 : decode cX1_leftOf 59 = .ok (.getfield 91, 3) := by decide +kernel
theorem dX1_leftOf_62 : decode cX1_leftOf 62 = .ok (.iconst 4, 1) := by decide +kernel
theorem dX1_leftOf_63 : decode cX1_leftOf 63 = .ok (.if_icmp .eq 12, 3) := by decide +kernel
theorem dX1_leftOf_66 : decode cX1_leftOf 66 = .ok (.iload 4, 2) := by decide +kernel
theorem dX1_leftOf_68 : decode cX1_leftOf 68 = .ok (.iconst 1, 1) := by decide +kernel
theorem dX1_leftOf_69 : decode cX1_leftOf 69 = .ok (.iload 5, 2) := by decide +kernel
theorem dX1_leftOf_71 : decode cX1_leftOf 71 = .ok (.ishl, 1) := by decide +kernel
theorem dX1_leftOf_72 : decode cX1_leftOf 72 = .ok (.ior, 1) := by decide +kernel
theorem dX1_leftOf_73 : decode cX1_leftOf 73 = .ok (.istore 4, 2) := by decide +kernel
theorem dX1_leftOf_75 : decode cX1_leftOf 75 = .ok (.iinc 5 1, 3) := by decide +kernel
theorem dX1_leftOf_78 : decode cX1_leftOf 78 = .ok (.goto (-72), 3) := by decide +kernel
theorem dX1_leftOf_81 : decode cX1_leftOf 81 = .ok (.iload 4, 2) := by decide +kernel
theorem dX1_leftOf_83 : decode cX1_leftOf 83 = .ok (.ireturn, 1) := by decide +kernel
theorem dX1_seekFree_0 : decode cX1_seekFree 0 = .ok (.iconst 0, 1) := by decide +kernel
theorem dX1_seekFree_1 : decode cX1_seekFree 1 = .ok (.istore_n 3, 1) := by decide +kernel
theorem dX1_seekFree_2 : decode cX1_seekFree 2 = .ok (.iload_n 1, 1) := by decide +kernel
theorem dX1_seekFree_3 : decode cX1_seekFree 3 = .ok (.istore 4, 2) := by decide +kernel
theorem dX1_seekFree_5 : decode cX1_seekFree 5 = .ok (.iload 4, 2) := by decide +kernel
theorem dX1_seekFree_7 : decode cX1_seekFree 7 = .ok (.aload_n 0, 1) := by decide +kernel
theorem dX1_seekFree_8 : decode cX1_seekFree 8 = .ok (.getfield 43, 3) := by decide +kernel
theorem dX1_seekFree_11 : decode cX1_seekFree 11 = .ok (.if_icmp .ge 32, 3) := by decide +kernel
theorem dX1_seekFree_14 : decode cX1_seekFree 14 = .ok (.aload_n 0, 1) := by decide +kernel
theorem dX1_seekFree_15 : decode cX1_seekFree 15 = .ok (.getfield 15, 3) := by decide +kernel
theorem dX1_seekFree_18 : decode cX1_seekFree 18 = .ok (.iload 4, 2) := by decide +kernel
theorem dX1_seekFree_20 : decode cX1_seekFree 20 = .ok (.iaload, 1) := by decide +kernel
theorem dX1_seekFree_21 : decode cX1_seekFree 21 = .ok (.bipush (-4), 2) := by decide +kernel
theorem dX1_seekFree_23 : decode cX1_seekFree 23 = .ok (.if_icmp .ne 14, 3) := by decide +kernel
theorem dX1_seekFree_26 : decode cX1_seekFree 26 = .ok (.aload_n 0, 1) := by decide +kernel
theorem dX1_seekFree_27 : decode cX1_seekFree 27 = .ok (.getfield 24, 3) := by decide +kernel
theorem dX1_seekFree_30 : decode cX1_seekFree 30 = .ok (.iload_n 3, 1) := by decide +kernel
theorem dX1_seekFree_31 : decode cX1_seekFree 31 = .ok (.iload 4, 2) := by decide +kernel
theorem dX1_seekFree_33 : decode cX1_seekFree 33 = .ok (.iastore, 1) := by decide +kernel
theorem dX1_seekFree_34 : decode cX1_seekFree 34 = .ok (.iinc 3 1, 3) := by decide +kernel
theorem dX1_seekFree_37 : decode cX1_seekFree 37 = .ok (.iinc 4 1, 3) := by decide +kernel
theorem dX1_seekFree_40 : decode cX1_seekFree 40 = .ok (.goto (-35), 3) := by decide +kernel
theorem dX1_seekFree_43 : decode cX1_seekFree 43 = .ok (.iload_n 2, 1) := by decide +kernel
theorem dX1_seekFree_44 : decode cX1_seekFree 44 = .ok (.istore 4, 2) := by decide +kernel
theorem dX1_seekFree_46 : decode cX1_seekFree 46 = .ok (.iconst 0, 1) := by decide +kernel
theorem dX1_seekFree_47 : decode cX1_seekFree 47 = .ok (.istore 5, 2) := by decide +kernel
theorem dX1_seekFree_49 : decode cX1_seekFree 49 = .ok (.iload 5, 2) := by decide +kernel
theorem dX1_seekFree_51 : decode cX1_seekFree 51 = .ok (.iload_n 3, 1) := by decide +kernel
theorem dX1_seekFree_52 : decode cX1_seekFree 52 = .ok (.if_icmp .ge 115, 3) := by decide +kernel
theorem dX1_seekFree_55 : decode cX1_seekFree 55 = .ok (.aload_n 0, 1) := by decide +kernel
theorem dX1_seekFree_56 : decode cX1_seekFree 56 = .ok (.getfield 9, 3) := by decide +kernel
theorem dX1_seekFree_59 : decode cX1_seekFree 59 = .ok (.aload_n 0, 1) := by decide +kernel
theorem dX1_seekFree_60 : decode cX1_seekFree 60 = .ok (.getfield 24, 3) := by decide +kernel
theorem dX1_seekFree_63 : decode cX1_seekFree 63 = .ok (.iload 5, 2) := by decide +kernel
theorem dX1_seekFree_65 : decode cX1_seekFree 65 = .ok (.iaload, 1) := by decide +kernel
theorem dX1_seekFree_66 : decode cX1_seekFree 66 = .ok (.iaload, 1) := by decide +kernel
theorem dX1_seekFree_67 : decode cX1_seekFree 67 = .ok (.iload 4, 2) := by decide +kernel
theorem dX1_seekFree_69 : decode cX1_seekFree 69 = .ok (.iconst (-1), 1) := by decide +kernel
theorem dX1_seekFree_70 : decode cX1_seekFree 70 = .ok (.ixor, 1) := by decide +kernel
theorem dX1_seekFree_71 : decode cX1_seekFree 71 = .ok (.iand, 1) := by decide +kernel
theorem dX1_seekFree_72 : decode cX1_seekFree 72 = .ok (.istore 6, 2) := by decide +kernel
theorem dX1_seekFree_74 : decode cX1_seekFree 74 = .ok (.iload 4, 2) := by decide +kernel
theorem dX1_seekFree_76 : decode cX1_seekFree 76 = .ok (.iload 6, 2) := by decide +kernel
theorem dX1_seekFree_78 : decode cX1_seekFree 78 = .ok (.ior, 1) := by decide +kernel
theorem dX1_seekFree_79 : decode cX1_seekFree 79 = .ok (.istore 4, 2) := by decide +kernel
theorem dX1_seekFree_81 : decode cX1_seekFree 81 = .ok (.iconst 0, 1) := by decide +kernel
theorem dX1_seekFree_82 : decode cX1_seekFree 82 = .ok (.istore 7, 2) := by decide +kernel
theorem dX1_seekFree_84 : decode cX1_seekFree 84 = .ok (.iload 7, 2) := by decide +kernel
theorem dX1_seekFree_86 : decode cX1_seekFree 86 = .ok (.aload_n 0, 1) := by decide +kernel
theorem dX1_seekFree_87 : decode cX1_seekFree 87 = .ok (.getfield 47, 3) := by decide +kernel
theorem dX1_seekFree_90 : decode cX1_seekFree 90 = .ok (.if_icmp .ge 71, 3) := by decide +kernel
theorem dX1_seekFree_93 : decode cX1_seekFree 93 = .ok (.iload 6, 2) := by decide +kernel
theorem dX1_seekFree_95 : decode cX1_seekFree 95 = .ok (.iload 7, 2) := by decide +kernel
theorem dX1_seekFree_97 : decode cX1_seekFree 97 = .ok (.ishr, 1) := by decide +kernel
theorem dX1_seekFree_98 : decode cX1_seekFree 98 = .ok (.iconst 1, 1) := by decide +kernel
theorem dX1_seekFree_99 : decode cX1_seekFree 99 = .ok (.iand, 1) := by decide +kernel
theorem dX1_seekFree_100 : decode cX1_seekFree 100 = .ok (.iconst 1, 1) := by decide +kernel
theorem dX1_seekFree_101 : decode cX1_seekFree 101 = .ok (.if_icmp .ne 54, 3) := by decide +kernel
theorem dX1_seekFree_104 : decode cX1_seekFree 104 = .ok (.aload_n 0, 1) := by decide +kernel
theorem dX1_seekFree_105 : decode cX1_seekFree 105 = .ok (.getfield 21, 3) := by decide +kernel
theorem dX1_seekFree_108 : decode cX1_seekFree 108 = .ok (.iload 7, 2) := by decide +kernel
theorem dX1_seekFree_110 : decode cX1_seekFree 110 = .ok (.aload_n 0, 1) := by decide +kernel
theorem dX1_seekFree_111 : decode cX1_seekFree 111 = .ok (.getfield 24, 3) := by decide +kernel
theorem dX1_seekFree_114 : decode cX1_seekFree 114 = .ok (.iload 5, 2) := by decide +kernel
theorem dX1_seekFree_116 : decode cX1_seekFree 116 = .ok (.iaload, 1) := by decide +kernel
theorem dX1_seekFree_117 : decode cX1_seekFree 117 = .ok (.iastore, 1) := by decide +kernel
theorem dX1_seekFree_118 : decode cX1_seekFree 118 = .ok (.aload_n 0, 1) := by decide +kernel
theorem dX1_seekFree_119 : decode cX1_seekFree 119 = .ok (.getfield 18, 3) := by decide +kernel
theorem dX1_seekFree_122 : decode cX1_seekFree 122 = .ok (.iload 7, 2) := by decide +kernel
theorem dX1_seekFree_124 : decode cX1_seekFree 124 = .ok (.iaload, 1) := by decide +kernel
theorem dX1_seekFree_125 : decode cX1_seekFree 125 = .ok (.bipush (-4), 2) := by decide +kernel
theorem dX1_seekFree_127 : decode cX1_seekFree 127 = .ok (.if_icmp .ne 6, 3) := by decide +kernel
theorem dX1_seekFree_130 : decode cX1_seekFree 130 = .ok (.iload 7, 2) := by decide +kernel
theorem dX1_seekFree_132 : decode cX1_seekFree 132 = .ok (.ireturn, 1) := by decide +kernel
theorem dX1_seekFree_133 : decode cX1_seekFree 133 = .ok (.iload_n 3, 1) := by decide +kernel
theorem dX1_seekFree_134 : decode cX1_seekFree 134 = .ok (.bipush 8, 2) := by decide +kernel
theorem dX1_seekFree_136 : decode cX1_seekFree 136 = .ok (.if_icmp .ge 19, 3) := by decide +kernel
theorem dX1_seekFree_139 : decode cX1_seekFree 139 = .ok (.aload_n 0, 1) := by decide +kernel
theorem dX1_seekFree_140 : decode cX1_seekFree 140 = .ok (.getfield 24, 3) := by decide +kernel
theorem dX1_seekFree_143 : decode cX1_seekFree 143 = .ok (.iload_n 3, 1) := by decide +kernel
theorem dX1_seekFree_144 : decode cX1_seekFree 144 = .ok (.aload_n 0, 1) := by decide +kernel
theorem dX1_seekFree_145 : decode cX1_seekFree 145 = .ok (.getfield 18, 3) := by decide +kernel
theorem dX1_seekFree_148 : decode cX1_seekFree 148 = .ok (.iload 7, 2) := by decide +kernel
theorem dX1_seekFree_150 : decode cX1_seekFree 150 = .ok (.iaload, 1) := by decide +kernel
theorem dX1_seekFree_151 : decode cX1_seekFree 151 = .ok (.iastore, 1) := by decide +kernel
theorem dX1_seekFree_152 : decode cX1_seekFree 152 = .ok (.iinc 3 1, 3) := by decide +kernel
theorem dX1_seekFree_155 : decode cX1_seekFree 155 = .ok (.iinc 7 1, 3) := by decide +kernel
theorem dX1_seekFree_158 : decode cX1_seekFree 158 = .ok (.goto (-74), 3) := by decide +kernel
theorem dX1_seekFree_161 : decode cX1_seekFree 161 = .ok (.iinc 5 1, 3) := by decide +kernel
theorem dX1_seekFree_164 : decode cX1_seekFree 164 = .ok (.goto (-115), 3) := by decide +kernel
theorem dX1_seekFree_167 : decode cX1_seekFree 167 = .ok (.bipush (-4), 2) := by decide +kernel
theorem dX1_seekFree_169 : decode cX1_seekFree 169 = .ok (.ireturn, 1) := by decide +kernel
theorem dX1_passAlong_0 : decode cX1_passAlong 0 = .ok (.iload_n 1, 1) := by decide +kernel
theorem dX1_passAlong_1 : decode cX1_passAlong 1 = .ok (.istore_n 2, 1) := by decide +kernel
theorem dX1_passAlong_2 : decode cX1_passAlong 2 = .ok (.iconst 0, 1) := by decide +kernel
theorem dX1_passAlong_3 : decode cX1_passAlong 3 = .ok (.istore_n 3, 1) := by decide +kernel
theorem dX1_passAlong_4 : decode cX1_passAlong 4 = .ok (.iload_n 3, 1) := by decide +kernel
theorem dX1_passAlong_5 : decode cX1_passAlong 5 = .ok (.bipush 8, 2) := by decide +kernel
theorem dX1_passAlong_7 : decode cX1_passAlong 7 = .ok (.if_icmp .ge 42, 3) := by decide +kernel
theorem dX1_passAlong_10 : decode cX1_passAlong 10 = .ok (.iload_n 2, 1) := by decide +kernel
theorem dX1_passAlong_11 : decode cX1_passAlong 11 = .ok (.bipush (-4), 2) := by decide +kernel
theorem dX1_passAlong_13 : decode cX1_passAlong 13 = .ok (.if_icmp .eq 36, 3) := by decide +kernel
theorem dX1_passAlong_16 : decode cX1_passAlong 16 = .ok (.aload_n 0, 1) := by decide +kernel
theorem dX1_passAlong_17 : decode cX1_passAlong 17 = .ok (.getfield 21, 3) := by decide +kernel
theorem dX1_passAlong_20 : decode cX1_passAlong 20 = .ok (.iload_n 2, 1) := by decide +kernel
theorem dX1_passAlong_21 : decode cX1_passAlong 21 = .ok (.iaload, 1) := by decide +kernel
theorem dX1_passAlong_22 : decode cX1_passAlong 22 = .ok (.istore 4, 2) := by decide +kernel
theorem dX1_passAlong_24 : decode cX1_passAlong 24 = .ok (.aload_n 0, 1) := by decide +kernel
theorem dX1_passAlong_25 : decode cX1_passAlong 25 = .ok (.getfield 15, 3) := by decide +kernel
theorem dX1_passAlong_28 : decode cX1_passAlong 28 = .ok (.iload 4, 2) := by decide +kernel
theorem dX1_passAlong_30 : decode cX1_passAlong 30 = .ok (.iaload, 1) := by decide +kernel
theorem dX1_passAlong_31 : decode cX1_passAlong 31 = .ok (.istore 5, 2) := by decide +kernel
theorem dX1_passAlong_33 : decode cX1_passAlong 33 = .ok (.aload_n 0, 1) := by decide +kernel
theorem dX1_passAlong_34 : decode cX1_passAlong 34 = .ok (.iload 4, 2) := by decide +kernel
theorem dX1_passAlong_36 : decode cX1_passAlong 36 = .ok (.iload_n 2, 1) := by decide +kernel
theorem dX1_passAlong_37 : decode cX1_passAlong 37 = .ok (.invokevirtual 94, 3) := by decide +kernel
theorem dX1_passAlong_40 : decode cX1_passAlong 40 = .ok (.iload 5, 2) := by decide +kernel
theorem dX1_passAlong_42 : decode cX1_passAlong 42 = .ok (.istore_n 2, 1) := by decide +kernel
theorem dX1_passAlong_43 : decode cX1_passAlong 43 = .ok (.iinc 3 1, 3) := by decide +kernel
theorem dX1_passAlong_46 : decode cX1_passAlong 46 = .ok (.goto (-42), 3) := by decide +kernel
theorem dX1_passAlong_49 : decode cX1_passAlong 49 = .ok (.return_, 1) := by decide +kernel
theorem dX1_putInOrder_0 : decode cX1_putInOrder 0 = .ok (.iconst 0, 1) := by decide +kernel
theorem dX1_putInOrder_1 : decode cX1_putInOrder 1 = .ok (.istore_n 1, 1) := by decide +kernel
theorem dX1_putInOrder_2 : decode cX1_putInOrder 2 = .ok (.iconst 0, 1) := by decide +kernel
theorem dX1_putInOrder_3 : decode cX1_putInOrder 3 = .ok (.istore_n 2, 1) := by decide +kernel
theorem dX1_putInOrder_4 : decode cX1_putInOrder 4 = .ok (.iload_n 2, 1) := by decide +kernel
theorem dX1_putInOrder_5 : decode cX1_putInOrder 5 = .ok (.aload_n 0, 1) := by decide +kernel
theorem dX1_putInOrder_6 : decode cX1_putInOrder 6 = .ok (.getfield 43, 3) := by decide +kernel
theorem dX1_putInOrder_9 : decode cX1_putInOrder 9 = .ok (.if_icmp .ge 80, 3) := by decide +kernel
theorem dX1_putInOrder_12 : decode cX1_putInOrder 12 = .ok (.aload_n 0, 1) := by decide +kernel
theorem dX1_putInOrder_13 : decode cX1_putInOrder 13 = .ok (.getfield 9, 3) := by decide +kernel
theorem dX1_putInOrder_16 : decode cX1_putInOrder 16 = .ok (.iload_n 2, 1) := by decide +kernel
theorem dX1_putInOrder_17 : decode cX1_putInOrder 17 = .ok (.iaload, 1) := by decide +kernel
theorem dX1_putInOrder_18 : decode cX1_putInOrder 18 = .ok (.iload_n 1, 1) := by decide +kernel
theorem dX1_putInOrder_19 : decode cX1_putInOrder 19 = .ok (.iconst (-1), 1) := by decide +kernel
theorem dX1_putInOrder_20 : decode cX1_putInOrder 20 = .ok (.ixor, 1) := by decide +kernel
theorem dX1_putInOrder_21 : decode cX1_putInOrder 21 = .ok (.iand, 1) := by decide +kernel
theorem dX1_putInOrder_22 : decode cX1_putInOrder 22 = .ok (.istore_n 3, 1) := by decide +kernel
theorem dX1_putInOrder_23 : decode cX1_putInOrder 23 = .ok (.iconst 0, 1) := by decide +kernel
theorem dX1_putInOrder_24 : decode cX1_putInOrder 24 = .ok (.istore 4, 2) := by decide +kernel
theorem dX1_putInOrder_26 : decode cX1_putInOrder 26 = .ok (.iload 4, 2) := by decide +kernel
theorem dX1_putInOrder_28 : decode cX1_putInOrder 28 = .ok (.aload_n 0, 1) := by decide +kernel
theorem dX1_putInOrder_29 : decode cX1_putInOrder 29 = .ok (.getfield 47, 3) := by decide +kernel
theorem dX1_putInOrder_32 : decode cX1_putInOrder 32 = .ok (.if_icmp .ge 51, 3) := by decide +kernel
theorem dX1_putInOrder_35 : decode cX1_putInOrder 35 = .ok (.iload_n 3, 1) := by decide +kernel
theorem dX1_putInOrder_36 : decode cX1_putInOrder 36 = .ok (.iload 4, 2) := by decide +kernel
theorem dX1_putInOrder_38 : decode cX1_putInOrder 38 = .ok (.ishr, 1) := by decide +kernel
theorem dX1_putInOrder_39 : decode cX1_putInOrder 39 = .ok (.iconst 1, 1) := by decide +kernel
theorem dX1_putInOrder_40 : decode cX1_putInOrder 40 = .ok (.iand, 1) := by decide +kernel
theorem dX1_putInOrder_41 : decode cX1_putInOrder 41 = .ok (.iconst 1, 1) := by decide +kernel
theorem dX1_putInOrder_42 : decode cX1_putInOrder 42 = .ok (.if_icmp .ne 35, 3) := by decide +kernel
theorem dX1_putInOrder_45 : decode cX1_putInOrder 45 = .ok (.aload_n 0, 1) := by decide +kernel
theorem dX1_putInOrder_46 : decode cX1_putInOrder 46 = .ok (.getfield 15, 3) := by decide +kernel
theorem dX1_putInOrder_49 : decode cX1_putInOrder 49 = .ok (.iload_n 2, 1) := by decide +kernel
theorem dX1_putInOrder_50 : decode cX1_putInOrder 50 = .ok (.iaload, 1) := by decide +kernel
theorem dX1_putInOrder_51 : decode cX1_putInOrder 51 = .ok (.iload 4, 2) := by decide +kernel
theorem dX1_putInOrder_53 : decode cX1_putInOrder 53 = .ok (.if_icmp .eq 14, 3) := by decide +kernel
theorem dX1_putInOrder_56 : decode cX1_putInOrder 56 = .ok (.aload_n 0, 1) := by decide +kernel
theorem dX1_putInOrder_57 : decode cX1_putInOrder 57 = .ok (.iload_n 2, 1) := by decide +kernel
theorem dX1_putInOrder_58 : decode cX1_putInOrder 58 = .ok (.iload 4, 2) := by decide +kernel
theorem dX1_putInOrder_60 : decode cX1_putInOrder 60 = .ok (.iload_n 1, 1) := by decide +kernel
theorem dX1_putInOrder_61 : decode cX1_putInOrder 61 = .ok (.invokevirtual 98, 3) := by decide +kernel
theorem dX1_putInOrder_64 : decode cX1_putInOrder 64 = .ok (.ifCond .eq 13, 3) := by decide +kernel
theorem dX1_putInOrder_67 : decode cX1_putInOrder 67 = .ok (.iload_n 1, 1) := by decide +kernel
theorem dX1_putInOrder_68 : decode cX1_putInOrder 68 = .ok (.iconst 1, 1) := by decide +kernel
theorem dX1_putInOrder_69 : decode cX1_putInOrder 69 = .ok (.iload 4, 2) := by decide +kernel
theorem dX1_putInOrder_71 : decode cX1_putInOrder 71 = .ok (.ishl, 1) := by decide +kernel
theorem dX1_putInOrder_72 : decode cX1_putInOrder 72 = .ok (.ior, 1) := by decide +kernel
theorem dX1_putInOrder_73 : decode cX1_putInOrder 73 = .ok (.istore_n 1, 1) := by decide +kernel
theorem dX1_putInOrder_74 : decode cX1_putInOrder 74 = .ok (.goto 9, 3) := by decide +kernel
theorem dX1_putInOrder_77 : decode cX1_putInOrder 77 = .ok (.iinc 4 1, 3) := by decide +kernel
theorem dX1_putInOrder_80 : decode cX1_putInOrder 80 = .ok (.goto (-54), 3) := by decide +kernel
theorem dX1_putInOrder_83 : decode cX1_putInOrder 83 = .ok (.iinc 2 1, 3) := by decide +kernel
theorem dX1_putInOrder_86 : decode cX1_putInOrder 86 = .ok (.goto (-82), 3) := by decide +kernel
theorem dX1_putInOrder_89 : decode cX1_putInOrder 89 = .ok (.return_, 1) := by decide +kernel
theorem dX1_canHave_0 : decode cX1_canHave 0 = .ok (.aload_n 0, 1) := by decide +kernel
theorem dX1_canHave_1 : decode cX1_canHave 1 = .ok (.getfield 18, 3) := by decide +kernel
theorem dX1_canHave_4 : decode cX1_canHave 4 = .ok (.iload_n 2, 1) := by decide +kernel
theorem dX1_canHave_5 : decode cX1_canHave 5 = .ok (.iaload, 1) := by decide +kernel
theorem dX1_canHave_6 : decode cX1_canHave 6 = .ok (.istore 4, 2) := by decide +kernel
theorem dX1_canHave_8 : decode cX1_canHave 8 = .ok (.aload_n 0, 1) := by decide +kernel
theorem dX1_canHave_9 : decode cX1_canHave 9 = .ok (.getfield 15, 3) := by decide +kernel
theorem dX1_canHave_12 : decode cX1_canHave 12 = .ok (.iload_n 1, 1) := by decide +kernel
theorem dX1_canHave_13 : decode cX1_canHave 13 = .ok (.iaload, 1) := by decide +kernel
theorem dX1_canHave_14 : decode cX1_canHave 14 = .ok (.istore 5, 2) := by decide +kernel
theorem dX1_canHave_16 : decode cX1_canHave 16 = .ok (.aload_n 0, 1) := by decide +kernel
theorem dX1_canHave_17 : decode cX1_canHave 17 = .ok (.iload_n 1, 1) := by decide +kernel
theorem dX1_canHave_18 : decode cX1_canHave 18 = .ok (.iload_n 2, 1) := by decide +kernel
theorem dX1_canHave_19 : decode cX1_canHave 19 = .ok (.invokevirtual 94, 3) := by decide +kernel
theorem dX1_canHave_22 : decode cX1_canHave 22 = .ok (.iload 5, 2) := by decide +kernel
theorem dX1_canHave_24 : decode cX1_canHave 24 = .ok (.bipush (-4), 2) := by decide +kernel
theorem dX1_canHave_26 : decode cX1_canHave 26 = .ok (.if_icmp .eq 12, 3) := by decide +kernel
theorem dX1_canHave_29 : decode cX1_canHave 29 = .ok (.aload_n 0, 1) := by decide +kernel
theorem dX1_canHave_30 : decode cX1_canHave 30 = .ok (.getfield 18, 3) := by decide +kernel
theorem dX1_canHave_33 : decode cX1_canHave 33 = .ok (.iload 5, 2) := by decide +kernel
theorem dX1_canHave_35 : decode cX1_canHave 35 = .ok (.bipush (-4), 2) := by decide +kernel
theorem dX1_canHave_37 : decode cX1_canHave 37 = .ok (.iastore, 1) := by decide +kernel
theorem dX1_canHave_38 : decode cX1_canHave 38 = .ok (.iload 4, 2) := by decide +kernel
theorem dX1_canHave_40 : decode cX1_canHave 40 = .ok (.bipush (-4), 2) := by decide +kernel
theorem dX1_canHave_42 : decode cX1_canHave 42 = .ok (.if_icmp .ne 5, 3) := by decide +kernel
theorem dX1_canHave_45 : decode cX1_canHave 45 = .ok (.iconst 1, 1) := by decide +kernel
theorem dX1_canHave_46 : decode cX1_canHave 46 = .ok (.ireturn, 1) := by decide +kernel
theorem dX1_canHave_47 : decode cX1_canHave 47 = .ok (.aload_n 0, 1) := by decide +kernel
theorem dX1_canHave_48 : decode cX1_canHave 48 = .ok (.getfield 15, 3) := by decide +kernel
theorem dX1_canHave_51 : decode cX1_canHave 51 = .ok (.iload 4, 2) := by decide +kernel
theorem dX1_canHave_53 : decode cX1_canHave 53 = .ok (.bipush (-4), 2) := by decide +kernel
theorem dX1_canHave_55 : decode cX1_canHave 55 = .ok (.iastore, 1) := by decide +kernel
theorem dX1_canHave_56 : decode cX1_canHave 56 = .ok (.iload 5, 2) := by decide +kernel
theorem dX1_canHave_58 : decode cX1_canHave 58 = .ok (.bipush (-4), 2) := by decide +kernel
theorem dX1_canHave_60 : decode cX1_canHave 60 = .ok (.if_icmp .ne 5, 3) := by decide +kernel
theorem dX1_canHave_63 : decode cX1_canHave 63 = .ok (.iconst 1, 1) := by decide +kernel
theorem dX1_canHave_64 : decode cX1_canHave 64 = .ok (.ireturn, 1) := by decide +kernel
theorem dX1_canHave_65 : decode cX1_canHave 65 = .ok (.aload_n 0, 1) := by decide +kernel
theorem dX1_canHave_66 : decode cX1_canHave 66 = .ok (.iload_n 1, 1) := by decide +kernel
theorem dX1_canHave_67 : decode cX1_canHave 67 = .ok (.iconst 1, 1) := by decide +kernel
theorem dX1_canHave_68 : decode cX1_canHave 68 = .ok (.iadd, 1) := by decide +kernel
theorem dX1_canHave_69 : decode cX1_canHave 69 = .ok (.iload_n 3, 1) := by decide +kernel
theorem dX1_canHave_70 : decode cX1_canHave 70 = .ok (.iconst 1, 1) := by decide +kernel
theorem dX1_canHave_71 : decode cX1_canHave 71 = .ok (.iload_n 2, 1) := by decide +kernel
theorem dX1_canHave_72 : decode cX1_canHave 72 = .ok (.ishl, 1) := by decide +kernel
theorem dX1_canHave_73 : decode cX1_canHave 73 = .ok (.ior, 1) := by decide +kernel
theorem dX1_canHave_74 : decode cX1_canHave 74 = .ok (.invokevirtual 79, 3) := by decide +kernel
theorem dX1_canHave_77 : decode cX1_canHave 77 = .ok (.istore 6, 2) := by decide +kernel
theorem dX1_canHave_79 : decode cX1_canHave 79 = .ok (.iload 6, 2) := by decide +kernel
theorem dX1_canHave_81 : decode cX1_canHave 81 = .ok (.bipush (-4), 2) := by decide +kernel
theorem dX1_canHave_83 : decode cX1_canHave 83 = .ok (.if_icmp .eq 11, 3) := by decide +kernel
theorem dX1_canHave_86 : decode cX1_canHave 86 = .ok (.aload_n 0, 1) := by decide +kernel
theorem dX1_canHave_87 : decode cX1_canHave 87 = .ok (.iload 6, 2) := by decide +kernel
theorem dX1_canHave_89 : decode cX1_canHave 89 = .ok (.invokevirtual 83, 3) := by decide +kernel
theorem dX1_canHave_92 : decode cX1_canHave 92 = .ok (.iconst 1, 1) := by decide +kernel
theorem dX1_canHave_93 : decode cX1_canHave 93 = .ok (.ireturn, 1) := by decide +kernel
theorem dX1_canHave_94 : decode cX1_canHave 94 = .ok (.aload_n 0, 1) := by decide +kernel
theorem dX1_canHave_95 : decode cX1_canHave 95 = .ok (.iload 4, 2) := by decide +kernel
theorem dX1_canHave_97 : decode cX1_canHave 97 = .ok (.iload_n 2, 1) := by decide +kernel
theorem dX1_canHave_98 : decode cX1_canHave 98 = .ok (.invokevirtual 94, 3) := by decide +kernel
theorem dX1_canHave_101 : decode cX1_canHave 101 = .ok (.aload_n 0, 1) := by decide +kernel
theorem dX1_canHave_102 : decode cX1_canHave 102 = .ok (.iload_n 1, 1) := by decide +kernel
theorem dX1_canHave_103 : decode cX1_canHave 103 = .ok (.iload 5, 2) := by decide +kernel
theorem dX1_canHave_105 : decode cX1_canHave 105 = .ok (.invokevirtual 94, 3) := by decide +kernel
theorem dX1_canHave_108 : decode cX1_canHave 108 = .ok (.iconst 0, 1) := by decide +kernel
theorem dX1_canHave_109 : decode cX1_canHave 109 = .ok (.ireturn, 1) := by decide +kernel
theorem dX1_give_0 : decode cX1_give 0 = .ok (.aload_n 0, 1) := by decide +kernel
theorem dX1_give_1 : decode cX1_give 1 = .ok (.getfield 15, 3) := by decide +kernel
theorem dX1_give_4 : decode cX1_give 4 = .ok (.iload_n 1, 1) := by decide +kernel
theorem dX1_give_5 : decode cX1_give 5 = .ok (.iload_n 2, 1) := by decide +kernel
theorem dX1_give_6 : decode cX1_give 6 = .ok (.iastore, 1) := by decide +kernel
theorem dX1_give_7 : decode cX1_give 7 = .ok (.aload_n 0, 1) := by decide +kernel
theorem dX1_give_8 : decode cX1_give 8 = .ok (.getfield 18, 3) := by decide +kernel
theorem dX1_give_11 : decode cX1_give 11 = .ok (.iload_n 2, 1) := by decide +kernel
theorem dX1_give_12 : decode cX1_give 12 = .ok (.iload_n 1, 1) := by decide +kernel
theorem dX1_give_13 : decode cX1_give 13 = .ok (.iastore, 1) := by decide +kernel
theorem dX1_give_14 : decode cX1_give 14 = .ok (.return_, 1) := by decide +kernel
theorem dX2_init_0 : decode cX2_init 0 = .ok (.aload_n 0, 1) := by decide +kernel
theorem dX2_init_1 : decode cX2_init 1 = .ok (.invokespecial 3, 3) := by decide +kernel
theorem dX2_init_4 : decode cX2_init 4 = .ok (.aload_n 0, 1) := by decide +kernel
theorem dX2_init_5 : decode cX2_init 5 = .ok (.bipush 6, 2) := by decide +kernel
theorem dX2_init_7 : decode cX2_init 7 = .ok (.newarray .int, 2) := by decide +kernel
theorem dX2_init_9 : decode cX2_init 9 = .ok (.putfield 9, 3) := by decide +kernel
theorem dX2_init_12 : decode cX2_init 12 = .ok (.aload_n 0, 1) := by decide +kernel
theorem dX2_init_13 : decode cX2_init 13 = .ok (.sipush 256, 3) := by decide +kernel
theorem dX2_init_16 : decode cX2_init 16 = .ok (.newarray .int, 2) := by decide +kernel
theorem dX2_init_18 : decode cX2_init 18 = .ok (.putfield 15, 3) := by decide +kernel
theorem dX2_init_21 : decode cX2_init 21 = .ok (.aload_n 0, 1) := by decide +kernel
theorem dX2_init_22 : decode cX2_init 22 = .ok (.sipush 256, 3) := by decide +kernel
theorem dX2_init_25 : decode cX2_init 25 = .ok (.newarray .int, 2) := by decide +kernel
theorem dX2_init_27 : decode cX2_init 27 = .ok (.putfield 18, 3) := by decide +kernel
theorem dX2_init_30 : decode cX2_init 30 = .ok (.return_, 1) := by decide +kernel
theorem dX2_trace_0 : decode cX2_trace 0 = .ok (.aload_n 0, 1) := by decide +kernel
theorem dX2_trace_1 : decode cX2_trace 1 = .ok (.aload_n 1, 1) := by decide +kernel
theorem dX2_trace_2 : decode cX2_trace 2 = .ok (.getfield 21, 3) := by decide +kernel
theorem dX2_trace_5 : decode cX2_trace 5 = .ok (.putfield 27, 3) := by decide +kernel
theorem dX2_trace_8 : decode cX2_trace 8 = .ok (.aload_n 0, 1) := by decide +kernel
theorem dX2_trace_9 : decode cX2_trace 9 = .ok (.aload_n 1, 1) := by decide +kernel
theorem dX2_trace_10 : decode cX2_trace 10 = .ok (.getfield 28, 3) := by decide +kernel
theorem dX2_trace_13 : decode cX2_trace 13 = .ok (.putfield 31, 3) := by decide +kernel
theorem dX2_trace_16 : decode cX2_trace 16 = .ok (.iconst 0, 1) := by decide +kernel
theorem dX2_trace_17 : decode cX2_trace 17 = .ok (.istore_n 3, 1) := by decide +kernel
theorem dX2_trace_18 : decode cX2_trace 18 = .ok (.iload_n 3, 1) := by decide +kernel
theorem dX2_trace_19 : decode cX2_trace 19 = .ok (.aload_n 0, 1) := by decide +kernel
theorem dX2_trace_20 : decode cX2_trace 20 = .ok (.getfield 31, 3) := by decide +kernel
theorem dX2_trace_23 : decode cX2_trace 23 = .ok (.if_icmp .ge 21, 3) := by decide +kernel
theorem dX2_trace_26 : decode cX2_trace 26 = .ok (.aload_n 0, 1) := by decide +kernel
theorem dX2_trace_27 : decode cX2_trace 27 = .ok (.getfield 9, 3) := by decide +kernel
theorem dX2_trace_30 : decode cX2_trace 30 = .ok (.iload_n 3, 1) := by decide +kernel
theorem dX2_trace_31 : decode cX2_trace 31 = .ok (.aload_n 1, 1) := by decide +kernel
theorem dX2_trace_32 : decode cX2_trace 32 = .ok (.iload_n 3, 1) := by decide +kernel
theorem dX2_trace_33 : decode cX2_trace 33 = .ok (.iload_n 2, 1) := by decide +kernel
theorem dX2_trace_34 : decode cX2_trace 34 = .ok (.invokestatic 32, 3) := by decide +kernel
theorem dX2_trace_37 : decode cX2_trace 37 = .ok (.iastore, 1) := by decide +kernel
theorem dX2_trace_38 : decode cX2_trace 38 = .ok (.iinc 3 1, 3) := by decide +kernel
theorem dX2_trace_41 : decode cX2_trace 41 = .ok (.goto (-23), 3) := by decide +kernel
theorem dX2_trace_44 : decode cX2_trace 44 = .ok (.iconst 1, 1) := by decide +kernel
theorem dX2_trace_45 : decode cX2_trace 45 = .ok (.aload_n 0, 1) := by decide +kernel
theorem dX2_trace_46 : decode cX2_trace 46 = .ok (.getfield 27, 3) := by decide +kernel
theorem dX2_trace_49 : decode cX2_trace 49 = .ok (.ishl, 1) := by decide +kernel
theorem dX2_trace_50 : decode cX2_trace 50 = .ok (.iconst 1, 1) := by decide +kernel
theorem dX2_trace_51 : decode cX2_trace 51 = .ok (.isub, 1) := by decide +kernel
theorem dX2_trace_52 : decode cX2_trace 52 = .ok (.istore_n 3, 1) := by decide +kernel
theorem dX2_trace_53 : decode cX2_trace 53 = .ok (.iload_n 3, 1) := by decide +kernel
theorem dX2_trace_54 : decode cX2_trace 54 = .ok (.ifCond .lt 20, 3) := by decide +kernel
theorem dX2_trace_57 : decode cX2_trace 57 = .ok (.aload_n 0, 1) := by decide +kernel
theorem dX2_trace_58 : decode cX2_trace 58 = .ok (.getfield 15, 3) := by decide +kernel
theorem dX2_trace_61 : decode cX2_trace 61 = .ok (.iload_n 3, 1) := by decide +kernel
theorem dX2_trace_62 : decode cX2_trace 62 = .ok (.aload_n 0, 1) := by decide +kernel
theorem dX2_trace_63 : decode cX2_trace 63 = .ok (.iload_n 3, 1) := by decide +kernel
theorem dX2_trace_64 : decode cX2_trace 64 = .ok (.invokevirtual 36, 3) := by decide +kernel
theorem dX2_trace_67 : decode cX2_trace 67 = .ok (.iastore, 1) := by decide +kernel
theorem dX2_trace_68 : decode cX2_trace 68 = .ok (.iinc 3 (-1), 3) := by decide +kernel
theorem dX2_trace_71 : decode cX2_trace 71 = .ok (.goto (-18), 3) := by decide +kernel
theorem dX2_trace_74 : decode cX2_trace 74 = .ok (.return_, 1) := by decide +kernel
theorem dX2_fittingMark_0 : decode cX2_fittingMark 0 = .ok (.iconst 0, 1) := by decide +kernel
theorem dX2_fittingMark_1 : decode cX2_fittingMark 1 = .ok (.istore_n 3, 1) := by decide +kernel
theorem dX2_fittingMark_2 : decode cX2_fittingMark 2 = .ok (.iconst 0, 1) := by decide +kernel
theorem dX2_fittingMark_3 : decode cX2_fittingMark 3 = .ok (.istore 4, 2) := by decide +kernel
theorem dX2_fittingMark_5 : decode cX2_fittingMark 5 = .ok (.iload 4, 2) := by decide +kernel
theorem dX2_fittingMark_7 : decode cX2_fittingMark 7 = .ok (.aload_n 0, 1) := by decide +kernel
theorem dX2_fittingMark_8 : decode cX2_fittingMark 8 = .ok (.getfield 21, 3) := by decide +kernel
theorem dX2_fittingMark_11 : decode cX2_fittingMark 11 = .ok (.if_icmp .ge 63, 3) := by decide +kernel
theorem dX2_fittingMark_14 : decode cX2_fittingMark 14 = .ok (.aload_n 0, 1) := by decide +kernel
theorem dX2_fittingMark_15 : decode cX2_fittingMark 15 = .ok (.getfield 40, 3) := by decide +kernel
theorem dX2_fittingMark_18 : decode cX2_fittingMark 18 = .ok (.iload 4, 2) := by decide +kernel
theorem dX2_fittingMark_20 : decode cX2_fittingMark 20 = .ok (.aaload, 1) := by decide +kernel
theorem dX2_fittingMark_21 : decode cX2_fittingMark 21 = .ok (.astore 5, 2) := by decide +kernel
theorem dX2_fittingMark_23 : decode cX2_fittingMark 23 = .ok (.bipush 40, 2) := by decide +kernel
theorem dX2_fittingMark_25 : decode cX2_fittingMark 25 = .ok (.aload 5, 2) := by decide +kernel
theorem dX2_fittingMark_27 : decode cX2_fittingMark 27 = .ok (.getfield 44, 3) := by decide +kernel
theorem dX2_fittingMark_30 : decode cX2_fittingMark 30 = .ok (.iload_n 1, 1) := by decide +kernel
theorem dX2_fittingMark_31 : decode cX2_fittingMark 31 = .ok (.aload 5, 2) := by decide +kernel
theorem dX2_fittingMark_33 : decode cX2_fittingMark 33 = .ok (.getfield 49, 3) := by decide +kernel
theorem dX2_fittingMark_36 : decode cX2_fittingMark 36 = .ok (.imul, 1) := by decide +kernel
theorem dX2_fittingMark_37 : decode cX2_fittingMark 37 = .ok (.iadd, 1) := by decide +kernel
theorem dX2_fittingMark_38 : decode cX2_fittingMark 38 = .ok (.invokestatic 52, 3) := by decide +kernel
theorem dX2_fittingMark_41 : decode cX2_fittingMark 41 = .ok (.istore 6, 2) := by decide +kernel
theorem dX2_fittingMark_43 : decode cX2_fittingMark 43 = .ok (.aload_n 0, 1) := by decide +kernel
theorem dX2_fittingMark_44 : decode cX2_fittingMark 44 = .ok (.getfield 58, 3) := by decide +kernel
theorem dX2_fittingMark_47 : decode cX2_fittingMark 47 = .ok (.iload_n 1, 1) := by decide +kernel
theorem dX2_fittingMark_48 : decode cX2_fittingMark 48 = .ok (.iaload, 1) := by decide +kernel
theorem dX2_fittingMark_49 : decode cX2_fittingMark 49 = .ok (.iload 6, 2) := by decide +kernel
theorem dX2_fittingMark_51 : decode cX2_fittingMark 51 = .ok (.iload 6, 2) := by decide +kernel
theorem dX2_fittingMark_53 : decode cX2_fittingMark 53 = .ok (.iload_n 2, 1) := by decide +kernel
theorem dX2_fittingMark_54 : decode cX2_fittingMark 54 = .ok (.iadd, 1) := by decide +kernel
theorem dX2_fittingMark_55 : decode cX2_fittingMark 55 = .ok (.invokestatic 61, 3) := by decide +kernel
theorem dX2_fittingMark_58 : decode cX2_fittingMark 58 = .ok (.ifCond .eq 10, 3) := by decide +kernel
theorem dX2_fittingMark_61 : decode cX2_fittingMark 61 = .ok (.iload_n 3, 1) := by decide +kernel
theorem dX2_fittingMark_62 : decode cX2_fittingMark 62 = .ok (.iconst 1, 1) := by decide +kernel
theorem dX2_fittingMark_63 : decode cX2_fittingMark 63 = .ok (.iload 4, 2) := by decide +kernel
theorem dX2_fittingMark_65 : decode cX2_fittingMark 65 = .ok (.ishl, 1) := by decide +kernel
theorem dX2_fittingMark_66 : decode cX2_fittingMark 66 = .ok (.ior, 1) := by decide +kernel
theorem dX2_fittingMark_67 : decode cX2_fittingMark 67 = .ok (.istore_n 3, 1) := by decide +kernel
theorem dX2_fittingMark_68 : decode cX2_fittingMark 68 = .ok (.iinc 4 1, 3) := by decide +kernel
theorem dX2_fittingMark_71 : decode cX2_fittingMark 71 = .ok (.goto (-66), 3) := by decide +kernel
theorem dX2_fittingMark_74 : decode cX2_fittingMark 74 = .ok (.iload_n 3, 1) := by decide +kernel
theorem dX2_fittingMark_75 : decode cX2_fittingMark 75 = .ok (.ireturn, 1) := by decide +kernel
theorem dX2_endingsBehind_0 : decode cX2_endingsBehind 0 = .ok (.iload_n 1, 1) := by decide +kernel
theorem dX2_endingsBehind_1 : decode cX2_endingsBehind 1 = .ok (.invokestatic 65, 3) := by decide +kernel
theorem dX2_endingsBehind_4 : decode cX2_endingsBehind 4 = .ok (.istore_n 2, 1) := by decide +kernel
theorem dX2_endingsBehind_5 : decode cX2_endingsBehind 5 = .ok (.iload_n 2, 1) := by decide +kernel
theorem dX2_endingsBehind_6 : decode cX2_endingsBehind 6 = .ok (.aload_n 0, 1) := by decide +kernel
theorem dX2_endingsBehind_7 : decode cX2_endingsBehind 7 = .ok (.getfield 31, 3) := by decide +kernel
theorem dX2_endingsBehind_10 : decode cX2_endingsBehind 10 = .ok (.if_icmp .lt 17, 3) := by decide +kernel
theorem dX2_endingsBehind_13 : decode cX2_endingsBehind 13 = .ok (.iload_n 2, 1) := by decide +kernel
theorem dX2_endingsBehind_14 : decode cX2_endingsBehind 14 = .ok (.aload_n 0, 1) := by decide +kernel
theorem dX2_endingsBehind_15 : decode cX2_endingsBehind 15 = .ok (.getfield 31, 3) := by decide +kernel
theorem dX2_endingsBehind_18 : decode cX2_endingsBehind 18 = .ok (.if_icmp .ne 7, 3) := by decide +kernel
theorem dX2_endingsBehind_21 : decode cX2_endingsBehind 21 = .ok (.iconst 1, 1) := by decide +kernel
theorem dX2_endingsBehind_22 : decode cX2_endingsBehind 22 = .ok (.goto 4, 3) := by decide +kernel
theorem dX2_endingsBehind_25 : decode cX2_endingsBehind 25 = .ok (.iconst 0, 1) := by decide +kernel
theorem dX2_endingsBehind_26 : decode cX2_endingsBehind 26 = .ok (.ireturn, 1) := by decide +kernel
theorem dX2_endingsBehind_27 : decode cX2_endingsBehind 27 = .ok (.iconst 0, 1) := by decide +kernel
theorem dX2_endingsBehind_28 : decode cX2_endingsBehind 28 = .ok (.istore_n 3, 1) := by decide +kernel
theorem dX2_endingsBehind_29 : decode cX2_endingsBehind 29 = .ok (.iconst 0, 1) := by decide +kernel
theorem dX2_endingsBehind_30 : decode cX2_endingsBehind 30 = .ok (.istore 4, 2) := by decide +kernel
theorem dX2_endingsBehind_32 : decode cX2_endingsBehind 32 = .ok (.iload 4, 2) := by decide +kernel
theorem dX2_endingsBehind_34 : decode cX2_endingsBehind 34 = .ok (.aload_n 0, 1) := by decide +kernel
theorem dX2_endingsBehind_35 : decode cX2_endingsBehind 35 = .ok (.getfield 27, 3) := by decide +kernel
theorem dX2_endingsBehind_38 : decode cX2_endingsBehind 38 = .ok (.if_icmp .ge 34, 3) := by decide +kernel
theorem dX2_endingsBehind_41 : decode cX2_endingsBehind 41 = .ok (.aload_n 0, 1) := by decide +kernel
theorem dX2_endingsBehind_42 : decode cX2_endingsBehind 42 = .ok (.iload 4, 2) := by decide +kernel
theorem dX2_endingsBehind_44 : decode cX2_endingsBehind 44 = .ok (.iload_n 2, 1) := by decide +kernel
theorem dX2_endingsBehind_45 : decode cX2_endingsBehind 45 = .ok (.iload_n 1, 1) := by decide +kernel
theorem dX2_endingsBehind_46 : decode cX2_endingsBehind 46 = .ok (.invokevirtual 70, 3) := by decide +kernel
theorem dX2_endingsBehind_49 : decode cX2_endingsBehind 49 = .ok (.ifCond .eq 17, 3) := by decide +kernel
theorem dX2_endingsBehind_52 : decode cX2_endingsBehind 52 = .ok (.iload_n 3, 1) := by decide +kernel
theorem dX2_endingsBehind_53 : decode cX2_endingsBehind 53 = .ok (.aload_n 0, 1) := by decide +kernel
theorem dX2_endingsBehind_54 : decode cX2_endingsBehind 54 = .ok (.getfield 15, 3) := by decide +kernel
theorem dX2_endingsBehind_57 : decode cX2_endingsBehind 57 = .ok (.iload_n 1, 1) := by decide +kernel
theorem dX2_endingsBehind_58 : decode cX2_endingsBehind 58 = .ok (.iconst 1, 1) := by decide +kernel
theorem dX2_endingsBehind_59 : decode cX2_endingsBehind 59 = .ok (.iload 4, 2) := by decide +kernel
theorem dX2_endingsBehind_61 : decode cX2_endingsBehind 61 = .ok (.ishl, 1) := by decide +kernel
theorem dX2_endingsBehind_62 : decode cX2_endingsBehind 62 = .ok (.ior, 1) := by decide +kernel
theorem dX2_endingsBehind_63 : decode cX2_endingsBehind 63 = .ok (.iaload, 1) := by decide +kernel
theorem dX2_endingsBehind_64 : decode cX2_endingsBehind 64 = .ok (.iadd, 1) := by decide +kernel
theorem dX2_endingsBehind_65 : decode cX2_endingsBehind 65 = .ok (.istore_n 3, 1) := by decide +kernel
theorem dX2_endingsBehind_66 : decode cX2_endingsBehind 66 = .ok (.iinc 4 1, 3) := by decide +kernel
theorem dX2_endingsBehind_69 : decode cX2_endingsBehind 69 = .ok (.goto (-37), 3) := by decide +kernel
theorem dX2_endingsBehind_72 : decode cX2_endingsBehind 72 = .ok (.iload_n 3, 1) := by decide +kernel
theorem dX2_endingsBehind_73 : decode cX2_endingsBehind 73 = .ok (.ireturn, 1) := by decide +kernel
theorem dX2_canFollow_0 : decode cX2_canFollow 0 = .ok (.aload_n 0, 1) := by decide +kernel
theorem dX2_canFollow_1 : decode cX2_canFollow 1 = .ok (.getfield 9, 3) := by decide +kernel
theorem dX2_canFollow_4 : decode cX2_canFollow 4 = .ok (.iload_n 2, 1) := by decide +kernel
theorem dX2_canFollow_5 : decode cX2_canFollow 5 = .ok (.iaload, 1) := by decide +kernel
theorem dX2_canFollow_6 : decode cX2_canFollow 6 = .ok (.iload_n 3, 1) := by decide +kernel
theorem dX2_canFollow_7 : decode cX2_canFollow 7 = .ok (.iconst (-1), 1) := by decide +kernel
theorem dX2_canFollow_8 : decode cX2_canFollow 8 = .ok (.ixor, 1) := by decide +kernel
theorem dX2_canFollow_9 : decode cX2_canFollow 9 = .ok (.iand, 1) := by decide +kernel
theorem dX2_canFollow_10 : decode cX2_canFollow 10 = .ok (.iconst 1, 1) := by decide +kernel
theorem dX2_canFollow_11 : decode cX2_canFollow 11 = .ok (.iload_n 1, 1) := by decide +kernel
theorem dX2_canFollow_12 : decode cX2_canFollow 12 = .ok (.ishl, 1) := by decide +kernel
theorem dX2_canFollow_13 : decode cX2_canFollow 13 = .ok (.iand, 1) := by decide +kernel
theorem dX2_canFollow_14 : decode cX2_canFollow 14 = .ok (.ifCond .eq 7, 3) := by decide +kernel
theorem dX2_canFollow_17 : decode cX2_canFollow 17 = .ok (.iconst 1, 1) := by decide +kernel
theorem dX2_canFollow_18 : decode cX2_canFollow 18 = .ok (.goto 4, 3) := by decide +kernel
theorem dX2_canFollow_21 : decode cX2_canFollow 21 = .ok (.iconst 0, 1) := by decide +kernel
theorem dX2_canFollow_22 : decode cX2_canFollow 22 = .ok (.ireturn, 1) := by decide +kernel
theorem dX2_howMany_0 : decode cX2_howMany 0 = .ok (.aload_n 0, 1) := by decide +kernel
theorem dX2_howMany_1 : decode cX2_howMany 1 = .ok (.getfield 15, 3) := by decide +kernel
theorem dX2_howMany_4 : decode cX2_howMany 4 = .ok (.iconst 0, 1) := by decide +kernel
theorem dX2_howMany_5 : decode cX2_howMany 5 = .ok (.iaload, 1) := by decide +kernel
theorem dX2_howMany_6 : decode cX2_howMany 6 = .ok (.ireturn, 1) := by decide +kernel
theorem dX2_inFirst_0 : decode cX2_inFirst 0 = .ok (.iconst 0, 1) := by decide +kernel
theorem dX2_inFirst_1 : decode cX2_inFirst 1 = .ok (.istore_n 2, 1) := by decide +kernel
theorem dX2_inFirst_2 : decode cX2_inFirst 2 = .ok (.iconst 0, 1) := by decide +kernel
theorem dX2_inFirst_3 : decode cX2_inFirst 3 = .ok (.istore_n 3, 1) := by decide +kernel
theorem dX2_inFirst_4 : decode cX2_inFirst 4 = .ok (.iload_n 3, 1) := by decide +kernel
theorem dX2_inFirst_5 : decode cX2_inFirst 5 = .ok (.aload_n 0, 1) := by decide +kernel
theorem dX2_inFirst_6 : decode cX2_inFirst 6 = .ok (.getfield 31, 3) := by decide +kernel
theorem dX2_inFirst_9 : decode cX2_inFirst 9 = .ok (.if_icmp .ge 39, 3) := by decide +kernel
theorem dX2_inFirst_12 : decode cX2_inFirst 12 = .ok (.aload_n 0, 1) := by decide +kernel
theorem dX2_inFirst_13 : decode cX2_inFirst 13 = .ok (.iload_n 2, 1) := by decide +kernel
theorem dX2_inFirst_14 : decode cX2_inFirst 14 = .ok (.iload_n 3, 1) := by decide +kernel
theorem dX2_inFirst_15 : decode cX2_inFirst 15 = .ok (.invokevirtual 73, 3) := by decide +kernel
theorem dX2_inFirst_18 : decode cX2_inFirst 18 = .ok (.istore 4, 2) := by decide +kernel
theorem dX2_inFirst_20 : decode cX2_inFirst 20 = .ok (.iload 4, 2) := by decide +kernel
theorem dX2_inFirst_22 : decode cX2_inFirst 22 = .ok (.bipush (-4), 2) := by decide +kernel
theorem dX2_inFirst_24 : decode cX2_inFirst 24 = .ok (.if_icmp .eq 8, 3) := by decide +kernel
theorem dX2_inFirst_27 : decode cX2_inFirst 27 = .ok (.iload_n 3, 1) := by decide +kernel
theorem dX2_inFirst_28 : decode cX2_inFirst 28 = .ok (.iload_n 1, 1) := by decide +kernel
theorem dX2_inFirst_29 : decode cX2_inFirst 29 = .ok (.if_icmp .ne 6, 3) := by decide +kernel
theorem dX2_inFirst_32 : decode cX2_inFirst 32 = .ok (.iload 4, 2) := by decide +kernel
theorem dX2_inFirst_34 : decode cX2_inFirst 34 = .ok (.ireturn, 1) := by decide +kernel
theorem dX2_inFirst_35 : decode cX2_inFirst 35 = .ok (.iload_n 2, 1) := by decide +kernel
theorem dX2_inFirst_36 : decode cX2_inFirst 36 = .ok (.iconst 1, 1) := by decide +kernel
theorem dX2_inFirst_37 : decode cX2_inFirst 37 = .ok (.iload 4, 2) := by decide +kernel
theorem dX2_inFirst_39 : decode cX2_inFirst 39 = .ok (.ishl, 1) := by decide +kernel
theorem dX2_inFirst_40 : decode cX2_inFirst 40 = .ok (.ior, 1) := by decide +kernel
theorem dX2_inFirst_41 : decode cX2_inFirst 41 = .ok (.istore_n 2, 1) := by decide +kernel
theorem dX2_inFirst_42 : decode cX2_inFirst 42 = .ok (.iinc 3 1, 3) := by decide +kernel
theorem dX2_inFirst_45 : decode cX2_inFirst 45 = .ok (.goto (-41), 3) := by decide +kernel
theorem dX2_inFirst_48 : decode cX2_inFirst 48 = .ok (.bipush (-4), 2) := by decide +kernel
theorem dX2_inFirst_50 : decode cX2_inFirst 50 = .ok (.ireturn, 1) := by decide +kernel
theorem dX2_firstBehind_0 : decode cX2_firstBehind 0 = .ok (.iconst 0, 1) := by decide +kernel
theorem dX2_firstBehind_1 : decode cX2_firstBehind 1 = .ok (.istore_n 3, 1) := by decide +kernel
theorem dX2_firstBehind_2 : decode cX2_firstBehind 2 = .ok (.iload_n 3, 1) := by decide +kernel
theorem dX2_firstBehind_3 : decode cX2_firstBehind 3 = .ok (.aload_n 0, 1) := by decide +kernel
theorem dX2_firstBehind_4 : decode cX2_firstBehind 4 = .ok (.getfield 27, 3) := by decide +kernel
theorem dX2_firstBehind_7 : decode cX2_firstBehind 7 = .ok (.if_icmp .ge 34, 3) := by decide +kernel
theorem dX2_firstBehind_10 : decode cX2_firstBehind 10 = .ok (.aload_n 0, 1) := by decide +kernel
theorem dX2_firstBehind_11 : decode cX2_firstBehind 11 = .ok (.iload_n 3, 1) := by decide +kernel
theorem dX2_firstBehind_12 : decode cX2_firstBehind 12 = .ok (.iload_n 2, 1) := by decide +kernel
theorem dX2_firstBehind_13 : decode cX2_firstBehind 13 = .ok (.iload_n 1, 1) := by decide +kernel
theorem dX2_firstBehind_14 : decode cX2_firstBehind 14 = .ok (.invokevirtual 70, 3) := by decide +kernel
theorem dX2_firstBehind_17 : decode cX2_firstBehind 17 = .ok (.ifCond .eq 18, 3) := by decide +kernel
theorem dX2_firstBehind_20 : decode cX2_firstBehind 20 = .ok (.aload_n 0, 1) := by decide +kernel
theorem dX2_firstBehind_21 : decode cX2_firstBehind 21 = .ok (.getfield 15, 3) := by decide +kernel
theorem dX2_firstBehind_24 : decode cX2_firstBehind 24 = .ok (.iload_n 1, 1) := by decide +kernel
theorem dX2_firstBehind_25 : decode cX2_firstBehind 25 = .ok (.iconst 1, 1) := by decide +kernel
theorem dX2_firstBehind_26 : decode cX2_firstBehind 26 = .ok (.iload_n 3, 1) := by decide +kernel
theorem dX2_firstBehind_27 : decode cX2_firstBehind 27 = .ok (.ishl, 1) := by decide +kernel
theorem dX2_firstBehind_28 : decode cX2_firstBehind 28 = .ok (.ior, 1) := by decide +kernel
theorem dX2_firstBehind_29 : decode cX2_firstBehind 29 = .ok (.iaload, 1) := by decide +kernel
theorem dX2_firstBehind_30 : decode cX2_firstBehind 30 = .ok (.ifCond .le 5, 3) := by decide +kernel
theorem dX2_firstBehind_33 : decode cX2_firstBehind 33 = .ok (.iload_n 3, 1) := by decide +kernel
theorem dX2_firstBehind_34 : decode cX2_firstBehind 34 = .ok (.ireturn, 1) := by decide +kernel
theorem dX2_firstBehind_35 : decode cX2_firstBehind 35 = .ok (.iinc 3 1, 3) := by decide +kernel
theorem dX2_firstBehind_38 : decode cX2_firstBehind 38 = .ok (.goto (-36), 3) := by decide +kernel
theorem dX2_firstBehind_41 : decode cX2_firstBehind 41 = .ok (.bipush (-4), 2) := by decide +kernel
theorem dX2_firstBehind_43 : decode cX2_firstBehind 43 = .ok (.ireturn, 1) := by decide +kernel
theorem dX2_firstOnes_0 : decode cX2_firstOnes 0 = .ok (.iconst 0, 1) := by decide +kernel
theorem dX2_firstOnes_1 : decode cX2_firstOnes 1 = .ok (.istore_n 1, 1) := by decide +kernel
theorem dX2_firstOnes_2 : decode cX2_firstOnes 2 = .ok (.iconst 0, 1) := by decide +kernel
theorem dX2_firstOnes_3 : decode cX2_firstOnes 3 = .ok (.istore_n 2, 1) := by decide +kernel
theorem dX2_firstOnes_4 : decode cX2_firstOnes 4 = .ok (.iload_n 2, 1) := by decide +kernel
theorem dX2_firstOnes_5 : decode cX2_firstOnes 5 = .ok (.aload_n 0, 1) := by decide +kernel
theorem dX2_firstOnes_6 : decode cX2_firstOnes 6 = .ok (.getfield 27, 3) := by decide +kernel
theorem dX2_firstOnes_9 : decode cX2_firstOnes 9 = .ok (.if_icmp .ge 36, 3) := by decide +kernel
theorem dX2_firstOnes_12 : decode cX2_firstOnes 12 = .ok (.aload_n 0, 1) := by decide +kernel
theorem dX2_firstOnes_13 : decode cX2_firstOnes 13 = .ok (.iload_n 2, 1) := by decide +kernel
theorem dX2_firstOnes_14 : decode cX2_firstOnes 14 = .ok (.iconst 0, 1) := by decide +kernel
theorem dX2_firstOnes_15 : decode cX2_firstOnes 15 = .ok (.iconst 0, 1) := by decide +kernel
theorem dX2_firstOnes_16 : decode cX2_firstOnes 16 = .ok (.invokevirtual 70, 3) := by decide +kernel
theorem dX2_firstOnes_19 : decode cX2_firstOnes 19 = .ok (.ifCond .eq 20, 3) := by decide +kernel
theorem dX2_firstOnes_22 : decode cX2_firstOnes 22 = .ok (.aload_n 0, 1) := by decide +kernel
theorem dX2_firstOnes_23 : decode cX2_firstOnes 23 = .ok (.getfield 15, 3) := by decide +kernel
theorem dX2_firstOnes_26 : decode cX2_firstOnes 26 = .ok (.iconst 1, 1) := by decide +kernel
theorem dX2_firstOnes_27 : decode cX2_firstOnes 27 = .ok (.iload_n 2, 1) := by decide +kernel
theorem dX2_firstOnes_28 : decode cX2_firstOnes 28 = .ok (.ishl, 1) := by decide +kernel
theorem dX2_firstOnes_29 : decode cX2_firstOnes 29 = .ok (.iaload, 1) := by decide +kernel
theorem dX2_firstOnes_30 : decode cX2_firstOnes 30 = .ok (.ifCond .le 9, 3) := by decide +kernel
theorem dX2_firstOnes_33 : decode cX2_firstOnes 33 = .ok (.iload_n 1, 1) := by decide +kernel
theorem dX2_firstOnes_34 : decode cX2_firstOnes 34 = .ok (.iconst 1, 1) := by decide +kernel
theorem dX2_firstOnes_35 : decode cX2_firstOnes 35 = .ok (.iload_n 2, 1) := by decide +kernel
theorem dX2_firstOnes_36 : decode cX2_firstOnes 36 = .ok (.ishl, 1) := by decide +kernel
theorem dX2_firstOnes_37 : decode cX2_firstOnes 37 = .ok (.ior, 1) := by decide +kernel
theorem dX2_firstOnes_38 : decode cX2_firstOnes 38 = .ok (.istore_n 1, 1) := by decide +kernel
theorem dX2_firstOnes_39 : decode cX2_firstOnes 39 = .ok (.iinc 2 1, 3) := by decide +kernel
theorem dX2_firstOnes_42 : decode cX2_firstOnes 42 = .ok (.goto (-38), 3) := by decide +kernel
theorem dX2_firstOnes_45 : decode cX2_firstOnes 45 = .ok (.iload_n 1, 1) := by decide +kernel
theorem dX2_firstOnes_46 : decode cX2_firstOnes 46 = .ok (.ireturn, 1) := by decide +kernel
theorem dX2_lastOnes_0 : decode cX2_lastOnes 0 = .ok (.aload_n 0, 1) := by decide +kernel
theorem dX2_lastOnes_1 : decode cX2_lastOnes 1 = .ok (.getfield 18, 3) := by decide +kernel
theorem dX2_lastOnes_4 : decode cX2_lastOnes 4 = .ok (.iconst 0, 1) := by decide +kernel
theorem dX2_lastOnes_5 : decode cX2_lastOnes 5 = .ok (.invokestatic 76, 3) := by decide +kernel
theorem dX2_lastOnes_8 : decode cX2_lastOnes 8 = .ok (.aload_n 0, 1) := by decide +kernel
theorem dX2_lastOnes_9 : decode cX2_lastOnes 9 = .ok (.getfield 18, 3) := by decide +kernel
theorem dX2_lastOnes_12 : decode cX2_lastOnes 12 = .ok (.iconst 0, 1) := by decide +kernel
theorem dX2_lastOnes_13 : decode cX2_lastOnes 13 = .ok (.iconst 1, 1) := by decide +kernel
theorem dX2_lastOnes_14 : decode cX2_lastOnes 14 = .ok (.iastore, 1) := by decide +kernel
theorem dX2_lastOnes_15 : decode cX2_lastOnes 15 = .ok (.iconst 0, 1) := by decide +kernel
theorem dX2_lastOnes_16 : decode cX2_lastOnes 16 = .ok (.istore_n 1, 1) := by decide +kernel
theorem dX2_lastOnes_17 : decode cX2_lastOnes 17 = .ok (.iconst 0, 1) := by decide +kernel
theorem dX2_lastOnes_18 : decode cX2_lastOnes 18 = .ok (.istore_n 2, 1) := by decide +kernel
theorem dX2_lastOnes_19 : decode cX2_lastOnes 19 = .ok (.iload_n 2, 1) := by decide +kernel
theorem dX2_lastOnes_20 : decode cX2_lastOnes 20 = .ok (.iconst 1, 1) := by decide +kernel
theorem dX2_lastOnes_21 : decode cX2_lastOnes 21 = .ok (.aload_n 0, 1) := by decide +kernel
theorem dX2_lastOnes_22 : decode cX2_lastOnes 22 = .ok (.getfield 27, 3) := by decide +kernel
theorem dX2_lastOnes_25 : decode cX2_lastOnes 25 = .ok (.ishl, 1) := by decide +kernel
theorem dX2_lastOnes_26 : decode cX2_lastOnes 26 = .ok (.if_icmp .ge 94, 3) := by decide +kernel
theorem dX2_lastOnes_29 : decode cX2_lastOnes 29 = .ok (.iload_n 2, 1) := by decide +kernel
theorem dX2_lastOnes_30 : decode cX2_lastOnes 30 = .ok (.invokestatic 65, 3) := by decide +kernel
theorem dX2_lastOnes_33 : decode cX2_lastOnes 33 = .ok (.istore_n 3, 1) := by decide +kernel
theorem dX2_lastOnes_34 : decode cX2_lastOnes 34 = .ok (.iconst 0, 1) := by decide +kernel
theorem dX2_lastOnes_35 : decode cX2_lastOnes 35 = .ok (.istore 4, 2) := by decide +kernel
theorem dX2_lastOnes_37 : decode cX2_lastOnes 37 = .ok (.iload 4, 2) := by decide +kernel
theorem dX2_lastOnes_39 : decode cX2_lastOnes 39 = .ok (.aload_n 0, 1) := by decide +kernel
theorem dX2_lastOnes_40 : decode cX2_lastOnes 40 = .ok (.getfield 27, 3) := by decide +kernel
theorem dX2_lastOnes_43 : decode cX2_lastOnes 43 = .ok (.if_icmp .ge 71, 3) := by decide +kernel
theorem dX2_lastOnes_46 : decode cX2_lastOnes 46 = .ok (.aload_n 0, 1) := by decide +kernel
theorem dX2_lastOnes_47 : decode cX2_lastOnes 47 = .ok (.getfield 18, 3) := by decide +kernel
theorem dX2_lastOnes_50 : decode cX2_lastOnes 50 = .ok (.iload_n 2, 1) := by decide +kernel
theorem dX2_lastOnes_51 : decode cX2_lastOnes 51 = .ok (.iaload, 1) := by decide +kernel
theorem dX2_lastOnes_52 : decode cX2_lastOnes 52 = .ok (.iconst 1, 1) := by decide +kernel
theorem dX2_lastOnes_53 : decode cX2_lastOnes 53 = .ok (.if_icmp .ne 61, 3) := by decide +kernel
theorem dX2_lastOnes_56 : decode cX2_lastOnes 56 = .ok (.iload_n 3, 1) := by decide +kernel
theorem dX2_lastOnes_57 : decode cX2_lastOnes 57 = .ok (.aload_n 0, 1) := by decide +kernel
theorem dX2_lastOnes_58 : decode cX2_lastOnes 58 = .ok (.getfield 31, 3) := by decide +kernel
theorem dX2_lastOnes_61 : decode cX2_lastOnes 61 = .ok (.if_icmp .ge 53, 3) := by decide +kernel
theorem dX2_lastOnes_64 : decode cX2_lastOnes 64 = .ok (.aload_n 0, 1) := by decide +kernel
theorem dX2_lastOnes_65 : decode cX2_lastOnes 65 = .ok (.iload 4, 2) := by decide +kernel
theorem dX2_lastOnes_67 : decode cX2_lastOnes 67 = .ok (.iload_n 3, 1) := by decide +kernel
theorem dX2_lastOnes_68 : decode cX2_lastOnes 68 = .ok (.iload_n 2, 1) := by decide +kernel
theorem dX2_lastOnes_69 : decode cX2_lastOnes 69 = .ok (.invokevirtual 70, 3) := by decide +kernel
theorem dX2_lastOnes_72 : decode cX2_lastOnes 72 = .ok (.ifCond .eq 36, 3) := by decide +kernel
theorem dX2_lastOnes_75 : decode cX2_lastOnes 75 = .ok (.aload_n 0, 1) := by decide +kernel
theorem dX2_lastOnes_76 : decode cX2_lastOnes 76 = .ok (.getfield 18, 3) := by decide +kernel
theorem dX2_lastOnes_79 : decode cX2_lastOnes 79 = .ok (.iload_n 2, 1) := by decide +kernel
theorem dX2_lastOnes_80 : decode cX2_lastOnes 80 = .ok (.iconst 1, 1) := by decide +kernel
theorem dX2_lastOnes_81 : decode cX2_lastOnes 81 = .ok (.iload 4, 2) := by decide +kernel
theorem dX2_lastOnes_83 : decode cX2_lastOnes 83 = .ok (.ishl, 1) := by decide +kernel
theorem dX2_lastOnes_84 : decode cX2_lastOnes 84 = .ok (.ior, 1) := by decide +kernel
theorem dX2_lastOnes_85 : decode cX2_lastOnes 85 = .ok (.iconst 1, 1) := by decide +kernel
theorem dX2_lastOnes_86 : decode cX2_lastOnes 86 = .ok (.iastore, 1) := by decide +kernel
theorem dX2_lastOnes_87 : decode cX2_lastOnes 87 = .ok (.iload_n 1, 1) := by decide +kernel
theorem dX2_lastOnes_88 : decode cX2_lastOnes 88 = .ok (.iload_n 3, 1) := by decide +kernel
theorem dX2_lastOnes_89 : decode cX2_lastOnes 89 = .ok (.aload_n 0, 1) := by decide +kernel
theorem dX2_lastOnes_90 : decode cX2_lastOnes 90 = .ok (.getfield 31, 3) := by decide +kernel
theorem dX2_lastOnes_93 : decode cX2_lastOnes 93 = .ok (.iconst 1, 1) := by decide +kernel
theorem dX2_lastOnes_94 : decode cX2_lastOnes 94 = .ok (.isub, 1) := by decide +kernel
theorem dX2_lastOnes_95 : decode cX2_lastOnes 95 = .ok (.if_icmp .ne 10, 3) := by decide +kernel
theorem dX2_lastOnes_98 : decode cX2_lastOnes 98 = .ok (.iconst 1, 1) := by decide +kernel
theorem dX2_lastOnes_99 : decode cX2_lastOnes 99 = .ok (.iload 4, 2) := by decide +kernel
theorem dX2_lastOnes_101 : decode cX2_lastOnes 101 = .ok (.ishl, 1) := by decide +kernel
theorem dX2_lastOnes_102 : decode cX2_lastOnes 102 = .ok (.goto 4, 3) := by decide +kernel
theorem dX2_lastOnes_105 : decode cX2_lastOnes 105 = .ok (.iconst 0, 1) := by decide +kernel
theorem dX2_lastOnes_106 : decode cX2_lastOnes 106 = .ok (.ior, 1) := by decide +kernel
theorem dX2_lastOnes_107 : decode cX2_lastOnes 107 = .ok (.istore_n 1, 1) := by decide +kernel
theorem dX2_lastOnes_108 : decode cX2_lastOnes 108 = .ok (.iinc 4 1, 3) := by decide +kernel
theorem dX2_lastOnes_111 : decode cX2_lastOnes 111 = .ok (.goto (-74), 3) := by decide +kernel
theorem dX2_lastOnes_114 : decode cX2_lastOnes 114 = .ok (.iinc 2 1, 3) := by decide +kernel
theorem dX2_lastOnes_117 : decode cX2_lastOnes 117 = .ok (.goto (-98), 3) := by decide +kernel
theorem dX2_lastOnes_120 : decode cX2_lastOnes 120 = .ok (.iload_n 1, 1) := by decide +kernel
theorem dX2_lastOnes_121 : decode cX2_lastOnes 121 = .ok (.ireturn, 1) := by decide +kernel
theorem dX3_init_0 : decode cX3_init 0 = .ok (.aload_n 0, 1) := by decide +kernel
theorem dX3_init_1 : decode cX3_init 1 = .ok (.invokespecial 3, 3) := by decide +kernel
theorem dX3_init_4 : decode cX3_init 4 = .ok (.aload_n 0, 1) := by decide +kernel
theorem dX3_init_5 : decode cX3_init 5 = .ok (.aload_n 1, 1) := by decide +kernel
theorem dX3_init_6 : decode cX3_init 6 = .ok (.putfield 9, 3) := by decide +kernel
theorem dX3_init_9 : decode cX3_init 9 = .ok (.aload_n 0, 1) := by decide +kernel
theorem dX3_init_10 : decode cX3_init 10 = .ok (.aload_n 2, 1) := by decide +kernel
theorem dX3_init_11 : decode cX3_init 11 = .ok (.putfield 15, 3) := by decide +kernel
theorem dX3_init_14 : decode cX3_init 14 = .ok (.return_, 1) := by decide +kernel
theorem dX3_readAll_0 : decode cX3_readAll 0 = .ok (.aload_n 0, 1) := by decide +kernel
theorem dX3_readAll_1 : decode cX3_readAll 1 = .ok (.getfield 15, 3) := by decide +kernel
theorem dX3_readAll_4 : decode cX3_readAll 4 = .ok (.invokevirtual 19, 3) := by decide +kernel
theorem dX3_readAll_7 : decode cX3_readAll 7 = .ok (.aload_n 0, 1) := by decide +kernel
theorem dX3_readAll_8 : decode cX3_readAll 8 = .ok (.iconst 0, 1) := by decide +kernel
theorem dX3_readAll_9 : decode cX3_readAll 9 = .ok (.putfield 24, 3) := by decide +kernel
theorem dX3_readAll_12 : decode cX3_readAll 12 = .ok (.aload_n 0, 1) := by decide +kernel
theorem dX3_readAll_13 : decode cX3_readAll 13 = .ok (.iconst 2, 1) := by decide +kernel
theorem dX3_readAll_14 : decode cX3_readAll 14 = .ok (.putfield 28, 3) := by decide +kernel
theorem dX3_readAll_17 : decode cX3_readAll 17 = .ok (.aload_n 0, 1) := by decide +kernel
theorem dX3_readAll_18 : decode cX3_readAll 18 = .ok (.iconst 0, 1) := by decide +kernel
theorem dX3_readAll_19 : decode cX3_readAll 19 = .ok (.putfield 31, 3) := by decide +kernel
theorem dX3_readAll_22 : decode cX3_readAll 22 = .ok (.aload_n 0, 1) := by decide +kernel
theorem dX3_readAll_23 : decode cX3_readAll 23 = .ok (.iconst 0, 1) := by decide +kernel
theorem dX3_readAll_24 : decode cX3_readAll 24 = .ok (.putfield 35, 3) := by decide +kernel
theorem dX3_readAll_27 : decode cX3_readAll 27 = .ok (.aload_n 0, 1) := by decide +kernel
theorem dX3_readAll_28 : decode cX3_readAll 28 = .ok (.iconst 0, 1) := by decide +kernel
theorem dX3_readAll_29 : decode cX3_readAll 29 = .ok (.putfield 38, 3) := by decide +kernel
theorem dX3_readAll_32 : decode cX3_readAll 32 = .ok (.aload_n 0, 1) := by decide +kernel
theorem dX3_readAll_33 : decode cX3_readAll 33 = .ok (.iconst 0, 1) := by decide +kernel
theorem dX3_readAll_34 : decode cX3_readAll 34 = .ok (.putfield 41, 3) := by decide +kernel
theorem dX3_readAll_37 : decode cX3_readAll 37 = .ok (.aload_n 0, 1) := by decide +kernel
theorem dX3_readAll_38 : decode cX3_readAll 38 = .ok (.iconst 0, 1) := by decide +kernel
theorem dX3_readAll_39 : decode cX3_readAll 39 = .ok (.putfield 44, 3) := by decide +kernel
theorem dX3_readAll_42 : decode cX3_readAll 42 = .ok (.iconst 0, 1) := by decide +kernel
theorem dX3_readAll_43 : decode cX3_readAll 43 = .ok (.istore_n 1, 1) := by decide +kernel
theorem dX3_readAll_44 : decode cX3_readAll 44 = .ok (.iload_n 1, 1) := by decide +kernel
theorem dX3_readAll_45 : decode cX3_readAll 45 = .ok (.sipush 400, 3) := by decide +kernel
theorem dX3_readAll_48 : decode cX3_readAll 48 = .ok (.if_icmp .gt 30, 3) := by decide +kernel
theorem dX3_readAll_51 : decode cX3_readAll 51 = .ok (.aload_n 0, 1) := by decide +kernel
theorem dX3_readAll_52 : decode cX3_readAll 52 = .ok (.invokevirtual 47, 3) := by decide +kernel
theorem dX3_readAll_55 : decode cX3_readAll 55 = .ok (.aload_n 0, 1) := by decide +kernel
theorem dX3_readAll_56 : decode cX3_readAll 56 = .ok (.getfield 50, 3) := by decide +kernel
theorem dX3_readAll_59 : decode cX3_readAll 59 = .ok (.ifCond .eq 19, 3) := by decide +kernel
theorem dX3_readAll_62 : decode cX3_readAll 62 = .ok (.aload_n 0, 1) := by decide +kernel
theorem dX3_readAll_63 : decode cX3_readAll 63 = .ok (.invokevirtual 53, 3) := by decide +kernel
theorem dX3_readAll_66 : decode cX3_readAll 66 = .ok (.ifCond .ne 6, 3) := by decide +kernel
theorem dX3_readAll_69 : decode cX3_readAll 69 = .ok (.goto 9, 3) := by decide +kernel
theorem dX3_readAll_72 : decode cX3_readAll 72 = .ok (.iinc 1 1, 3) := by decide +kernel
theorem dX3_readAll_75 : decode cX3_readAll 75 = .ok (.goto (-31), 3) := by decide +kernel
theorem dX3_readAll_78 : decode cX3_readAll 78 = .ok (.aload_n 0, 1) := by decide +kernel
theorem dX3_readAll_79 : decode cX3_readAll 79 = .ok (.getfield 41, 3) := by decide +kernel
theorem dX3_readAll_82 : decode cX3_readAll 82 = .ok (.ifCond .ne 38, 3) := by decide +kernel
theorem dX3_readAll_85 : decode cX3_readAll 85 = .ok (.aload_n 0, 1) := by decide +kernel
theorem dX3_readAll_86 : decode cX3_readAll 86 = .ok (.getfield 35, 3) := by decide +kernel
theorem dX3_readAll_89 : decode cX3_readAll 89 = .ok (.aload_n 0, 1) := by decide +kernel
theorem dX3_readAll_90 : decode cX3_readAll 90 = .ok (.getfield 15, 3) := by decide +kernel
theorem dX3_readAll_93 : decode cX3_readAll 93 = .ok (.getfield 57, 3) := by decide +kernel
theorem dX3_readAll_96 : decode cX3_readAll 96 = .ok (.if_icmp .gt 17, 3) := by decide +kernel
theorem dX3_readAll_99 : decode cX3_readAll 99 = .ok (.aload_n 0, 1) := by decide +kernel
theorem dX3_readAll_100 : decode cX3_readAll 100 = .ok (.getfield 38, 3) := by decide +kernel
theorem dX3_readAll_103 : decode cX3_readAll 103 = .ok (.aload_n 0, 1) := by decide +kernel
theorem dX3_readAll_104 : decode cX3_readAll 104 = .ok (.getfield 15, 3) := by decide +kernel
theorem dX3_readAll_107 : decode cX3_readAll 107 = .ok (.getfield 60, 3) := by decide +kernel
theorem dX3_readAll_110 : decode cX3_readAll 110 = .ok (.if_icmp .le 10, 3) := by decide +kernel
theorem dX3_readAll_113 : decode cX3_readAll 113 = .ok (.aload_n 0, 1) := by decide +kernel
theorem dX3_readAll_114 : decode cX3_readAll 114 = .ok (.bipush 6, 2) := by decide +kernel
theorem dX3_readAll_116 : decode cX3_readAll 116 = .ok (.invokevirtual 63, 3) := by decide +kernel
theorem dX3_readAll_119 : decode cX3_readAll 119 = .ok (.pop, 1) := by decide +kernel
theorem dX3_readAll_120 : decode cX3_readAll 120 = .ok (.iload_n 1, 1) := by decide +kernel
theorem dX3_readAll_121 : decode cX3_readAll 121 = .ok (.ireturn, 1) := by decide +kernel
theorem dX3_refuse_0 : decode cX3_refuse 0 = .ok (.aload_n 0, 1) := by decide +kernel
theorem dX3_refuse_1 : decode cX3_refuse 1 = .ok (.iload_n 1, 1) := by decide +kernel
theorem dX3_refuse_2 : decode cX3_refuse 2 = .ok (.putfield 41, 3) := by decide +kernel
theorem dX3_refuse_5 : decode cX3_refuse 5 = .ok (.aload_n 0, 1) := by decide +kernel
theorem dX3_refuse_6 : decode cX3_refuse 6 = .ok (.aload_n 0, 1) := by decide +kernel
theorem dX3_refuse_7 : decode cX3_refuse 7 = .ok (.getfield 67, 3) := by decide +kernel
theorem dX3_refuse_10 : decode cX3_refuse 10 = .ok (.putfield 44, 3) := by decide +kernel
theorem dX3_refuse_13 : decode cX3_refuse 13 = .ok (.iconst 0, 1) := by decide +kernel
theorem dX3_refuse_14 : decode cX3_refuse 14 = .ok (.ireturn, 1) := by decide +kernel
theorem dX3_takeLine_0 : decode cX3_takeLine 0 = .ok (.aload_n 0, 1) := by decide +kernel
theorem dX3_takeLine_1 : decode cX3_takeLine 1 = .ok (.getfield 50, 3) := by decide +kernel
theorem dX3_takeLine_4 : decode cX3_takeLine 4 = .ok (.iconst 1, 1) := by decide +kernel
theorem dX3_takeLine_5 : decode cX3_takeLine 5 = .ok (.if_icmp .eq 21, 3) := by decide +kernel
theorem dX3_takeLine_8 : decode cX3_takeLine 8 = .ok (.aload_n 0, 1) := by decide +kernel
theorem dX3_takeLine_9 : decode cX3_takeLine 9 = .ok (.aload_n 0, 1) := by decide +kernel
theorem dX3_takeLine_10 : decode cX3_takeLine 10 = .ok (.getfield 50, 3) := by decide +kernel
theorem dX3_takeLine_13 : decode cX3_takeLine 13 = .ok (.iconst 4, 1) := by decide +kernel
theorem dX3_takeLine_14 : decode cX3_takeLine 14 = .ok (.if_icmp .ne 7, 3) := by decide +kernel
theorem dX3_takeLine_17 : decode cX3_takeLine 17 = .ok (.iconst 1, 1) := by decide +kernel
theorem dX3_takeLine_18 : decode cX3_takeLine 18 = .ok (.goto 4, 3) := by decide +kernel
theorem dX3_takeLine_21 : decode cX3_takeLine 21 = .ok (.iconst 2, 1) := by decide +kernel
theorem dX3_takeLine_22 : decode cX3_takeLine 22 = .ok (.invokevirtual 63, 3) := by decide +kernel
theorem dX3_takeLine_25 : decode cX3_takeLine 25 = .ok (.ireturn, 1) := by decide +kernel
theorem dX3_takeLine_26 : decode cX3_takeLine 26 = .ok (.aload_n 0, 1) := by decide +kernel
theorem dX3_takeLine_27 : decode cX3_takeLine 27 = .ok (.ldc 70, 2) := by decide +kernel
theorem dX3_takeLine_29 : decode cX3_takeLine 29 = .ok (.invokevirtual 72, 3) := by decide +kernel
theorem dX3_takeLine_32 : decode cX3_takeLine 32 = .ok (.ifCond .eq 8, 3) := by decide +kernel
theorem dX3_takeLine_35 : decode cX3_takeLine 35 = .ok (.aload_n 0, 1) := by decide +kernel
theorem dX3_takeLine_36 : decode cX3_takeLine 36 = .ok (.invokevirtual 76, 3) := by decide +kernel
theorem dX3_takeLine_39 : decode cX3_takeLine 39 = .ok (.ireturn, 1) := by decide +kernel
theorem dX3_takeLine_40 : decode cX3_takeLine 40 = .ok (.aload_n 0, 1) := by decide +kernel
theorem dX3_takeLine_41 : decode cX3_takeLine 41 = .ok (.ldc 79, 2) := by decide +kernel
theorem dX3_takeLine_43 : decode cX3_takeLine 43 = .ok (.invokevirtual 72, 3) := by decide +kernel
theorem dX3_takeLine_46 : decode cX3_takeLine 46 = .ok (.ifCond .eq 8, 3) := by decide +kernel
theorem dX3_takeLine_49 : decode cX3_takeLine 49 = .ok (.aload_n 0, 1) := by decide +kernel
theorem dX3_takeLine_50 : decode cX3_takeLine 50 = .ok (.invokevirtual 81, 3) := by decide +kernel
theorem dX3_takeLine_53 : decode cX3_takeLine 53 = .ok (.ireturn, 1) := by decide +kernel
theorem dX3_takeLine_54 : decode cX3_takeLine 54 = .ok (.aload_n 0, 1) := by decide +kernel
theorem dX3_takeLine_55 : decode cX3_takeLine 55 = .ok (.ldc 84, 2) := by decide +kernel
theorem dX3_takeLine_57 : decode cX3_takeLine 57 = .ok (.invokevirtual 72, 3) := by decide +kernel
theorem dX3_takeLine_60 : decode cX3_takeLine 60 = .ok (.ifCond .eq 9, 3) := by decide +kernel
theorem dX3_takeLine_63 : decode cX3_takeLine 63 = .ok (.aload_n 0, 1) := by decide +kernel
theorem dX3_takeLine_64 : decode cX3_takeLine 64 = .ok (.iconst 0, 1) := by decide +kernel
theorem dX3_takeLine_65 : decode cX3_takeLine 65 = .ok (.invokevirtual 86, 3) := by decide +kernel
theorem dX3_takeLine_68 : decode cX3_takeLine 68 = .ok (.ireturn, 1) := by decide +kernel
theorem dX3_takeLine_69 : decode cX3_takeLine 69 = .ok (.aload_n 0, 1) := by decide +kernel
theorem dX3_takeLine_70 : decode cX3_takeLine 70 = .ok (.ldc 89, 2) := by decide +kernel
theorem dX3_takeLine_72 : decode cX3_takeLine 72 = .ok (.invokevirtual 72, 3) := by decide +kernel
theorem dX3_takeLine_75 : decode cX3_takeLine 75 = .ok (.ifCond .eq 9, 3) := by decide +kernel
theorem dX3_takeLine_78 : decode cX3_takeLine 78 = .ok (.aload_n 0, 1) := by decide +kernel
theorem dX3_takeLine_79 : decode cX3_takeLine 79 = .ok (.iconst 1, 1) := by decide +kernel
theorem dX3_takeLine_80 : decode cX3_takeLine 80 = .ok (.invokevirtual 86, 3) := by decide +kernel
theorem dX3_takeLine_83 : decode cX3_takeLine 83 = .ok (.ireturn, 1) := by decide +kernel
theorem dX3_takeLine_84 : decode cX3_takeLine 84 = .ok (.aload_n 0, 1) := by decide +kernel
theorem dX3_takeLine_85 : decode cX3_takeLine 85 = .ok (.ldc 91, 2) := by decide +kernel
theorem dX3_takeLine_87 : decode cX3_takeLine 87 = .ok (.invokevirtual 72, 3) := by decide +kernel
theorem dX3_takeLine_90 : decode cX3_takeLine 90 = .ok (.ifCond .eq 8, 3) := by decide +kernel
theorem dX3_takeLine_93 : decode cX3_takeLine 93 = .ok (.aload_n 0, 1) := by decide +kernel
theorem dX3_takeLine_94 : decode cX3_takeLine 94 = .ok (.invokevirtual 93, 3) := by decide +kernel
theorem dX3_takeLine_97 : decode cX3_takeLine 97 = .ok (.ireturn, 1) := by decide +kernel
theorem dX3_takeLine_98 : decode cX3_takeLine 98 = .ok (.aload_n 0, 1) := by decide +kernel
theorem dX3_takeLine_99 : decode cX3_takeLine 99 = .ok (.ldc 96, 2) := by decide +kernel
theorem dX3_takeLine_101 : decode cX3_takeLine 101 = .ok (.invokevirtual 72, 3) := by decide +kernel
theorem dX3_takeLine_104 : decode cX3_takeLine 104 = .ok (.ifCond .eq 10, 3) := by decide +kernel
theorem dX3_takeLine_107 : decode cX3_takeLine 107 = .ok (.aload_n 0, 1) := by decide +kernel
theorem dX3_takeLine_108 : decode cX3_takeLine 108 = .ok (.invokevirtual 98, 3) := by decide +kernel
theorem dX3_takeLine_111 : decode cX3_takeLine 111 = .ok (.goto 8, 3) := by decide +kernel
theorem dX3_takeLine_114 : decode cX3_takeLine 114 = .ok (.aload_n 0, 1) := by decide +kernel
theorem dX3_takeLine_115 : decode cX3_takeLine 115 = .ok (.iconst 2, 1) := by decide +kernel
theorem dX3_takeLine_116 : decode cX3_takeLine 116 = .ok (.invokevirtual 63, 3) := by decide +kernel
theorem dX3_takeLine_119 : decode cX3_takeLine 119 = .ok (.ireturn, 1) := by decide +kernel
theorem dX3_takeSlack_0 : decode cX3_takeSlack 0 = .ok (.aload_n 0, 1) := by decide +kernel
theorem dX3_takeSlack_1 : decode cX3_takeSlack 1 = .ok (.getfield 31, 3) := by decide +kernel
theorem dX3_takeSlack_4 : decode cX3_takeSlack 4 = .ok (.ifCond .eq 9, 3) := by decide +kernel
theorem dX3_takeSlack_7 : decode cX3_takeSlack 7 = .ok (.aload_n 0, 1) := by decide +kernel
theorem dX3_takeSlack_8 : decode cX3_takeSlack 8 = .ok (.iconst 4, 1) := by decide +kernel
theorem dX3_takeSlack_9 : decode cX3_takeSlack 9 = .ok (.invokevirtual 63, 3) := by decide +kernel
theorem dX3_takeSlack_12 : decode cX3_takeSlack 12 = .ok (.ireturn, 1) := by decide +kernel
theorem dX3_takeSlack_13 : decode cX3_takeSlack 13 = .ok (.aload_n 0, 1) := by decide +kernel
theorem dX3_takeSlack_14 : decode cX3_takeSlack 14 = .ok (.iconst 1, 1) := by decide +kernel
theorem dX3_takeSlack_15 : decode cX3_takeSlack 15 = .ok (.putfield 31, 3) := by decide +kernel
theorem dX3_takeSlack_18 : decode cX3_takeSlack 18 = .ok (.aload_n 0, 1) := by decide +kernel
theorem dX3_takeSlack_19 : decode cX3_takeSlack 19 = .ok (.iconst 0, 1) := by decide +kernel
theorem dX3_takeSlack_20 : decode cX3_takeSlack 20 = .ok (.iconst 4, 1) := by decide +kernel
theorem dX3_takeSlack_21 : decode cX3_takeSlack 21 = .ok (.invokevirtual 101, 3) := by decide +kernel
theorem dX3_takeSlack_24 : decode cX3_takeSlack 24 = .ok (.ifCond .ne 5, 3) := by decide +kernel
theorem dX3_takeSlack_27 : decode cX3_takeSlack 27 = .ok (.iconst 0, 1) := by decide +kernel
theorem dX3_takeSlack_28 : decode cX3_takeSlack 28 = .ok (.ireturn, 1) := by decide +kernel
theorem dX3_takeSlack_29 : decode cX3_takeSlack 29 = .ok (.aload_n 0, 1) := by decide +kernel
theorem dX3_takeSlack_30 : decode cX3_takeSlack 30 = .ok (.aload_n 0, 1) := by decide +kernel
theorem dX3_takeSlack_31 : decode cX3_takeSlack 31 = .ok (.getfield 105, 3) := by decide +kernel
theorem dX3_takeSlack_34 : decode cX3_takeSlack 34 = .ok (.putfield 28, 3) := by decide +kernel
theorem dX3_takeSlack_37 : decode cX3_takeSlack 37 = .ok (.aload_n 0, 1) := by decide +kernel
theorem dX3_takeSlack_38 : decode cX3_takeSlack 38 = .ok (.invokevirtual 108, 3) := by decide +kernel
theorem dX3_takeSlack_41 : decode cX3_takeSlack 41 = .ok (.ireturn, 1) := by decide +kernel
theorem dX3_takeChild_0 : decode cX3_takeChild 0 = .ok (.aload_n 0, 1) := by decide +kernel
theorem dX3_takeChild_1 : decode cX3_takeChild 1 = .ok (.getfield 15, 3) := by decide +kernel
theorem dX3_takeChild_4 : decode cX3_takeChild 4 = .ok (.getfield 57, 3) := by decide +kernel
theorem dX3_takeChild_7 : decode cX3_takeChild 7 = .ok (.bipush 8, 2) := by decide +kernel
theorem dX3_takeChild_9 : decode cX3_takeChild 9 = .ok (.if_icmp .lt 9, 3) := by decide +kernel
theorem dX3_takeChild_12 : decode cX3_takeChild 12 = .ok (.aload_n 0, 1) := by decide +kernel
theorem dX3_takeChild_13 : decode cX3_takeChild 13 = .ok (.iconst 5, 1) := by decide +kernel
theorem dX3_takeChild_14 : decode cX3_takeChild 14 = .ok (.invokevirtual 63, 3) := by decide +kernel
theorem dX3_takeChild_17 : decode cX3_takeChild 17 = .ok (.ireturn, 1) := by decide +kernel
theorem dX3_takeChild_18 : decode cX3_takeChild 18 = .ok (.aload_n 0, 1) := by decide +kernel
theorem dX3_takeChild_19 : decode cX3_takeChild 19 = .ok (.iconst 1, 1) := by decide +kernel
theorem dX3_takeChild_20 : decode cX3_takeChild 20 = .ok (.bipush 40, 2) := by decide +kernel
theorem dX3_takeChild_22 : decode cX3_takeChild 22 = .ok (.invokevirtual 101, 3) := by decide +kernel
theorem dX3_takeChild_25 : decode cX3_takeChild 25 = .ok (.ifCond .ne 5, 3) := by decide +kernel
theorem dX3_takeChild_28 : decode cX3_takeChild 28 = .ok (.iconst 0, 1) := by decide +kernel
theorem dX3_takeChild_29 : decode cX3_takeChild 29 = .ok (.ireturn, 1) := by decide +kernel
theorem dX3_takeChild_30 : decode cX3_takeChild 30 = .ok (.aload_n 0, 1) := by decide +kernel
theorem dX3_takeChild_31 : decode cX3_takeChild 31 = .ok (.getfield 105, 3) := by decide +kernel
theorem dX3_takeChild_34 : decode cX3_takeChild 34 = .ok (.istore_n 1, 1) := by decide +kernel
theorem dX3_takeChild_35 : decode cX3_takeChild 35 = .ok (.aload_n 0, 1) := by decide +kernel
theorem dX3_takeChild_36 : decode cX3_takeChild 36 = .ok (.iconst 0, 1) := by decide +kernel
theorem dX3_takeChild_37 : decode cX3_takeChild 37 = .ok (.iconst 4, 1) := by decide +kernel
theorem dX3_takeChild_38 : decode cX3_takeChild 38 = .ok (.invokevirtual 101, 3) := by decide +kernel
theorem dX3_takeChild_41 : decode cX3_takeChild 41 = .ok (.ifCond .ne 5, 3) := by decide +kernel
theorem dX3_takeChild_44 : decode cX3_takeChild 44 = .ok (.iconst 0, 1) := by decide +kernel
theorem dX3_takeChild_45 : decode cX3_takeChild 45 = .ok (.ireturn, 1) := by decide +kernel
theorem dX3_takeChild_46 : decode cX3_takeChild 46 = .ok (.aload_n 0, 1) := by decide +kernel
theorem dX3_takeChild_47 : decode cX3_takeChild 47 = .ok (.getfield 105, 3) := by decide +kernel
theorem dX3_takeChild_50 : decode cX3_takeChild 50 = .ok (.istore_n 2, 1) := by decide +kernel
theorem dX3_takeChild_51 : decode cX3_takeChild 51 = .ok (.aload_n 0, 1) := by decide +kernel
theorem dX3_takeChild_52 : decode cX3_takeChild 52 = .ok (.iload_n 2, 1) := by decide +kernel
theorem dX3_takeChild_53 : decode cX3_takeChild 53 = .ok (.iconst 4, 1) := by decide +kernel
theorem dX3_takeChild_54 : decode cX3_takeChild 54 = .ok (.invokevirtual 101, 3) := by decide +kernel
theorem dX3_takeChild_57 : decode cX3_takeChild 57 = .ok (.ifCond .ne 5, 3) := by decide +kernel
theorem dX3_takeChild_60 : decode cX3_takeChild 60 = .ok (.iconst 0, 1) := by decide +kernel
theorem dX3_takeChild_61 : decode cX3_takeChild 61 = .ok (.ireturn, 1) := by decide +kernel
theorem dX3_takeChild_62 : decode cX3_takeChild 62 = .ok (.aload_n 0, 1) := by decide +kernel
theorem dX3_takeChild_63 : decode cX3_takeChild 63 = .ok (.getfield 15, 3) := by decide +kernel
theorem dX3_takeChild_66 : decode cX3_takeChild 66 = .ok (.iload_n 1, 1) := by decide +kernel
theorem dX3_takeChild_67 : decode cX3_takeChild 67 = .ok (.iload_n 2, 1) := by decide +kernel
theorem dX3_takeChild_68 : decode cX3_takeChild 68 = .ok (.aload_n 0, 1) := by decide +kernel
theorem dX3_takeChild_69 : decode cX3_takeChild 69 = .ok (.getfield 105, 3) := by decide +kernel
theorem dX3_takeChild_72 : decode cX3_takeChild 72 = .ok (.invokevirtual 111, 3) := by decide +kernel
theorem dX3_takeChild_75 : decode cX3_takeChild 75 = .ok (.aload_n 0, 1) := by decide +kernel
theorem dX3_takeChild_76 : decode cX3_takeChild 76 = .ok (.invokevirtual 108, 3) := by decide +kernel
theorem dX3_takeChild_79 : decode cX3_takeChild 79 = .ok (.ireturn, 1) := by decide +kernel
theorem dX3_takeThing_0 : decode cX3_takeThing 0 = .ok (.aload_n 0, 1) := by decide +kernel
theorem dX3_takeThing_1 : decode cX3_takeThing 1 = .ok (.getfield 15, 3) := by decide +kernel
theorem dX3_takeThing_4 : decode cX3_takeThing 4 = .ok (.getfield 60, 3) := by decide +kernel
theorem dX3_takeThing_7 : decode cX3_takeThing 7 = .ok (.bipush 10, 2) := by decide +kernel
theorem dX3_takeThing_9 : decode cX3_takeThing 9 = .ok (.if_icmp .lt 9, 3) := by decide +kernel
theorem dX3_takeThing_12 : decode cX3_takeThing 12 = .ok (.aload_n 0, 1) := by decide +kernel
theorem dX3_takeThing_13 : decode cX3_takeThing 13 = .ok (.iconst 5, 1) := by decide +kernel
theorem dX3_takeThing_14 : decode cX3_takeThing 14 = .ok (.invokevirtual 63, 3) := by decide +kernel
theorem dX3_takeThing_17 : decode cX3_takeThing 17 = .ok (.ireturn, 1) := by decide +kernel
theorem dX3_takeThing_18 : decode cX3_takeThing 18 = .ok (.aload_n 0, 1) := by decide +kernel
theorem dX3_takeThing_19 : decode cX3_takeThing 19 = .ok (.invokevirtual 47, 3) := by decide +kernel
theorem dX3_takeThing_22 : decode cX3_takeThing 22 = .ok (.aload_n 0, 1) := by decide +kernel
theorem dX3_takeThing_23 : decode cX3_takeThing 23 = .ok (.getfield 50, 3) := by decide +kernel
theorem dX3_takeThing_26 : decode cX3_takeThing 26 = .ok (.iconst 4, 1) := by decide +kernel
theorem dX3_takeThing_27 : decode cX3_takeThing 27 = .ok (.if_icmp .ne 9, 3) := by decide +kernel
theorem dX3_takeThing_30 : decode cX3_takeThing 30 = .ok (.aload_n 0, 1) := by decide +kernel
theorem dX3_takeThing_31 : decode cX3_takeThing 31 = .ok (.iconst 1, 1) := by decide +kernel
theorem dX3_takeThing_32 : decode cX3_takeThing 32 = .ok (.invokevirtual 63, 3) := by decide +kernel
theorem dX3_takeThing_35 : decode cX3_takeThing 35 = .ok (.ireturn, 1) := by decide +kernel
theorem dX3_takeThing_36 : decode cX3_takeThing 36 = .ok (.aload_n 0, 1) := by decide +kernel
theorem dX3_takeThing_37 : decode cX3_takeThing 37 = .ok (.getfield 50, 3) := by decide +kernel
theorem dX3_takeThing_40 : decode cX3_takeThing 40 = .ok (.iconst 1, 1) := by decide +kernel
theorem dX3_takeThing_41 : decode cX3_takeThing 41 = .ok (.if_icmp .ne 10, 3) := by decide +kernel
theorem dX3_takeThing_44 : decode cX3_takeThing 44 = .ok (.aload_n 0, 1) := by decide +kernel
theorem dX3_takeThing_45 : decode cX3_takeThing 45 = .ok (.invokevirtual 115, 3) := by decide +kernel
theorem dX3_takeThing_48 : decode cX3_takeThing 48 = .ok (.goto 5, 3) := by decide +kernel
theorem dX3_takeThing_51 : decode cX3_takeThing 51 = .ok (.bipush (-4), 2) := by decide +kernel
theorem dX3_takeThing_53 : decode cX3_takeThing 53 = .ok (.istore_n 2, 1) := by decide +kernel
theorem dX3_takeThing_54 : decode cX3_takeThing 54 = .ok (.iload_n 2, 1) := by decide +kernel
theorem dX3_takeThing_55 : decode cX3_takeThing 55 = .ok (.bipush (-4), 2) := by decide +kernel
theorem dX3_takeThing_57 : decode cX3_takeThing 57 = .ok (.if_icmp .ne 9, 3) := by decide +kernel
theorem dX3_takeThing_60 : decode cX3_takeThing 60 = .ok (.aload_n 0, 1) := by decide +kernel
theorem dX3_takeThing_61 : decode cX3_takeThing 61 = .ok (.iconst 2, 1) := by decide +kernel
theorem dX3_takeThing_62 : decode cX3_takeThing 62 = .ok (.invokevirtual 63, 3) := by decide +kernel
theorem dX3_takeThing_65 : decode cX3_takeThing 65 = .ok (.ireturn, 1) := by decide +kernel
theorem dX3_takeThing_66 : decode cX3_takeThing 66 = .ok (.bipush (-4), 2) := by decide +kernel
theorem dX3_takeThing_68 : decode cX3_takeThing 68 = .ok (.istore_n 3, 1) := by decide +kernel
theorem dX3_takeThing_69 : decode cX3_takeThing 69 = .ok (.iload_n 2, 1) := by decide +kernel
theorem dX3_takeThing_70 : decode cX3_takeThing 70 = .ok (.iconst 4, 1) := by decide +kernel
theorem dX3_takeThing_71 : decode cX3_takeThing 71 = .ok (.if_icmp .ne 34, 3) := by decide +kernel
theorem dX3_takeThing_74 : decode cX3_takeThing 74 = .ok (.aload_n 0, 1) := by decide +kernel
theorem dX3_takeThing_75 : decode cX3_takeThing 75 = .ok (.iconst 0, 1) := by decide +kernel
theorem dX3_takeThing_76 : decode cX3_takeThing 76 = .ok (.bipush 7, 2) := by decide +kernel
theorem dX3_takeThing_78 : decode cX3_takeThing 78 = .ok (.invokevirtual 101, 3) := by decide +kernel
theorem dX3_takeThing_81 : decode cX3_takeThing 81 = .ok (.ifCond .ne 5, 3) := by decide +kernel
theorem dX3_takeThing_84 : decode cX3_takeThing 84 = .ok (.iconst 0, 1) := by decide +kernel
theorem dX3_takeThing_85 : decode cX3_takeThing 85 = .ok (.ireturn, 1) := by decide +kernel
theorem dX3_takeThing_86 : decode cX3_takeThing 86 = .ok (.aload_n 0, 1) := by decide +kernel
theorem dX3_takeThing_87 : decode cX3_takeThing 87 = .ok (.getfield 105, 3) := by decide +kernel
theorem dX3_takeThing_90 : decode cX3_takeThing 90 = .ok (.istore_n 3, 1) := by decide +kernel
theorem dX3_takeThing_91 : decode cX3_takeThing 91 = .ok (.aload_n 0, 1) := by decide +kernel
theorem dX3_takeThing_92 : decode cX3_takeThing 92 = .ok (.aload_n 0, 1) := by decide +kernel
theorem dX3_takeThing_93 : decode cX3_takeThing 93 = .ok (.getfield 35, 3) := by decide +kernel
theorem dX3_takeThing_96 : decode cX3_takeThing 96 = .ok (.iload_n 3, 1) := by decide +kernel
theorem dX3_takeThing_97 : decode cX3_takeThing 97 = .ok (.iconst 1, 1) := by decide +kernel
theorem dX3_takeThing_98 : decode cX3_takeThing 98 = .ok (.iadd, 1) := by decide +kernel
theorem dX3_takeThing_99 : decode cX3_takeThing 99 = .ok (.invokestatic 119, 3) := by decide +kernel
theorem dX3_takeThing_102 : decode cX3_takeThing 102 = .ok (.putfield 35, 3) := by decide +kernel
theorem dX3_takeThing_105 : decode cX3_takeThing 105 = .ok (.aload_n 0, 1) := by decide +kernel
theorem dX3_takeThing_106 : decode cX3_takeThing 106 = .ok (.iconst 1, 1) := by decide +kernel
theorem dX3_takeThing_107 : decode cX3_takeThing 107 = .ok (.bipush 40, 2) := by decide +kernel
theorem dX3_takeThing_109 : decode cX3_takeThing 109 = .ok (.invokevirtual 101, 3) := by decide +kernel
theorem dX3_takeThing_112 : decode cX3_takeThing 112 = .ok (.ifCond .ne 5, 3) := by decide +kernel
theorem dX3_takeThing_115 : decode cX3_takeThing 115 = .ok (.iconst 0, 1) := by decide +kernel
theorem dX3_takeThing_116 : decode cX3_takeThing 116 = .ok (.ireturn, 1) := by decide +kernel
theorem dX3_takeThing_117 : decode cX3_takeThing 117 = .ok (.aload_n 0, 1) := by decide +kernel
theorem dX3_takeThing_118 : decode cX3_takeThing 118 = .ok (.getfield 105, 3) := by decide +kernel
theorem dX3_takeThing_121 : decode cX3_takeThing 121 = .ok (.istore 4, 2) := by decide +kernel
theorem dX3_takeThing_123 : decode cX3_takeThing 123 = .ok (.aload_n 0, 1) := by decide +kernel
theorem dX3_takeThing_124 : decode cX3_takeThing 124 = .ok (.iconst 1, 1) := by decide +kernel
theorem dX3_takeThing_125 : decode cX3_takeThing 125 = .ok (.bipush 9, 2) := by decide +kernel
theorem dX3_takeThing_127 : decode cX3_takeThing 127 = .ok (.invokevirtual 101, 3) := by decide +kernel
theorem dX3_takeThing_130 : decode cX3_takeThing 130 = .ok (.ifCond .ne 5, 3) := by decide +kernel
theorem dX3_takeThing_133 : decode cX3_takeThing 133 = .ok (.iconst 0, 1) := by decide +kernel
theorem dX3_takeThing_134 : decode cX3_takeThing 134 = .ok (.ireturn, 1) := by decide +kernel
theorem dX3_takeThing_135 : decode cX3_takeThing 135 = .ok (.aload_n 0, 1) := by decide +kernel
theorem dX3_takeThing_136 : decode cX3_takeThing 136 = .ok (.getfield 15, 3) := by decide +kernel
theorem dX3_takeThing_139 : decode cX3_takeThing 139 = .ok (.iload_n 1, 1) := by decide +kernel
theorem dX3_takeThing_140 : decode cX3_takeThing 140 = .ok (.iload 4, 2) := by decide +kernel
theorem dX3_takeThing_142 : decode cX3_takeThing 142 = .ok (.aload_n 0, 1) := by decide +kernel
theorem dX3_takeThing_143 : decode cX3_takeThing 143 = .ok (.getfield 105, 3) := by decide +kernel
theorem dX3_takeThing_146 : decode cX3_takeThing 146 = .ok (.invokevirtual 125, 3) := by decide +kernel
theorem dX3_takeThing_149 : decode cX3_takeThing 149 = .ok (.istore 5, 2) := by decide +kernel
theorem dX3_takeThing_151 : decode cX3_takeThing 151 = .ok (.aload_n 0, 1) := by decide +kernel
theorem dX3_takeThing_152 : decode cX3_takeThing 152 = .ok (.getfield 15, 3) := by decide +kernel
theorem dX3_takeThing_155 : decode cX3_takeThing 155 = .ok (.iload 5, 2) := by decide +kernel
theorem dX3_takeThing_157 : decode cX3_takeThing 157 = .ok (.invokevirtual 129, 3) := by decide +kernel
theorem dX3_takeThing_160 : decode cX3_takeThing 160 = .ok (.ifCond .eq 31, 3) := by decide +kernel
theorem dX3_takeThing_163 : decode cX3_takeThing 163 = .ok (.aload_n 0, 1) := by decide +kernel
theorem dX3_takeThing_164 : decode cX3_takeThing 164 = .ok (.getfield 15, 3) := by decide +kernel
theorem dX3_takeThing_167 : decode cX3_takeThing 167 = .ok (.getfield 132, 3) := by decide +kernel
theorem dX3_takeThing_170 : decode cX3_takeThing 170 = .ok (.iload 5, 2) := by decide +kernel
theorem dX3_takeThing_172 : decode cX3_takeThing 172 = .ok (.aaload, 1) := by decide +kernel
theorem dX3_takeThing_173 : decode cX3_takeThing 173 = .ok (.iload_n 2, 1) := by decide +kernel
theorem dX3_takeThing_174 : decode cX3_takeThing 174 = .ok (.putfield 136, 3) := by decide +kernel
theorem dX3_takeThing_177 : decode cX3_takeThing 177 = .ok (.aload_n 0, 1) := by decide +kernel
theorem dX3_takeThing_178 : decode cX3_takeThing 178 = .ok (.getfield 15, 3) := by decide +kernel
theorem dX3_takeThing_181 : decode cX3_takeThing 181 = .ok (.getfield 132, 3) := by decide +kernel
theorem dX3_takeThing_184 : decode cX3_takeThing 184 = .ok (.iload 5, 2) := by decide +kernel
theorem dX3_takeThing_186 : decode cX3_takeThing 186 = .ok (.aaload, 1) := by decide +kernel
theorem dX3_takeThing_187 : decode cX3_takeThing 187 = .ok (.iload_n 3, 1) := by decide +kernel
theorem dX3_takeThing_188 : decode cX3_takeThing 188 = .ok (.putfield 141, 3) := by decide +kernel
theorem dX3_takeThing_191 : decode cX3_takeThing 191 = .ok (.aload_n 0, 1) := by decide +kernel
theorem dX3_takeThing_192 : decode cX3_takeThing 192 = .ok (.invokevirtual 108, 3) := by decide +kernel
theorem dX3_takeThing_195 : decode cX3_takeThing 195 = .ok (.ireturn, 1) := by decide +kernel
theorem dX3_kindNamed_0 : decode cX3_kindNamed 0 = .ok (.aload_n 0, 1) := by decide +kernel
theorem dX3_kindNamed_1 : decode cX3_kindNamed 1 = .ok (.ldc 144, 2) := by decide +kernel
theorem dX3_kindNamed_3 : decode cX3_kindNamed 3 = .ok (.invokevirtual 72, 3) := by decide +kernel
theorem dX3_kindNamed_6 : decode cX3_kindNamed 6 = .ok (.ifCond .eq 5, 3) := by decide +kernel
theorem dX3_kindNamed_9 : decode cX3_kindNamed 9 = .ok (.iconst 0, 1) := by decide +kernel
theorem dX3_kindNamed_10 : decode cX3_kindNamed 10 = .ok (.ireturn, 1) := by decide +kernel
theorem dX3_kindNamed_11 : decode cX3_kindNamed 11 = .ok (.aload_n 0, 1) := by decide +kernel
theorem dX3_kindNamed_12 : decode cX3_kindNamed 12 = .ok (.ldc 146, 2) := by decide +kernel
theorem dX3_kindNamed_14 : decode cX3_kindNamed 14 = .ok (.invokevirtual 72, 3) := by decide +kernel
theorem dX3_kindNamed_17 : decode cX3_kindNamed 17 = .ok (.ifCond .eq 5, 3) := by decide +kernel
theorem dX3_kindNamed_20 : decode cX3_kindNamed 20 = .ok (.iconst 1, 1) := by decide +kernel
theorem dX3_kindNamed_21 : decode cX3_kindNamed 21 = .ok (.ireturn, 1) := by decide +kernel
theorem dX3_kindNamed_22 : decode cX3_kindNamed 22 = .ok (.aload_n 0, 1) := by decide +kernel
theorem dX3_kindNamed_23 : decode cX3_kindNamed 23 = .ok (.ldc 148, 2) := by decide +kernel
theorem dX3_kindNamed_25 : decode cX3_kindNamed 25 = .ok (.invokevirtual 72, 3) := by decide +kernel
theorem dX3_kindNamed_28 : decode cX3_kindNamed 28 = .ok (.ifCond .eq 5, 3) := by decide +kernel
theorem dX3_kindNamed_31 : decode cX3_kindNamed 31 = .ok (.iconst 2, 1) := by decide +kernel
theorem dX3_kindNamed_32 : decode cX3_kindNamed 32 = .ok (.ireturn, 1) := by decide +kernel
theorem dX3_kindNamed_33 : decode cX3_kindNamed 33 = .ok (.aload_n 0, 1) := by decide +kernel
theorem dX3_kindNamed_34 : decode cX3_kindNamed 34 = .ok (.ldc 150, 2) := by decide +kernel
theorem dX3_kindNamed_36 : decode cX3_kindNamed 36 = .ok (.invokevirtual 72, 3) := by decide +kernel
theorem dX3_kindNamed_39 : decode cX3_kindNamed 39 = .ok (.ifCond .eq 5, 3) := by decide +kernel
theorem dX3_kindNamed_42 : decode cX3_kindNamed 42 = .ok (.iconst 3, 1) := by decide +kernel
theorem dX3_kindNamed_43 : decode cX3_kindNamed 43 = .ok (.ireturn, 1) := by decide +kernel
theorem dX3_kindNamed_44 : decode cX3_kindNamed 44 = .ok (.aload_n 0, 1) := by decide +kernel
theorem dX3_kindNamed_45 : decode cX3_kindNamed 45 = .ok (.ldc 152, 2) := by decide +kernel
theorem dX3_kindNamed_47 : decode cX3_kindNamed 47 = .ok (.invokevirtual 72, 3) := by decide +kernel
theorem dX3_kindNamed_50 : decode cX3_kindNamed 50 = .ok (.ifCond .eq 7, 3) := by decide +kernel
theorem dX3_kindNamed_53 : decode cX3_kindNamed 53 = .ok (.iconst 4, 1) := by decide +kernel
theorem dX3_kindNamed_54 : decode cX3_kindNamed 54 = .ok (.goto 5, 3) := by decide +kernel
theorem dX3_kindNamed_57 : decode cX3_kindNamed 57 = .ok (.bipush (-4), 2) := by decide +kernel
theorem dX3_kindNamed_59 : decode cX3_kindNamed 59 = .ok (.ireturn, 1) := by decide +kernel
theorem dX3_takeLiking_0 : decode cX3_takeLiking 0 = .ok (.aload_n 0, 1) := by decide +kernel
theorem dX3_takeLiking_1 : decode cX3_takeLiking 1 = .ok (.iconst 0, 1) := by decide +kernel
theorem dX3_takeLiking_2 : decode cX3_takeLiking 2 = .ok (.bipush 7, 2) := by decide +kernel
theorem dX3_takeLiking_4 : decode cX3_takeLiking 4 = .ok (.invokevirtual 101, 3) := by decide +kernel
theorem dX3_takeLiking_7 : decode cX3_takeLiking 7 = .ok (.ifCond .ne 5, 3) := by decide +kernel
theorem dX3_takeLiking_10 : decode cX3_takeLiking 10 = .ok (.iconst 0, 1) := by decide +kernel
theorem dX3_takeLiking_11 : decode cX3_takeLiking 11 = .ok (.ireturn, 1) := by decide +kernel
theorem dX3_takeLiking_12 : decode cX3_takeLiking 12 = .ok (.aload_n 0, 1) := by decide +kernel
theorem dX3_takeLiking_13 : decode cX3_takeLiking 13 = .ok (.getfield 105, 3) := by decide +kernel
theorem dX3_takeLiking_16 : decode cX3_takeLiking 16 = .ok (.istore_n 1, 1) := by decide +kernel
theorem dX3_takeLiking_17 : decode cX3_takeLiking 17 = .ok (.aload_n 0, 1) := by decide +kernel
theorem dX3_takeLiking_18 : decode cX3_takeLiking 18 = .ok (.iconst 0, 1) := by decide +kernel
theorem dX3_takeLiking_19 : decode cX3_takeLiking 19 = .ok (.bipush 9, 2) := by decide +kernel
theorem dX3_takeLiking_21 : decode cX3_takeLiking 21 = .ok (.invokevirtual 101, 3) := by decide +kernel
theorem dX3_takeLiking_24 : decode cX3_takeLiking 24 = .ok (.ifCond .ne 5, 3) := by decide +kernel
theorem dX3_takeLiking_27 : decode cX3_takeLiking 27 = .ok (.iconst 0, 1) := by decide +kernel
theorem dX3_takeLiking_28 : decode cX3_takeLiking 28 = .ok (.ireturn, 1) := by decide +kernel
theorem dX3_takeLiking_29 : decode cX3_takeLiking 29 = .ok (.aload_n 0, 1) := by decide +kernel
theorem dX3_takeLiking_30 : decode cX3_takeLiking 30 = .ok (.getfield 105, 3) := by decide +kernel
theorem dX3_takeLiking_33 : decode cX3_takeLiking 33 = .ok (.istore_n 2, 1) := by decide +kernel
theorem dX3_takeLiking_34 : decode cX3_takeLiking 34 = .ok (.aload_n 0, 1) := by decide +kernel
theorem dX3_takeLiking_35 : decode cX3_takeLiking 35 = .ok (.iconst 0, 1) := by decide +kernel
theorem dX3_takeLiking_36 : decode cX3_takeLiking 36 = .ok (.bipush 9, 2) := by decide +kernel
theorem dX3_takeLiking_38 : decode cX3_takeLiking 38 = .ok (.invokevirtual 101, 3) := by decide +kernel
theorem dX3_takeLiking_41 : decode cX3_takeLiking 41 = .ok (.ifCond .ne 5, 3) := by decide +kernel
theorem dX3_takeLiking_44 : decode cX3_takeLiking 44 = .ok (.iconst 0, 1) := by decide +kernel
theorem dX3_takeLiking_45 : decode cX3_takeLiking 45 = .ok (.ireturn, 1) := by decide +kernel
theorem dX3_takeLiking_46 : decode cX3_takeLiking 46 = .ok (.aload_n 0, 1) := by decide +kernel
theorem dX3_takeLiking_47 : decode cX3_takeLiking 47 = .ok (.aload_n 0, 1) := by decide +kernel
theorem dX3_takeLiking_48 : decode cX3_takeLiking 48 = .ok (.getfield 35, 3) := by decide +kernel
theorem dX3_takeLiking_51 : decode cX3_takeLiking 51 = .ok (.iload_n 1, 1) := by decide +kernel
theorem dX3_takeLiking_52 : decode cX3_takeLiking 52 = .ok (.iconst 1, 1) := by decide +kernel
theorem dX3_takeLiking_53 : decode cX3_takeLiking 53 = .ok (.iadd, 1) := by decide +kernel
theorem dX3_takeLiking_54 : decode cX3_takeLiking 54 = .ok (.invokestatic 119, 3) := by decide +kernel
theorem dX3_takeLiking_57 : decode cX3_takeLiking 57 = .ok (.putfield 35, 3) := by decide +kernel
theorem dX3_takeLiking_60 : decode cX3_takeLiking 60 = .ok (.aload_n 0, 1) := by decide +kernel
theorem dX3_takeLiking_61 : decode cX3_takeLiking 61 = .ok (.aload_n 0, 1) := by decide +kernel
theorem dX3_takeLiking_62 : decode cX3_takeLiking 62 = .ok (.getfield 38, 3) := by decide +kernel
theorem dX3_takeLiking_65 : decode cX3_takeLiking 65 = .ok (.iload_n 2, 1) := by decide +kernel
theorem dX3_takeLiking_66 : decode cX3_takeLiking 66 = .ok (.iconst 1, 1) := by decide +kernel
theorem dX3_takeLiking_67 : decode cX3_takeLiking 67 = .ok (.iadd, 1) := by decide +kernel
theorem dX3_takeLiking_68 : decode cX3_takeLiking 68 = .ok (.invokestatic 119, 3) := by decide +kernel
theorem dX3_takeLiking_71 : decode cX3_takeLiking 71 = .ok (.putfield 38, 3) := by decide +kernel
theorem dX3_takeLiking_74 : decode cX3_takeLiking 74 = .ok (.aload_n 0, 1) := by decide +kernel
theorem dX3_takeLiking_75 : decode cX3_takeLiking 75 = .ok (.getfield 15, 3) := by decide +kernel
theorem dX3_takeLiking_78 : decode cX3_takeLiking 78 = .ok (.iload_n 1, 1) := by decide +kernel
theorem dX3_takeLiking_79 : decode cX3_takeLiking 79 = .ok (.iload_n 2, 1) := by decide +kernel
theorem dX3_takeLiking_80 : decode cX3_takeLiking 80 = .ok (.aload_n 0, 1) := by decide +kernel
theorem dX3_takeLiking_81 : decode cX3_takeLiking 81 = .ok (.getfield 105, 3) := by decide +kernel
theorem dX3_takeLiking_84 : decode cX3_takeLiking 84 = .ok (.invokevirtual 154, 3) := by decide +kernel
theorem dX3_takeLiking_87 : decode cX3_takeLiking 87 = .ok (.aload_n 0, 1) := by decide +kernel
theorem dX3_takeLiking_88 : decode cX3_takeLiking 88 = .ok (.invokevirtual 108, 3) := by decide +kernel
theorem dX3_takeLiking_91 : decode cX3_takeLiking 91 = .ok (.ireturn, 1) := by decide +kernel
theorem dX3_takeMark_0 : decode cX3_takeMark 0 = .ok (.aload_n 0, 1) := by decide +kernel
theorem dX3_takeMark_1 : decode cX3_takeMark 1 = .ok (.getfield 15, 3) := by decide +kernel
theorem dX3_takeMark_4 : decode cX3_takeMark 4 = .ok (.getfield 157, 3) := by decide +kernel
theorem dX3_takeMark_7 : decode cX3_takeMark 7 = .ok (.bipush 6, 2) := by decide +kernel
theorem dX3_takeMark_9 : decode cX3_takeMark 9 = .ok (.if_icmp .lt 9, 3) := by decide +kernel
theorem dX3_takeMark_12 : decode cX3_takeMark 12 = .ok (.aload_n 0, 1) := by decide +kernel
theorem dX3_takeMark_13 : decode cX3_takeMark 13 = .ok (.iconst 5, 1) := by decide +kernel
theorem dX3_takeMark_14 : decode cX3_takeMark 14 = .ok (.invokevirtual 63, 3) := by decide +kernel
theorem dX3_takeMark_17 : decode cX3_takeMark 17 = .ok (.ireturn, 1) := by decide +kernel
theorem dX3_takeMark_18 : decode cX3_takeMark 18 = .ok (.aload_n 0, 1) := by decide +kernel
theorem dX3_takeMark_19 : decode cX3_takeMark 19 = .ok (.iconst 1, 1) := by decide +kernel
theorem dX3_takeMark_20 : decode cX3_takeMark 20 = .ok (.bipush 40, 2) := by decide +kernel
theorem dX3_takeMark_22 : decode cX3_takeMark 22 = .ok (.invokevirtual 101, 3) := by decide +kernel
theorem dX3_takeMark_25 : decode cX3_takeMark 25 = .ok (.ifCond .ne 5, 3) := by decide +kernel
theorem dX3_takeMark_28 : decode cX3_takeMark 28 = .ok (.iconst 0, 1) := by decide +kernel
theorem dX3_takeMark_29 : decode cX3_takeMark 29 = .ok (.ireturn, 1) := by decide +kernel
theorem dX3_takeMark_30 : decode cX3_takeMark 30 = .ok (.aload_n 0, 1) := by decide +kernel
theorem dX3_takeMark_31 : decode cX3_takeMark 31 = .ok (.getfield 15, 3) := by decide +kernel
theorem dX3_takeMark_34 : decode cX3_takeMark 34 = .ok (.aload_n 0, 1) := by decide +kernel
theorem dX3_takeMark_35 : decode cX3_takeMark 35 = .ok (.getfield 105, 3) := by decide +kernel
theorem dX3_takeMark_38 : decode cX3_takeMark 38 = .ok (.invokevirtual 160, 3) := by decide +kernel
theorem dX3_takeMark_41 : decode cX3_takeMark 41 = .ok (.aload_n 0, 1) := by decide +kernel
theorem dX3_takeMark_42 : decode cX3_takeMark 42 = .ok (.invokevirtual 108, 3) := by decide +kernel
theorem dX3_takeMark_45 : decode cX3_takeMark 45 = .ok (.ireturn, 1) := by decide +kernel
theorem dX3_takeNumber_0 : decode cX3_takeNumber 0 = .ok (.aload_n 0, 1) := by decide +kernel
theorem dX3_takeNumber_1 : decode cX3_takeNumber 1 = .ok (.invokevirtual 47, 3) := by decide +kernel
theorem dX3_takeNumber_4 : decode cX3_takeNumber 4 = .ok (.aload_n 0, 1) := by decide +kernel
theorem dX3_takeNumber_5 : decode cX3_takeNumber 5 = .ok (.getfield 50, 3) := by decide +kernel
theorem dX3_takeNumber_8 : decode cX3_takeNumber 8 = .ok (.iconst 2, 1) := by decide +kernel
theorem dX3_takeNumber_9 : decode cX3_takeNumber 9 = .ok (.if_icmp .eq 21, 3) := by decide +kernel
theorem dX3_takeNumber_12 : decode cX3_takeNumber 12 = .ok (.aload_n 0, 1) := by decide +kernel
theorem dX3_takeNumber_13 : decode cX3_takeNumber 13 = .ok (.aload_n 0, 1) := by decide +kernel
theorem dX3_takeNumber_14 : decode cX3_takeNumber 14 = .ok (.getfield 50, 3) := by decide +kernel
theorem dX3_takeNumber_17 : decode cX3_takeNumber 17 = .ok (.iconst 4, 1) := by decide +kernel
theorem dX3_takeNumber_18 : decode cX3_takeNumber 18 = .ok (.if_icmp .ne 7, 3) := by decide +kernel
theorem dX3_takeNumber_21 : decode cX3_takeNumber 21 = .ok (.iconst 1, 1) := by decide +kernel
theorem dX3_takeNumber_22 : decode cX3_takeNumber 22 = .ok (.goto 4, 3) := by decide +kernel
theorem dX3_takeNumber_25 : decode cX3_takeNumber 25 = .ok (.iconst 2, 1) := by decide +kernel
theorem dX3_takeNumber_26 : decode cX3_takeNumber 26 = .ok (.invokevirtual 63, 3) := by decide +kernel
theorem dX3_takeNumber_29 : decode cX3_takeNumber 29 = .ok (.ireturn, 1) := by decide +kernel
theorem dX3_takeNumber_30 : decode cX3_takeNumber 30 = .ok (.aload_n 0, 1) := by decide +kernel
theorem dX3_takeNumber_31 : decode cX3_takeNumber 31 = .ok (.getfield 105, 3) := by decide +kernel
theorem dX3_takeNumber_34 : decode cX3_takeNumber 34 = .ok (.iload_n 1, 1) := by decide +kernel
theorem dX3_takeNumber_35 : decode cX3_takeNumber 35 = .ok (.iload_n 2, 1) := by decide +kernel
theorem dX3_takeNumber_36 : decode cX3_takeNumber 36 = .ok (.invokestatic 164, 3) := by decide +kernel
theorem dX3_takeNumber_39 : decode cX3_takeNumber 39 = .ok (.ifCond .ne 11, 3) := by decide +kernel
theorem dX3_takeNumber_42 : decode cX3_takeNumber 42 = .ok (.aload_n 0, 1) := by decide +kernel
theorem dX3_takeNumber_43 : decode cX3_takeNumber 43 = .ok (.iconst 3, 1) := by decide +kernel
theorem dX3_takeNumber_44 : decode cX3_takeNumber 44 = .ok (.invokevirtual 63, 3) := by decide +kernel
theorem dX3_takeNumber_47 : decode cX3_takeNumber 47 = .ok (.ifCond .eq 7, 3) := by decide +kernel
theorem dX3_takeNumber_50 : decode cX3_takeNumber 50 = .ok (.iconst 1, 1) := by decide +kernel
theorem dX3_takeNumber_51 : decode cX3_takeNumber 51 = .ok (.goto 4, 3) := by decide +kernel
theorem dX3_takeNumber_54 : decode cX3_takeNumber 54 = .ok (.iconst 0, 1) := by decide +kernel
theorem dX3_takeNumber_55 : decode cX3_takeNumber 55 = .ok (.ireturn, 1) := by decide +kernel
theorem dX3_takeStop_0 : decode cX3_takeStop 0 = .ok (.aload_n 0, 1) := by decide +kernel
theorem dX3_takeStop_1 : decode cX3_takeStop 1 = .ok (.invokevirtual 47, 3) := by decide +kernel
theorem dX3_takeStop_4 : decode cX3_takeStop 4 = .ok (.aload_n 0, 1) := by decide +kernel
theorem dX3_takeStop_5 : decode cX3_takeStop 5 = .ok (.getfield 50, 3) := by decide +kernel
theorem dX3_takeStop_8 : decode cX3_takeStop 8 = .ok (.iconst 3, 1) := by decide +kernel
theorem dX3_takeStop_9 : decode cX3_takeStop 9 = .ok (.if_icmp .eq 23, 3) := by decide +kernel
theorem dX3_takeStop_12 : decode cX3_takeStop 12 = .ok (.aload_n 0, 1) := by decide +kernel
theorem dX3_takeStop_13 : decode cX3_takeStop 13 = .ok (.aload_n 0, 1) := by decide +kernel
theorem dX3_takeStop_14 : decode cX3_takeStop 14 = .ok (.getfield 50, 3) := by decide +kernel
theorem dX3_takeStop_17 : decode cX3_takeStop 17 = .ok (.iconst 4, 1) := by decide +kernel
theorem dX3_takeStop_18 : decode cX3_takeStop 18 = .ok (.if_icmp .ne 7, 3) := by decide +kernel
theorem dX3_takeStop_21 : decode cX3_takeStop 21 = .ok (.iconst 1, 1) := by decide +kernel
theorem dX3_takeStop_22 : decode cX3_takeStop 22 = .ok (.goto 4, 3) := by decide +kernel
theorem dX3_takeStop_25 : decode cX3_takeStop 25 = .ok (.iconst 2, 1) := by decide +kernel
theorem dX3_takeStop_26 : decode cX3_takeStop 26 = .ok (.invokevirtual 63, 3) := by decide +kernel
theorem dX3_takeStop_29 : decode cX3_takeStop 29 = .ok (.ifCond .eq 7, 3) := by decide +kernel
theorem dX3_takeStop_32 : decode cX3_takeStop 32 = .ok (.iconst 1, 1) := by decide +kernel
theorem dX3_takeStop_33 : decode cX3_takeStop 33 = .ok (.goto 4, 3) := by decide +kernel
theorem dX3_takeStop_36 : decode cX3_takeStop 36 = .ok (.iconst 0, 1) := by decide +kernel
theorem dX3_takeStop_37 : decode cX3_takeStop 37 = .ok (.ireturn, 1) := by decide +kernel
theorem dX3_nextToken_0 : decode cX3_nextToken 0 = .ok (.aload_n 0, 1) := by decide +kernel
theorem dX3_nextToken_1 : decode cX3_nextToken 1 = .ok (.getfield 24, 3) := by decide +kernel
theorem dX3_nextToken_4 : decode cX3_nextToken 4 = .ok (.aload_n 0, 1) := by decide +kernel
theorem dX3_nextToken_5 : decode cX3_nextToken 5 = .ok (.getfield 9, 3) := by decide +kernel
theorem dX3_nextToken_8 : decode cX3_nextToken 8 = .ok (.getfield 168, 3) := by decide +kernel
theorem dX3_nextToken_11 : decode cX3_nextToken 11 = .ok (.if_icmp .ge 32, 3) := by decide +kernel
theorem dX3_nextToken_14 : decode cX3_nextToken 14 = .ok (.aload_n 0, 1) := by decide +kernel
theorem dX3_nextToken_15 : decode cX3_nextToken 15 = .ok (.getfield 9, 3) := by decide +kernel
theorem dX3_nextToken_18 : decode cX3_nextToken 18 = .ok (.aload_n 0, 1) := by decide +kernel
theorem dX3_nextToken_19 : decode cX3_nextToken 19 = .ok (.getfield 24, 3) := by decide +kernel
theorem dX3_nextToken_22 : decode cX3_nextToken 22 = .ok (.invokevirtual 173, 3) := by decide +kernel
theorem dX3_nextToken_25 : decode cX3_nextToken 25 = .ok (.bipush 32, 2) := by decide +kernel
theorem dX3_nextToken_27 : decode cX3_nextToken 27 = .ok (.if_icmp .ne 16, 3) := by decide +kernel
theorem dX3_nextToken_30 : decode cX3_nextToken 30 = .ok (.aload_n 0, 1) := by decide +kernel
theorem dX3_nextToken_31 : decode cX3_nextToken 31 = .ok (.dup, 1) := by decide +kernel
theorem dX3_nextToken_32 : decode cX3_nextToken 32 = .ok (.getfield 24, 3) := by decide +kernel
theorem dX3_nextToken_35 : decode cX3_nextToken 35 = .ok (.iconst 1, 1) := by decide +kernel
theorem dX3_nextToken_36 : decode cX3_nextToken 36 = .ok (.iadd, 1) := by decide +kernel
theorem dX3_nextToken_37 : decode cX3_nextToken 37 = .ok (.putfield 24, 3) := by decide +kernel
theorem dX3_nextToken_40 : decode cX3_nextToken 40 = .ok (.goto (-40), 3) := by decide +kernel
theorem dX3_nextToken_43 : decode cX3_nextToken 43 = .ok (.aload_n 0, 1) := by decide +kernel
theorem dX3_nextToken_44 : decode cX3_nextToken 44 = .ok (.aload_n 0, 1) := by decide +kernel
theorem dX3_nextToken_45 : decode cX3_nextToken 45 = .ok (.getfield 24, 3) := by decide +kernel
theorem dX3_nextToken_48 : decode cX3_nextToken 48 = .ok (.putfield 67, 3) := by decide +kernel
theorem dX3_nextToken_51 : decode cX3_nextToken 51 = .ok (.aload_n 0, 1) := by decide +kernel
theorem dX3_nextToken_52 : decode cX3_nextToken 52 = .ok (.getfield 67, 3) := by decide +kernel
theorem dX3_nextToken_55 : decode cX3_nextToken 55 = .ok (.aload_n 0, 1) := by decide +kernel
theorem dX3_nextToken_56 : decode cX3_nextToken 56 = .ok (.getfield 9, 3) := by decide +kernel
theorem dX3_nextToken_59 : decode cX3_nextToken 59 = .ok (.getfield 168, 3) := by decide +kernel
theorem dX3_nextToken_62 : decode cX3_nextToken 62 = .ok (.if_icmp .lt 11, 3) := by decide +kernel
theorem dX3_nextToken_65 : decode cX3_nextToken 65 = .ok (.aload_n 0, 1) := by decide +kernel
theorem dX3_nextToken_66 : decode cX3_nextToken 66 = .ok (.iconst 0, 1) := by decide +kernel
theorem dX3_nextToken_67 : decode cX3_nextToken 67 = .ok (.putfield 50, 3) := by decide +kernel
theorem dX3_nextToken_70 : decode cX3_nextToken 70 = .ok (.goto 210, 3) := by decide +kernel
theorem dX3_nextToken_73 : decode cX3_nextToken 73 = .ok (.aload_n 0, 1) := by decide +kernel
theorem dX3_nextToken_74 : decode cX3_nextToken 74 = .ok (.getfield 9, 3) := by decide +kernel
theorem dX3_nextToken_77 : decode cX3_nextToken 77 = .ok (.aload_n 0, 1) := by decide +kernel
theorem dX3_nextToken_78 : decode cX3_nextToken 78 = .ok (.getfield 67, 3) := by decide +kernel
theorem dX3_nextToken_81 : decode cX3_nextToken 81 = .ok (.invokevirtual 173, 3) := by decide +kernel
theorem dX3_nextToken_84 : decode cX3_nextToken 84 = .ok (.bipush 59, 2) := by decide +kernel
theorem dX3_nextToken_86 : decode cX3_nextToken 86 = .ok (.if_icmp .ne 21, 3) := by decide +kernel
theorem dX3_nextToken_89 : decode cX3_nextToken 89 = .ok (.aload_n 0, 1) := by decide +kernel
theorem dX3_nextToken_90 : decode cX3_nextToken 90 = .ok (.iconst 3, 1) := by decide +kernel
theorem dX3_nextToken_91 : decode cX3_nextToken 91 = .ok (.putfield 50, 3) := by decide +kernel
theorem dX3_nextToken_94 : decode cX3_nextToken 94 = .ok (.aload_n 0, 1) := by decide +kernel
theorem dX3_nextToken_95 : decode cX3_nextToken 95 = .ok (.dup, 1) := by decide +kernel
theorem dX3_nextToken_96 : decode cX3_nextToken 96 = .ok (.getfield 24, 3) := by decide +kernel
theorem dX3_nextToken_99 : decode cX3_nextToken 99 = .ok (.iconst 1, 1) := by decide +kernel
theorem dX3_nextToken_100 : decode cX3_nextToken 100 = .ok (.iadd, 1) := by decide +kernel
theorem dX3_nextToken_101 : decode cX3_nextToken 101 = .ok (.putfield 24, 3) := by decide +kernel
theorem dX3_nextToken_104 : decode cX3_nextToken 104 = .ok (.goto 176, 3) := by decide +kernel
theorem dX3_nextToken_107 : decode cX3_nextToken 107 = .ok (.aload_n 0, 1) := by decide +kernel
theorem dX3_nextToken_108 : decode cX3_nextToken 108 = .ok (.getfield 9, 3) := by decide +kernel
theorem dX3_nextToken_111 : decode cX3_nextToken 111 = .ok (.aload_n 0, 1) := by decide +kernel
theorem dX3_nextToken_112 : decode cX3_nextToken 112 = .ok (.getfield 67, 3) := by decide +kernel
theorem dX3_nextToken_115 : decode cX3_nextToken 115 = .ok (.invokevirtual 173, 3) := by decide +kernel
theorem dX3_nextToken_118 : decode cX3_nextToken 118 = .ok (.invokestatic 177, 3) := by decide +kernel
theorem dX3_nextToken_121 : decode cX3_nextToken 121 = .ok (.ifCond .eq 52, 3) := by decide +kernel
theorem dX3_nextToken_124 : decode cX3_nextToken 124 = .ok (.aload_n 0, 1) := by decide +kernel
theorem dX3_nextToken_125 : decode cX3_nextToken 125 = .ok (.iconst 1, 1) := by decide +kernel
theorem dX3_nextToken_126 : decode cX3_nextToken 126 = .ok (.putfield 50, 3) := by decide +kernel
theorem dX3_nextToken_129 : decode cX3_nextToken 129 = .ok (.aload_n 0, 1) := by decide +kernel
theorem dX3_nextToken_130 : decode cX3_nextToken 130 = .ok (.getfield 24, 3) := by decide +kernel
theorem dX3_nextToken_133 : decode cX3_nextToken 133 = .ok (.aload_n 0, 1) := by decide +kernel
theorem dX3_nextToken_134 : decode cX3_nextToken 134 = .ok (.getfield 9, 3) := by decide +kernel
theorem dX3_nextToken_137 : decode cX3_nextToken 137 = .ok (.getfield 168, 3) := by decide +kernel
theorem dX3_nextToken_140 : decode cX3_nextToken 140 = .ok (.if_icmp .ge 140, 3) := by decide +kernel
theorem dX3_nextToken_143 : decode cX3_nextToken 143 = .ok (.aload_n 0, 1) := by decide +kernel
theorem dX3_nextToken_144 : decode cX3_nextToken 144 = .ok (.getfield 9, 3) := by decide +kernel
theorem dX3_nextToken_147 : decode cX3_nextToken 147 = .ok (.aload_n 0, 1) := by decide +kernel
theorem dX3_nextToken_148 : decode cX3_nextToken 148 = .ok (.getfield 24, 3) := by decide +kernel
theorem dX3_nextToken_151 : decode cX3_nextToken 151 = .ok (.invokevirtual 173, 3) := by decide +kernel
theorem dX3_nextToken_154 : decode cX3_nextToken 154 = .ok (.invokestatic 177, 3) := by decide +kernel
theorem dX3_nextToken_157 : decode cX3_nextToken 157 = .ok (.ifCond .eq 123, 3) := by decide +kernel
theorem dX3_nextToken_160 : decode cX3_nextToken 160 = .ok (.aload_n 0, 1) := by decide +kernel
theorem dX3_nextToken_161 : decode cX3_nextToken 161 = .ok (.dup, 1) := by decide +kernel
theorem dX3_nextToken_162 : decode cX3_nextToken 162 = .ok (.getfield 24, 3) := by decide +kernel
theorem dX3_nextToken_165 : decode cX3_nextToken 165 = .ok (.iconst 1, 1) := by decide +kernel
theorem dX3_nextToken_166 : decode cX3_nextToken 166 = .ok (.iadd, 1) := by decide +kernel
theorem dX3_nextToken_167 : decode cX3_nextToken 167 = .ok (.putfield 24, 3) := by decide +kernel
theorem dX3_nextToken_170 : decode cX3_nextToken 170 = .ok (.goto (-41), 3) := by decide +kernel
theorem dX3_nextToken_173 : decode cX3_nextToken 173 = .ok (.aload_n 0, 1) := by decide +kernel
theorem dX3_nextToken_174 : decode cX3_nextToken 174 = .ok (.iconst 0, 1) := by decide +kernel
theorem dX3_nextToken_175 : decode cX3_nextToken 175 = .ok (.putfield 105, 3) := by decide +kernel
theorem dX3_nextToken_178 : decode cX3_nextToken 178 = .ok (.aload_n 0, 1) := by decide +kernel
theorem dX3_nextToken_179 : decode cX3_nextToken 179 = .ok (.getfield 24, 3) := by decide +kernel
theorem dX3_nextToken_182 : decode cX3_nextToken 182 = .ok (.aload_n 0, 1) := by decide +kernel
theorem dX3_nextToken_183 : decode cX3_nextToken 183 = .ok (.getfield 9, 3) := by decide +kernel
theorem dX3_nextToken_186 : decode cX3_nextToken 186 = .ok (.getfield 168, 3) := by decide +kernel
theorem dX3_nextToken_189 : decode cX3_nextToken 189 = .ok (.if_icmp .ge 62, 3) := by decide +kernel
theorem dX3_nextToken_192 : decode cX3_nextToken 192 = .ok (.aload_n 0, 1) := by decide +kernel
theorem dX3_nextToken_193 : decode cX3_nextToken 193 = .ok (.getfield 9, 3) := by decide +kernel
theorem dX3_nextToken_196 : decode cX3_nextToken 196 = .ok (.aload_n 0, 1) := by decide +kernel
theorem dX3_nextToken_197 : decode cX3_nextToken 197 = .ok (.getfield 24, 3) := by decide +kernel
theorem dX3_nextToken_200 : decode cX3_nextToken 200 = .ok (.invokevirtual 173, 3) := by decide +kernel
theorem dX3_nextToken_203 : decode cX3_nextToken 203 = .ok (.invokestatic 180, 3) := by decide +kernel
theorem dX3_nextToken_206 : decode cX3_nextToken 206 = .ok (.ifCond .eq 45, 3) := by decide +kernel
theorem dX3_nextToken_209 : decode cX3_nextToken 209 = .ok (.aload_n 0, 1) := by decide +kernel
theorem dX3_nextToken_210 : decode cX3_nextToken 210 = .ok (.aload_n 0, 1) := by decide +kernel
theorem dX3_nextToken_211 : decode cX3_nextToken 211 = .ok (.getfield 105, 3) := by decide +kernel
theorem dX3_nextToken_214 : decode cX3_nextToken 214 = .ok (.bipush 100, 2) := by decide +kernel
theorem dX3_nextToken_216 : decode cX3_nextToken 216 = .ok (.irem, 1) := by decide +kernel
theorem dX3_nextToken_217 : decode cX3_nextToken 217 = .ok (.bipush 10, 2) := by decide +kernel
theorem dX3_nextToken_219 : decode cX3_nextToken 219 = .ok (.imul, 1) := by decide +kernel
theorem dX3_nextToken_220 : decode cX3_nextToken 220 = .ok (.aload_n 0, 1) := by decide +kernel
theorem dX3_nextToken_221 : decode cX3_nextToken 221 = .ok (.getfield 9, 3) := by decide +kernel
theorem dX3_nextToken_224 : decode cX3_nextToken 224 = .ok (.aload_n 0, 1) := by decide +kernel
theorem dX3_nextToken_225 : decode cX3_nextToken 225 = .ok (.getfield 24, 3) := by decide +kernel
theorem dX3_nextToken_228 : decode cX3_nextToken 228 = .ok (.invokevirtual 173, 3) := by decide +kernel
theorem dX3_nextToken_231 : decode cX3_nextToken 231 = .ok (.iadd, 1) := by decide +kernel
theorem dX3_nextToken_232 : decode cX3_nextToken 232 = .ok (.bipush 48, 2) := by decide +kernel
theorem dX3_nextToken_234 : decode cX3_nextToken 234 = .ok (.isub, 1) := by decide +kernel
theorem dX3_nextToken_235 : decode cX3_nextToken 235 = .ok (.putfield 105, 3) := by decide +kernel
theorem dX3_nextToken_238 : decode cX3_nextToken 238 = .ok (.aload_n 0, 1) := by decide +kernel
theorem dX3_nextToken_239 : decode cX3_nextToken 239 = .ok (.dup, 1) := by decide +kernel
theorem dX3_nextToken_240 : decode cX3_nextToken 240 = .ok (.getfield 24, 3) := by decide +kernel
theorem dX3_nextToken_243 : decode cX3_nextToken 243 = .ok (.iconst 1, 1) := by decide +kernel
theorem dX3_nextToken_244 : decode cX3_nextToken 244 = .ok (.iadd, 1) := by decide +kernel
theorem dX3_nextToken_245 : decode cX3_nextToken 245 = .ok (.putfield 24, 3) := by decide +kernel
theorem dX3_nextToken_248 : decode cX3_nextToken 248 = .ok (.goto (-70), 3) := by decide +kernel
theorem dX3_nextToken_251 : decode cX3_nextToken 251 = .ok (.aload_n 0, 1) := by decide +kernel
theorem dX3_nextToken_252 : decode cX3_nextToken 252 = .ok (.getfield 24, 3) := by decide +kernel
theorem dX3_nextToken_255 : decode cX3_nextToken 255 = .ok (.aload_n 0, 1) := by decide +kernel
theorem dX3_nextToken_256 : decode cX3_nextToken 256 = .ok (.getfield 67, 3) := by decide +kernel
theorem dX3_nextToken_259 : decode cX3_nextToken 259 = .ok (.isub, 1) := by decide +kernel
theorem dX3_nextToken_260 : decode cX3_nextToken 260 = .ok (.istore_n 1, 1) := by decide +kernel
theorem dX3_nextToken_261 : decode cX3_nextToken 261 = .ok (.aload_n 0, 1) := by decide +kernel
theorem dX3_nextToken_262 : decode cX3_nextToken 262 = .ok (.iload_n 1, 1) := by decide +kernel
theorem dX3_nextToken_263 : decode cX3_nextToken 263 = .ok (.iconst 1, 1) := by decide +kernel
theorem dX3_nextToken_264 : decode cX3_nextToken 264 = .ok (.if_icmp .eq 8, 3) := by decide +kernel
theorem dX3_nextToken_267 : decode cX3_nextToken 267 = .ok (.iload_n 1, 1) := by decide +kernel
theorem dX3_nextToken_268 : decode cX3_nextToken 268 = .ok (.iconst 2, 1) := by decide +kernel
theorem dX3_nextToken_269 : decode cX3_nextToken 269 = .ok (.if_icmp .ne 7, 3) := by decide +kernel
theorem dX3_nextToken_272 : decode cX3_nextToken 272 = .ok (.iconst 2, 1) := by decide +kernel
theorem dX3_nextToken_273 : decode cX3_nextToken 273 = .ok (.goto 4, 3) := by decide +kernel
theorem dX3_nextToken_276 : decode cX3_nextToken 276 = .ok (.iconst 4, 1) := by decide +kernel
theorem dX3_nextToken_277 : decode cX3_nextToken 277 = .ok (.putfield 50, 3) := by decide +kernel
theorem dX3_nextToken_280 : decode cX3_nextToken 280 = .ok (.return_, 1) := by decide +kernel
theorem dX3_isLetter_0 : decode cX3_isLetter 0 = .ok (.iload_n 0, 1) := by decide +kernel
theorem dX3_isLetter_1 : decode cX3_isLetter 1 = .ok (.bipush 97, 2) := by decide +kernel
theorem dX3_isLetter_3 : decode cX3_isLetter 3 = .ok (.if_icmp .lt 13, 3) := by decide +kernel
theorem dX3_isLetter_6 : decode cX3_isLetter 6 = .ok (.iload_n 0, 1) := by decide +kernel
theorem dX3_isLetter_7 : decode cX3_isLetter 7 = .ok (.bipush 122, 2) := by decide +kernel
theorem dX3_isLetter_9 : decode cX3_isLetter 9 = .ok (.if_icmp .gt 7, 3) := by decide +kernel
theorem dX3_isLetter_12 : decode cX3_isLetter 12 = .ok (.iconst 1, 1) := by decide +kernel
theorem dX3_isLetter_13 : decode cX3_isLetter 13 = .ok (.goto 4, 3) := by decide +kernel
theorem dX3_isLetter_16 : decode cX3_isLetter 16 = .ok (.iconst 0, 1) := by decide +kernel
theorem dX3_isLetter_17 : decode cX3_isLetter 17 = .ok (.ireturn, 1) := by decide +kernel
theorem dX3_isFigure_0 : decode cX3_isFigure 0 = .ok (.iload_n 0, 1) := by decide +kernel
theorem dX3_isFigure_1 : decode cX3_isFigure 1 = .ok (.bipush 48, 2) := by decide +kernel
theorem dX3_isFigure_3 : decode cX3_isFigure 3 = .ok (.if_icmp .lt 13, 3) := by decide +kernel
theorem dX3_isFigure_6 : decode cX3_isFigure 6 = .ok (.iload_n 0, 1) := by decide +kernel
theorem dX3_isFigure_7 : decode cX3_isFigure 7 = .ok (.bipush 57, 2) := by decide +kernel
theorem dX3_isFigure_9 : decode cX3_isFigure 9 = .ok (.if_icmp .gt 7, 3) := by decide +kernel
theorem dX3_isFigure_12 : decode cX3_isFigure 12 = .ok (.iconst 1, 1) := by decide +kernel
theorem dX3_isFigure_13 : decode cX3_isFigure 13 = .ok (.goto 4, 3) := by decide +kernel
theorem dX3_isFigure_16 : decode cX3_isFigure 16 = .ok (.iconst 0, 1) := by decide +kernel
theorem dX3_isFigure_17 : decode cX3_isFigure 17 = .ok (.ireturn, 1) := by decide +kernel
theorem dX3_isNamed_0 : decode cX3_isNamed 0 = .ok (.aload_n 0, 1) := by decide +kernel
theorem dX3_isNamed_1 : decode cX3_isNamed 1 = .ok (.getfield 24, 3) := by decide +kernel
theorem dX3_isNamed_4 : decode cX3_isNamed 4 = .ok (.aload_n 0, 1) := by decide +kernel
theorem dX3_isNamed_5 : decode cX3_isNamed 5 = .ok (.getfield 67, 3) := by decide +kernel
theorem dX3_isNamed_8 : decode cX3_isNamed 8 = .ok (.isub, 1) := by decide +kernel
theorem dX3_isNamed_9 : decode cX3_isNamed 9 = .ok (.aload_n 1, 1) := by decide +kernel
theorem dX3_isNamed_10 : decode cX3_isNamed 10 = .ok (.invokevirtual 183, 3) := by decide +kernel
theorem dX3_isNamed_13 : decode cX3_isNamed 13 = .ok (.if_icmp .eq 5, 3) := by decide +kernel
theorem dX3_isNamed_16 : decode cX3_isNamed 16 = .ok (.iconst 0, 1) := by decide +kernel
theorem dX3_isNamed_17 : decode cX3_isNamed 17 = .ok (.ireturn, 1) := by decide +kernel
theorem dX3_isNamed_18 : decode cX3_isNamed 18 = .ok (.iconst 0, 1) := by decide +kernel
theorem dX3_isNamed_19 : decode cX3_isNamed 19 = .ok (.istore_n 2, 1) := by decide +kernel
theorem dX3_isNamed_20 : decode cX3_isNamed 20 = .ok (.iload_n 2, 1) := by decide +kernel
theorem dX3_isNamed_21 : decode cX3_isNamed 21 = .ok (.aload_n 1, 1) := by decide +kernel
theorem dX3_isNamed_22 : decode cX3_isNamed 22 = .ok (.invokevirtual 183, 3) := by decide +kernel
theorem dX3_isNamed_25 : decode cX3_isNamed 25 = .ok (.if_icmp .ge 32, 3) := by decide +kernel
theorem dX3_isNamed_28 : decode cX3_isNamed 28 = .ok (.aload_n 0, 1) := by decide +kernel
theorem dX3_isNamed_29 : decode cX3_isNamed 29 = .ok (.getfield 9, 3) := by decide +kernel
theorem dX3_isNamed_32 : decode cX3_isNamed 32 = .ok (.aload_n 0, 1) := by decide +kernel
theorem dX3_isNamed_33 : decode cX3_isNamed 33 = .ok (.getfield 67, 3) := by decide +kernel
theorem dX3_isNamed_36 : decode cX3_isNamed 36 = .ok (.iload_n 2, 1) := by decide +kernel
theorem dX3_isNamed_37 : decode cX3_isNamed 37 = .ok (.iadd, 1) := by decide +kernel
theorem dX3_isNamed_38 : decode cX3_isNamed 38 = .ok (.invokevirtual 173, 3) := by decide +kernel
theorem dX3_isNamed_41 : decode cX3_isNamed 41 = .ok (.aload_n 1, 1) := by decide +kernel
theorem dX3_isNamed_42 : decode cX3_isNamed 42 = .ok (.iload_n 2, 1) := by decide +kernel
theorem dX3_isNamed_43 : decode cX3_isNamed 43 = .ok (.invokevirtual 187, 3) := by decide +kernel
theorem dX3_isNamed_46 : decode cX3_isNamed 46 = .ok (.if_icmp .eq 5, 3) := by decide +kernel
theorem dX3_isNamed_49 : decode cX3_isNamed 49 = .ok (.iconst 0, 1) := by decide +kernel
theorem dX3_isNamed_50 : decode cX3_isNamed 50 = .ok (.ireturn, 1) := by decide +kernel
theorem dX3_isNamed_51 : decode cX3_isNamed 51 = .ok (.iinc 2 1, 3) := by decide +kernel
theorem dX3_isNamed_54 : decode cX3_isNamed 54 = .ok (.goto (-34), 3) := by decide +kernel
theorem dX3_isNamed_57 : decode cX3_isNamed 57 = .ok (.iconst 1, 1) := by decide +kernel
theorem dX3_isNamed_58 : decode cX3_isNamed 58 = .ok (.ireturn, 1) := by decide +kernel
theorem dX4_init_0 : decode cX4_init 0 = .ok (.aload_n 0, 1) := by decide +kernel
theorem dX4_init_1 : decode cX4_init 1 = .ok (.invokespecial 3, 3) := by decide +kernel
theorem dX4_init_4 : decode cX4_init 4 = .ok (.aload_n 0, 1) := by decide +kernel
theorem dX4_init_5 : decode cX4_init 5 = .ok (.bipush 40, 2) := by decide +kernel
theorem dX4_init_7 : decode cX4_init 7 = .ok (.newarray .int, 2) := by decide +kernel
theorem dX4_init_9 : decode cX4_init 9 = .ok (.putfield 9, 3) := by decide +kernel
theorem dX4_init_12 : decode cX4_init 12 = .ok (.aload_n 0, 1) := by decide +kernel
theorem dX4_init_13 : decode cX4_init 13 = .ok (.bipush (-4), 2) := by decide +kernel
theorem dX4_init_15 : decode cX4_init 15 = .ok (.putfield 15, 3) := by decide +kernel
theorem dX4_init_18 : decode cX4_init 18 = .ok (.aload_n 0, 1) := by decide +kernel
theorem dX4_init_19 : decode cX4_init 19 = .ok (.iconst 0, 1) := by decide +kernel
theorem dX4_init_20 : decode cX4_init 20 = .ok (.putfield 19, 3) := by decide +kernel
theorem dX4_init_23 : decode cX4_init 23 = .ok (.return_, 1) := by decide +kernel
theorem dX4_isNothing_0 : decode cX4_isNothing 0 = .ok (.aload_n 0, 1) := by decide +kernel
theorem dX4_isNothing_1 : decode cX4_isNothing 1 = .ok (.getfield 15, 3) := by decide +kernel
theorem dX4_isNothing_4 : decode cX4_isNothing 4 = .ok (.bipush (-4), 2) := by decide +kernel
theorem dX4_isNothing_6 : decode cX4_isNothing 6 = .ok (.if_icmp .ne 7, 3) := by decide +kernel
theorem dX4_isNothing_9 : decode cX4_isNothing 9 = .ok (.iconst 1, 1) := by decide +kernel
theorem dX4_isNothing_10 : decode cX4_isNothing 10 = .ok (.goto 4, 3) := by decide +kernel
theorem dX4_isNothing_13 : decode cX4_isNothing 13 = .ok (.iconst 0, 1) := by decide +kernel
theorem dX4_isNothing_14 : decode cX4_isNothing 14 = .ok (.ireturn, 1) := by decide +kernel
theorem dX4_hasCell_0 : decode cX4_hasCell 0 = .ok (.iload_n 1, 1) := by decide +kernel
theorem dX4_hasCell_1 : decode cX4_hasCell 1 = .ok (.ifCond .lt 15, 3) := by decide +kernel
theorem dX4_hasCell_4 : decode cX4_hasCell 4 = .ok (.iload_n 1, 1) := by decide +kernel
theorem dX4_hasCell_5 : decode cX4_hasCell 5 = .ok (.aload_n 0, 1) := by decide +kernel
theorem dX4_hasCell_6 : decode cX4_hasCell 6 = .ok (.getfield 19, 3) := by decide +kernel
theorem dX4_hasCell_9 : decode cX4_hasCell 9 = .ok (.if_icmp .ge 7, 3) := by decide +kernel
theorem dX4_hasCell_12 : decode cX4_hasCell 12 = .ok (.iconst 1, 1) := by decide +kernel
theorem dX4_hasCell_13 : decode cX4_hasCell 13 = .ok (.goto 4, 3) := by decide +kernel
theorem dX4_hasCell_16 : decode cX4_hasCell 16 = .ok (.iconst 0, 1) := by decide +kernel
theorem dX4_hasCell_17 : decode cX4_hasCell 17 = .ok (.ireturn, 1) := by decide +kernel
theorem dX4_cellAt_0 : decode cX4_cellAt 0 = .ok (.aload_n 0, 1) := by decide +kernel
theorem dX4_cellAt_1 : decode cX4_cellAt 1 = .ok (.iload_n 1, 1) := by decide +kernel
theorem dX4_cellAt_2 : decode cX4_cellAt 2 = .ok (.invokevirtual 22, 3) := by decide +kernel
theorem dX4_cellAt_5 : decode cX4_cellAt 5 = .ok (.ifCond .eq 12, 3) := by decide +kernel
theorem dX4_cellAt_8 : decode cX4_cellAt 8 = .ok (.aload_n 0, 1) := by decide +kernel
theorem dX4_cellAt_9 : decode cX4_cellAt 9 = .ok (.getfield 9, 3) := by decide +kernel
theorem dX4_cellAt_12 : decode cX4_cellAt 12 = .ok (.iload_n 1, 1) := by decide +kernel
theorem dX4_cellAt_13 : decode cX4_cellAt 13 = .ok (.iaload, 1) := by decide +kernel
theorem dX4_cellAt_14 : decode cX4_cellAt 14 = .ok (.goto 4, 3) := by decide +kernel
theorem dX4_cellAt_17 : decode cX4_cellAt 17 = .ok (.iconst 0, 1) := by decide +kernel
theorem dX4_cellAt_18 : decode cX4_cellAt 18 = .ok (.ireturn, 1) := by decide +kernel
theorem dX4_renew_0 : decode cX4_renew 0 = .ok (.aload_n 0, 1) := by decide +kernel
theorem dX4_renew_1 : decode cX4_renew 1 = .ok (.iload_n 1, 1) := by decide +kernel
theorem dX4_renew_2 : decode cX4_renew 2 = .ok (.putfield 15, 3) := by decide +kernel
theorem dX4_renew_5 : decode cX4_renew 5 = .ok (.aload_n 0, 1) := by decide +kernel
theorem dX4_renew_6 : decode cX4_renew 6 = .ok (.iload_n 2, 1) := by decide +kernel
theorem dX4_renew_7 : decode cX4_renew 7 = .ok (.putfield 19, 3) := by decide +kernel
theorem dX4_renew_10 : decode cX4_renew 10 = .ok (.aload_n 0, 1) := by decide +kernel
theorem dX4_renew_11 : decode cX4_renew 11 = .ok (.getfield 9, 3) := by decide +kernel
theorem dX4_renew_14 : decode cX4_renew 14 = .ok (.iconst 0, 1) := by decide +kernel
theorem dX4_renew_15 : decode cX4_renew 15 = .ok (.invokestatic 26, 3) := by decide +kernel
theorem dX4_renew_18 : decode cX4_renew 18 = .ok (.return_, 1) := by decide +kernel
theorem dX4_faultAs_0 : decode cX4_faultAs 0 = .ok (.aload_n 0, 1) := by decide +kernel
theorem dX4_faultAs_1 : decode cX4_faultAs 1 = .ok (.invokevirtual 32, 3) := by decide +kernel
theorem dX4_faultAs_4 : decode cX4_faultAs 4 = .ok (.ifCond .eq 5, 3) := by decide +kernel
theorem dX4_faultAs_7 : decode cX4_faultAs 7 = .ok (.iconst 1, 1) := by decide +kernel
theorem dX4_faultAs_8 : decode cX4_faultAs 8 = .ok (.ireturn, 1) := by decide +kernel
theorem dX4_faultAs_9 : decode cX4_faultAs 9 = .ok (.aload_n 0, 1) := by decide +kernel
theorem dX4_faultAs_10 : decode cX4_faultAs 10 = .ok (.getfield 15, 3) := by decide +kernel
theorem dX4_faultAs_13 : decode cX4_faultAs 13 = .ok (.iload_n 1, 1) := by decide +kernel
theorem dX4_faultAs_14 : decode cX4_faultAs 14 = .ok (.if_icmp .ne 7, 3) := by decide +kernel
theorem dX4_faultAs_17 : decode cX4_faultAs 17 = .ok (.iconst 0, 1) := by decide +kernel
theorem dX4_faultAs_18 : decode cX4_faultAs 18 = .ok (.goto 4, 3) := by decide +kernel
theorem dX4_faultAs_21 : decode cX4_faultAs 21 = .ok (.iconst 3, 1) := by decide +kernel
theorem dX4_faultAs_22 : decode cX4_faultAs 22 = .ok (.ireturn, 1) := by decide +kernel
theorem dX4_setCell_0 : decode cX4_setCell 0 = .ok (.aload_n 0, 1) := by decide +kernel
theorem dX4_setCell_1 : decode cX4_setCell 1 = .ok (.getfield 15, 3) := by decide +kernel
theorem dX4_setCell_4 : decode cX4_setCell 4 = .ok (.lookupswitch 50 #[(0, 28), (1, 39)], 28) := by decide +kernel
theorem dX4_setCell_32 : decode cX4_setCell 32 = .ok (.aload_n 0, 1) := by decide +kernel
theorem dX4_setCell_33 : decode cX4_setCell 33 = .ok (.getfield 9, 3) := by decide +kernel
theorem dX4_setCell_36 : decode cX4_setCell 36 = .ok (.iload_n 1, 1) := by decide +kernel
theorem dX4_setCell_37 : decode cX4_setCell 37 = .ok (.iload_n 2, 1) := by decide +kernel
theorem dX4_setCell_38 : decode cX4_setCell 38 = .ok (.i2b, 1) := by decide +kernel
theorem dX4_setCell_39 : decode cX4_setCell 39 = .ok (.iastore, 1) := by decide +kernel
theorem dX4_setCell_40 : decode cX4_setCell 40 = .ok (.goto 21, 3) := by decide +kernel
theorem dX4_setCell_43 : decode cX4_setCell 43 = .ok (.aload_n 0, 1) := by decide +kernel
theorem dX4_setCell_44 : decode cX4_setCell 44 = .ok (.getfield 9, 3) := by decide +kernel
theorem dX4_setCell_47 : decode cX4_setCell 47 = .ok (.iload_n 1, 1) := by decide +kernel
theorem dX4_setCell_48 : decode cX4_setCell 48 = .ok (.iload_n 2, 1) := by decide +kernel
theorem dX4_setCell_49 : decode cX4_setCell 49 = .ok (.i2s, 1) := by decide +kernel
theorem dX4_setCell_50 : decode cX4_setCell 50 = .ok (.iastore, 1) := by decide +kernel
theorem dX4_setCell_51 : decode cX4_setCell 51 = .ok (.goto 10, 3) := by decide +kernel
theorem dX4_setCell_54 : decode cX4_setCell 54 = .ok (.aload_n 0, 1) := by decide +kernel
theorem dX4_setCell_55 : decode cX4_setCell 55 = .ok (.getfield 9, 3) := by decide +kernel
theorem dX4_setCell_58 : decode cX4_setCell 58 = .ok (.iload_n 1, 1) := by decide +kernel
theorem dX4_setCell_59 : decode cX4_setCell 59 = .ok (.iload_n 2, 1) := by decide +kernel
theorem dX4_setCell_60 : decode cX4_setCell 60 = .ok (.iastore, 1) := by decide +kernel
theorem dX4_setCell_61 : decode cX4_setCell 61 = .ok (.return_, 1) := by decide +kernel
theorem dX5_init_0 : decode cX5_init 0 = .ok (.aload_n 0, 1) := by decide +kernel
theorem dX5_init_1 : decode cX5_init 1 = .ok (.invokespecial 3, 3) := by decide +kernel
theorem dX5_init_4 : decode cX5_init 4 = .ok (.aload_n 0, 1) := by decide +kernel
theorem dX5_init_5 : decode cX5_init 5 = .ok (.sipush 400, 3) := by decide +kernel
theorem dX5_init_8 : decode cX5_init 8 = .ok (.newarray .byte, 2) := by decide +kernel
theorem dX5_init_10 : decode cX5_init 10 = .ok (.putfield 9, 3) := by decide +kernel
theorem dX5_init_13 : decode cX5_init 13 = .ok (.aload_n 0, 1) := by decide +kernel
theorem dX5_init_14 : decode cX5_init 14 = .ok (.iconst 0, 1) := by decide +kernel
theorem dX5_init_15 : decode cX5_init 15 = .ok (.putfield 15, 3) := by decide +kernel
theorem dX5_init_18 : decode cX5_init 18 = .ok (.return_, 1) := by decide +kernel
theorem dX5_takeEight_0 : decode cX5_takeEight 0 = .ok (.aload_n 0, 1) := by decide +kernel
theorem dX5_takeEight_1 : decode cX5_takeEight 1 = .ok (.getfield 15, 3) := by decide +kernel
theorem dX5_takeEight_4 : decode cX5_takeEight 4 = .ok (.bipush 8, 2) := by decide +kernel
theorem dX5_takeEight_6 : decode cX5_takeEight 6 = .ok (.iadd, 1) := by decide +kernel
theorem dX5_takeEight_7 : decode cX5_takeEight 7 = .ok (.sipush 400, 3) := by decide +kernel
theorem dX5_takeEight_10 : decode cX5_takeEight 10 = .ok (.if_icmp .le 5, 3) := by decide +kernel
theorem dX5_takeEight_13 : decode cX5_takeEight 13 = .ok (.iconst 0, 1) := by decide +kernel
theorem dX5_takeEight_14 : decode cX5_takeEight 14 = .ok (.ireturn, 1) := by decide +kernel
theorem dX5_takeEight_15 : decode cX5_takeEight 15 = .ok (.iconst 0, 1) := by decide +kernel
theorem dX5_takeEight_16 : decode cX5_takeEight 16 = .ok (.istore_n 3, 1) := by decide +kernel
theorem dX5_takeEight_17 : decode cX5_takeEight 17 = .ok (.iload_n 3, 1) := by decide +kernel
theorem dX5_takeEight_18 : decode cX5_takeEight 18 = .ok (.bipush 8, 2) := by decide +kernel
theorem dX5_takeEight_20 : decode cX5_takeEight 20 = .ok (.if_icmp .ge 31, 3) := by decide +kernel
theorem dX5_takeEight_23 : decode cX5_takeEight 23 = .ok (.aload_n 0, 1) := by decide +kernel
theorem dX5_takeEight_24 : decode cX5_takeEight 24 = .ok (.getfield 9, 3) := by decide +kernel
theorem dX5_takeEight_27 : decode cX5_takeEight 27 = .ok (.aload_n 0, 1) := by decide +kernel
theorem dX5_takeEight_28 : decode cX5_takeEight 28 = .ok (.getfield 15, 3) := by decide +kernel
theorem dX5_takeEight_31 : decode cX5_takeEight 31 = .ok (.iload_n 3, 1) := by decide +kernel
theorem dX5_takeEight_32 : decode cX5_takeEight 32 = .ok (.iadd, 1) := by decide +kernel
theorem dX5_takeEight_33 : decode cX5_takeEight 33 = .ok (.lload_n 1, 1) := by decide +kernel
theorem dX5_takeEight_34 : decode cX5_takeEight 34 = .ok (.bipush 56, 2) := by decide +kernel
theorem dX5_takeEight_36 : decode cX5_takeEight 36 = .ok (.bipush 8, 2) := by decide +kernel
theorem dX5_takeEight_38 : decode cX5_takeEight 38 = .ok (.iload_n 3, 1) := by decide +kernel
theorem dX5_takeEight_39 : decode cX5_takeEight 39 = .ok (.imul, 1) := by decide +kernel
theorem dX5_takeEight_40 : decode cX5_takeEight 40 = .ok (.isub, 1) := by decide +kernel
theorem dX5_takeEight_41 : decode cX5_takeEight 41 = .ok (.lshr, 1) := by decide +kernel
theorem dX5_takeEight_42 : decode cX5_takeEight 42 = .ok (.l2i, 1) := by decide +kernel
theorem dX5_takeEight_43 : decode cX5_takeEight 43 = .ok (.i2b, 1) := by decide +kernel
theorem dX5_takeEight_44 : decode cX5_takeEight 44 = .ok (.bastore, 1) := by decide +kernel
theorem dX5_takeEight_45 : decode cX5_takeEight 45 = .ok (.iinc 3 1, 3) := by decide +kernel
theorem dX5_takeEight_48 : decode cX5_takeEight 48 = .ok (.goto (-31), 3) := by decide +kernel
theorem dX5_takeEight_51 : decode cX5_takeEight 51 = .ok (.aload_n 0, 1) := by decide +kernel
theorem dX5_takeEight_52 : decode cX5_takeEight 52 = .ok (.dup, 1) := by decide +kernel
theorem dX5_takeEight_53 : decode cX5_takeEight 53 = .ok (.getfield 15, 3) := by decide +kernel
theorem dX5_takeEight_56 : decode cX5_takeEight 56 = .ok (.bipush 8, 2) := by decide +kernel
theorem dX5_takeEight_58 : decode cX5_takeEight 58 = .ok (.iadd, 1) := by decide +kernel
theorem dX5_takeEight_59 : decode cX5_takeEight 59 = .ok (.putfield 15, 3) := by decide +kernel
theorem dX5_takeEight_62 : decode cX5_takeEight 62 = .ok (.iconst 1, 1) := by decide +kernel
theorem dX5_takeEight_63 : decode cX5_takeEight 63 = .ok (.ireturn, 1) := by decide +kernel
theorem dX5_byteAt_0 : decode cX5_byteAt 0 = .ok (.iload_n 1, 1) := by decide +kernel
theorem dX5_byteAt_1 : decode cX5_byteAt 1 = .ok (.ifCond .lt 27, 3) := by decide +kernel
theorem dX5_byteAt_4 : decode cX5_byteAt 4 = .ok (.iload_n 1, 1) := by decide +kernel
theorem dX5_byteAt_5 : decode cX5_byteAt 5 = .ok (.aload_n 0, 1) := by decide +kernel
theorem dX5_byteAt_6 : decode cX5_byteAt 6 = .ok (.getfield 15, 3) := by decide +kernel
theorem dX5_byteAt_9 : decode cX5_byteAt 9 = .ok (.if_icmp .ge 19, 3) := by decide +kernel
theorem dX5_byteAt_12 : decode cX5_byteAt 12 = .ok (.iload_n 1, 1) := by decide +kernel
theorem dX5_byteAt_13 : decode cX5_byteAt 13 = .ok (.sipush 400, 3) := by decide +kernel
theorem dX5_byteAt_16 : decode cX5_byteAt 16 = .ok (.if_icmp .ge 12, 3) := by decide +kernel
theorem dX5_byteAt_19 : decode cX5_byteAt 19 = .ok (.aload_n 0, 1) := by decide +kernel
theorem dX5_byteAt_20 : decode cX5_byteAt 20 = .ok (.getfield 9, 3) := by decide +kernel
theorem dX5_byteAt_23 : decode cX5_byteAt 23 = .ok (.iload_n 1, 1) := by decide +kernel
theorem dX5_byteAt_24 : decode cX5_byteAt 24 = .ok (.baload, 1) := by decide +kernel
theorem dX5_byteAt_25 : decode cX5_byteAt 25 = .ok (.goto 4, 3) := by decide +kernel
theorem dX5_byteAt_28 : decode cX5_byteAt 28 = .ok (.iconst (-1), 1) := by decide +kernel
theorem dX5_byteAt_29 : decode cX5_byteAt 29 = .ok (.ireturn, 1) := by decide +kernel
theorem dX6_init_0 : decode cX6_init 0 = .ok (.aload_n 0, 1) := by decide +kernel
theorem dX6_init_1 : decode cX6_init 1 = .ok (.invokespecial 3, 3) := by decide +kernel
theorem dX6_init_4 : decode cX6_init 4 = .ok (.return_, 1) := by decide +kernel
theorem dX6_become_0 : decode cX6_become 0 = .ok (.aload_n 0, 1) := by decide +kernel
theorem dX6_become_1 : decode cX6_become 1 = .ok (.aload_n 1, 1) := by decide +kernel
theorem dX6_become_2 : decode cX6_become 2 = .ok (.getfield 9, 3) := by decide +kernel
theorem dX6_become_5 : decode cX6_become 5 = .ok (.putfield 9, 3) := by decide +kernel
theorem dX6_become_8 : decode cX6_become 8 = .ok (.aload_n 0, 1) := by decide +kernel
theorem dX6_become_9 : decode cX6_become 9 = .ok (.aload_n 1, 1) := by decide +kernel
theorem dX6_become_10 : decode cX6_become 10 = .ok (.getfield 15, 3) := by decide +kernel
theorem dX6_become_13 : decode cX6_become 13 = .ok (.putfield 15, 3) := by decide +kernel
theorem dX6_become_16 : decode cX6_become 16 = .ok (.aload_n 0, 1) := by decide +kernel
theorem dX6_become_17 : decode cX6_become 17 = .ok (.aload_n 1, 1) := by decide +kernel
theorem dX6_become_18 : decode cX6_become 18 = .ok (.getfield 18, 3) := by decide +kernel
theorem dX6_become_21 : decode cX6_become 21 = .ok (.putfield 18, 3) := by decide +kernel
theorem dX6_become_24 : decode cX6_become 24 = .ok (.aload_n 0, 1) := by decide +kernel
theorem dX6_become_25 : decode cX6_become 25 = .ok (.aload_n 1, 1) := by decide +kernel
theorem dX6_become_26 : decode cX6_become 26 = .ok (.getfield 21, 3) := by decide +kernel
theorem dX6_become_29 : decode cX6_become 29 = .ok (.putfield 21, 3) := by decide +kernel
theorem dX6_become_32 : decode cX6_become 32 = .ok (.aload_n 0, 1) := by decide +kernel
theorem dX6_become_33 : decode cX6_become 33 = .ok (.aload_n 1, 1) := by decide +kernel
theorem dX6_become_34 : decode cX6_become 34 = .ok (.getfield 24, 3) := by decide +kernel
theorem dX6_become_37 : decode cX6_become 37 = .ok (.putfield 24, 3) := by decide +kernel
theorem dX6_become_40 : decode cX6_become 40 = .ok (.aload_n 0, 1) := by decide +kernel
theorem dX6_become_41 : decode cX6_become 41 = .ok (.aload_n 1, 1) := by decide +kernel
theorem dX6_become_42 : decode cX6_become 42 = .ok (.getfield 27, 3) := by decide +kernel
theorem dX6_become_45 : decode cX6_become 45 = .ok (.putfield 27, 3) := by decide +kernel
theorem dX6_become_48 : decode cX6_become 48 = .ok (.aload_n 0, 1) := by decide +kernel
theorem dX6_become_49 : decode cX6_become 49 = .ok (.aload_n 1, 1) := by decide +kernel
theorem dX6_become_50 : decode cX6_become 50 = .ok (.getfield 31, 3) := by decide +kernel
theorem dX6_become_53 : decode cX6_become 53 = .ok (.putfield 31, 3) := by decide +kernel
theorem dX6_become_56 : decode cX6_become 56 = .ok (.aload_n 0, 1) := by decide +kernel
theorem dX6_become_57 : decode cX6_become 57 = .ok (.aload_n 1, 1) := by decide +kernel
theorem dX6_become_58 : decode cX6_become 58 = .ok (.getfield 34, 3) := by decide +kernel
theorem dX6_become_61 : decode cX6_become 61 = .ok (.putfield 34, 3) := by decide +kernel
theorem dX6_become_64 : decode cX6_become 64 = .ok (.return_, 1) := by decide +kernel
theorem dX6_becomePlain_0 : decode cX6_becomePlain 0 = .ok (.aload_n 0, 1) := by decide +kernel
theorem dX6_becomePlain_1 : decode cX6_becomePlain 1 = .ok (.iload_n 1, 1) := by decide +kernel
theorem dX6_becomePlain_2 : decode cX6_becomePlain 2 = .ok (.putfield 9, 3) := by decide +kernel
theorem dX6_becomePlain_5 : decode cX6_becomePlain 5 = .ok (.aload_n 0, 1) := by decide +kernel
theorem dX6_becomePlain_6 : decode cX6_becomePlain 6 = .ok (.iconst 0, 1) := by decide +kernel
theorem dX6_becomePlain_7 : decode cX6_becomePlain 7 = .ok (.putfield 15, 3) := by decide +kernel
theorem dX6_becomePlain_10 : decode cX6_becomePlain 10 = .ok (.aload_n 0, 1) := by decide +kernel
theorem dX6_becomePlain_11 : decode cX6_becomePlain 11 = .ok (.iload_n 2, 1) := by decide +kernel
theorem dX6_becomePlain_12 : decode cX6_becomePlain 12 = .ok (.putfield 18, 3) := by decide +kernel
theorem dX6_becomePlain_15 : decode cX6_becomePlain 15 = .ok (.aload_n 0, 1) := by decide +kernel
theorem dX6_becomePlain_16 : decode cX6_becomePlain 16 = .ok (.iload_n 3, 1) := by decide +kernel
theorem dX6_becomePlain_17 : decode cX6_becomePlain 17 = .ok (.putfield 21, 3) := by decide +kernel
theorem dX6_becomePlain_20 : decode cX6_becomePlain 20 = .ok (.aload_n 0, 1) := by decide +kernel
theorem dX6_becomePlain_21 : decode cX6_becomePlain 21 = .ok (.iconst 0, 1) := by decide +kernel
theorem dX6_becomePlain_22 : decode cX6_becomePlain 22 = .ok (.putfield 24, 3) := by decide +kernel
theorem dX6_becomePlain_25 : decode cX6_becomePlain 25 = .ok (.aload_n 0, 1) := by decide +kernel
theorem dX6_becomePlain_26 : decode cX6_becomePlain 26 = .ok (.iconst 0, 1) := by decide +kernel
theorem dX6_becomePlain_27 : decode cX6_becomePlain 27 = .ok (.putfield 27, 3) := by decide +kernel
theorem dX6_becomePlain_30 : decode cX6_becomePlain 30 = .ok (.aload_n 0, 1) := by decide +kernel
theorem dX6_becomePlain_31 : decode cX6_becomePlain 31 = .ok (.bipush (-4), 2) := by decide +kernel
theorem dX6_becomePlain_33 : decode cX6_becomePlain 33 = .ok (.putfield 31, 3) := by decide +kernel
theorem dX6_becomePlain_36 : decode cX6_becomePlain 36 = .ok (.aload_n 0, 1) := by decide +kernel
theorem dX6_becomePlain_37 : decode cX6_becomePlain 37 = .ok (.bipush (-4), 2) := by decide +kernel
theorem dX6_becomePlain_39 : decode cX6_becomePlain 39 = .ok (.putfield 34, 3) := by decide +kernel
theorem dX6_becomePlain_42 : decode cX6_becomePlain 42 = .ok (.return_, 1) := by decide +kernel
theorem dX6_isWornOut_0 : decode cX6_isWornOut 0 = .ok (.aload_n 0, 1) := by decide +kernel
theorem dX6_isWornOut_1 : decode cX6_isWornOut 1 = .ok (.getfield 15, 3) := by decide +kernel
theorem dX6_isWornOut_4 : decode cX6_isWornOut 4 = .ok (.iconst 1, 1) := by decide +kernel
theorem dX6_isWornOut_5 : decode cX6_isWornOut 5 = .ok (.if_icmp .eq 11, 3) := by decide +kernel
theorem dX6_isWornOut_8 : decode cX6_isWornOut 8 = .ok (.aload_n 0, 1) := by decide +kernel
theorem dX6_isWornOut_9 : decode cX6_isWornOut 9 = .ok (.getfield 15, 3) := by decide +kernel
theorem dX6_isWornOut_12 : decode cX6_isWornOut 12 = .ok (.iconst 3, 1) := by decide +kernel
theorem dX6_isWornOut_13 : decode cX6_isWornOut 13 = .ok (.if_icmp .ne 7, 3) := by decide +kernel
theorem dX6_isWornOut_16 : decode cX6_isWornOut 16 = .ok (.iconst 1, 1) := by decide +kernel
theorem dX6_isWornOut_17 : decode cX6_isWornOut 17 = .ok (.goto 4, 3) := by decide +kernel
theorem dX6_isWornOut_20 : decode cX6_isWornOut 20 = .ok (.iconst 0, 1) := by decide +kernel
theorem dX6_isWornOut_21 : decode cX6_isWornOut 21 = .ok (.istore_n 1, 1) := by decide +kernel
theorem dX6_isWornOut_22 : decode cX6_isWornOut 22 = .ok (.aload_n 0, 1) := by decide +kernel
theorem dX6_isWornOut_23 : decode cX6_isWornOut 23 = .ok (.getfield 24, 3) := by decide +kernel
theorem dX6_isWornOut_26 : decode cX6_isWornOut 26 = .ok (.iload_n 1, 1) := by decide +kernel
theorem dX6_isWornOut_27 : decode cX6_isWornOut 27 = .ok (.ifCond .eq 12, 3) := by decide +kernel
theorem dX6_isWornOut_30 : decode cX6_isWornOut 30 = .ok (.iconst 2, 1) := by decide +kernel
theorem dX6_isWornOut_31 : decode cX6_isWornOut 31 = .ok (.aload_n 0, 1) := by decide +kernel
theorem dX6_isWornOut_32 : decode cX6_isWornOut 32 = .ok (.getfield 21, 3) := by decide +kernel
theorem dX6_isWornOut_35 : decode cX6_isWornOut 35 = .ok (.imul, 1) := by decide +kernel
theorem dX6_isWornOut_36 : decode cX6_isWornOut 36 = .ok (.goto 7, 3) := by decide +kernel
theorem dX6_isWornOut_39 : decode cX6_isWornOut 39 = .ok (.aload_n 0, 1) := by decide +kernel
theorem dX6_isWornOut_40 : decode cX6_isWornOut 40 = .ok (.getfield 21, 3) := by decide +kernel
theorem dX6_isWornOut_43 : decode cX6_isWornOut 43 = .ok (.if_icmp .lt 7, 3) := by decide +kernel
theorem dX6_isWornOut_46 : decode cX6_isWornOut 46 = .ok (.iconst 1, 1) := by decide +kernel
theorem dX6_isWornOut_47 : decode cX6_isWornOut 47 = .ok (.goto 4, 3) := by decide +kernel
theorem dX6_isWornOut_50 : decode cX6_isWornOut 50 = .ok (.iconst 0, 1) := by decide +kernel
theorem dX6_isWornOut_51 : decode cX6_isWornOut 51 = .ok (.ireturn, 1) := by decide +kernel
theorem dX6_fitFor_0 : decode cX6_fitFor 0 = .ok (.aload_n 0, 1) := by decide +kernel
theorem dX6_fitFor_1 : decode cX6_fitFor 1 = .ok (.invokevirtual 37, 3) := by decide +kernel
theorem dX6_fitFor_4 : decode cX6_fitFor 4 = .ok (.ifCond .ne 19, 3) := by decide +kernel
theorem dX6_fitFor_7 : decode cX6_fitFor 7 = .ok (.aload_n 0, 1) := by decide +kernel
theorem dX6_fitFor_8 : decode cX6_fitFor 8 = .ok (.getfield 15, 3) := by decide +kernel
theorem dX6_fitFor_11 : decode cX6_fitFor 11 = .ok (.iconst 4, 1) := by decide +kernel
theorem dX6_fitFor_12 : decode cX6_fitFor 12 = .ok (.if_icmp .ne 13, 3) := by decide +kernel
theorem dX6_fitFor_15 : decode cX6_fitFor 15 = .ok (.aload_n 0, 1) := by decide +kernel
theorem dX6_fitFor_16 : decode cX6_fitFor 16 = .ok (.getfield 31, 3) := by decide +kernel
theorem dX6_fitFor_19 : decode cX6_fitFor 19 = .ok (.iload_n 1, 1) := by decide +kernel
theorem dX6_fitFor_20 : decode cX6_fitFor 20 = .ok (.if_icmp .eq 5, 3) := by decide +kernel
theorem dX6_fitFor_23 : decode cX6_fitFor 23 = .ok (.iconst 0, 1) := by decide +kernel
theorem dX6_fitFor_24 : decode cX6_fitFor 24 = .ok (.ireturn, 1) := by decide +kernel
theorem dX6_fitFor_25 : decode cX6_fitFor 25 = .ok (.aload_n 0, 1) := by decide +kernel
theorem dX6_fitFor_26 : decode cX6_fitFor 26 = .ok (.getfield 18, 3) := by decide +kernel
theorem dX6_fitFor_29 : decode cX6_fitFor 29 = .ok (.iload_n 2, 1) := by decide +kernel
theorem dX6_fitFor_30 : decode cX6_fitFor 30 = .ok (.iload_n 2, 1) := by decide +kernel
theorem dX6_fitFor_31 : decode cX6_fitFor 31 = .ok (.iload_n 3, 1) := by decide +kernel
theorem dX6_fitFor_32 : decode cX6_fitFor 32 = .ok (.iadd, 1) := by decide +kernel
theorem dX6_fitFor_33 : decode cX6_fitFor 33 = .ok (.invokestatic 41, 3) := by decide +kernel
theorem dX6_fitFor_36 : decode cX6_fitFor 36 = .ok (.ifCond .eq 5, 3) := by decide +kernel
theorem dX6_fitFor_39 : decode cX6_fitFor 39 = .ok (.iconst 1, 1) := by decide +kernel
theorem dX6_fitFor_40 : decode cX6_fitFor 40 = .ok (.ireturn, 1) := by decide +kernel
theorem dX6_fitFor_41 : decode cX6_fitFor 41 = .ok (.aload_n 0, 1) := by decide +kernel
theorem dX6_fitFor_42 : decode cX6_fitFor 42 = .ok (.getfield 15, 3) := by decide +kernel
theorem dX6_fitFor_45 : decode cX6_fitFor 45 = .ok (.iconst 2, 1) := by decide +kernel
theorem dX6_fitFor_46 : decode cX6_fitFor 46 = .ok (.if_icmp .eq 11, 3) := by decide +kernel
theorem dX6_fitFor_49 : decode cX6_fitFor 49 = .ok (.aload_n 0, 1) := by decide +kernel
theorem dX6_fitFor_50 : decode cX6_fitFor 50 = .ok (.getfield 15, 3) := by decide +kernel
theorem dX6_fitFor_53 : decode cX6_fitFor 53 = .ok (.iconst 3, 1) := by decide +kernel
theorem dX6_fitFor_54 : decode cX6_fitFor 54 = .ok (.if_icmp .ne 14, 3) := by decide +kernel
theorem dX6_fitFor_57 : decode cX6_fitFor 57 = .ok (.aload_n 0, 1) := by decide +kernel
theorem dX6_fitFor_58 : decode cX6_fitFor 58 = .ok (.getfield 27, 3) := by decide +kernel
theorem dX6_fitFor_61 : decode cX6_fitFor 61 = .ok (.ifCond .ne 7, 3) := by decide +kernel
theorem dX6_fitFor_64 : decode cX6_fitFor 64 = .ok (.iconst 1, 1) := by decide +kernel
theorem dX6_fitFor_65 : decode cX6_fitFor 65 = .ok (.goto 4, 3) := by decide +kernel
theorem dX6_fitFor_68 : decode cX6_fitFor 68 = .ok (.iconst 0, 1) := by decide +kernel
theorem dX6_fitFor_69 : decode cX6_fitFor 69 = .ok (.istore 4, 2) := by decide +kernel
theorem dX6_fitFor_71 : decode cX6_fitFor 71 = .ok (.iload 4, 2) := by decide +kernel
theorem dX6_fitFor_73 : decode cX6_fitFor 73 = .ok (.ifCond .eq 23, 3) := by decide +kernel
theorem dX6_fitFor_76 : decode cX6_fitFor 76 = .ok (.aload_n 0, 1) := by decide +kernel
theorem dX6_fitFor_77 : decode cX6_fitFor 77 = .ok (.getfield 18, 3) := by decide +kernel
theorem dX6_fitFor_80 : decode cX6_fitFor 80 = .ok (.iconst 2, 1) := by decide +kernel
theorem dX6_fitFor_81 : decode cX6_fitFor 81 = .ok (.iadd, 1) := by decide +kernel
theorem dX6_fitFor_82 : decode cX6_fitFor 82 = .ok (.iload_n 2, 1) := by decide +kernel
theorem dX6_fitFor_83 : decode cX6_fitFor 83 = .ok (.iload_n 2, 1) := by decide +kernel
theorem dX6_fitFor_84 : decode cX6_fitFor 84 = .ok (.iload_n 3, 1) := by decide +kernel
theorem dX6_fitFor_85 : decode cX6_fitFor 85 = .ok (.iadd, 1) := by decide +kernel
theorem dX6_fitFor_86 : decode cX6_fitFor 86 = .ok (.invokestatic 41, 3) := by decide +kernel
theorem dX6_fitFor_89 : decode cX6_fitFor 89 = .ok (.ifCond .eq 7, 3) := by decide +kernel
theorem dX6_fitFor_92 : decode cX6_fitFor 92 = .ok (.iconst 2, 1) := by decide +kernel
theorem dX6_fitFor_93 : decode cX6_fitFor 93 = .ok (.goto 4, 3) := by decide +kernel
theorem dX6_fitFor_96 : decode cX6_fitFor 96 = .ok (.iconst 0, 1) := by decide +kernel
theorem dX6_fitFor_97 : decode cX6_fitFor 97 = .ok (.ireturn, 1) := by decide +kernel
theorem dX7_init_0 : decode cX7_init 0 = .ok (.aload_n 0, 1) := by decide +kernel
theorem dX7_init_1 : decode cX7_init 1 = .ok (.invokespecial 3, 3) := by decide +kernel
theorem dX7_init_4 : decode cX7_init 4 = .ok (.aload_n 0, 1) := by decide +kernel
theorem dX7_init_5 : decode cX7_init 5 = .ok (.bipush 8, 2) := by decide +kernel
theorem dX7_init_7 : decode cX7_init 7 = .ok (.anewarray 9, 3) := by decide +kernel
theorem dX7_init_10 : decode cX7_init 10 = .ok (.putfield 11, 3) := by decide +kernel
theorem dX7_init_13 : decode cX7_init 13 = .ok (.aload_n 0, 1) := by decide +kernel
theorem dX7_init_14 : decode cX7_init 14 = .ok (.bipush 10, 2) := by decide +kernel
theorem dX7_init_16 : decode cX7_init 16 = .ok (.anewarray 17, 3) := by decide +kernel
theorem dX7_init_19 : decode cX7_init 19 = .ok (.putfield 19, 3) := by decide +kernel
theorem dX7_init_22 : decode cX7_init 22 = .ok (.aload_n 0, 1) := by decide +kernel
theorem dX7_init_23 : decode cX7_init 23 = .ok (.bipush 80, 2) := by decide +kernel
theorem dX7_init_25 : decode cX7_init 25 = .ok (.newarray .int, 2) := by decide +kernel
theorem dX7_init_27 : decode cX7_init 27 = .ok (.putfield 23, 3) := by decide +kernel
theorem dX7_init_30 : decode cX7_init 30 = .ok (.aload_n 0, 1) := by decide +kernel
theorem dX7_init_31 : decode cX7_init 31 = .ok (.bipush 6, 2) := by decide +kernel
theorem dX7_init_33 : decode cX7_init 33 = .ok (.newarray .int, 2) := by decide +kernel
theorem dX7_init_35 : decode cX7_init 35 = .ok (.putfield 27, 3) := by decide +kernel
theorem dX7_init_38 : decode cX7_init 38 = .ok (.aload_n 0, 1) := by decide +kernel
theorem dX7_init_39 : decode cX7_init 39 = .ok (.iconst 0, 1) := by decide +kernel
theorem dX7_init_40 : decode cX7_init 40 = .ok (.putfield 30, 3) := by decide +kernel
theorem dX7_init_43 : decode cX7_init 43 = .ok (.aload_n 0, 1) := by decide +kernel
theorem dX7_init_44 : decode cX7_init 44 = .ok (.iconst 0, 1) := by decide +kernel
theorem dX7_init_45 : decode cX7_init 45 = .ok (.putfield 34, 3) := by decide +kernel
theorem dX7_init_48 : decode cX7_init 48 = .ok (.aload_n 0, 1) := by decide +kernel
theorem dX7_init_49 : decode cX7_init 49 = .ok (.iconst 0, 1) := by decide +kernel
theorem dX7_init_50 : decode cX7_init 50 = .ok (.putfield 37, 3) := by decide +kernel
theorem dX7_init_53 : decode cX7_init 53 = .ok (.iconst 0, 1) := by decide +kernel
theorem dX7_init_54 : decode cX7_init 54 = .ok (.istore_n 1, 1) := by decide +kernel
theorem dX7_init_55 : decode cX7_init 55 = .ok (.iload_n 1, 1) := by decide +kernel
theorem dX7_init_56 : decode cX7_init 56 = .ok (.bipush 8, 2) := by decide +kernel
theorem dX7_init_58 : decode cX7_init 58 = .ok (.if_icmp .ge 22, 3) := by decide +kernel
theorem dX7_init_61 : decode cX7_init 61 = .ok (.aload_n 0, 1) := by decide +kernel
theorem dX7_init_62 : decode cX7_init 62 = .ok (.getfield 11, 3) := by decide +kernel
theorem dX7_init_65 : decode cX7_init 65 = .ok (.iload_n 1, 1) := by decide +kernel
theorem dX7_init_66 : decode cX7_init 66 = .ok (.new 9, 3) := by decide +kernel
theorem dX7_init_69 : decode cX7_init 69 = .ok (.dup, 1) := by decide +kernel
theorem dX7_init_70 : decode cX7_init 70 = .ok (.invokespecial 40, 3) := by decide +kernel
theorem dX7_init_73 : decode cX7_init 73 = .ok (.aastore, 1) := by decide +kernel
theorem dX7_init_74 : decode cX7_init 74 = .ok (.iinc 1 1, 3) := by decide +kernel
theorem dX7_init_77 : decode cX7_init 77 = .ok (.goto (-22), 3) := by decide +kernel
theorem dX7_init_80 : decode cX7_init 80 = .ok (.iconst 0, 1) := by decide +kernel
theorem dX7_init_81 : decode cX7_init 81 = .ok (.istore_n 1, 1) := by decide +kernel
theorem dX7_init_82 : decode cX7_init 82 = .ok (.iload_n 1, 1) := by decide +kernel
theorem dX7_init_83 : decode cX7_init 83 = .ok (.bipush 10, 2) := by decide +kernel
theorem dX7_init_85 : decode cX7_init 85 = .ok (.if_icmp .ge 22, 3) := by decide +kernel
theorem dX7_init_88 : decode cX7_init 88 = .ok (.aload_n 0, 1) := by decide +kernel
theorem dX7_init_89 : decode cX7_init 89 = .ok (.getfield 19, 3) := by decide +kernel
theorem dX7_init_92 : decode cX7_init 92 = .ok (.iload_n 1, 1) := by decide +kernel
theorem dX7_init_93 : decode cX7_init 93 = .ok (.new 17, 3) := by decide +kernel
theorem dX7_init_96 : decode cX7_init 96 = .ok (.dup, 1) := by decide +kernel
theorem dX7_init_97 : decode cX7_init 97 = .ok (.invokespecial 41, 3) := by decide +kernel
theorem dX7_init_100 : decode cX7_init 100 = .ok (.aastore, 1) := by decide +kernel
theorem dX7_init_101 : decode cX7_init 101 = .ok (.iinc 1 1, 3) := by decide +kernel
theorem dX7_init_104 : decode cX7_init 104 = .ok (.goto (-22), 3) := by decide +kernel
theorem dX7_init_107 : decode cX7_init 107 = .ok (.return_, 1) := by decide +kernel
theorem dX7_clear_0 : decode cX7_clear 0 = .ok (.aload_n 0, 1) := by decide +kernel
theorem dX7_clear_1 : decode cX7_clear 1 = .ok (.iconst 0, 1) := by decide +kernel
theorem dX7_clear_2 : decode cX7_clear 2 = .ok (.putfield 30, 3) := by decide +kernel
theorem dX7_clear_5 : decode cX7_clear 5 = .ok (.aload_n 0, 1) := by decide +kernel
theorem dX7_clear_6 : decode cX7_clear 6 = .ok (.iconst 0, 1) := by decide +kernel
theorem dX7_clear_7 : decode cX7_clear 7 = .ok (.putfield 34, 3) := by decide +kernel
theorem dX7_clear_10 : decode cX7_clear 10 = .ok (.aload_n 0, 1) := by decide +kernel
theorem dX7_clear_11 : decode cX7_clear 11 = .ok (.iconst 0, 1) := by decide +kernel
theorem dX7_clear_12 : decode cX7_clear 12 = .ok (.putfield 37, 3) := by decide +kernel
theorem dX7_clear_15 : decode cX7_clear 15 = .ok (.aload_n 0, 1) := by decide +kernel
theorem dX7_clear_16 : decode cX7_clear 16 = .ok (.getfield 23, 3) := by decide +kernel
theorem dX7_clear_19 : decode cX7_clear 19 = .ok (.iconst 0, 1) := by decide +kernel
theorem dX7_clear_20 : decode cX7_clear 20 = .ok (.invokestatic 42, 3) := by decide +kernel
theorem dX7_clear_23 : decode cX7_clear 23 = .ok (.return_, 1) := by decide +kernel
theorem dX7_becomeAll_0 : decode cX7_becomeAll 0 = .ok (.aload_n 0, 1) := by decide +kernel
theorem dX7_becomeAll_1 : decode cX7_becomeAll 1 = .ok (.aload_n 1, 1) := by decide +kernel
theorem dX7_becomeAll_2 : decode cX7_becomeAll 2 = .ok (.invokevirtual 48, 3) := by decide +kernel
theorem dX7_becomeAll_5 : decode cX7_becomeAll 5 = .ok (.aload_n 1, 1) := by decide +kernel
theorem dX7_becomeAll_6 : decode cX7_becomeAll 6 = .ok (.getfield 23, 3) := by decide +kernel
theorem dX7_becomeAll_9 : decode cX7_becomeAll 9 = .ok (.iconst 0, 1) := by decide +kernel
theorem dX7_becomeAll_10 : decode cX7_becomeAll 10 = .ok (.aload_n 0, 1) := by decide +kernel
theorem dX7_becomeAll_11 : decode cX7_becomeAll 11 = .ok (.getfield 23, 3) := by decide +kernel
theorem dX7_becomeAll_14 : decode cX7_becomeAll 14 = .ok (.iconst 0, 1) := by decide +kernel
theorem dX7_becomeAll_15 : decode cX7_becomeAll 15 = .ok (.bipush 80, 2) := by decide +kernel
theorem dX7_becomeAll_17 : decode cX7_becomeAll 17 = .ok (.invokestatic 52, 3) := by decide +kernel
theorem dX7_becomeAll_20 : decode cX7_becomeAll 20 = .ok (.aload_n 1, 1) := by decide +kernel
theorem dX7_becomeAll_21 : decode cX7_becomeAll 21 = .ok (.getfield 27, 3) := by decide +kernel
theorem dX7_becomeAll_24 : decode cX7_becomeAll 24 = .ok (.iconst 0, 1) := by decide +kernel
theorem dX7_becomeAll_25 : decode cX7_becomeAll 25 = .ok (.aload_n 0, 1) := by decide +kernel
theorem dX7_becomeAll_26 : decode cX7_becomeAll 26 = .ok (.getfield 27, 3) := by decide +kernel
theorem dX7_becomeAll_29 : decode cX7_becomeAll 29 = .ok (.iconst 0, 1) := by decide +kernel
theorem dX7_becomeAll_30 : decode cX7_becomeAll 30 = .ok (.bipush 6, 2) := by decide +kernel
theorem dX7_becomeAll_32 : decode cX7_becomeAll 32 = .ok (.invokestatic 52, 3) := by decide +kernel
theorem dX7_becomeAll_35 : decode cX7_becomeAll 35 = .ok (.aload_n 0, 1) := by decide +kernel
theorem dX7_becomeAll_36 : decode cX7_becomeAll 36 = .ok (.aload_n 1, 1) := by decide +kernel
theorem dX7_becomeAll_37 : decode cX7_becomeAll 37 = .ok (.getfield 37, 3) := by decide +kernel
theorem dX7_becomeAll_40 : decode cX7_becomeAll 40 = .ok (.putfield 37, 3) := by decide +kernel
theorem dX7_becomeAll_43 : decode cX7_becomeAll 43 = .ok (.return_, 1) := by decide +kernel
theorem dX7_becomeBodies_0 : decode cX7_becomeBodies 0 = .ok (.aload_n 0, 1) := by decide +kernel
theorem dX7_becomeBodies_1 : decode cX7_becomeBodies 1 = .ok (.aload_n 1, 1) := by decide +kernel
theorem dX7_becomeBodies_2 : decode cX7_becomeBodies 2 = .ok (.getfield 30, 3) := by decide +kernel
theorem dX7_becomeBodies_5 : decode cX7_becomeBodies 5 = .ok (.putfield 30, 3) := by decide +kernel
theorem dX7_becomeBodies_8 : decode cX7_becomeBodies 8 = .ok (.aload_n 0, 1) := by decide +kernel
theorem dX7_becomeBodies_9 : decode cX7_becomeBodies 9 = .ok (.aload_n 1, 1) := by decide +kernel
theorem dX7_becomeBodies_10 : decode cX7_becomeBodies 10 = .ok (.getfield 34, 3) := by decide +kernel
theorem dX7_becomeBodies_13 : decode cX7_becomeBodies 13 = .ok (.putfield 34, 3) := by decide +kernel
theorem dX7_becomeBodies_16 : decode cX7_becomeBodies 16 = .ok (.iconst 0, 1) := by decide +kernel
theorem dX7_becomeBodies_17 : decode cX7_becomeBodies 17 = .ok (.istore_n 2, 1) := by decide +kernel
theorem dX7_becomeBodies_18 : decode cX7_becomeBodies 18 = .ok (.iload_n 2, 1) := by decide +kernel
theorem dX7_becomeBodies_19 : decode cX7_becomeBodies 19 = .ok (.aload_n 0, 1) := by decide +kernel
theorem dX7_becomeBodies_20 : decode cX7_becomeBodies 20 = .ok (.getfield 30, 3) := by decide +kernel
theorem dX7_becomeBodies_23 : decode cX7_becomeBodies 23 = .ok (.if_icmp .ge 24, 3) := by decide +kernel
theorem dX7_becomeBodies_26 : decode cX7_becomeBodies 26 = .ok (.aload_n 0, 1) := by decide +kernel
theorem dX7_becomeBodies_27 : decode cX7_becomeBodies 27 = .ok (.getfield 11, 3) := by decide +kernel
theorem dX7_becomeBodies_30 : decode cX7_becomeBodies 30 = .ok (.iload_n 2, 1) := by decide +kernel
theorem dX7_becomeBodies_31 : decode cX7_becomeBodies 31 = .ok (.aaload, 1) := by decide +kernel
theorem dX7_becomeBodies_32 : decode cX7_becomeBodies 32 = .ok (.aload_n 1, 1) := by decide +kernel
theorem dX7_becomeBodies_33 : decode cX7_becomeBodies 33 = .ok (.getfield 11, 3) := by decide +kernel
theorem dX7_becomeBodies_36 : decode cX7_becomeBodies 36 = .ok (.iload_n 2, 1) := by decide +kernel
theorem dX7_becomeBodies_37 : decode cX7_becomeBodies 37 = .ok (.aaload, 1) := by decide +kernel
theorem dX7_becomeBodies_38 : decode cX7_becomeBodies 38 = .ok (.invokevirtual 58, 3) := by decide +kernel
theorem dX7_becomeBodies_41 : decode cX7_becomeBodies 41 = .ok (.iinc 2 1, 3) := by decide +kernel
theorem dX7_becomeBodies_44 : decode cX7_becomeBodies 44 = .ok (.goto (-26), 3) := by decide +kernel
theorem dX7_becomeBodies_47 : decode cX7_becomeBodies 47 = .ok (.iconst 0, 1) := by decide +kernel
theorem dX7_becomeBodies_48 : decode cX7_becomeBodies 48 = .ok (.istore_n 2, 1) := by decide +kernel
theorem dX7_becomeBodies_49 : decode cX7_becomeBodies 49 = .ok (.iload_n 2, 1) := by decide +kernel
theorem dX7_becomeBodies_50 : decode cX7_becomeBodies 50 = .ok (.aload_n 0, 1) := by decide +kernel
theorem dX7_becomeBodies_51 : decode cX7_becomeBodies 51 = .ok (.getfield 34, 3) := by decide +kernel
theorem dX7_becomeBodies_54 : decode cX7_becomeBodies 54 = .ok (.if_icmp .ge 24, 3) := by decide +kernel
theorem dX7_becomeBodies_57 : decode cX7_becomeBodies 57 = .ok (.aload_n 0, 1) := by decide +kernel
theorem dX7_becomeBodies_58 : decode cX7_becomeBodies 58 = .ok (.getfield 19, 3) := by decide +kernel
theorem dX7_becomeBodies_61 : decode cX7_becomeBodies 61 = .ok (.iload_n 2, 1) := by decide +kernel
theorem dX7_becomeBodies_62 : decode cX7_becomeBodies 62 = .ok (.aaload, 1) := by decide +kernel
theorem dX7_becomeBodies_63 : decode cX7_becomeBodies 63 = .ok (.aload_n 1, 1) := by decide +kernel
theorem dX7_becomeBodies_64 : decode cX7_becomeBodies 64 = .ok (.getfield 19, 3) := by decide +kernel
theorem dX7_becomeBodies_67 : decode cX7_becomeBodies 67 = .ok (.iload_n 2, 1) := by decide +kernel
theorem dX7_becomeBodies_68 : decode cX7_becomeBodies 68 = .ok (.aaload, 1) := by decide +kernel
theorem dX7_becomeBodies_69 : decode cX7_becomeBodies 69 = .ok (.invokevirtual 62, 3) := by decide +kernel
theorem dX7_becomeBodies_72 : decode cX7_becomeBodies 72 = .ok (.iinc 2 1, 3) := by decide +kernel
theorem dX7_becomeBodies_75 : decode cX7_becomeBodies 75 = .ok (.goto (-26), 3) := by decide +kernel
theorem dX7_becomeBodies_78 : decode cX7_becomeBodies 78 = .ok (.return_, 1) := by decide +kernel
theorem dX7_hasChild_0 : decode cX7_hasChild 0 = .ok (.iload_n 1, 1) := by decide +kernel
theorem dX7_hasChild_1 : decode cX7_hasChild 1 = .ok (.ifCond .lt 15, 3) := by decide +kernel
theorem dX7_hasChild_4 : decode cX7_hasChild 4 = .ok (.iload_n 1, 1) := by decide +kernel
theorem dX7_hasChild_5 : decode cX7_hasChild 5 = .ok (.aload_n 0, 1) := by decide +kernel
theorem dX7_hasChild_6 : decode cX7_hasChild 6 = .ok (.getfield 30, 3) := by decide +kernel
theorem dX7_hasChild_9 : decode cX7_hasChild 9 = .ok (.if_icmp .ge 7, 3) := by decide +kernel
theorem dX7_hasChild_12 : decode cX7_hasChild 12 = .ok (.iconst 1, 1) := by decide +kernel
theorem dX7_hasChild_13 : decode cX7_hasChild 13 = .ok (.goto 4, 3) := by decide +kernel
theorem dX7_hasChild_16 : decode cX7_hasChild 16 = .ok (.iconst 0, 1) := by decide +kernel
theorem dX7_hasChild_17 : decode cX7_hasChild 17 = .ok (.ireturn, 1) := by decide +kernel
theorem dX7_hasThing_0 : decode cX7_hasThing 0 = .ok (.iload_n 1, 1) := by decide +kernel
theorem dX7_hasThing_1 : decode cX7_hasThing 1 = .ok (.ifCond .lt 15, 3) := by decide +kernel
theorem dX7_hasThing_4 : decode cX7_hasThing 4 = .ok (.iload_n 1, 1) := by decide +kernel
theorem dX7_hasThing_5 : decode cX7_hasThing 5 = .ok (.aload_n 0, 1) := by decide +kernel
theorem dX7_hasThing_6 : decode cX7_hasThing 6 = .ok (.getfield 34, 3) := by decide +kernel
theorem dX7_hasThing_9 : decode cX7_hasThing 9 = .ok (.if_icmp .ge 7, 3) := by decide +kernel
theorem dX7_hasThing_12 : decode cX7_hasThing 12 = .ok (.iconst 1, 1) := by decide +kernel
theorem dX7_hasThing_13 : decode cX7_hasThing 13 = .ok (.goto 4, 3) := by decide +kernel
theorem dX7_hasThing_16 : decode cX7_hasThing 16 = .ok (.iconst 0, 1) := by decide +kernel
theorem dX7_hasThing_17 : decode cX7_hasThing 17 = .ok (.ireturn, 1) := by decide +kernel
theorem dX7_addChild_0 : decode cX7_addChild 0 = .ok (.aload_n 0, 1) := by decide +kernel
theorem dX7_addChild_1 : decode cX7_addChild 1 = .ok (.getfield 30, 3) := by decide +kernel
theorem dX7_addChild_4 : decode cX7_addChild 4 = .ok (.bipush 8, 2) := by decide +kernel
theorem dX7_addChild_6 : decode cX7_addChild 6 = .ok (.if_icmp .ge 52, 3) := by decide +kernel
theorem dX7_addChild_9 : decode cX7_addChild 9 = .ok (.aload_n 0, 1) := by decide +kernel
theorem dX7_addChild_10 : decode cX7_addChild 10 = .ok (.getfield 11, 3) := by decide +kernel
theorem dX7_addChild_13 : decode cX7_addChild 13 = .ok (.aload_n 0, 1) := by decide +kernel
theorem dX7_addChild_14 : decode cX7_addChild 14 = .ok (.getfield 30, 3) := by decide +kernel
theorem dX7_addChild_17 : decode cX7_addChild 17 = .ok (.aaload, 1) := by decide +kernel
theorem dX7_addChild_18 : decode cX7_addChild 18 = .ok (.iload_n 1, 1) := by decide +kernel
theorem dX7_addChild_19 : decode cX7_addChild 19 = .ok (.putfield 65, 3) := by decide +kernel
theorem dX7_addChild_22 : decode cX7_addChild 22 = .ok (.aload_n 0, 1) := by decide +kernel
theorem dX7_addChild_23 : decode cX7_addChild 23 = .ok (.getfield 11, 3) := by decide +kernel
theorem dX7_addChild_26 : decode cX7_addChild 26 = .ok (.aload_n 0, 1) := by decide +kernel
theorem dX7_addChild_27 : decode cX7_addChild 27 = .ok (.getfield 30, 3) := by decide +kernel
theorem dX7_addChild_30 : decode cX7_addChild 30 = .ok (.aaload, 1) := by decide +kernel
theorem dX7_addChild_31 : decode cX7_addChild 31 = .ok (.iload_n 2, 1) := by decide +kernel
theorem dX7_addChild_32 : decode cX7_addChild 32 = .ok (.putfield 68, 3) := by decide +kernel
theorem dX7_addChild_35 : decode cX7_addChild 35 = .ok (.aload_n 0, 1) := by decide +kernel
theorem dX7_addChild_36 : decode cX7_addChild 36 = .ok (.getfield 11, 3) := by decide +kernel
theorem dX7_addChild_39 : decode cX7_addChild 39 = .ok (.aload_n 0, 1) := by decide +kernel
theorem dX7_addChild_40 : decode cX7_addChild 40 = .ok (.getfield 30, 3) := by decide +kernel
theorem dX7_addChild_43 : decode cX7_addChild 43 = .ok (.aaload, 1) := by decide +kernel
theorem dX7_addChild_44 : decode cX7_addChild 44 = .ok (.iload_n 3, 1) := by decide +kernel
theorem dX7_addChild_45 : decode cX7_addChild 45 = .ok (.putfield 71, 3) := by decide +kernel
theorem dX7_addChild_48 : decode cX7_addChild 48 = .ok (.aload_n 0, 1) := by decide +kernel
theorem dX7_addChild_49 : decode cX7_addChild 49 = .ok (.dup, 1) := by decide +kernel
theorem dX7_addChild_50 : decode cX7_addChild 50 = .ok (.getfield 30, 3) := by decide +kernel
theorem dX7_addChild_53 : decode cX7_addChild 53 = .ok (.iconst 1, 1) := by decide +kernel
theorem dX7_addChild_54 : decode cX7_addChild 54 = .ok (.iadd, 1) := by decide +kernel
theorem dX7_addChild_55 : decode cX7_addChild 55 = .ok (.putfield 30, 3) := by decide +kernel
theorem dX7_addChild_58 : decode cX7_addChild 58 = .ok (.return_, 1) := by decide +kernel
theorem dX7_addPlain_0 : decode cX7_addPlain 0 = .ok (.aload_n 0, 1) := by decide +kernel
theorem dX7_addPlain_1 : decode cX7_addPlain 1 = .ok (.getfield 34, 3) := by decide +kernel
theorem dX7_addPlain_4 : decode cX7_addPlain 4 = .ok (.bipush 10, 2) := by decide +kernel
theorem dX7_addPlain_6 : decode cX7_addPlain 6 = .ok (.if_icmp .lt 6, 3) := by decide +kernel
theorem dX7_addPlain_9 : decode cX7_addPlain 9 = .ok (.bipush (-3), 2) := by decide +kernel
theorem dX7_addPlain_11 : decode cX7_addPlain 11 = .ok (.ireturn, 1) := by decide +kernel
theorem dX7_addPlain_12 : decode cX7_addPlain 12 = .ok (.aload_n 0, 1) := by decide +kernel
theorem dX7_addPlain_13 : decode cX7_addPlain 13 = .ok (.getfield 19, 3) := by decide +kernel
theorem dX7_addPlain_16 : decode cX7_addPlain 16 = .ok (.aload_n 0, 1) := by decide +kernel
theorem dX7_addPlain_17 : decode cX7_addPlain 17 = .ok (.getfield 34, 3) := by decide +kernel
theorem dX7_addPlain_20 : decode cX7_addPlain 20 = .ok (.aaload, 1) := by decide +kernel
theorem dX7_addPlain_21 : decode cX7_addPlain 21 = .ok (.iload_n 1, 1) := by decide +kernel
theorem dX7_addPlain_22 : decode cX7_addPlain 22 = .ok (.iload_n 2, 1) := by decide +kernel
theorem dX7_addPlain_23 : decode cX7_addPlain 23 = .ok (.iload_n 3, 1) := by decide +kernel
theorem dX7_addPlain_24 : decode cX7_addPlain 24 = .ok (.invokevirtual 74, 3) := by decide +kernel
theorem dX7_addPlain_27 : decode cX7_addPlain 27 = .ok (.aload_n 0, 1) := by decide +kernel
theorem dX7_addPlain_28 : decode cX7_addPlain 28 = .ok (.dup, 1) := by decide +kernel
theorem dX7_addPlain_29 : decode cX7_addPlain 29 = .ok (.getfield 34, 3) := by decide +kernel
theorem dX7_addPlain_32 : decode cX7_addPlain 32 = .ok (.iconst 1, 1) := by decide +kernel
theorem dX7_addPlain_33 : decode cX7_addPlain 33 = .ok (.iadd, 1) := by decide +kernel
theorem dX7_addPlain_34 : decode cX7_addPlain 34 = .ok (.putfield 34, 3) := by decide +kernel
theorem dX7_addPlain_37 : decode cX7_addPlain 37 = .ok (.aload_n 0, 1) := by decide +kernel
theorem dX7_addPlain_38 : decode cX7_addPlain 38 = .ok (.getfield 34, 3) := by decide +kernel
theorem dX7_addPlain_41 : decode cX7_addPlain 41 = .ok (.iconst 1, 1) := by decide +kernel
theorem dX7_addPlain_42 : decode cX7_addPlain 42 = .ok (.isub, 1) := by decide +kernel
theorem dX7_addPlain_43 : decode cX7_addPlain 43 = .ok (.ireturn, 1) := by decide +kernel
theorem dX7_addMark_0 : decode cX7_addMark 0 = .ok (.aload_n 0, 1) := by decide +kernel
theorem dX7_addMark_1 : decode cX7_addMark 1 = .ok (.getfield 37, 3) := by decide +kernel
theorem dX7_addMark_4 : decode cX7_addMark 4 = .ok (.bipush 6, 2) := by decide +kernel
theorem dX7_addMark_6 : decode cX7_addMark 6 = .ok (.if_icmp .ge 23, 3) := by decide +kernel
theorem dX7_addMark_9 : decode cX7_addMark 9 = .ok (.aload_n 0, 1) := by decide +kernel
theorem dX7_addMark_10 : decode cX7_addMark 10 = .ok (.getfield 27, 3) := by decide +kernel
theorem dX7_addMark_13 : decode cX7_addMark 13 = .ok (.aload_n 0, 1) := by decide +kernel
theorem dX7_addMark_14 : decode cX7_addMark 14 = .ok (.getfield 37, 3) := by decide +kernel
theorem dX7_addMark_17 : decode cX7_addMark 17 = .ok (.iload_n 1, 1) := by decide +kernel
theorem dX7_addMark_18 : decode cX7_addMark 18 = .ok (.iastore, 1) := by decide +kernel
theorem dX7_addMark_19 : decode cX7_addMark 19 = .ok (.aload_n 0, 1) := by decide +kernel
theorem dX7_addMark_20 : decode cX7_addMark 20 = .ok (.dup, 1) := by decide +kernel
theorem dX7_addMark_21 : decode cX7_addMark 21 = .ok (.getfield 37, 3) := by decide +kernel
theorem dX7_addMark_24 : decode cX7_addMark 24 = .ok (.iconst 1, 1) := by decide +kernel
theorem dX7_addMark_25 : decode cX7_addMark 25 = .ok (.iadd, 1) := by decide +kernel
theorem dX7_addMark_26 : decode cX7_addMark 26 = .ok (.putfield 37, 3) := by decide +kernel
theorem dX7_addMark_29 : decode cX7_addMark 29 = .ok (.return_, 1) := by decide +kernel
theorem dX7_smallestSize_0 : decode cX7_smallestSize 0 = .ok (.bipush 40, 2) := by decide +kernel
theorem dX7_smallestSize_2 : decode cX7_smallestSize 2 = .ok (.istore_n 1, 1) := by decide +kernel
theorem dX7_smallestSize_3 : decode cX7_smallestSize 3 = .ok (.iconst 0, 1) := by decide +kernel
theorem dX7_smallestSize_4 : decode cX7_smallestSize 4 = .ok (.istore_n 2, 1) := by decide +kernel
theorem dX7_smallestSize_5 : decode cX7_smallestSize 5 = .ok (.iload_n 2, 1) := by decide +kernel
theorem dX7_smallestSize_6 : decode cX7_smallestSize 6 = .ok (.aload_n 0, 1) := by decide +kernel
theorem dX7_smallestSize_7 : decode cX7_smallestSize 7 = .ok (.getfield 30, 3) := by decide +kernel
theorem dX7_smallestSize_10 : decode cX7_smallestSize 10 = .ok (.if_icmp .ge 23, 3) := by decide +kernel
theorem dX7_smallestSize_13 : decode cX7_smallestSize 13 = .ok (.iload_n 1, 1) := by decide +kernel
theorem dX7_smallestSize_14 : decode cX7_smallestSize 14 = .ok (.aload_n 0, 1) := by decide +kernel
theorem dX7_smallestSize_15 : decode cX7_smallestSize 15 = .ok (.getfield 11, 3) := by decide +kernel
theorem dX7_smallestSize_18 : decode cX7_smallestSize 18 = .ok (.iload_n 2, 1) := by decide +kernel
theorem dX7_smallestSize_19 : decode cX7_smallestSize 19 = .ok (.aaload, 1) := by decide +kernel
theorem dX7_smallestSize_20 : decode cX7_smallestSize 20 = .ok (.getfield 65, 3) := by decide +kernel
theorem dX7_smallestSize_23 : decode cX7_smallestSize 23 = .ok (.invokestatic 78, 3) := by decide +kernel
theorem dX7_smallestSize_26 : decode cX7_smallestSize 26 = .ok (.istore_n 1, 1) := by decide +kernel
theorem dX7_smallestSize_27 : decode cX7_smallestSize 27 = .ok (.iinc 2 1, 3) := by decide +kernel
theorem dX7_smallestSize_30 : decode cX7_smallestSize 30 = .ok (.goto (-25), 3) := by decide +kernel
theorem dX7_smallestSize_33 : decode cX7_smallestSize 33 = .ok (.iload_n 1, 1) := by decide +kernel
theorem dX7_smallestSize_34 : decode cX7_smallestSize 34 = .ok (.ireturn, 1) := by decide +kernel
theorem dX7_likingOf_0 : decode cX7_likingOf 0 = .ok (.aload_n 0, 1) := by decide +kernel
theorem dX7_likingOf_1 : decode cX7_likingOf 1 = .ok (.getfield 23, 3) := by decide +kernel
theorem dX7_likingOf_4 : decode cX7_likingOf 4 = .ok (.iload_n 1, 1) := by decide +kernel
theorem dX7_likingOf_5 : decode cX7_likingOf 5 = .ok (.bipush 10, 2) := by decide +kernel
theorem dX7_likingOf_7 : decode cX7_likingOf 7 = .ok (.imul, 1) := by decide +kernel
theorem dX7_likingOf_8 : decode cX7_likingOf 8 = .ok (.iload_n 2, 1) := by decide +kernel
theorem dX7_likingOf_9 : decode cX7_likingOf 9 = .ok (.iadd, 1) := by decide +kernel
theorem dX7_likingOf_10 : decode cX7_likingOf 10 = .ok (.iaload, 1) := by decide +kernel
theorem dX7_likingOf_11 : decode cX7_likingOf 11 = .ok (.ireturn, 1) := by decide +kernel
theorem dX7_setLiking_0 : decode cX7_setLiking 0 = .ok (.aload_n 0, 1) := by decide +kernel
theorem dX7_setLiking_1 : decode cX7_setLiking 1 = .ok (.getfield 23, 3) := by decide +kernel
theorem dX7_setLiking_4 : decode cX7_setLiking 4 = .ok (.iload_n 1, 1) := by decide +kernel
theorem dX7_setLiking_5 : decode cX7_setLiking 5 = .ok (.bipush 10, 2) := by decide +kernel
theorem dX7_setLiking_7 : decode cX7_setLiking 7 = .ok (.imul, 1) := by decide +kernel
theorem dX7_setLiking_8 : decode cX7_setLiking 8 = .ok (.iload_n 2, 1) := by decide +kernel
theorem dX7_setLiking_9 : decode cX7_setLiking 9 = .ok (.iadd, 1) := by decide +kernel
theorem dX7_setLiking_10 : decode cX7_setLiking 10 = .ok (.iload_n 3, 1) := by decide +kernel
theorem dX7_setLiking_11 : decode cX7_setLiking 11 = .ok (.iastore, 1) := by decide +kernel
theorem dX7_setLiking_12 : decode cX7_setLiking 12 = .ok (.return_, 1) := by decide +kernel
theorem dX7_fitOf_0 : decode cX7_fitOf 0 = .ok (.aload_n 0, 1) := by decide +kernel
theorem dX7_fitOf_1 : decode cX7_fitOf 1 = .ok (.getfield 19, 3) := by decide +kernel
theorem dX7_fitOf_4 : decode cX7_fitOf 4 = .ok (.iload_n 2, 1) := by decide +kernel
theorem dX7_fitOf_5 : decode cX7_fitOf 5 = .ok (.aaload, 1) := by decide +kernel
theorem dX7_fitOf_6 : decode cX7_fitOf 6 = .ok (.iload_n 1, 1) := by decide +kernel
theorem dX7_fitOf_7 : decode cX7_fitOf 7 = .ok (.aload_n 0, 1) := by decide +kernel
theorem dX7_fitOf_8 : decode cX7_fitOf 8 = .ok (.getfield 11, 3) := by decide +kernel
theorem dX7_fitOf_11 : decode cX7_fitOf 11 = .ok (.iload_n 1, 1) := by decide +kernel
theorem dX7_fitOf_12 : decode cX7_fitOf 12 = .ok (.aaload, 1) := by decide +kernel
theorem dX7_fitOf_13 : decode cX7_fitOf 13 = .ok (.getfield 65, 3) := by decide +kernel
theorem dX7_fitOf_16 : decode cX7_fitOf 16 = .ok (.iload_n 3, 1) := by decide +kernel
theorem dX7_fitOf_17 : decode cX7_fitOf 17 = .ok (.invokevirtual 84, 3) := by decide +kernel
theorem dX7_fitOf_20 : decode cX7_fitOf 20 = .ok (.ireturn, 1) := by decide +kernel
theorem dX7_wornBy_0 : decode cX7_wornBy 0 = .ok (.iconst 0, 1) := by decide +kernel
theorem dX7_wornBy_1 : decode cX7_wornBy 1 = .ok (.istore_n 3, 1) := by decide +kernel
theorem dX7_wornBy_2 : decode cX7_wornBy 2 = .ok (.iload_n 3, 1) := by decide +kernel
theorem dX7_wornBy_3 : decode cX7_wornBy 3 = .ok (.aload_n 0, 1) := by decide +kernel
theorem dX7_wornBy_4 : decode cX7_wornBy 4 = .ok (.getfield 34, 3) := by decide +kernel
theorem dX7_wornBy_7 : decode cX7_wornBy 7 = .ok (.if_icmp .ge 37, 3) := by decide +kernel
theorem dX7_wornBy_10 : decode cX7_wornBy 10 = .ok (.aload_n 0, 1) := by decide +kernel
theorem dX7_wornBy_11 : decode cX7_wornBy 11 = .ok (.getfield 19, 3) := by decide +kernel
theorem dX7_wornBy_14 : decode cX7_wornBy 14 = .ok (.iload_n 3, 1) := by decide +kernel
theorem dX7_wornBy_15 : decode cX7_wornBy 15 = .ok (.aaload, 1) := by decide +kernel
theorem dX7_wornBy_16 : decode cX7_wornBy 16 = .ok (.getfield 88, 3) := by decide +kernel
theorem dX7_wornBy_19 : decode cX7_wornBy 19 = .ok (.iload_n 2, 1) := by decide +kernel
theorem dX7_wornBy_20 : decode cX7_wornBy 20 = .ok (.if_icmp .ne 18, 3) := by decide +kernel
theorem dX7_wornBy_23 : decode cX7_wornBy 23 = .ok (.aload_n 0, 1) := by decide +kernel
theorem dX7_wornBy_24 : decode cX7_wornBy 24 = .ok (.getfield 19, 3) := by decide +kernel
theorem dX7_wornBy_27 : decode cX7_wornBy 27 = .ok (.iload_n 3, 1) := by decide +kernel
theorem dX7_wornBy_28 : decode cX7_wornBy 28 = .ok (.aaload, 1) := by decide +kernel
theorem dX7_wornBy_29 : decode cX7_wornBy 29 = .ok (.getfield 91, 3) := by decide +kernel
theorem dX7_wornBy_32 : decode cX7_wornBy 32 = .ok (.iload_n 1, 1) := by decide +kernel
theorem dX7_wornBy_33 : decode cX7_wornBy 33 = .ok (.if_icmp .ne 5, 3) := by decide +kernel
theorem dX7_wornBy_36 : decode cX7_wornBy 36 = .ok (.iload_n 3, 1) := by decide +kernel
theorem dX7_wornBy_37 : decode cX7_wornBy 37 = .ok (.ireturn, 1) := by decide +kernel
theorem dX7_wornBy_38 : decode cX7_wornBy 38 = .ok (.iinc 3 1, 3) := by decide +kernel
theorem dX7_wornBy_41 : decode cX7_wornBy 41 = .ok (.goto (-39), 3) := by decide +kernel
theorem dX7_wornBy_44 : decode cX7_wornBy 44 = .ok (.bipush (-4), 2) := by decide +kernel
theorem dX7_wornBy_46 : decode cX7_wornBy 46 = .ok (.ireturn, 1) := by decide +kernel
theorem dX7_putOn_0 : decode cX7_putOn 0 = .ok (.aload_n 0, 1) := by decide +kernel
theorem dX7_putOn_1 : decode cX7_putOn 1 = .ok (.getfield 19, 3) := by decide +kernel
theorem dX7_putOn_4 : decode cX7_putOn 4 = .ok (.iload_n 2, 1) := by decide +kernel
theorem dX7_putOn_5 : decode cX7_putOn 5 = .ok (.aaload, 1) := by decide +kernel
theorem dX7_putOn_6 : decode cX7_putOn 6 = .ok (.astore 4, 2) := by decide +kernel
theorem dX7_putOn_8 : decode cX7_putOn 8 = .ok (.aload 4, 2) := by decide +kernel
theorem dX7_putOn_10 : decode cX7_putOn 10 = .ok (.iload_n 1, 1) := by decide +kernel
theorem dX7_putOn_11 : decode cX7_putOn 11 = .ok (.aload_n 0, 1) := by decide +kernel
theorem dX7_putOn_12 : decode cX7_putOn 12 = .ok (.getfield 11, 3) := by decide +kernel
theorem dX7_putOn_15 : decode cX7_putOn 15 = .ok (.iload_n 1, 1) := by decide +kernel
theorem dX7_putOn_16 : decode cX7_putOn 16 = .ok (.aaload, 1) := by decide +kernel
theorem dX7_putOn_17 : decode cX7_putOn 17 = .ok (.getfield 65, 3) := by decide +kernel
theorem dX7_putOn_20 : decode cX7_putOn 20 = .ok (.iload_n 3, 1) := by decide +kernel
theorem dX7_putOn_21 : decode cX7_putOn 21 = .ok (.invokevirtual 84, 3) := by decide +kernel
theorem dX7_putOn_24 : decode cX7_putOn 24 = .ok (.iconst 2, 1) := by decide +kernel
theorem dX7_putOn_25 : decode cX7_putOn 25 = .ok (.if_icmp .ne 20, 3) := by decide +kernel
theorem dX7_putOn_28 : decode cX7_putOn 28 = .ok (.aload 4, 2) := by decide +kernel
theorem dX7_putOn_30 : decode cX7_putOn 30 = .ok (.iconst 1, 1) := by decide +kernel
theorem dX7_putOn_31 : decode cX7_putOn 31 = .ok (.putfield 94, 3) := by decide +kernel
theorem dX7_putOn_34 : decode cX7_putOn 34 = .ok (.aload 4, 2) := by decide +kernel
theorem dX7_putOn_36 : decode cX7_putOn 36 = .ok (.dup, 1) := by decide +kernel
theorem dX7_putOn_37 : decode cX7_putOn 37 = .ok (.getfield 98, 3) := by decide +kernel
theorem dX7_putOn_40 : decode cX7_putOn 40 = .ok (.iconst 2, 1) := by decide +kernel
theorem dX7_putOn_41 : decode cX7_putOn 41 = .ok (.iadd, 1) := by decide +kernel
theorem dX7_putOn_42 : decode cX7_putOn 42 = .ok (.putfield 98, 3) := by decide +kernel
theorem dX7_putOn_45 : decode cX7_putOn 45 = .ok (.aload 4, 2) := by decide +kernel
theorem dX7_putOn_47 : decode cX7_putOn 47 = .ok (.iload_n 1, 1) := by decide +kernel
theorem dX7_putOn_48 : decode cX7_putOn 48 = .ok (.putfield 91, 3) := by decide +kernel
theorem dX7_putOn_51 : decode cX7_putOn 51 = .ok (.return_, 1) := by decide +kernel
theorem dX7_undress_0 : decode cX7_undress 0 = .ok (.iconst 0, 1) := by decide +kernel
theorem dX7_undress_1 : decode cX7_undress 1 = .ok (.istore_n 2, 1) := by decide +kernel
theorem dX7_undress_2 : decode cX7_undress 2 = .ok (.iload_n 2, 1) := by decide +kernel
theorem dX7_undress_3 : decode cX7_undress 3 = .ok (.aload_n 0, 1) := by decide +kernel
theorem dX7_undress_4 : decode cX7_undress 4 = .ok (.getfield 34, 3) := by decide +kernel
theorem dX7_undress_7 : decode cX7_undress 7 = .ok (.if_icmp .ge 33, 3) := by decide +kernel
theorem dX7_undress_10 : decode cX7_undress 10 = .ok (.aload_n 0, 1) := by decide +kernel
theorem dX7_undress_11 : decode cX7_undress 11 = .ok (.getfield 19, 3) := by decide +kernel
theorem dX7_undress_14 : decode cX7_undress 14 = .ok (.iload_n 2, 1) := by decide +kernel
theorem dX7_undress_15 : decode cX7_undress 15 = .ok (.aaload, 1) := by decide +kernel
theorem dX7_undress_16 : decode cX7_undress 16 = .ok (.getfield 88, 3) := by decide +kernel
theorem dX7_undress_19 : decode cX7_undress 19 = .ok (.iload_n 1, 1) := by decide +kernel
theorem dX7_undress_20 : decode cX7_undress 20 = .ok (.if_icmp .ne 14, 3) := by decide +kernel
theorem dX7_undress_23 : decode cX7_undress 23 = .ok (.aload_n 0, 1) := by decide +kernel
theorem dX7_undress_24 : decode cX7_undress 24 = .ok (.getfield 19, 3) := by decide +kernel
theorem dX7_undress_27 : decode cX7_undress 27 = .ok (.iload_n 2, 1) := by decide +kernel
theorem dX7_undress_28 : decode cX7_undress 28 = .ok (.aaload, 1) := by decide +kernel
theorem dX7_undress_29 : decode cX7_undress 29 = .ok (.bipush (-4), 2) := by decide +kernel
theorem dX7_undress_31 : decode cX7_undress 31 = .ok (.putfield 91, 3) := by decide +kernel
theorem dX7_undress_34 : decode cX7_undress 34 = .ok (.iinc 2 1, 3) := by decide +kernel
theorem dX7_undress_37 : decode cX7_undress 37 = .ok (.goto (-35), 3) := by decide +kernel
theorem dX7_undress_40 : decode cX7_undress 40 = .ok (.return_, 1) := by decide +kernel
theorem dX7_coldOnes_0 : decode cX7_coldOnes 0 = .ok (.iconst 0, 1) := by decide +kernel
theorem dX7_coldOnes_1 : decode cX7_coldOnes 1 = .ok (.istore_n 2, 1) := by decide +kernel
theorem dX7_coldOnes_2 : decode cX7_coldOnes 2 = .ok (.iconst 0, 1) := by decide +kernel
theorem dX7_coldOnes_3 : decode cX7_coldOnes 3 = .ok (.istore_n 3, 1) := by decide +kernel
theorem dX7_coldOnes_4 : decode cX7_coldOnes 4 = .ok (.iload_n 3, 1) := by decide +kernel
theorem dX7_coldOnes_5 : decode cX7_coldOnes 5 = .ok (.aload_n 0, 1) := by decide +kernel
theorem dX7_coldOnes_6 : decode cX7_coldOnes 6 = .ok (.getfield 30, 3) := by decide +kernel
theorem dX7_coldOnes_9 : decode cX7_coldOnes 9 = .ok (.if_icmp .ge 26, 3) := by decide +kernel
theorem dX7_coldOnes_12 : decode cX7_coldOnes 12 = .ok (.aload_n 0, 1) := by decide +kernel
theorem dX7_coldOnes_13 : decode cX7_coldOnes 13 = .ok (.iload_n 3, 1) := by decide +kernel
theorem dX7_coldOnes_14 : decode cX7_coldOnes 14 = .ok (.iload_n 1, 1) := by decide +kernel
theorem dX7_coldOnes_15 : decode cX7_coldOnes 15 = .ok (.invokevirtual 99, 3) := by decide +kernel
theorem dX7_coldOnes_18 : decode cX7_coldOnes 18 = .ok (.bipush (-4), 2) := by decide +kernel
theorem dX7_coldOnes_20 : decode cX7_coldOnes 20 = .ok (.if_icmp .ne 9, 3) := by decide +kernel
theorem dX7_coldOnes_23 : decode cX7_coldOnes 23 = .ok (.iload_n 2, 1) := by decide +kernel
theorem dX7_coldOnes_24 : decode cX7_coldOnes 24 = .ok (.iconst 1, 1) := by decide +kernel
theorem dX7_coldOnes_25 : decode cX7_coldOnes 25 = .ok (.iload_n 3, 1) := by decide +kernel
theorem dX7_coldOnes_26 : decode cX7_coldOnes 26 = .ok (.ishl, 1) := by decide +kernel
theorem dX7_coldOnes_27 : decode cX7_coldOnes 27 = .ok (.ior, 1) := by decide +kernel
theorem dX7_coldOnes_28 : decode cX7_coldOnes 28 = .ok (.istore_n 2, 1) := by decide +kernel
theorem dX7_coldOnes_29 : decode cX7_coldOnes 29 = .ok (.iinc 3 1, 3) := by decide +kernel
theorem dX7_coldOnes_32 : decode cX7_coldOnes 32 = .ok (.goto (-28), 3) := by decide +kernel
theorem dX7_coldOnes_35 : decode cX7_coldOnes 35 = .ok (.iload_n 2, 1) := by decide +kernel
theorem dX7_coldOnes_36 : decode cX7_coldOnes 36 = .ok (.ireturn, 1) := by decide +kernel
theorem dX7_wornOutCount_0 : decode cX7_wornOutCount 0 = .ok (.iconst 0, 1) := by decide +kernel
theorem dX7_wornOutCount_1 : decode cX7_wornOutCount 1 = .ok (.istore_n 1, 1) := by decide +kernel
theorem dX7_wornOutCount_2 : decode cX7_wornOutCount 2 = .ok (.iconst 0, 1) := by decide +kernel
theorem dX7_wornOutCount_3 : decode cX7_wornOutCount 3 = .ok (.istore_n 2, 1) := by decide +kernel
theorem dX7_wornOutCount_4 : decode cX7_wornOutCount 4 = .ok (.iload_n 2, 1) := by decide +kernel
theorem dX7_wornOutCount_5 : decode cX7_wornOutCount 5 = .ok (.aload_n 0, 1) := by decide +kernel
theorem dX7_wornOutCount_6 : decode cX7_wornOutCount 6 = .ok (.getfield 34, 3) := by decide +kernel
theorem dX7_wornOutCount_9 : decode cX7_wornOutCount 9 = .ok (.if_icmp .ge 24, 3) := by decide +kernel
theorem dX7_wornOutCount_12 : decode cX7_wornOutCount 12 = .ok (.aload_n 0, 1) := by decide +kernel
theorem dX7_wornOutCount_13 : decode cX7_wornOutCount 13 = .ok (.getfield 19, 3) := by decide +kernel
theorem dX7_wornOutCount_16 : decode cX7_wornOutCount 16 = .ok (.iload_n 2, 1) := by decide +kernel
theorem dX7_wornOutCount_17 : decode cX7_wornOutCount 17 = .ok (.aaload, 1) := by decide +kernel
theorem dX7_wornOutCount_18 : decode cX7_wornOutCount 18 = .ok (.invokevirtual 102, 3) := by decide +kernel
theorem dX7_wornOutCount_21 : decode cX7_wornOutCount 21 = .ok (.ifCond .eq 6, 3) := by decide +kernel
theorem dX7_wornOutCount_24 : decode cX7_wornOutCount 24 = .ok (.iinc 1 1, 3) := by decide +kernel
theorem dX7_wornOutCount_27 : decode cX7_wornOutCount 27 = .ok (.iinc 2 1, 3) := by decide +kernel
theorem dX7_wornOutCount_30 : decode cX7_wornOutCount 30 = .ok (.goto (-26), 3) := by decide +kernel
theorem dX7_wornOutCount_33 : decode cX7_wornOutCount 33 = .ok (.iload_n 1, 1) := by decide +kernel
theorem dX7_wornOutCount_34 : decode cX7_wornOutCount 34 = .ok (.ireturn, 1) := by decide +kernel
theorem dX7_passWinter_0 : decode cX7_passWinter 0 = .ok (.iconst 0, 1) := by decide +kernel
theorem dX7_passWinter_1 : decode cX7_passWinter 1 = .ok (.istore_n 1, 1) := by decide +kernel
theorem dX7_passWinter_2 : decode cX7_passWinter 2 = .ok (.iconst 0, 1) := by decide +kernel
theorem dX7_passWinter_3 : decode cX7_passWinter 3 = .ok (.istore_n 2, 1) := by decide +kernel
theorem dX7_passWinter_4 : decode cX7_passWinter 4 = .ok (.iload_n 2, 1) := by decide +kernel
theorem dX7_passWinter_5 : decode cX7_passWinter 5 = .ok (.aload_n 0, 1) := by decide +kernel
theorem dX7_passWinter_6 : decode cX7_passWinter 6 = .ok (.getfield 34, 3) := by decide +kernel
theorem dX7_passWinter_9 : decode cX7_passWinter 9 = .ok (.if_icmp .ge 64, 3) := by decide +kernel
theorem dX7_passWinter_12 : decode cX7_passWinter 12 = .ok (.aload_n 0, 1) := by decide +kernel
theorem dX7_passWinter_13 : decode cX7_passWinter 13 = .ok (.getfield 19, 3) := by decide +kernel
theorem dX7_passWinter_16 : decode cX7_passWinter 16 = .ok (.iload_n 2, 1) := by decide +kernel
theorem dX7_passWinter_17 : decode cX7_passWinter 17 = .ok (.aaload, 1) := by decide +kernel
theorem dX7_passWinter_18 : decode cX7_passWinter 18 = .ok (.getfield 91, 3) := by decide +kernel
theorem dX7_passWinter_21 : decode cX7_passWinter 21 = .ok (.bipush (-4), 2) := by decide +kernel
theorem dX7_passWinter_23 : decode cX7_passWinter 23 = .ok (.if_icmp .eq 44, 3) := by decide +kernel
theorem dX7_passWinter_26 : decode cX7_passWinter 26 = .ok (.aload_n 0, 1) := by decide +kernel
theorem dX7_passWinter_27 : decode cX7_passWinter 27 = .ok (.getfield 19, 3) := by decide +kernel
theorem dX7_passWinter_30 : decode cX7_passWinter 30 = .ok (.iload_n 2, 1) := by decide +kernel
theorem dX7_passWinter_31 : decode cX7_passWinter 31 = .ok (.aaload, 1) := by decide +kernel
theorem dX7_passWinter_32 : decode cX7_passWinter 32 = .ok (.dup, 1) := by decide +kernel
theorem dX7_passWinter_33 : decode cX7_passWinter 33 = .ok (.getfield 106, 3) := by decide +kernel
theorem dX7_passWinter_36 : decode cX7_passWinter 36 = .ok (.iconst 1, 1) := by decide +kernel
theorem dX7_passWinter_37 : decode cX7_passWinter 37 = .ok (.iadd, 1) := by decide +kernel
theorem dX7_passWinter_38 : decode cX7_passWinter 38 = .ok (.putfield 106, 3) := by decide +kernel
theorem dX7_passWinter_41 : decode cX7_passWinter 41 = .ok (.aload_n 0, 1) := by decide +kernel
theorem dX7_passWinter_42 : decode cX7_passWinter 42 = .ok (.getfield 19, 3) := by decide +kernel
theorem dX7_passWinter_45 : decode cX7_passWinter 45 = .ok (.iload_n 2, 1) := by decide +kernel
theorem dX7_passWinter_46 : decode cX7_passWinter 46 = .ok (.aaload, 1) := by decide +kernel
theorem dX7_passWinter_47 : decode cX7_passWinter 47 = .ok (.invokevirtual 102, 3) := by decide +kernel
theorem dX7_passWinter_50 : decode cX7_passWinter 50 = .ok (.ifCond .eq 17, 3) := by decide +kernel
theorem dX7_passWinter_53 : decode cX7_passWinter 53 = .ok (.aload_n 0, 1) := by decide +kernel
theorem dX7_passWinter_54 : decode cX7_passWinter 54 = .ok (.getfield 19, 3) := by decide +kernel
theorem dX7_passWinter_57 : decode cX7_passWinter 57 = .ok (.iload_n 2, 1) := by decide +kernel
theorem dX7_passWinter_58 : decode cX7_passWinter 58 = .ok (.aaload, 1) := by decide +kernel
theorem dX7_passWinter_59 : decode cX7_passWinter 59 = .ok (.bipush (-4), 2) := by decide +kernel
theorem dX7_passWinter_61 : decode cX7_passWinter 61 = .ok (.putfield 91, 3) := by decide +kernel
theorem dX7_passWinter_64 : decode cX7_passWinter 64 = .ok (.iinc 1 1, 3) := by decide +kernel
theorem dX7_passWinter_67 : decode cX7_passWinter 67 = .ok (.iinc 2 1, 3) := by decide +kernel
theorem dX7_passWinter_70 : decode cX7_passWinter 70 = .ok (.goto (-66), 3) := by decide +kernel
theorem dX7_passWinter_73 : decode cX7_passWinter 73 = .ok (.iload_n 1, 1) := by decide +kernel
theorem dX7_passWinter_74 : decode cX7_passWinter 74 = .ok (.ireturn, 1) := by decide +kernel
theorem dX7_passSpring_0 : decode cX7_passSpring 0 = .ok (.iconst 0, 1) := by decide +kernel
theorem dX7_passSpring_1 : decode cX7_passSpring 1 = .ok (.istore_n 3, 1) := by decide +kernel
theorem dX7_passSpring_2 : decode cX7_passSpring 2 = .ok (.iload_n 3, 1) := by decide +kernel
theorem dX7_passSpring_3 : decode cX7_passSpring 3 = .ok (.aload_n 0, 1) := by decide +kernel
theorem dX7_passSpring_4 : decode cX7_passSpring 4 = .ok (.getfield 30, 3) := by decide +kernel
theorem dX7_passSpring_7 : decode cX7_passSpring 7 = .ok (.if_icmp .ge 19, 3) := by decide +kernel
theorem dX7_passSpring_10 : decode cX7_passSpring 10 = .ok (.aload_n 0, 1) := by decide +kernel
theorem dX7_passSpring_11 : decode cX7_passSpring 11 = .ok (.getfield 11, 3) := by decide +kernel
theorem dX7_passSpring_14 : decode cX7_passSpring 14 = .ok (.iload_n 3, 1) := by decide +kernel
theorem dX7_passSpring_15 : decode cX7_passSpring 15 = .ok (.aaload, 1) := by decide +kernel
theorem dX7_passSpring_16 : decode cX7_passSpring 16 = .ok (.iload_n 1, 1) := by decide +kernel
theorem dX7_passSpring_17 : decode cX7_passSpring 17 = .ok (.invokevirtual 109, 3) := by decide +kernel
theorem dX7_passSpring_20 : decode cX7_passSpring 20 = .ok (.iinc 3 1, 3) := by decide +kernel
theorem dX7_passSpring_23 : decode cX7_passSpring 23 = .ok (.goto (-21), 3) := by decide +kernel
theorem dX7_passSpring_26 : decode cX7_passSpring 26 = .ok (.iconst 0, 1) := by decide +kernel
theorem dX7_passSpring_27 : decode cX7_passSpring 27 = .ok (.istore_n 3, 1) := by decide +kernel
theorem dX7_passSpring_28 : decode cX7_passSpring 28 = .ok (.iconst 0, 1) := by decide +kernel
theorem dX7_passSpring_29 : decode cX7_passSpring 29 = .ok (.istore 4, 2) := by decide +kernel
theorem dX7_passSpring_31 : decode cX7_passSpring 31 = .ok (.iload 4, 2) := by decide +kernel
theorem dX7_passSpring_33 : decode cX7_passSpring 33 = .ok (.aload_n 0, 1) := by decide +kernel
theorem dX7_passSpring_34 : decode cX7_passSpring 34 = .ok (.getfield 34, 3) := by decide +kernel
theorem dX7_passSpring_37 : decode cX7_passSpring 37 = .ok (.if_icmp .ge 58, 3) := by decide +kernel
theorem dX7_passSpring_40 : decode cX7_passSpring 40 = .ok (.aload_n 0, 1) := by decide +kernel
theorem dX7_passSpring_41 : decode cX7_passSpring 41 = .ok (.getfield 19, 3) := by decide +kernel
theorem dX7_passSpring_44 : decode cX7_passSpring 44 = .ok (.iload 4, 2) := by decide +kernel
theorem dX7_passSpring_46 : decode cX7_passSpring 46 = .ok (.aaload, 1) := by decide +kernel
theorem dX7_passSpring_47 : decode cX7_passSpring 47 = .ok (.getfield 91, 3) := by decide +kernel
theorem dX7_passSpring_50 : decode cX7_passSpring 50 = .ok (.istore 5, 2) := by decide +kernel
theorem dX7_passSpring_52 : decode cX7_passSpring 52 = .ok (.aload_n 0, 1) := by decide +kernel
theorem dX7_passSpring_53 : decode cX7_passSpring 53 = .ok (.iload 5, 2) := by decide +kernel
theorem dX7_passSpring_55 : decode cX7_passSpring 55 = .ok (.invokevirtual 113, 3) := by decide +kernel
theorem dX7_passSpring_58 : decode cX7_passSpring 58 = .ok (.ifCond .eq 31, 3) := by decide +kernel
theorem dX7_passSpring_61 : decode cX7_passSpring 61 = .ok (.aload_n 0, 1) := by decide +kernel
theorem dX7_passSpring_62 : decode cX7_passSpring 62 = .ok (.iload 5, 2) := by decide +kernel
theorem dX7_passSpring_64 : decode cX7_passSpring 64 = .ok (.iload 4, 2) := by decide +kernel
theorem dX7_passSpring_66 : decode cX7_passSpring 66 = .ok (.iload_n 2, 1) := by decide +kernel
theorem dX7_passSpring_67 : decode cX7_passSpring 67 = .ok (.invokevirtual 117, 3) := by decide +kernel
theorem dX7_passSpring_70 : decode cX7_passSpring 70 = .ok (.iconst 1, 1) := by decide +kernel
theorem dX7_passSpring_71 : decode cX7_passSpring 71 = .ok (.if_icmp .eq 18, 3) := by decide +kernel
theorem dX7_passSpring_74 : decode cX7_passSpring 74 = .ok (.aload_n 0, 1) := by decide +kernel
theorem dX7_passSpring_75 : decode cX7_passSpring 75 = .ok (.getfield 19, 3) := by decide +kernel
theorem dX7_passSpring_78 : decode cX7_passSpring 78 = .ok (.iload 4, 2) := by decide +kernel
theorem dX7_passSpring_80 : decode cX7_passSpring 80 = .ok (.aaload, 1) := by decide +kernel
theorem dX7_passSpring_81 : decode cX7_passSpring 81 = .ok (.bipush (-4), 2) := by decide +kernel
theorem dX7_passSpring_83 : decode cX7_passSpring 83 = .ok (.putfield 91, 3) := by decide +kernel
theorem dX7_passSpring_86 : decode cX7_passSpring 86 = .ok (.iinc 3 1, 3) := by decide +kernel
theorem dX7_passSpring_89 : decode cX7_passSpring 89 = .ok (.iinc 4 1, 3) := by decide +kernel
theorem dX7_passSpring_92 : decode cX7_passSpring 92 = .ok (.goto (-61), 3) := by decide +kernel
theorem dX7_passSpring_95 : decode cX7_passSpring 95 = .ok (.iload_n 3, 1) := by decide +kernel
theorem dX7_passSpring_96 : decode cX7_passSpring 96 = .ok (.ireturn, 1) := by decide +kernel
theorem dX7_growEach_0 : decode cX7_growEach 0 = .ok (.iconst 0, 1) := by decide +kernel
theorem dX7_growEach_1 : decode cX7_growEach 1 = .ok (.istore_n 2, 1) := by decide +kernel
theorem dX7_growEach_2 : decode cX7_growEach 2 = .ok (.iload_n 2, 1) := by decide +kernel
theorem dX7_growEach_3 : decode cX7_growEach 3 = .ok (.aload_n 0, 1) := by decide +kernel
theorem dX7_growEach_4 : decode cX7_growEach 4 = .ok (.getfield 30, 3) := by decide +kernel
theorem dX7_growEach_7 : decode cX7_growEach 7 = .ok (.if_icmp .ge 32, 3) := by decide +kernel
theorem dX7_growEach_10 : decode cX7_growEach 10 = .ok (.aload_n 0, 1) := by decide +kernel
theorem dX7_growEach_11 : decode cX7_growEach 11 = .ok (.getfield 11, 3) := by decide +kernel
theorem dX7_growEach_14 : decode cX7_growEach 14 = .ok (.iload_n 2, 1) := by decide +kernel
theorem dX7_growEach_15 : decode cX7_growEach 15 = .ok (.aaload, 1) := by decide +kernel
theorem dX7_growEach_16 : decode cX7_growEach 16 = .ok (.iload_n 1, 1) := by decide +kernel
theorem dX7_growEach_17 : decode cX7_growEach 17 = .ok (.iload_n 2, 1) := by decide +kernel
theorem dX7_growEach_18 : decode cX7_growEach 18 = .ok (.ishr, 1) := by decide +kernel
theorem dX7_growEach_19 : decode cX7_growEach 19 = .ok (.iconst 1, 1) := by decide +kernel
theorem dX7_growEach_20 : decode cX7_growEach 20 = .ok (.iand, 1) := by decide +kernel
theorem dX7_growEach_21 : decode cX7_growEach 21 = .ok (.iconst 1, 1) := by decide +kernel
theorem dX7_growEach_22 : decode cX7_growEach 22 = .ok (.if_icmp .ne 7, 3) := by decide +kernel
theorem dX7_growEach_25 : decode cX7_growEach 25 = .ok (.iconst 1, 1) := by decide +kernel
theorem dX7_growEach_26 : decode cX7_growEach 26 = .ok (.goto 4, 3) := by decide +kernel
theorem dX7_growEach_29 : decode cX7_growEach 29 = .ok (.iconst 0, 1) := by decide +kernel
theorem dX7_growEach_30 : decode cX7_growEach 30 = .ok (.invokevirtual 109, 3) := by decide +kernel
theorem dX7_growEach_33 : decode cX7_growEach 33 = .ok (.iinc 2 1, 3) := by decide +kernel
theorem dX7_growEach_36 : decode cX7_growEach 36 = .ok (.goto (-34), 3) := by decide +kernel
theorem dX7_growEach_39 : decode cX7_growEach 39 = .ok (.return_, 1) := by decide +kernel
theorem dX7_strengthen_0 : decode cX7_strengthen 0 = .ok (.iconst 0, 1) := by decide +kernel
theorem dX7_strengthen_1 : decode cX7_strengthen 1 = .ok (.istore_n 3, 1) := by decide +kernel
theorem dX7_strengthen_2 : decode cX7_strengthen 2 = .ok (.iload_n 3, 1) := by decide +kernel
theorem dX7_strengthen_3 : decode cX7_strengthen 3 = .ok (.aload_n 0, 1) := by decide +kernel
theorem dX7_strengthen_4 : decode cX7_strengthen 4 = .ok (.getfield 34, 3) := by decide +kernel
theorem dX7_strengthen_7 : decode cX7_strengthen 7 = .ok (.if_icmp .ge 44, 3) := by decide +kernel
theorem dX7_strengthen_10 : decode cX7_strengthen 10 = .ok (.aload_n 0, 1) := by decide +kernel
theorem dX7_strengthen_11 : decode cX7_strengthen 11 = .ok (.getfield 19, 3) := by decide +kernel
theorem dX7_strengthen_14 : decode cX7_strengthen 14 = .ok (.iload_n 3, 1) := by decide +kernel
theorem dX7_strengthen_15 : decode cX7_strengthen 15 = .ok (.aaload, 1) := by decide +kernel
theorem dX7_strengthen_16 : decode cX7_strengthen 16 = .ok (.getfield 88, 3) := by decide +kernel
theorem dX7_strengthen_19 : decode cX7_strengthen 19 = .ok (.iload_n 1, 1) := by decide +kernel
theorem dX7_strengthen_20 : decode cX7_strengthen 20 = .ok (.if_icmp .ne 25, 3) := by decide +kernel
theorem dX7_strengthen_23 : decode cX7_strengthen 23 = .ok (.aload_n 0, 1) := by decide +kernel
theorem dX7_strengthen_24 : decode cX7_strengthen 24 = .ok (.getfield 19, 3) := by decide +kernel
theorem dX7_strengthen_27 : decode cX7_strengthen 27 = .ok (.iload_n 3, 1) := by decide +kernel
theorem dX7_strengthen_28 : decode cX7_strengthen 28 = .ok (.aaload, 1) := by decide +kernel
theorem dX7_strengthen_29 : decode cX7_strengthen 29 = .ok (.aload_n 0, 1) := by decide +kernel
theorem dX7_strengthen_30 : decode cX7_strengthen 30 = .ok (.getfield 19, 3) := by decide +kernel
theorem dX7_strengthen_33 : decode cX7_strengthen 33 = .ok (.iload_n 3, 1) := by decide +kernel
theorem dX7_strengthen_34 : decode cX7_strengthen 34 = .ok (.aaload, 1) := by decide +kernel
theorem dX7_strengthen_35 : decode cX7_strengthen 35 = .ok (.getfield 120, 3) := by decide +kernel
theorem dX7_strengthen_38 : decode cX7_strengthen 38 = .ok (.iload_n 2, 1) := by decide +kernel
theorem dX7_strengthen_39 : decode cX7_strengthen 39 = .ok (.invokestatic 123, 3) := by decide +kernel
theorem dX7_strengthen_42 : decode cX7_strengthen 42 = .ok (.putfield 120, 3) := by decide +kernel
theorem dX7_strengthen_45 : decode cX7_strengthen 45 = .ok (.iinc 3 1, 3) := by decide +kernel
theorem dX7_strengthen_48 : decode cX7_strengthen 48 = .ok (.goto (-46), 3) := by decide +kernel
theorem dX7_strengthen_51 : decode cX7_strengthen 51 = .ok (.return_, 1) := by decide +kernel
theorem dX7_firstSwap_0 : decode cX7_firstSwap 0 = .ok (.iconst 0, 1) := by decide +kernel
theorem dX7_firstSwap_1 : decode cX7_firstSwap 1 = .ok (.istore_n 2, 1) := by decide +kernel
theorem dX7_firstSwap_2 : decode cX7_firstSwap 2 = .ok (.iload_n 2, 1) := by decide +kernel
theorem dX7_firstSwap_3 : decode cX7_firstSwap 3 = .ok (.iconst 2, 1) := by decide +kernel
theorem dX7_firstSwap_4 : decode cX7_firstSwap 4 = .ok (.if_icmp .ge 104, 3) := by decide +kernel
theorem dX7_firstSwap_7 : decode cX7_firstSwap 7 = .ok (.iconst 0, 1) := by decide +kernel
theorem dX7_firstSwap_8 : decode cX7_firstSwap 8 = .ok (.istore_n 3, 1) := by decide +kernel
theorem dX7_firstSwap_9 : decode cX7_firstSwap 9 = .ok (.iload_n 3, 1) := by decide +kernel
theorem dX7_firstSwap_10 : decode cX7_firstSwap 10 = .ok (.aload_n 0, 1) := by decide +kernel
theorem dX7_firstSwap_11 : decode cX7_firstSwap 11 = .ok (.getfield 30, 3) := by decide +kernel
theorem dX7_firstSwap_14 : decode cX7_firstSwap 14 = .ok (.if_icmp .ge 88, 3) := by decide +kernel
theorem dX7_firstSwap_17 : decode cX7_firstSwap 17 = .ok (.aload_n 0, 1) := by decide +kernel
theorem dX7_firstSwap_18 : decode cX7_firstSwap 18 = .ok (.iload_n 3, 1) := by decide +kernel
theorem dX7_firstSwap_19 : decode cX7_firstSwap 19 = .ok (.iload_n 2, 1) := by decide +kernel
theorem dX7_firstSwap_20 : decode cX7_firstSwap 20 = .ok (.invokevirtual 99, 3) := by decide +kernel
theorem dX7_firstSwap_23 : decode cX7_firstSwap 23 = .ok (.istore 4, 2) := by decide +kernel
theorem dX7_firstSwap_25 : decode cX7_firstSwap 25 = .ok (.iload_n 3, 1) := by decide +kernel
theorem dX7_firstSwap_26 : decode cX7_firstSwap 26 = .ok (.iconst 1, 1) := by decide +kernel
theorem dX7_firstSwap_27 : decode cX7_firstSwap 27 = .ok (.iadd, 1) := by decide +kernel
theorem dX7_firstSwap_28 : decode cX7_firstSwap 28 = .ok (.istore 5, 2) := by decide +kernel
theorem dX7_firstSwap_30 : decode cX7_firstSwap 30 = .ok (.iload 5, 2) := by decide +kernel
theorem dX7_firstSwap_32 : decode cX7_firstSwap 32 = .ok (.aload_n 0, 1) := by decide +kernel
theorem dX7_firstSwap_33 : decode cX7_firstSwap 33 = .ok (.getfield 30, 3) := by decide +kernel
theorem dX7_firstSwap_36 : decode cX7_firstSwap 36 = .ok (.if_icmp .ge 60, 3) := by decide +kernel
theorem dX7_firstSwap_39 : decode cX7_firstSwap 39 = .ok (.iload 4, 2) := by decide +kernel
theorem dX7_firstSwap_41 : decode cX7_firstSwap 41 = .ok (.bipush (-4), 2) := by decide +kernel
theorem dX7_firstSwap_43 : decode cX7_firstSwap 43 = .ok (.if_icmp .eq 53, 3) := by decide +kernel
theorem dX7_firstSwap_46 : decode cX7_firstSwap 46 = .ok (.aload_n 0, 1) := by decide +kernel
theorem dX7_firstSwap_47 : decode cX7_firstSwap 47 = .ok (.iload 5, 2) := by decide +kernel
theorem dX7_firstSwap_49 : decode cX7_firstSwap 49 = .ok (.iload_n 2, 1) := by decide +kernel
theorem dX7_firstSwap_50 : decode cX7_firstSwap 50 = .ok (.invokevirtual 99, 3) := by decide +kernel
theorem dX7_firstSwap_53 : decode cX7_firstSwap 53 = .ok (.istore 6, 2) := by decide +kernel
theorem dX7_firstSwap_55 : decode cX7_firstSwap 55 = .ok (.iload 6, 2) := by decide +kernel
theorem dX7_firstSwap_57 : decode cX7_firstSwap 57 = .ok (.bipush (-4), 2) := by decide +kernel
theorem dX7_firstSwap_59 : decode cX7_firstSwap 59 = .ok (.if_icmp .eq 31, 3) := by decide +kernel
theorem dX7_firstSwap_62 : decode cX7_firstSwap 62 = .ok (.aload_n 0, 1) := by decide +kernel
theorem dX7_firstSwap_63 : decode cX7_firstSwap 63 = .ok (.iload_n 3, 1) := by decide +kernel
theorem dX7_firstSwap_64 : decode cX7_firstSwap 64 = .ok (.iload 4, 2) := by decide +kernel
theorem dX7_firstSwap_66 : decode cX7_firstSwap 66 = .ok (.iload 5, 2) := by decide +kernel
theorem dX7_firstSwap_68 : decode cX7_firstSwap 68 = .ok (.iload 6, 2) := by decide +kernel
theorem dX7_firstSwap_70 : decode cX7_firstSwap 70 = .ok (.iload_n 1, 1) := by decide +kernel
theorem dX7_firstSwap_71 : decode cX7_firstSwap 71 = .ok (.invokevirtual 126, 3) := by decide +kernel
theorem dX7_firstSwap_74 : decode cX7_firstSwap 74 = .ok (.ifCond .eq 16, 3) := by decide +kernel
theorem dX7_firstSwap_77 : decode cX7_firstSwap 77 = .ok (.bipush 100, 2) := by decide +kernel
theorem dX7_firstSwap_79 : decode cX7_firstSwap 79 = .ok (.iload_n 2, 1) := by decide +kernel
theorem dX7_firstSwap_80 : decode cX7_firstSwap 80 = .ok (.imul, 1) := by decide +kernel
theorem dX7_firstSwap_81 : decode cX7_firstSwap 81 = .ok (.bipush 10, 2) := by decide +kernel
theorem dX7_firstSwap_83 : decode cX7_firstSwap 83 = .ok (.iload_n 3, 1) := by decide +kernel
theorem dX7_firstSwap_84 : decode cX7_firstSwap 84 = .ok (.imul, 1) := by decide +kernel
theorem dX7_firstSwap_85 : decode cX7_firstSwap 85 = .ok (.iadd, 1) := by decide +kernel
theorem dX7_firstSwap_86 : decode cX7_firstSwap 86 = .ok (.iload 5, 2) := by decide +kernel
theorem dX7_firstSwap_88 : decode cX7_firstSwap 88 = .ok (.iadd, 1) := by decide +kernel
theorem dX7_firstSwap_89 : decode cX7_firstSwap 89 = .ok (.ireturn, 1) := by decide +kernel
theorem dX7_firstSwap_90 : decode cX7_firstSwap 90 = .ok (.iinc 5 1, 3) := by decide +kernel
theorem dX7_firstSwap_93 : decode cX7_firstSwap 93 = .ok (.goto (-63), 3) := by decide +kernel
theorem dX7_firstSwap_96 : decode cX7_firstSwap 96 = .ok (.iinc 3 1, 3) := by decide +kernel
theorem dX7_firstSwap_99 : decode cX7_firstSwap 99 = .ok (.goto (-90), 3) := by decide +kernel
theorem dX7_firstSwap_102 : decode cX7_firstSwap 102 = .ok (.iinc 2 1, 3) := by decide +kernel
theorem dX7_firstSwap_105 : decode cX7_firstSwap 105 = .ok (.goto (-103), 3) := by decide +kernel
theorem dX7_firstSwap_108 : decode cX7_firstSwap 108 = .ok (.bipush (-4), 2) := by decide +kernel
theorem dX7_firstSwap_110 : decode cX7_firstSwap 110 = .ok (.ireturn, 1) := by decide +kernel
theorem dX7_bothWant_0 : decode cX7_bothWant 0 = .ok (.aload_n 0, 1) := by decide +kernel
theorem dX7_bothWant_1 : decode cX7_bothWant 1 = .ok (.iload_n 1, 1) := by decide +kernel
theorem dX7_bothWant_2 : decode cX7_bothWant 2 = .ok (.iload 4, 2) := by decide +kernel
theorem dX7_bothWant_4 : decode cX7_bothWant 4 = .ok (.iload 5, 2) := by decide +kernel
theorem dX7_bothWant_6 : decode cX7_bothWant 6 = .ok (.invokevirtual 117, 3) := by decide +kernel
theorem dX7_bothWant_9 : decode cX7_bothWant 9 = .ok (.iconst 1, 1) := by decide +kernel
theorem dX7_bothWant_10 : decode cX7_bothWant 10 = .ok (.if_icmp .ne 51, 3) := by decide +kernel
theorem dX7_bothWant_13 : decode cX7_bothWant 13 = .ok (.aload_n 0, 1) := by decide +kernel
theorem dX7_bothWant_14 : decode cX7_bothWant 14 = .ok (.iload_n 3, 1) := by decide +kernel
theorem dX7_bothWant_15 : decode cX7_bothWant 15 = .ok (.iload_n 2, 1) := by decide +kernel
theorem dX7_bothWant_16 : decode cX7_bothWant 16 = .ok (.iload 5, 2) := by decide +kernel
theorem dX7_bothWant_18 : decode cX7_bothWant 18 = .ok (.invokevirtual 117, 3) := by decide +kernel
theorem dX7_bothWant_21 : decode cX7_bothWant 21 = .ok (.iconst 1, 1) := by decide +kernel
theorem dX7_bothWant_22 : decode cX7_bothWant 22 = .ok (.if_icmp .ne 39, 3) := by decide +kernel
theorem dX7_bothWant_25 : decode cX7_bothWant 25 = .ok (.aload_n 0, 1) := by decide +kernel
theorem dX7_bothWant_26 : decode cX7_bothWant 26 = .ok (.iload_n 1, 1) := by decide +kernel
theorem dX7_bothWant_27 : decode cX7_bothWant 27 = .ok (.iload 4, 2) := by decide +kernel
theorem dX7_bothWant_29 : decode cX7_bothWant 29 = .ok (.invokevirtual 130, 3) := by decide +kernel
theorem dX7_bothWant_32 : decode cX7_bothWant 32 = .ok (.aload_n 0, 1) := by decide +kernel
theorem dX7_bothWant_33 : decode cX7_bothWant 33 = .ok (.iload_n 1, 1) := by decide +kernel
theorem dX7_bothWant_34 : decode cX7_bothWant 34 = .ok (.iload_n 2, 1) := by decide +kernel
theorem dX7_bothWant_35 : decode cX7_bothWant 35 = .ok (.invokevirtual 130, 3) := by decide +kernel
theorem dX7_bothWant_38 : decode cX7_bothWant 38 = .ok (.if_icmp .le 23, 3) := by decide +kernel
theorem dX7_bothWant_41 : decode cX7_bothWant 41 = .ok (.aload_n 0, 1) := by decide +kernel
theorem dX7_bothWant_42 : decode cX7_bothWant 42 = .ok (.iload_n 3, 1) := by decide +kernel
theorem dX7_bothWant_43 : decode cX7_bothWant 43 = .ok (.iload_n 2, 1) := by decide +kernel
theorem dX7_bothWant_44 : decode cX7_bothWant 44 = .ok (.invokevirtual 130, 3) := by decide +kernel
theorem dX7_bothWant_47 : decode cX7_bothWant 47 = .ok (.aload_n 0, 1) := by decide +kernel
theorem dX7_bothWant_48 : decode cX7_bothWant 48 = .ok (.iload_n 3, 1) := by decide +kernel
theorem dX7_bothWant_49 : decode cX7_bothWant 49 = .ok (.iload 4, 2) := by decide +kernel
theorem dX7_bothWant_51 : decode cX7_bothWant 51 = .ok (.invokevirtual 130, 3) := by decide +kernel
theorem dX7_bothWant_54 : decode cX7_bothWant 54 = .ok (.if_icmp .le 7, 3) := by decide +kernel
theorem dX7_bothWant_57 : decode cX7_bothWant 57 = .ok (.iconst 1, 1) := by decide +kernel
theorem dX7_bothWant_58 : decode cX7_bothWant 58 = .ok (.goto 4, 3) := by decide +kernel
theorem dX7_bothWant_61 : decode cX7_bothWant 61 = .ok (.iconst 0, 1) := by decide +kernel
theorem dX7_bothWant_62 : decode cX7_bothWant 62 = .ok (.ireturn, 1) := by decide +kernel
theorem dX7_makeSwap_0 : decode cX7_makeSwap 0 = .ok (.aload_n 0, 1) := by decide +kernel
theorem dX7_makeSwap_1 : decode cX7_makeSwap 1 = .ok (.iload_n 2, 1) := by decide +kernel
theorem dX7_makeSwap_2 : decode cX7_makeSwap 2 = .ok (.iload_n 1, 1) := by decide +kernel
theorem dX7_makeSwap_3 : decode cX7_makeSwap 3 = .ok (.invokevirtual 99, 3) := by decide +kernel
theorem dX7_makeSwap_6 : decode cX7_makeSwap 6 = .ok (.istore 4, 2) := by decide +kernel
theorem dX7_makeSwap_8 : decode cX7_makeSwap 8 = .ok (.aload_n 0, 1) := by decide +kernel
theorem dX7_makeSwap_9 : decode cX7_makeSwap 9 = .ok (.iload_n 3, 1) := by decide +kernel
theorem dX7_makeSwap_10 : decode cX7_makeSwap 10 = .ok (.iload_n 1, 1) := by decide +kernel
theorem dX7_makeSwap_11 : decode cX7_makeSwap 11 = .ok (.invokevirtual 99, 3) := by decide +kernel
theorem dX7_makeSwap_14 : decode cX7_makeSwap 14 = .ok (.istore 5, 2) := by decide +kernel
theorem dX7_makeSwap_16 : decode cX7_makeSwap 16 = .ok (.aload_n 0, 1) := by decide +kernel
theorem dX7_makeSwap_17 : decode cX7_makeSwap 17 = .ok (.iload 4, 2) := by decide +kernel
theorem dX7_makeSwap_19 : decode cX7_makeSwap 19 = .ok (.invokevirtual 133, 3) := by decide +kernel
theorem dX7_makeSwap_22 : decode cX7_makeSwap 22 = .ok (.ifCond .eq 34, 3) := by decide +kernel
theorem dX7_makeSwap_25 : decode cX7_makeSwap 25 = .ok (.aload_n 0, 1) := by decide +kernel
theorem dX7_makeSwap_26 : decode cX7_makeSwap 26 = .ok (.iload 5, 2) := by decide +kernel
theorem dX7_makeSwap_28 : decode cX7_makeSwap 28 = .ok (.invokevirtual 133, 3) := by decide +kernel
theorem dX7_makeSwap_31 : decode cX7_makeSwap 31 = .ok (.ifCond .eq 25, 3) := by decide +kernel
theorem dX7_makeSwap_34 : decode cX7_makeSwap 34 = .ok (.aload_n 0, 1) := by decide +kernel
theorem dX7_makeSwap_35 : decode cX7_makeSwap 35 = .ok (.getfield 19, 3) := by decide +kernel
theorem dX7_makeSwap_38 : decode cX7_makeSwap 38 = .ok (.iload 4, 2) := by decide +kernel
theorem dX7_makeSwap_40 : decode cX7_makeSwap 40 = .ok (.aaload, 1) := by decide +kernel
theorem dX7_makeSwap_41 : decode cX7_makeSwap 41 = .ok (.iload_n 3, 1) := by decide +kernel
theorem dX7_makeSwap_42 : decode cX7_makeSwap 42 = .ok (.putfield 91, 3) := by decide +kernel
theorem dX7_makeSwap_45 : decode cX7_makeSwap 45 = .ok (.aload_n 0, 1) := by decide +kernel
theorem dX7_makeSwap_46 : decode cX7_makeSwap 46 = .ok (.getfield 19, 3) := by decide +kernel
theorem dX7_makeSwap_49 : decode cX7_makeSwap 49 = .ok (.iload 5, 2) := by decide +kernel
theorem dX7_makeSwap_51 : decode cX7_makeSwap 51 = .ok (.aaload, 1) := by decide +kernel
theorem dX7_makeSwap_52 : decode cX7_makeSwap 52 = .ok (.iload_n 2, 1) := by decide +kernel
theorem dX7_makeSwap_53 : decode cX7_makeSwap 53 = .ok (.putfield 91, 3) := by decide +kernel
theorem dX7_makeSwap_56 : decode cX7_makeSwap 56 = .ok (.return_, 1) := by decide +kernel
theorem dX8_init_0 : decode cX8_init 0 = .ok (.aload_n 0, 1) := by decide +kernel
theorem dX8_init_1 : decode cX8_init 1 = .ok (.invokespecial 1, 3) := by decide +kernel
theorem dX8_init_4 : decode cX8_init 4 = .ok (.aload_n 0, 1) := by decide +kernel
theorem dX8_init_5 : decode cX8_init 5 = .ok (.new 7, 3) := by decide +kernel
theorem dX8_init_8 : decode cX8_init 8 = .ok (.dup, 1) := by decide +kernel
theorem dX8_init_9 : decode cX8_init 9 = .ok (.invokespecial 9, 3) := by decide +kernel
theorem dX8_init_12 : decode cX8_init 12 = .ok (.putfield 10, 3) := by decide +kernel
theorem dX8_init_15 : decode cX8_init 15 = .ok (.aload_n 0, 1) := by decide +kernel
theorem dX8_init_16 : decode cX8_init 16 = .ok (.new 16, 3) := by decide +kernel
theorem dX8_init_19 : decode cX8_init 19 = .ok (.dup, 1) := by decide +kernel
theorem dX8_init_20 : decode cX8_init 20 = .ok (.invokespecial 18, 3) := by decide +kernel
theorem dX8_init_23 : decode cX8_init 23 = .ok (.putfield 19, 3) := by decide +kernel
theorem dX8_init_26 : decode cX8_init 26 = .ok (.aload_n 0, 1) := by decide +kernel
theorem dX8_init_27 : decode cX8_init 27 = .ok (.new 16, 3) := by decide +kernel
theorem dX8_init_30 : decode cX8_init 30 = .ok (.dup, 1) := by decide +kernel
theorem dX8_init_31 : decode cX8_init 31 = .ok (.invokespecial 18, 3) := by decide +kernel
theorem dX8_init_34 : decode cX8_init 34 = .ok (.putfield 23, 3) := by decide +kernel
theorem dX8_init_37 : decode cX8_init 37 = .ok (.aload_n 0, 1) := by decide +kernel
theorem dX8_init_38 : decode cX8_init 38 = .ok (.new 26, 3) := by decide +kernel
theorem dX8_init_41 : decode cX8_init 41 = .ok (.dup, 1) := by decide +kernel
theorem dX8_init_42 : decode cX8_init 42 = .ok (.aload_n 0, 1) := by decide +kernel
theorem dX8_init_43 : decode cX8_init 43 = .ok (.getfield 10, 3) := by decide +kernel
theorem dX8_init_46 : decode cX8_init 46 = .ok (.aload_n 0, 1) := by decide +kernel
theorem dX8_init_47 : decode cX8_init 47 = .ok (.getfield 23, 3) := by decide +kernel
theorem dX8_init_50 : decode cX8_init 50 = .ok (.invokespecial 28, 3) := by decide +kernel
theorem dX8_init_53 : decode cX8_init 53 = .ok (.putfield 31, 3) := by decide +kernel
theorem dX8_init_56 : decode cX8_init 56 = .ok (.aload_n 0, 1) := by decide +kernel
theorem dX8_init_57 : decode cX8_init 57 = .ok (.iconst 2, 1) := by decide +kernel
theorem dX8_init_58 : decode cX8_init 58 = .ok (.anewarray 16, 3) := by decide +kernel
theorem dX8_init_61 : decode cX8_init 61 = .ok (.putfield 35, 3) := by decide +kernel
theorem dX8_init_64 : decode cX8_init 64 = .ok (.aload_n 0, 1) := by decide +kernel
theorem dX8_init_65 : decode cX8_init 65 = .ok (.iconst 2, 1) := by decide +kernel
theorem dX8_init_66 : decode cX8_init 66 = .ok (.newarray .boolean, 2) := by decide +kernel
theorem dX8_init_68 : decode cX8_init 68 = .ok (.putfield 39, 3) := by decide +kernel
theorem dX8_init_71 : decode cX8_init 71 = .ok (.aload_n 0, 1) := by decide +kernel
theorem dX8_init_72 : decode cX8_init 72 = .ok (.iconst 4, 1) := by decide +kernel
theorem dX8_init_73 : decode cX8_init 73 = .ok (.anewarray 43, 3) := by decide +kernel
theorem dX8_init_76 : decode cX8_init 76 = .ok (.putfield 45, 3) := by decide +kernel
theorem dX8_init_79 : decode cX8_init 79 = .ok (.aload_n 0, 1) := by decide +kernel
theorem dX8_init_80 : decode cX8_init 80 = .ok (.new 49, 3) := by decide +kernel
theorem dX8_init_83 : decode cX8_init 83 = .ok (.dup, 1) := by decide +kernel
theorem dX8_init_84 : decode cX8_init 84 = .ok (.invokespecial 51, 3) := by decide +kernel
theorem dX8_init_87 : decode cX8_init 87 = .ok (.putfield 52, 3) := by decide +kernel
theorem dX8_init_90 : decode cX8_init 90 = .ok (.aload_n 0, 1) := by decide +kernel
theorem dX8_init_91 : decode cX8_init 91 = .ok (.new 56, 3) := by decide +kernel
theorem dX8_init_94 : decode cX8_init 94 = .ok (.dup, 1) := by decide +kernel
theorem dX8_init_95 : decode cX8_init 95 = .ok (.invokespecial 58, 3) := by decide +kernel
theorem dX8_init_98 : decode cX8_init 98 = .ok (.putfield 59, 3) := by decide +kernel
theorem dX8_init_101 : decode cX8_init 101 = .ok (.aload_n 0, 1) := by decide +kernel
theorem dX8_init_102 : decode cX8_init 102 = .ok (.iconst 4, 1) := by decide +kernel
theorem dX8_init_103 : decode cX8_init 103 = .ok (.newarray .int, 2) := by decide +kernel
theorem dX8_init_105 : decode cX8_init 105 = .ok (.putfield 63, 3) := by decide +kernel
theorem dX8_init_108 : decode cX8_init 108 = .ok (.aload_n 0, 1) := by decide +kernel
theorem dX8_init_109 : decode cX8_init 109 = .ok (.iconst 2, 1) := by decide +kernel
theorem dX8_init_110 : decode cX8_init 110 = .ok (.putfield 67, 3) := by decide +kernel
theorem dX8_init_113 : decode cX8_init 113 = .ok (.aload_n 0, 1) := by decide +kernel
theorem dX8_init_114 : decode cX8_init 114 = .ok (.iconst 0, 1) := by decide +kernel
theorem dX8_init_115 : decode cX8_init 115 = .ok (.putfield 71, 3) := by decide +kernel
theorem dX8_init_118 : decode cX8_init 118 = .ok (.aload_n 0, 1) := by decide +kernel
theorem dX8_init_119 : decode cX8_init 119 = .ok (.iconst 0, 1) := by decide +kernel
theorem dX8_init_120 : decode cX8_init 120 = .ok (.putfield 74, 3) := by decide +kernel
theorem dX8_init_123 : decode cX8_init 123 = .ok (.iconst 0, 1) := by decide +kernel
theorem dX8_init_124 : decode cX8_init 124 = .ok (.istore_n 1, 1) := by decide +kernel
theorem dX8_init_125 : decode cX8_init 125 = .ok (.iload_n 1, 1) := by decide +kernel
theorem dX8_init_126 : decode cX8_init 126 = .ok (.iconst 2, 1) := by decide +kernel
theorem dX8_init_127 : decode cX8_init 127 = .ok (.if_icmp .ge 22, 3) := by decide +kernel
theorem dX8_init_130 : decode cX8_init 130 = .ok (.aload_n 0, 1) := by decide +kernel
theorem dX8_init_131 : decode cX8_init 131 = .ok (.getfield 35, 3) := by decide +kernel
theorem dX8_init_134 : decode cX8_init 134 = .ok (.iload_n 1, 1) := by decide +kernel
theorem dX8_init_135 : decode cX8_init 135 = .ok (.new 16, 3) := by decide +kernel
theorem dX8_init_138 : decode cX8_init 138 = .ok (.dup, 1) := by decide +kernel
theorem dX8_init_139 : decode cX8_init 139 = .ok (.invokespecial 18, 3) := by decide +kernel
theorem dX8_init_142 : decode cX8_init 142 = .ok (.aastore, 1) := by decide +kernel
theorem dX8_init_143 : decode cX8_init 143 = .ok (.iinc 1 1, 3) := by decide +kernel
theorem dX8_init_146 : decode cX8_init 146 = .ok (.goto (-21), 3) := by decide +kernel
theorem dX8_init_149 : decode cX8_init 149 = .ok (.iconst 0, 1) := by decide +kernel
theorem dX8_init_150 : decode cX8_init 150 = .ok (.istore_n 1, 1) := by decide +kernel
theorem dX8_init_151 : decode cX8_init 151 = .ok (.iload_n 1, 1) := by decide +kernel
theorem dX8_init_152 : decode cX8_init 152 = .ok (.iconst 4, 1) := by decide +kernel
theorem dX8_init_153 : decode cX8_init 153 = .ok (.if_icmp .ge 22, 3) := by decide +kernel
theorem dX8_init_156 : decode cX8_init 156 = .ok (.aload_n 0, 1) := by decide +kernel
theorem dX8_init_157 : decode cX8_init 157 = .ok (.getfield 45, 3) := by decide +kernel
theorem dX8_init_160 : decode cX8_init 160 = .ok (.iload_n 1, 1) := by decide +kernel
theorem dX8_init_161 : decode cX8_init 161 = .ok (.new 43, 3) := by decide +kernel
theorem dX8_init_164 : decode cX8_init 164 = .ok (.dup, 1) := by decide +kernel
theorem dX8_init_165 : decode cX8_init 165 = .ok (.invokespecial 77, 3) := by decide +kernel
theorem dX8_init_168 : decode cX8_init 168 = .ok (.aastore, 1) := by decide +kernel
theorem dX8_init_169 : decode cX8_init 169 = .ok (.iinc 1 1, 3) := by decide +kernel
theorem dX8_init_172 : decode cX8_init 172 = .ok (.goto (-21), 3) := by decide +kernel
theorem dX8_init_175 : decode cX8_init 175 = .ok (.return_, 1) := by decide +kernel
theorem dX8_feed_0 : decode cX8_feed 0 = .ok (.aload_n 0, 1) := by decide +kernel
theorem dX8_feed_1 : decode cX8_feed 1 = .ok (.getfield 10, 3) := by decide +kernel
theorem dX8_feed_4 : decode cX8_feed 4 = .ok (.lload_n 1, 1) := by decide +kernel
theorem dX8_feed_5 : decode cX8_feed 5 = .ok (.invokevirtual 78, 3) := by decide +kernel
theorem dX8_feed_8 : decode cX8_feed 8 = .ok (.ifCond .eq 13, 3) := by decide +kernel
theorem dX8_feed_11 : decode cX8_feed 11 = .ok (.aload_n 0, 1) := by decide +kernel
theorem dX8_feed_12 : decode cX8_feed 12 = .ok (.getfield 10, 3) := by decide +kernel
theorem dX8_feed_15 : decode cX8_feed 15 = .ok (.getfield 82, 3) := by decide +kernel
theorem dX8_feed_18 : decode cX8_feed 18 = .ok (.goto 5, 3) := by decide +kernel
theorem dX8_feed_21 : decode cX8_feed 21 = .ok (.bipush (-3), 2) := by decide +kernel
theorem dX8_feed_23 : decode cX8_feed 23 = .ok (.ireturn, 1) := by decide +kernel
theorem dX8_end_0 : decode cX8_end 0 = .ok (.iload_n 1, 1) := by decide +kernel
theorem dX8_end_1 : decode cX8_end 1 = .ok (.iconst 0, 1) := by decide +kernel
theorem dX8_end_2 : decode cX8_end 2 = .ok (.aload_n 0, 1) := by decide +kernel
theorem dX8_end_3 : decode cX8_end 3 = .ok (.getfield 10, 3) := by decide +kernel
theorem dX8_end_6 : decode cX8_end 6 = .ok (.getfield 82, 3) := by decide +kernel
theorem dX8_end_9 : decode cX8_end 9 = .ok (.invokestatic 85, 3) := by decide +kernel
theorem dX8_end_12 : decode cX8_end 12 = .ok (.ifCond .ne 5, 3) := by decide +kernel
theorem dX8_end_15 : decode cX8_end 15 = .ok (.iconst (-1), 1) := by decide +kernel
theorem dX8_end_16 : decode cX8_end 16 = .ok (.ireturn, 1) := by decide +kernel
theorem dX8_end_17 : decode cX8_end 17 = .ok (.aload_n 0, 1) := by decide +kernel
theorem dX8_end_18 : decode cX8_end 18 = .ok (.getfield 10, 3) := by decide +kernel
theorem dX8_end_21 : decode cX8_end 21 = .ok (.getfield 82, 3) := by decide +kernel
theorem dX8_end_24 : decode cX8_end 24 = .ok (.istore_n 2, 1) := by decide +kernel
theorem dX8_end_25 : decode cX8_end 25 = .ok (.aload_n 0, 1) := by decide +kernel
theorem dX8_end_26 : decode cX8_end 26 = .ok (.getfield 10, 3) := by decide +kernel
theorem dX8_end_29 : decode cX8_end 29 = .ok (.iload_n 1, 1) := by decide +kernel
theorem dX8_end_30 : decode cX8_end 30 = .ok (.putfield 82, 3) := by decide +kernel
theorem dX8_end_33 : decode cX8_end 33 = .ok (.iload_n 2, 1) := by decide +kernel
theorem dX8_end_34 : decode cX8_end 34 = .ok (.ireturn, 1) := by decide +kernel
theorem dX8_text_0 : decode cX8_text 0 = .ok (.aload_n 0, 1) := by decide +kernel
theorem dX8_text_1 : decode cX8_text 1 = .ok (.getfield 31, 3) := by decide +kernel
theorem dX8_text_4 : decode cX8_text 4 = .ok (.invokevirtual 89, 3) := by decide +kernel
theorem dX8_text_7 : decode cX8_text 7 = .ok (.istore_n 1, 1) := by decide +kernel
theorem dX8_text_8 : decode cX8_text 8 = .ok (.aload_n 0, 1) := by decide +kernel
theorem dX8_text_9 : decode cX8_text 9 = .ok (.getfield 10, 3) := by decide +kernel
theorem dX8_text_12 : decode cX8_text 12 = .ok (.iconst 0, 1) := by decide +kernel
theorem dX8_text_13 : decode cX8_text 13 = .ok (.putfield 82, 3) := by decide +kernel
theorem dX8_text_16 : decode cX8_text 16 = .ok (.aload_n 0, 1) := by decide +kernel
theorem dX8_text_17 : decode cX8_text 17 = .ok (.aload_n 0, 1) := by decide +kernel
theorem dX8_text_18 : decode cX8_text 18 = .ok (.getfield 31, 3) := by decide +kernel
theorem dX8_text_21 : decode cX8_text 21 = .ok (.getfield 93, 3) := by decide +kernel
theorem dX8_text_24 : decode cX8_text 24 = .ok (.putfield 71, 3) := by decide +kernel
theorem dX8_text_27 : decode cX8_text 27 = .ok (.aload_n 0, 1) := by decide +kernel
theorem dX8_text_28 : decode cX8_text 28 = .ok (.getfield 71, 3) := by decide +kernel
theorem dX8_text_31 : decode cX8_text 31 = .ok (.ifCond .eq 14, 3) := by decide +kernel
theorem dX8_text_34 : decode cX8_text 34 = .ok (.bipush (-10), 2) := by decide +kernel
theorem dX8_text_36 : decode cX8_text 36 = .ok (.aload_n 0, 1) := by decide +kernel
theorem dX8_text_37 : decode cX8_text 37 = .ok (.getfield 31, 3) := by decide +kernel
theorem dX8_text_40 : decode cX8_text 40 = .ok (.getfield 96, 3) := by decide +kernel
theorem dX8_text_43 : decode cX8_text 43 = .ok (.isub, 1) := by decide +kernel
theorem dX8_text_44 : decode cX8_text 44 = .ok (.ireturn, 1) := by decide +kernel
theorem dX8_text_45 : decode cX8_text 45 = .ok (.aload_n 0, 1) := by decide +kernel
theorem dX8_text_46 : decode cX8_text 46 = .ok (.getfield 19, 3) := by decide +kernel
theorem dX8_text_49 : decode cX8_text 49 = .ok (.aload_n 0, 1) := by decide +kernel
theorem dX8_text_50 : decode cX8_text 50 = .ok (.getfield 23, 3) := by decide +kernel
theorem dX8_text_53 : decode cX8_text 53 = .ok (.invokevirtual 99, 3) := by decide +kernel
theorem dX8_text_56 : decode cX8_text 56 = .ok (.aload_n 0, 1) := by decide +kernel
theorem dX8_text_57 : decode cX8_text 57 = .ok (.aload_n 0, 1) := by decide +kernel
theorem dX8_text_58 : decode cX8_text 58 = .ok (.getfield 31, 3) := by decide +kernel
theorem dX8_text_61 : decode cX8_text 61 = .ok (.getfield 103, 3) := by decide +kernel
theorem dX8_text_64 : decode cX8_text 64 = .ok (.putfield 67, 3) := by decide +kernel
theorem dX8_text_67 : decode cX8_text 67 = .ok (.iconst 0, 1) := by decide +kernel
theorem dX8_text_68 : decode cX8_text 68 = .ok (.istore_n 2, 1) := by decide +kernel
theorem dX8_text_69 : decode cX8_text 69 = .ok (.iload_n 2, 1) := by decide +kernel
theorem dX8_text_70 : decode cX8_text 70 = .ok (.iconst 2, 1) := by decide +kernel
theorem dX8_text_71 : decode cX8_text 71 = .ok (.if_icmp .ge 16, 3) := by decide +kernel
theorem dX8_text_74 : decode cX8_text 74 = .ok (.aload_n 0, 1) := by decide +kernel
theorem dX8_text_75 : decode cX8_text 75 = .ok (.getfield 39, 3) := by decide +kernel
theorem dX8_text_78 : decode cX8_text 78 = .ok (.iload_n 2, 1) := by decide +kernel
theorem dX8_text_79 : decode cX8_text 79 = .ok (.iconst 0, 1) := by decide +kernel
theorem dX8_text_80 : decode cX8_text 80 = .ok (.bastore, 1) := by decide +kernel
theorem dX8_text_81 : decode cX8_text 81 = .ok (.iinc 2 1, 3) := by decide +kernel
theorem dX8_text_84 : decode cX8_text 84 = .ok (.goto (-15), 3) := by decide +kernel
theorem dX8_text_87 : decode cX8_text 87 = .ok (.iload_n 1, 1) := by decide +kernel
theorem dX8_text_88 : decode cX8_text 88 = .ok (.ireturn, 1) := by decide +kernel
theorem dX8_fault_0 : decode cX8_fault 0 = .ok (.aload_n 0, 1) := by decide +kernel
theorem dX8_fault_1 : decode cX8_fault 1 = .ok (.getfield 71, 3) := by decide +kernel
theorem dX8_fault_4 : decode cX8_fault 4 = .ok (.ireturn, 1) := by decide +kernel
theorem dX8_child_0 : decode cX8_child 0 = .ok (.aload_n 0, 1) := by decide +kernel
theorem dX8_child_1 : decode cX8_child 1 = .ok (.getfield 19, 3) := by decide +kernel
theorem dX8_child_4 : decode cX8_child 4 = .ok (.iload_n 1, 1) := by decide +kernel
theorem dX8_child_5 : decode cX8_child 5 = .ok (.invokevirtual 106, 3) := by decide +kernel
theorem dX8_child_8 : decode cX8_child 8 = .ok (.ifCond .ne 5, 3) := by decide +kernel
theorem dX8_child_11 : decode cX8_child 11 = .ok (.iconst (-1), 1) := by decide +kernel
theorem dX8_child_12 : decode cX8_child 12 = .ok (.ireturn, 1) := by decide +kernel
theorem dX8_child_13 : decode cX8_child 13 = .ok (.iload_n 2, 1) := by decide +kernel
theorem dX8_child_14 : decode cX8_child 14 = .ok (.tableswitch 121 0 11 #[62, 75, 88, 121, 121, 121, 121, 121, 121, 121, 101, 111], 62) := by decide +kernel
theorem dX8_child_76 : decode cX8_child 76 = .ok (.aload_n 0, 1) := by decide +kernel
theorem dX8_child_77 : decode cX8_child 77 = .ok (.getfield 19, 3) := by decide +kernel
theorem dX8_child_80 : decode cX8_child 80 = .ok (.getfield 110, 3) := by decide +kernel
theorem dX8_child_83 : decode cX8_child 83 = .ok (.iload_n 1, 1) := by decide +kernel
theorem dX8_child_84 : decode cX8_child 84 = .ok (.aaload, 1) := by decide +kernel
theorem dX8_child_85 : decode cX8_child 85 = .ok (.getfield 114, 3) := by decide +kernel
theorem dX8_child_88 : decode cX8_child 88 = .ok (.ireturn, 1) := by decide +kernel
theorem dX8_child_89 : decode cX8_child 89 = .ok (.aload_n 0, 1) := by decide +kernel
theorem dX8_child_90 : decode cX8_child 90 = .ok (.getfield 19, 3) := by decide +kernel
theorem dX8_child_93 : decode cX8_child 93 = .ok (.getfield 110, 3) := by decide +kernel
theorem dX8_child_96 : decode cX8_child 96 = .ok (.iload_n 1, 1) := by decide +kernel
theorem dX8_child_97 : decode cX8_child 97 = .ok (.aaload, 1) := by decide +kernel
theorem dX8_child_98 : decode cX8_child 98 = .ok (.getfield 119, 3) := by decide +kernel
theorem dX8_child_101 : decode cX8_child 101 = .ok (.ireturn, 1) := by decide +kernel
theorem dX8_child_102 : decode cX8_child 102 = .ok (.aload_n 0, 1) := by decide +kernel
theorem dX8_child_103 : decode cX8_child 103 = .ok (.getfield 19, 3) := by decide +kernel
theorem dX8_child_106 : decode cX8_child 106 = .ok (.getfield 110, 3) := by decide +kernel
theorem dX8_child_109 : decode cX8_child 109 = .ok (.iload_n 1, 1) := by decide +kernel
theorem dX8_child_110 : decode cX8_child 110 = .ok (.aaload, 1) := by decide +kernel
theorem dX8_child_111 : decode cX8_child 111 = .ok (.getfield 122, 3) := by decide +kernel
theorem dX8_child_114 : decode cX8_child 114 = .ok (.ireturn, 1) := by decide +kernel
theorem dX8_child_115 : decode cX8_child 115 = .ok (.aload_n 0, 1) := by decide +kernel
theorem dX8_child_116 : decode cX8_child 116 = .ok (.getfield 19, 3) := by decide +kernel
theorem dX8_child_119 : decode cX8_child 119 = .ok (.iload_n 1, 1) := by decide +kernel
theorem dX8_child_120 : decode cX8_child 120 = .ok (.iconst 0, 1) := by decide +kernel
theorem dX8_child_121 : decode cX8_child 121 = .ok (.invokevirtual 125, 3) := by decide +kernel
theorem dX8_child_124 : decode cX8_child 124 = .ok (.ireturn, 1) := by decide +kernel
theorem dX8_child_125 : decode cX8_child 125 = .ok (.aload_n 0, 1) := by decide +kernel
theorem dX8_child_126 : decode cX8_child 126 = .ok (.getfield 19, 3) := by decide +kernel
theorem dX8_child_129 : decode cX8_child 129 = .ok (.iload_n 1, 1) := by decide +kernel
theorem dX8_child_130 : decode cX8_child 130 = .ok (.iconst 1, 1) := by decide +kernel
theorem dX8_child_131 : decode cX8_child 131 = .ok (.invokevirtual 125, 3) := by decide +kernel
theorem dX8_child_134 : decode cX8_child 134 = .ok (.ireturn, 1) := by decide +kernel
theorem dX8_child_135 : decode cX8_child 135 = .ok (.iconst (-1), 1) := by decide +kernel
theorem dX8_child_136 : decode cX8_child 136 = .ok (.ireturn, 1) := by decide +kernel
theorem dX8_thing_0 : decode cX8_thing 0 = .ok (.aload_n 0, 1) := by decide +kernel
theorem dX8_thing_1 : decode cX8_thing 1 = .ok (.getfield 19, 3) := by decide +kernel
theorem dX8_thing_4 : decode cX8_thing 4 = .ok (.iload_n 1, 1) := by decide +kernel
theorem dX8_thing_5 : decode cX8_thing 5 = .ok (.invokevirtual 129, 3) := by decide +kernel
theorem dX8_thing_8 : decode cX8_thing 8 = .ok (.ifCond .ne 5, 3) := by decide +kernel
theorem dX8_thing_11 : decode cX8_thing 11 = .ok (.iconst (-1), 1) := by decide +kernel
theorem dX8_thing_12 : decode cX8_thing 12 = .ok (.ireturn, 1) := by decide +kernel
theorem dX8_thing_13 : decode cX8_thing 13 = .ok (.aload_n 0, 1) := by decide +kernel
theorem dX8_thing_14 : decode cX8_thing 14 = .ok (.getfield 19, 3) := by decide +kernel
theorem dX8_thing_17 : decode cX8_thing 17 = .ok (.getfield 132, 3) := by decide +kernel
theorem dX8_thing_20 : decode cX8_thing 20 = .ok (.iload_n 1, 1) := by decide +kernel
theorem dX8_thing_21 : decode cX8_thing 21 = .ok (.aaload, 1) := by decide +kernel
theorem dX8_thing_22 : decode cX8_thing 22 = .ok (.astore_n 3, 1) := by decide +kernel
theorem dX8_thing_23 : decode cX8_thing 23 = .ok (.iload_n 2, 1) := by decide +kernel
theorem dX8_thing_24 : decode cX8_thing 24 = .ok (.tableswitch 96 0 7 #[48, 53, 58, 63, 68, 73, 86, 91], 48) := by decide +kernel
theorem dX8_thing_72 : decode cX8_thing 72 = .ok (.aload_n 3, 1) := by decide +kernel
theorem dX8_thing_73 : decode cX8_thing 73 = .ok (.getfield 136, 3) := by decide +kernel
theorem dX8_thing_76 : decode cX8_thing 76 = .ok (.ireturn, 1) := by decide +kernel
theorem dX8_thing_77 : decode cX8_thing 77 = .ok (.aload_n 3, 1) := by decide +kernel
theorem dX8_thing_78 : decode cX8_thing 78 = .ok (.getfield 141, 3) := by decide +kernel
theorem dX8_thing_81 : decode cX8_thing 81 = .ok (.ireturn, 1) := by decide +kernel
theorem dX8_thing_82 : decode cX8_thing 82 = .ok (.aload_n 3, 1) := by decide +kernel
theorem dX8_thing_83 : decode cX8_thing 83 = .ok (.getfield 144, 3) := by decide +kernel
theorem dX8_thing_86 : decode cX8_thing 86 = .ok (.ireturn, 1) := by decide +kernel
theorem dX8_thing_87 : decode cX8_thing 87 = .ok (.aload_n 3, 1) := by decide +kernel
theorem dX8_thing_88 : decode cX8_thing 88 = .ok (.getfield 145, 3) := by decide +kernel
theorem dX8_thing_91 : decode cX8_thing 91 = .ok (.ireturn, 1) := by decide +kernel
theorem dX8_thing_92 : decode cX8_thing 92 = .ok (.aload_n 3, 1) := by decide +kernel
theorem dX8_thing_93 : decode cX8_thing 93 = .ok (.getfield 148, 3) := by decide +kernel
theorem dX8_thing_96 : decode cX8_thing 96 = .ok (.ireturn, 1) := by decide +kernel
theorem dX8_thing_97 : decode cX8_thing 97 = .ok (.aload_n 3, 1) := by decide +kernel
theorem dX8_thing_98 : decode cX8_thing 98 = .ok (.getfield 151, 3) := by decide +kernel
theorem dX8_thing_101 : decode cX8_thing 101 = .ok (.ifCond .eq 7, 3) := by decide +kernel
theorem dX8_thing_104 : decode cX8_thing 104 = .ok (.iconst 1, 1) := by decide +kernel
theorem dX8_thing_105 : decode cX8_thing 105 = .ok (.goto 4, 3) := by decide +kernel
theorem dX8_thing_108 : decode cX8_thing 108 = .ok (.iconst 0, 1) := by decide +kernel
theorem dX8_thing_109 : decode cX8_thing 109 = .ok (.ireturn, 1) := by decide +kernel
theorem dX8_thing_110 : decode cX8_thing 110 = .ok (.aload_n 3, 1) := by decide +kernel
theorem dX8_thing_111 : decode cX8_thing 111 = .ok (.getfield 155, 3) := by decide +kernel
theorem dX8_thing_114 : decode cX8_thing 114 = .ok (.ireturn, 1) := by decide +kernel
theorem dX8_thing_115 : decode cX8_thing 115 = .ok (.aload_n 3, 1) := by decide +kernel
theorem dX8_thing_116 : decode cX8_thing 116 = .ok (.getfield 158, 3) := by decide +kernel
theorem dX8_thing_119 : decode cX8_thing 119 = .ok (.ireturn, 1) := by decide +kernel
theorem dX8_thing_120 : decode cX8_thing 120 = .ok (.iconst (-1), 1) := by decide +kernel
theorem dX8_thing_121 : decode cX8_thing 121 = .ok (.ireturn, 1) := by decide +kernel
theorem dX8_slack_0 : decode cX8_slack 0 = .ok (.iload_n 1, 1) := by decide +kernel
theorem dX8_slack_1 : decode cX8_slack 1 = .ok (.iconst 0, 1) := by decide +kernel
theorem dX8_slack_2 : decode cX8_slack 2 = .ok (.iconst 4, 1) := by decide +kernel
theorem dX8_slack_3 : decode cX8_slack 3 = .ok (.invokestatic 85, 3) := by decide +kernel
theorem dX8_slack_6 : decode cX8_slack 6 = .ok (.ifCond .ne 5, 3) := by decide +kernel
theorem dX8_slack_9 : decode cX8_slack 9 = .ok (.iconst (-1), 1) := by decide +kernel
theorem dX8_slack_10 : decode cX8_slack 10 = .ok (.ireturn, 1) := by decide +kernel
theorem dX8_slack_11 : decode cX8_slack 11 = .ok (.aload_n 0, 1) := by decide +kernel
theorem dX8_slack_12 : decode cX8_slack 12 = .ok (.getfield 67, 3) := by decide +kernel
theorem dX8_slack_15 : decode cX8_slack 15 = .ok (.istore_n 2, 1) := by decide +kernel
theorem dX8_slack_16 : decode cX8_slack 16 = .ok (.aload_n 0, 1) := by decide +kernel
theorem dX8_slack_17 : decode cX8_slack 17 = .ok (.iload_n 1, 1) := by decide +kernel
theorem dX8_slack_18 : decode cX8_slack 18 = .ok (.putfield 67, 3) := by decide +kernel
theorem dX8_slack_21 : decode cX8_slack 21 = .ok (.iload_n 2, 1) := by decide +kernel
theorem dX8_slack_22 : decode cX8_slack 22 = .ok (.ireturn, 1) := by decide +kernel
theorem dX8_like_0 : decode cX8_like 0 = .ok (.aload_n 0, 1) := by decide +kernel
theorem dX8_like_1 : decode cX8_like 1 = .ok (.getfield 19, 3) := by decide +kernel
theorem dX8_like_4 : decode cX8_like 4 = .ok (.iload_n 1, 1) := by decide +kernel
theorem dX8_like_5 : decode cX8_like 5 = .ok (.invokevirtual 106, 3) := by decide +kernel
theorem dX8_like_8 : decode cX8_like 8 = .ok (.ifCond .eq 24, 3) := by decide +kernel
theorem dX8_like_11 : decode cX8_like 11 = .ok (.aload_n 0, 1) := by decide +kernel
theorem dX8_like_12 : decode cX8_like 12 = .ok (.getfield 19, 3) := by decide +kernel
theorem dX8_like_15 : decode cX8_like 15 = .ok (.iload_n 2, 1) := by decide +kernel
theorem dX8_like_16 : decode cX8_like 16 = .ok (.invokevirtual 129, 3) := by decide +kernel
theorem dX8_like_19 : decode cX8_like 19 = .ok (.ifCond .eq 13, 3) := by decide +kernel
theorem dX8_like_22 : decode cX8_like 22 = .ok (.iload_n 3, 1) := by decide +kernel
theorem dX8_like_23 : decode cX8_like 23 = .ok (.iconst 0, 1) := by decide +kernel
theorem dX8_like_24 : decode cX8_like 24 = .ok (.bipush 9, 2) := by decide +kernel
theorem dX8_like_26 : decode cX8_like 26 = .ok (.invokestatic 85, 3) := by decide +kernel
theorem dX8_like_29 : decode cX8_like 29 = .ok (.ifCond .ne 5, 3) := by decide +kernel
theorem dX8_like_32 : decode cX8_like 32 = .ok (.iconst (-1), 1) := by decide +kernel
theorem dX8_like_33 : decode cX8_like 33 = .ok (.ireturn, 1) := by decide +kernel
theorem dX8_like_34 : decode cX8_like 34 = .ok (.aload_n 0, 1) := by decide +kernel
theorem dX8_like_35 : decode cX8_like 35 = .ok (.getfield 19, 3) := by decide +kernel
theorem dX8_like_38 : decode cX8_like 38 = .ok (.iload_n 1, 1) := by decide +kernel
theorem dX8_like_39 : decode cX8_like 39 = .ok (.iload_n 2, 1) := by decide +kernel
theorem dX8_like_40 : decode cX8_like 40 = .ok (.invokevirtual 161, 3) := by decide +kernel
theorem dX8_like_43 : decode cX8_like 43 = .ok (.istore 4, 2) := by decide +kernel
theorem dX8_like_45 : decode cX8_like 45 = .ok (.aload_n 0, 1) := by decide +kernel
theorem dX8_like_46 : decode cX8_like 46 = .ok (.getfield 19, 3) := by decide +kernel
theorem dX8_like_49 : decode cX8_like 49 = .ok (.iload_n 1, 1) := by decide +kernel
theorem dX8_like_50 : decode cX8_like 50 = .ok (.iload_n 2, 1) := by decide +kernel
theorem dX8_like_51 : decode cX8_like 51 = .ok (.iload_n 3, 1) := by decide +kernel
theorem dX8_like_52 : decode cX8_like 52 = .ok (.invokevirtual 164, 3) := by decide +kernel
theorem dX8_like_55 : decode cX8_like 55 = .ok (.iload 4, 2) := by decide +kernel
theorem dX8_like_57 : decode cX8_like 57 = .ok (.ireturn, 1) := by decide +kernel
theorem dX8_fits_0 : decode cX8_fits 0 = .ok (.aload_n 0, 1) := by decide +kernel
end
section
theorem dX8_fits_1 : decode cX8_fits 1 = .ok (.getfield 19, 3) := by decide +kernel
theorem dX8_fits_4 : decode cX8_fits 4 = .ok (.iload_n 1, 1) := by decide +kernel
theorem dX8_fits_5 : decode cX8_fits 5 = .ok (.invokevirtual 106, 3) := by decide +kernel
theorem dX8_fits_8 : decode cX8_fits 8 = .ok (.ifCond .eq 14, 3) := by decide +kernel
theorem dX8_fits_11 : decode cX8_fits 11 = .ok (.aload_n 0, 1) := by decide +kernel
theorem dX8_fits_12 : decode cX8_fits 12 = .ok (.getfield 19, 3) := by decide +kernel
theorem dX8_fits_15 : decode cX8_fits 15 = .ok (.iload_n 2, 1) := by decide +kernel
theorem dX8_fits_16 : decode cX8_fits 16 = .ok (.invokevirtual 129, 3) := by decide +kernel
theorem dX8_fits_19 : decode cX8_fits 19 = .ok (.ifCond .ne 5, 3) := by decide +kernel
theorem dX8_fits_22 : decode cX8_fits 22 = .ok (.iconst (-1), 1) := by decide +kernel
theorem dX8_fits_23 : decode cX8_fits 23 = .ok (.ireturn, 1) := by decide +kernel
theorem dX8_fits_24 : decode cX8_fits 24 = .ok (.aload_n 0, 1) := by decide +kernel
theorem dX8_fits_25 : decode cX8_fits 25 = .ok (.getfield 19, 3) := by decide +kernel
theorem dX8_fits_28 : decode cX8_fits 28 = .ok (.iload_n 1, 1) := by decide +kernel
theorem dX8_fits_29 : decode cX8_fits 29 = .ok (.iload_n 2, 1) := by decide +kernel
theorem dX8_fits_30 : decode cX8_fits 30 = .ok (.aload_n 0, 1) := by decide +kernel
theorem dX8_fits_31 : decode cX8_fits 31 = .ok (.getfield 67, 3) := by decide +kernel
theorem dX8_fits_34 : decode cX8_fits 34 = .ok (.invokevirtual 168, 3) := by decide +kernel
theorem dX8_fits_37 : decode cX8_fits 37 = .ok (.ireturn, 1) := by decide +kernel
theorem dX8_wear_0 : decode cX8_wear 0 = .ok (.aload_n 0, 1) := by decide +kernel
theorem dX8_wear_1 : decode cX8_wear 1 = .ok (.getfield 19, 3) := by decide +kernel
theorem dX8_wear_4 : decode cX8_wear 4 = .ok (.iload_n 1, 1) := by decide +kernel
theorem dX8_wear_5 : decode cX8_wear 5 = .ok (.invokevirtual 106, 3) := by decide +kernel
theorem dX8_wear_8 : decode cX8_wear 8 = .ok (.ifCond .eq 14, 3) := by decide +kernel
theorem dX8_wear_11 : decode cX8_wear 11 = .ok (.aload_n 0, 1) := by decide +kernel
theorem dX8_wear_12 : decode cX8_wear 12 = .ok (.getfield 19, 3) := by decide +kernel
theorem dX8_wear_15 : decode cX8_wear 15 = .ok (.iload_n 2, 1) := by decide +kernel
theorem dX8_wear_16 : decode cX8_wear 16 = .ok (.invokevirtual 129, 3) := by decide +kernel
theorem dX8_wear_19 : decode cX8_wear 19 = .ok (.ifCond .ne 5, 3) := by decide +kernel
theorem dX8_wear_22 : decode cX8_wear 22 = .ok (.iconst (-1), 1) := by decide +kernel
theorem dX8_wear_23 : decode cX8_wear 23 = .ok (.ireturn, 1) := by decide +kernel
theorem dX8_wear_24 : decode cX8_wear 24 = .ok (.aload_n 0, 1) := by decide +kernel
theorem dX8_wear_25 : decode cX8_wear 25 = .ok (.getfield 19, 3) := by decide +kernel
theorem dX8_wear_28 : decode cX8_wear 28 = .ok (.iload_n 1, 1) := by decide +kernel
theorem dX8_wear_29 : decode cX8_wear 29 = .ok (.iload_n 2, 1) := by decide +kernel
theorem dX8_wear_30 : decode cX8_wear 30 = .ok (.aload_n 0, 1) := by decide +kernel
theorem dX8_wear_31 : decode cX8_wear 31 = .ok (.getfield 67, 3) := by decide +kernel
theorem dX8_wear_34 : decode cX8_wear 34 = .ok (.invokevirtual 168, 3) := by decide +kernel
theorem dX8_wear_37 : decode cX8_wear 37 = .ok (.ifCond .ne 6, 3) := by decide +kernel
theorem dX8_wear_40 : decode cX8_wear 40 = .ok (.bipush (-2), 2) := by decide +kernel
theorem dX8_wear_42 : decode cX8_wear 42 = .ok (.ireturn, 1) := by decide +kernel
theorem dX8_wear_43 : decode cX8_wear 43 = .ok (.aload_n 0, 1) := by decide +kernel
theorem dX8_wear_44 : decode cX8_wear 44 = .ok (.getfield 19, 3) := by decide +kernel
theorem dX8_wear_47 : decode cX8_wear 47 = .ok (.iload_n 1, 1) := by decide +kernel
theorem dX8_wear_48 : decode cX8_wear 48 = .ok (.aload_n 0, 1) := by decide +kernel
theorem dX8_wear_49 : decode cX8_wear 49 = .ok (.getfield 19, 3) := by decide +kernel
theorem dX8_wear_52 : decode cX8_wear 52 = .ok (.getfield 132, 3) := by decide +kernel
theorem dX8_wear_55 : decode cX8_wear 55 = .ok (.iload_n 2, 1) := by decide +kernel
theorem dX8_wear_56 : decode cX8_wear 56 = .ok (.aaload, 1) := by decide +kernel
theorem dX8_wear_57 : decode cX8_wear 57 = .ok (.getfield 136, 3) := by decide +kernel
theorem dX8_wear_60 : decode cX8_wear 60 = .ok (.invokevirtual 125, 3) := by decide +kernel
theorem dX8_wear_63 : decode cX8_wear 63 = .ok (.istore_n 3, 1) := by decide +kernel
theorem dX8_wear_64 : decode cX8_wear 64 = .ok (.aload_n 0, 1) := by decide +kernel
theorem dX8_wear_65 : decode cX8_wear 65 = .ok (.getfield 19, 3) := by decide +kernel
theorem dX8_wear_68 : decode cX8_wear 68 = .ok (.iload_n 3, 1) := by decide +kernel
theorem dX8_wear_69 : decode cX8_wear 69 = .ok (.invokevirtual 129, 3) := by decide +kernel
theorem dX8_wear_72 : decode cX8_wear 72 = .ok (.ifCond .eq 17, 3) := by decide +kernel
theorem dX8_wear_75 : decode cX8_wear 75 = .ok (.aload_n 0, 1) := by decide +kernel
theorem dX8_wear_76 : decode cX8_wear 76 = .ok (.getfield 19, 3) := by decide +kernel
theorem dX8_wear_79 : decode cX8_wear 79 = .ok (.getfield 132, 3) := by decide +kernel
theorem dX8_wear_82 : decode cX8_wear 82 = .ok (.iload_n 3, 1) := by decide +kernel
theorem dX8_wear_83 : decode cX8_wear 83 = .ok (.aaload, 1) := by decide +kernel
theorem dX8_wear_84 : decode cX8_wear 84 = .ok (.bipush (-4), 2) := by decide +kernel
theorem dX8_wear_86 : decode cX8_wear 86 = .ok (.putfield 158, 3) := by decide +kernel
theorem dX8_wear_89 : decode cX8_wear 89 = .ok (.aload_n 0, 1) := by decide +kernel
theorem dX8_wear_90 : decode cX8_wear 90 = .ok (.getfield 19, 3) := by decide +kernel
theorem dX8_wear_93 : decode cX8_wear 93 = .ok (.iload_n 1, 1) := by decide +kernel
theorem dX8_wear_94 : decode cX8_wear 94 = .ok (.iload_n 2, 1) := by decide +kernel
theorem dX8_wear_95 : decode cX8_wear 95 = .ok (.aload_n 0, 1) := by decide +kernel
theorem dX8_wear_96 : decode cX8_wear 96 = .ok (.getfield 67, 3) := by decide +kernel
theorem dX8_wear_99 : decode cX8_wear 99 = .ok (.invokevirtual 172, 3) := by decide +kernel
theorem dX8_wear_102 : decode cX8_wear 102 = .ok (.iload_n 3, 1) := by decide +kernel
theorem dX8_wear_103 : decode cX8_wear 103 = .ok (.ireturn, 1) := by decide +kernel
theorem dX8_doff_0 : decode cX8_doff 0 = .ok (.aload_n 0, 1) := by decide +kernel
theorem dX8_doff_1 : decode cX8_doff 1 = .ok (.getfield 19, 3) := by decide +kernel
theorem dX8_doff_4 : decode cX8_doff 4 = .ok (.iload_n 1, 1) := by decide +kernel
theorem dX8_doff_5 : decode cX8_doff 5 = .ok (.invokevirtual 106, 3) := by decide +kernel
theorem dX8_doff_8 : decode cX8_doff 8 = .ok (.ifCond .eq 10, 3) := by decide +kernel
theorem dX8_doff_11 : decode cX8_doff 11 = .ok (.iload_n 2, 1) := by decide +kernel
theorem dX8_doff_12 : decode cX8_doff 12 = .ok (.invokestatic 175, 3) := by decide +kernel
theorem dX8_doff_15 : decode cX8_doff 15 = .ok (.ifCond .ne 5, 3) := by decide +kernel
theorem dX8_doff_18 : decode cX8_doff 18 = .ok (.iconst (-1), 1) := by decide +kernel
theorem dX8_doff_19 : decode cX8_doff 19 = .ok (.ireturn, 1) := by decide +kernel
theorem dX8_doff_20 : decode cX8_doff 20 = .ok (.aload_n 0, 1) := by decide +kernel
theorem dX8_doff_21 : decode cX8_doff 21 = .ok (.getfield 19, 3) := by decide +kernel
theorem dX8_doff_24 : decode cX8_doff 24 = .ok (.iload_n 1, 1) := by decide +kernel
theorem dX8_doff_25 : decode cX8_doff 25 = .ok (.iload_n 2, 1) := by decide +kernel
theorem dX8_doff_26 : decode cX8_doff 26 = .ok (.invokevirtual 125, 3) := by decide +kernel
theorem dX8_doff_29 : decode cX8_doff 29 = .ok (.istore_n 3, 1) := by decide +kernel
theorem dX8_doff_30 : decode cX8_doff 30 = .ok (.aload_n 0, 1) := by decide +kernel
theorem dX8_doff_31 : decode cX8_doff 31 = .ok (.getfield 19, 3) := by decide +kernel
theorem dX8_doff_34 : decode cX8_doff 34 = .ok (.iload_n 3, 1) := by decide +kernel
theorem dX8_doff_35 : decode cX8_doff 35 = .ok (.invokevirtual 129, 3) := by decide +kernel
theorem dX8_doff_38 : decode cX8_doff 38 = .ok (.ifCond .eq 17, 3) := by decide +kernel
theorem dX8_doff_41 : decode cX8_doff 41 = .ok (.aload_n 0, 1) := by decide +kernel
theorem dX8_doff_42 : decode cX8_doff 42 = .ok (.getfield 19, 3) := by decide +kernel
theorem dX8_doff_45 : decode cX8_doff 45 = .ok (.getfield 132, 3) := by decide +kernel
theorem dX8_doff_48 : decode cX8_doff 48 = .ok (.iload_n 3, 1) := by decide +kernel
theorem dX8_doff_49 : decode cX8_doff 49 = .ok (.aaload, 1) := by decide +kernel
theorem dX8_doff_50 : decode cX8_doff 50 = .ok (.bipush (-4), 2) := by decide +kernel
theorem dX8_doff_52 : decode cX8_doff 52 = .ok (.putfield 158, 3) := by decide +kernel
theorem dX8_doff_55 : decode cX8_doff 55 = .ok (.iload_n 3, 1) := by decide +kernel
theorem dX8_doff_56 : decode cX8_doff 56 = .ok (.ireturn, 1) := by decide +kernel
theorem dX8_cold_0 : decode cX8_cold 0 = .ok (.iload_n 1, 1) := by decide +kernel
theorem dX8_cold_1 : decode cX8_cold 1 = .ok (.invokestatic 175, 3) := by decide +kernel
theorem dX8_cold_4 : decode cX8_cold 4 = .ok (.ifCond .eq 14, 3) := by decide +kernel
theorem dX8_cold_7 : decode cX8_cold 7 = .ok (.aload_n 0, 1) := by decide +kernel
theorem dX8_cold_8 : decode cX8_cold 8 = .ok (.getfield 19, 3) := by decide +kernel
theorem dX8_cold_11 : decode cX8_cold 11 = .ok (.iload_n 1, 1) := by decide +kernel
theorem dX8_cold_12 : decode cX8_cold 12 = .ok (.invokevirtual 178, 3) := by decide +kernel
theorem dX8_cold_15 : decode cX8_cold 15 = .ok (.goto 4, 3) := by decide +kernel
theorem dX8_cold_18 : decode cX8_cold 18 = .ok (.iconst (-1), 1) := by decide +kernel
theorem dX8_cold_19 : decode cX8_cold 19 = .ok (.ireturn, 1) := by decide +kernel
theorem dX8_deal_0 : decode cX8_deal 0 = .ok (.iload_n 2, 1) := by decide +kernel
theorem dX8_deal_1 : decode cX8_deal 1 = .ok (.bipush 10, 2) := by decide +kernel
theorem dX8_deal_3 : decode cX8_deal 3 = .ok (.isub, 1) := by decide +kernel
theorem dX8_deal_4 : decode cX8_deal 4 = .ok (.istore_n 3, 1) := by decide +kernel
theorem dX8_deal_5 : decode cX8_deal 5 = .ok (.iload_n 1, 1) := by decide +kernel
theorem dX8_deal_6 : decode cX8_deal 6 = .ok (.invokestatic 175, 3) := by decide +kernel
theorem dX8_deal_9 : decode cX8_deal 9 = .ok (.ifCond .eq 21, 3) := by decide +kernel
theorem dX8_deal_12 : decode cX8_deal 12 = .ok (.iload_n 2, 1) := by decide +kernel
theorem dX8_deal_13 : decode cX8_deal 13 = .ok (.invokestatic 182, 3) := by decide +kernel
theorem dX8_deal_16 : decode cX8_deal 16 = .ok (.ifCond .ne 16, 3) := by decide +kernel
theorem dX8_deal_19 : decode cX8_deal 19 = .ok (.aload_n 0, 1) := by decide +kernel
theorem dX8_deal_20 : decode cX8_deal 20 = .ok (.getfield 19, 3) := by decide +kernel
theorem dX8_deal_23 : decode cX8_deal 23 = .ok (.iload_n 3, 1) := by decide +kernel
theorem dX8_deal_24 : decode cX8_deal 24 = .ok (.invokevirtual 106, 3) := by decide +kernel
theorem dX8_deal_27 : decode cX8_deal 27 = .ok (.ifCond .ne 5, 3) := by decide +kernel
theorem dX8_deal_30 : decode cX8_deal 30 = .ok (.iconst (-1), 1) := by decide +kernel
theorem dX8_deal_31 : decode cX8_deal 31 = .ok (.ireturn, 1) := by decide +kernel
theorem dX8_deal_32 : decode cX8_deal 32 = .ok (.aload_n 0, 1) := by decide +kernel
theorem dX8_deal_33 : decode cX8_deal 33 = .ok (.getfield 52, 3) := by decide +kernel
theorem dX8_deal_36 : decode cX8_deal 36 = .ok (.aload_n 0, 1) := by decide +kernel
theorem dX8_deal_37 : decode cX8_deal 37 = .ok (.getfield 19, 3) := by decide +kernel
theorem dX8_deal_40 : decode cX8_deal 40 = .ok (.iload_n 1, 1) := by decide +kernel
theorem dX8_deal_41 : decode cX8_deal 41 = .ok (.aload_n 0, 1) := by decide +kernel
theorem dX8_deal_42 : decode cX8_deal 42 = .ok (.getfield 67, 3) := by decide +kernel
theorem dX8_deal_45 : decode cX8_deal 45 = .ok (.invokevirtual 185, 3) := by decide +kernel
theorem dX8_deal_48 : decode cX8_deal 48 = .ok (.iload_n 2, 1) := by decide +kernel
theorem dX8_deal_49 : decode cX8_deal 49 = .ok (.ifCond .ne 11, 3) := by decide +kernel
theorem dX8_deal_52 : decode cX8_deal 52 = .ok (.aload_n 0, 1) := by decide +kernel
theorem dX8_deal_53 : decode cX8_deal 53 = .ok (.getfield 52, 3) := by decide +kernel
theorem dX8_deal_56 : decode cX8_deal 56 = .ok (.getfield 189, 3) := by decide +kernel
theorem dX8_deal_59 : decode cX8_deal 59 = .ok (.ireturn, 1) := by decide +kernel
theorem dX8_deal_60 : decode cX8_deal 60 = .ok (.iload_n 2, 1) := by decide +kernel
theorem dX8_deal_61 : decode cX8_deal 61 = .ok (.iconst 1, 1) := by decide +kernel
theorem dX8_deal_62 : decode cX8_deal 62 = .ok (.if_icmp .ne 21, 3) := by decide +kernel
theorem dX8_deal_65 : decode cX8_deal 65 = .ok (.aload_n 0, 1) := by decide +kernel
theorem dX8_deal_66 : decode cX8_deal 66 = .ok (.getfield 19, 3) := by decide +kernel
theorem dX8_deal_69 : decode cX8_deal 69 = .ok (.getfield 192, 3) := by decide +kernel
theorem dX8_deal_72 : decode cX8_deal 72 = .ok (.aload_n 0, 1) := by decide +kernel
theorem dX8_deal_73 : decode cX8_deal 73 = .ok (.getfield 52, 3) := by decide +kernel
theorem dX8_deal_76 : decode cX8_deal 76 = .ok (.getfield 189, 3) := by decide +kernel
theorem dX8_deal_79 : decode cX8_deal 79 = .ok (.isub, 1) := by decide +kernel
theorem dX8_deal_80 : decode cX8_deal 80 = .ok (.goto 11, 3) := by decide +kernel
theorem dX8_deal_83 : decode cX8_deal 83 = .ok (.aload_n 0, 1) := by decide +kernel
theorem dX8_deal_84 : decode cX8_deal 84 = .ok (.getfield 52, 3) := by decide +kernel
theorem dX8_deal_87 : decode cX8_deal 87 = .ok (.iload_n 3, 1) := by decide +kernel
theorem dX8_deal_88 : decode cX8_deal 88 = .ok (.invokevirtual 195, 3) := by decide +kernel
theorem dX8_deal_91 : decode cX8_deal 91 = .ok (.ireturn, 1) := by decide +kernel
theorem dX8_dress_0 : decode cX8_dress 0 = .ok (.iload_n 1, 1) := by decide +kernel
theorem dX8_dress_1 : decode cX8_dress 1 = .ok (.invokestatic 175, 3) := by decide +kernel
theorem dX8_dress_4 : decode cX8_dress 4 = .ok (.ifCond .eq 15, 3) := by decide +kernel
theorem dX8_dress_7 : decode cX8_dress 7 = .ok (.aload_n 0, 1) := by decide +kernel
theorem dX8_dress_8 : decode cX8_dress 8 = .ok (.aload_n 0, 1) := by decide +kernel
theorem dX8_dress_9 : decode cX8_dress 9 = .ok (.getfield 19, 3) := by decide +kernel
theorem dX8_dress_12 : decode cX8_dress 12 = .ok (.iload_n 1, 1) := by decide +kernel
theorem dX8_dress_13 : decode cX8_dress 13 = .ok (.invokevirtual 198, 3) := by decide +kernel
theorem dX8_dress_16 : decode cX8_dress 16 = .ok (.goto 4, 3) := by decide +kernel
theorem dX8_dress_19 : decode cX8_dress 19 = .ok (.iconst (-1), 1) := by decide +kernel
theorem dX8_dress_20 : decode cX8_dress 20 = .ok (.ireturn, 1) := by decide +kernel
theorem dX8_spare_0 : decode cX8_spare 0 = .ok (.iload_n 1, 1) := by decide +kernel
theorem dX8_spare_1 : decode cX8_spare 1 = .ok (.invokestatic 175, 3) := by decide +kernel
theorem dX8_spare_4 : decode cX8_spare 4 = .ok (.ifCond .ne 5, 3) := by decide +kernel
theorem dX8_spare_7 : decode cX8_spare 7 = .ok (.iconst (-1), 1) := by decide +kernel
theorem dX8_spare_8 : decode cX8_spare 8 = .ok (.ireturn, 1) := by decide +kernel
theorem dX8_spare_9 : decode cX8_spare 9 = .ok (.aload_n 0, 1) := by decide +kernel
theorem dX8_spare_10 : decode cX8_spare 10 = .ok (.getfield 52, 3) := by decide +kernel
theorem dX8_spare_13 : decode cX8_spare 13 = .ok (.aload_n 0, 1) := by decide +kernel
theorem dX8_spare_14 : decode cX8_spare 14 = .ok (.getfield 19, 3) := by decide +kernel
theorem dX8_spare_17 : decode cX8_spare 17 = .ok (.iload_n 1, 1) := by decide +kernel
theorem dX8_spare_18 : decode cX8_spare 18 = .ok (.aload_n 0, 1) := by decide +kernel
theorem dX8_spare_19 : decode cX8_spare 19 = .ok (.getfield 67, 3) := by decide +kernel
theorem dX8_spare_22 : decode cX8_spare 22 = .ok (.invokevirtual 185, 3) := by decide +kernel
theorem dX8_spare_25 : decode cX8_spare 25 = .ok (.aload_n 0, 1) := by decide +kernel
theorem dX8_spare_26 : decode cX8_spare 26 = .ok (.getfield 52, 3) := by decide +kernel
theorem dX8_spare_29 : decode cX8_spare 29 = .ok (.aload_n 0, 1) := by decide +kernel
theorem dX8_spare_30 : decode cX8_spare 30 = .ok (.getfield 19, 3) := by decide +kernel
theorem dX8_spare_33 : decode cX8_spare 33 = .ok (.iload_n 1, 1) := by decide +kernel
theorem dX8_spare_34 : decode cX8_spare 34 = .ok (.iconst 1, 1) := by decide +kernel
theorem dX8_spare_35 : decode cX8_spare 35 = .ok (.invokevirtual 202, 3) := by decide +kernel
theorem dX8_spare_38 : decode cX8_spare 38 = .ok (.ireturn, 1) := by decide +kernel
theorem dX8_winter_0 : decode cX8_winter 0 = .ok (.aload_n 0, 1) := by decide +kernel
theorem dX8_winter_1 : decode cX8_winter 1 = .ok (.getfield 19, 3) := by decide +kernel
theorem dX8_winter_4 : decode cX8_winter 4 = .ok (.invokevirtual 206, 3) := by decide +kernel
theorem dX8_winter_7 : decode cX8_winter 7 = .ok (.ireturn, 1) := by decide +kernel
theorem dX8_spring_0 : decode cX8_spring 0 = .ok (.aload_n 0, 1) := by decide +kernel
theorem dX8_spring_1 : decode cX8_spring 1 = .ok (.getfield 19, 3) := by decide +kernel
theorem dX8_spring_4 : decode cX8_spring 4 = .ok (.iload_n 1, 1) := by decide +kernel
theorem dX8_spring_5 : decode cX8_spring 5 = .ok (.aload_n 0, 1) := by decide +kernel
theorem dX8_spring_6 : decode cX8_spring 6 = .ok (.getfield 67, 3) := by decide +kernel
theorem dX8_spring_9 : decode cX8_spring 9 = .ok (.invokevirtual 209, 3) := by decide +kernel
theorem dX8_spring_12 : decode cX8_spring 12 = .ok (.ireturn, 1) := by decide +kernel
theorem dX8_ahead_0 : decode cX8_ahead 0 = .ok (.iload_n 1, 1) := by decide +kernel
theorem dX8_ahead_1 : decode cX8_ahead 1 = .ok (.invokestatic 175, 3) := by decide +kernel
theorem dX8_ahead_4 : decode cX8_ahead 4 = .ok (.ifCond .eq 30, 3) := by decide +kernel
theorem dX8_ahead_7 : decode cX8_ahead 7 = .ok (.iload_n 2, 1) := by decide +kernel
theorem dX8_ahead_8 : decode cX8_ahead 8 = .ok (.invokestatic 213, 3) := by decide +kernel
theorem dX8_ahead_11 : decode cX8_ahead 11 = .ok (.ifCond .eq 23, 3) := by decide +kernel
theorem dX8_ahead_14 : decode cX8_ahead 14 = .ok (.iload 4, 2) := by decide +kernel
theorem dX8_ahead_16 : decode cX8_ahead 16 = .ok (.ifCond .eq 20, 3) := by decide +kernel
theorem dX8_ahead_19 : decode cX8_ahead 19 = .ok (.iload 4, 2) := by decide +kernel
theorem dX8_ahead_21 : decode cX8_ahead 21 = .ok (.bipush 10, 2) := by decide +kernel
theorem dX8_ahead_23 : decode cX8_ahead 23 = .ok (.isub, 1) := by decide +kernel
theorem dX8_ahead_24 : decode cX8_ahead 24 = .ok (.iconst 0, 1) := by decide +kernel
theorem dX8_ahead_25 : decode cX8_ahead 25 = .ok (.iload_n 2, 1) := by decide +kernel
theorem dX8_ahead_26 : decode cX8_ahead 26 = .ok (.iconst 1, 1) := by decide +kernel
theorem dX8_ahead_27 : decode cX8_ahead 27 = .ok (.isub, 1) := by decide +kernel
theorem dX8_ahead_28 : decode cX8_ahead 28 = .ok (.invokestatic 85, 3) := by decide +kernel
theorem dX8_ahead_31 : decode cX8_ahead 31 = .ok (.ifCond .ne 5, 3) := by decide +kernel
theorem dX8_ahead_34 : decode cX8_ahead 34 = .ok (.iconst (-1), 1) := by decide +kernel
theorem dX8_ahead_35 : decode cX8_ahead 35 = .ok (.ireturn, 1) := by decide +kernel
theorem dX8_ahead_36 : decode cX8_ahead 36 = .ok (.aload_n 0, 1) := by decide +kernel
theorem dX8_ahead_37 : decode cX8_ahead 37 = .ok (.getfield 23, 3) := by decide +kernel
theorem dX8_ahead_40 : decode cX8_ahead 40 = .ok (.aload_n 0, 1) := by decide +kernel
theorem dX8_ahead_41 : decode cX8_ahead 41 = .ok (.getfield 19, 3) := by decide +kernel
theorem dX8_ahead_44 : decode cX8_ahead 44 = .ok (.invokevirtual 216, 3) := by decide +kernel
theorem dX8_ahead_47 : decode cX8_ahead 47 = .ok (.aload_n 0, 1) := by decide +kernel
theorem dX8_ahead_48 : decode cX8_ahead 48 = .ok (.iload_n 1, 1) := by decide +kernel
theorem dX8_ahead_49 : decode cX8_ahead 49 = .ok (.iload_n 2, 1) := by decide +kernel
theorem dX8_ahead_50 : decode cX8_ahead 50 = .ok (.iload_n 3, 1) := by decide +kernel
theorem dX8_ahead_51 : decode cX8_ahead 51 = .ok (.invokevirtual 219, 3) := by decide +kernel
theorem dX8_ahead_54 : decode cX8_ahead 54 = .ok (.istore 5, 2) := by decide +kernel
theorem dX8_ahead_56 : decode cX8_ahead 56 = .ok (.iload 4, 2) := by decide +kernel
theorem dX8_ahead_58 : decode cX8_ahead 58 = .ok (.ifCond .ne 8, 3) := by decide +kernel
theorem dX8_ahead_61 : decode cX8_ahead 61 = .ok (.iload 5, 2) := by decide +kernel
theorem dX8_ahead_63 : decode cX8_ahead 63 = .ok (.goto 13, 3) := by decide +kernel
theorem dX8_ahead_66 : decode cX8_ahead 66 = .ok (.aload_n 0, 1) := by decide +kernel
theorem dX8_ahead_67 : decode cX8_ahead 67 = .ok (.getfield 63, 3) := by decide +kernel
theorem dX8_ahead_70 : decode cX8_ahead 70 = .ok (.iload 4, 2) := by decide +kernel
theorem dX8_ahead_72 : decode cX8_ahead 72 = .ok (.bipush 10, 2) := by decide +kernel
theorem dX8_ahead_74 : decode cX8_ahead 74 = .ok (.isub, 1) := by decide +kernel
theorem dX8_ahead_75 : decode cX8_ahead 75 = .ok (.iaload, 1) := by decide +kernel
theorem dX8_ahead_76 : decode cX8_ahead 76 = .ok (.ireturn, 1) := by decide +kernel
theorem dX8_strong_0 : decode cX8_strong 0 = .ok (.iload_n 1, 1) := by decide +kernel
theorem dX8_strong_1 : decode cX8_strong 1 = .ok (.invokestatic 175, 3) := by decide +kernel
theorem dX8_strong_4 : decode cX8_strong 4 = .ok (.ifCond .eq 10, 3) := by decide +kernel
theorem dX8_strong_7 : decode cX8_strong 7 = .ok (.iload_n 2, 1) := by decide +kernel
theorem dX8_strong_8 : decode cX8_strong 8 = .ok (.invokestatic 213, 3) := by decide +kernel
theorem dX8_strong_11 : decode cX8_strong 11 = .ok (.ifCond .ne 5, 3) := by decide +kernel
theorem dX8_strong_14 : decode cX8_strong 14 = .ok (.iconst (-1), 1) := by decide +kernel
theorem dX8_strong_15 : decode cX8_strong 15 = .ok (.ireturn, 1) := by decide +kernel
theorem dX8_strong_16 : decode cX8_strong 16 = .ok (.iconst 1, 1) := by decide +kernel
theorem dX8_strong_17 : decode cX8_strong 17 = .ok (.istore 4, 2) := by decide +kernel
theorem dX8_strong_19 : decode cX8_strong 19 = .ok (.iload 4, 2) := by decide +kernel
theorem dX8_strong_21 : decode cX8_strong 21 = .ok (.bipush 9, 2) := by decide +kernel
theorem dX8_strong_23 : decode cX8_strong 23 = .ok (.if_icmp .gt 43, 3) := by decide +kernel
theorem dX8_strong_26 : decode cX8_strong 26 = .ok (.aload_n 0, 1) := by decide +kernel
theorem dX8_strong_27 : decode cX8_strong 27 = .ok (.getfield 23, 3) := by decide +kernel
theorem dX8_strong_30 : decode cX8_strong 30 = .ok (.aload_n 0, 1) := by decide +kernel
theorem dX8_strong_31 : decode cX8_strong 31 = .ok (.getfield 19, 3) := by decide +kernel
theorem dX8_strong_34 : decode cX8_strong 34 = .ok (.invokevirtual 216, 3) := by decide +kernel
theorem dX8_strong_37 : decode cX8_strong 37 = .ok (.aload_n 0, 1) := by decide +kernel
theorem dX8_strong_38 : decode cX8_strong 38 = .ok (.getfield 23, 3) := by decide +kernel
theorem dX8_strong_41 : decode cX8_strong 41 = .ok (.iload_n 1, 1) := by decide +kernel
theorem dX8_strong_42 : decode cX8_strong 42 = .ok (.iload 4, 2) := by decide +kernel
theorem dX8_strong_44 : decode cX8_strong 44 = .ok (.invokevirtual 223, 3) := by decide +kernel
theorem dX8_strong_47 : decode cX8_strong 47 = .ok (.aload_n 0, 1) := by decide +kernel
theorem dX8_strong_48 : decode cX8_strong 48 = .ok (.iload_n 1, 1) := by decide +kernel
theorem dX8_strong_49 : decode cX8_strong 49 = .ok (.iload_n 2, 1) := by decide +kernel
theorem dX8_strong_50 : decode cX8_strong 50 = .ok (.iload_n 3, 1) := by decide +kernel
theorem dX8_strong_51 : decode cX8_strong 51 = .ok (.invokevirtual 219, 3) := by decide +kernel
theorem dX8_strong_54 : decode cX8_strong 54 = .ok (.ifCond .ne 6, 3) := by decide +kernel
theorem dX8_strong_57 : decode cX8_strong 57 = .ok (.iload 4, 2) := by decide +kernel
theorem dX8_strong_59 : decode cX8_strong 59 = .ok (.ireturn, 1) := by decide +kernel
theorem dX8_strong_60 : decode cX8_strong 60 = .ok (.iinc 4 1, 3) := by decide +kernel
theorem dX8_strong_63 : decode cX8_strong 63 = .ok (.goto (-44), 3) := by decide +kernel
theorem dX8_strong_66 : decode cX8_strong 66 = .ok (.bipush (-4), 2) := by decide +kernel
theorem dX8_strong_68 : decode cX8_strong 68 = .ok (.ireturn, 1) := by decide +kernel
theorem dX8_cut_0 : decode cX8_cut 0 = .ok (.aload_n 0, 1) := by decide +kernel
theorem dX8_cut_1 : decode cX8_cut 1 = .ok (.getfield 19, 3) := by decide +kernel
theorem dX8_cut_4 : decode cX8_cut 4 = .ok (.iload_n 1, 1) := by decide +kernel
theorem dX8_cut_5 : decode cX8_cut 5 = .ok (.invokevirtual 129, 3) := by decide +kernel
theorem dX8_cut_8 : decode cX8_cut 8 = .ok (.ifCond .eq 25, 3) := by decide +kernel
theorem dX8_cut_11 : decode cX8_cut 11 = .ok (.iload_n 2, 1) := by decide +kernel
theorem dX8_cut_12 : decode cX8_cut 12 = .ok (.iconst 1, 1) := by decide +kernel
theorem dX8_cut_13 : decode cX8_cut 13 = .ok (.aload_n 0, 1) := by decide +kernel
theorem dX8_cut_14 : decode cX8_cut 14 = .ok (.getfield 19, 3) := by decide +kernel
theorem dX8_cut_17 : decode cX8_cut 17 = .ok (.getfield 132, 3) := by decide +kernel
theorem dX8_cut_20 : decode cX8_cut 20 = .ok (.iload_n 1, 1) := by decide +kernel
theorem dX8_cut_21 : decode cX8_cut 21 = .ok (.aaload, 1) := by decide +kernel
theorem dX8_cut_22 : decode cX8_cut 22 = .ok (.getfield 144, 3) := by decide +kernel
theorem dX8_cut_25 : decode cX8_cut 25 = .ok (.iconst 1, 1) := by decide +kernel
theorem dX8_cut_26 : decode cX8_cut 26 = .ok (.isub, 1) := by decide +kernel
theorem dX8_cut_27 : decode cX8_cut 27 = .ok (.invokestatic 85, 3) := by decide +kernel
theorem dX8_cut_30 : decode cX8_cut 30 = .ok (.ifCond .ne 5, 3) := by decide +kernel
theorem dX8_cut_33 : decode cX8_cut 33 = .ok (.iconst (-1), 1) := by decide +kernel
theorem dX8_cut_34 : decode cX8_cut 34 = .ok (.ireturn, 1) := by decide +kernel
theorem dX8_cut_35 : decode cX8_cut 35 = .ok (.aload_n 0, 1) := by decide +kernel
theorem dX8_cut_36 : decode cX8_cut 36 = .ok (.getfield 19, 3) := by decide +kernel
theorem dX8_cut_39 : decode cX8_cut 39 = .ok (.getfield 132, 3) := by decide +kernel
theorem dX8_cut_42 : decode cX8_cut 42 = .ok (.iload_n 1, 1) := by decide +kernel
theorem dX8_cut_43 : decode cX8_cut 43 = .ok (.aaload, 1) := by decide +kernel
theorem dX8_cut_44 : decode cX8_cut 44 = .ok (.getfield 158, 3) := by decide +kernel
theorem dX8_cut_47 : decode cX8_cut 47 = .ok (.bipush (-4), 2) := by decide +kernel
theorem dX8_cut_49 : decode cX8_cut 49 = .ok (.if_icmp .eq 6, 3) := by decide +kernel
theorem dX8_cut_52 : decode cX8_cut 52 = .ok (.bipush (-2), 2) := by decide +kernel
theorem dX8_cut_54 : decode cX8_cut 54 = .ok (.ireturn, 1) := by decide +kernel
theorem dX8_cut_55 : decode cX8_cut 55 = .ok (.aload_n 0, 1) := by decide +kernel
theorem dX8_cut_56 : decode cX8_cut 56 = .ok (.getfield 19, 3) := by decide +kernel
theorem dX8_cut_59 : decode cX8_cut 59 = .ok (.getfield 132, 3) := by decide +kernel
theorem dX8_cut_62 : decode cX8_cut 62 = .ok (.iload_n 1, 1) := by decide +kernel
theorem dX8_cut_63 : decode cX8_cut 63 = .ok (.aaload, 1) := by decide +kernel
theorem dX8_cut_64 : decode cX8_cut 64 = .ok (.getfield 144, 3) := by decide +kernel
theorem dX8_cut_67 : decode cX8_cut 67 = .ok (.istore_n 3, 1) := by decide +kernel
theorem dX8_cut_68 : decode cX8_cut 68 = .ok (.aload_n 0, 1) := by decide +kernel
theorem dX8_cut_69 : decode cX8_cut 69 = .ok (.getfield 19, 3) := by decide +kernel
theorem dX8_cut_72 : decode cX8_cut 72 = .ok (.getfield 132, 3) := by decide +kernel
theorem dX8_cut_75 : decode cX8_cut 75 = .ok (.iload_n 1, 1) := by decide +kernel
theorem dX8_cut_76 : decode cX8_cut 76 = .ok (.aaload, 1) := by decide +kernel
theorem dX8_cut_77 : decode cX8_cut 77 = .ok (.iload_n 2, 1) := by decide +kernel
theorem dX8_cut_78 : decode cX8_cut 78 = .ok (.putfield 144, 3) := by decide +kernel
theorem dX8_cut_81 : decode cX8_cut 81 = .ok (.iload_n 3, 1) := by decide +kernel
theorem dX8_cut_82 : decode cX8_cut 82 = .ok (.ireturn, 1) := by decide +kernel
theorem dX8_pays_0 : decode cX8_pays 0 = .ok (.aload_n 0, 1) := by decide +kernel
theorem dX8_pays_1 : decode cX8_pays 1 = .ok (.getfield 19, 3) := by decide +kernel
theorem dX8_pays_4 : decode cX8_pays 4 = .ok (.iload_n 1, 1) := by decide +kernel
theorem dX8_pays_5 : decode cX8_pays 5 = .ok (.invokevirtual 129, 3) := by decide +kernel
theorem dX8_pays_8 : decode cX8_pays 8 = .ok (.ifCond .eq 18, 3) := by decide +kernel
theorem dX8_pays_11 : decode cX8_pays 11 = .ok (.iload_n 2, 1) := by decide +kernel
theorem dX8_pays_12 : decode cX8_pays 12 = .ok (.invokestatic 213, 3) := by decide +kernel
theorem dX8_pays_15 : decode cX8_pays 15 = .ok (.ifCond .eq 11, 3) := by decide +kernel
theorem dX8_pays_18 : decode cX8_pays 18 = .ok (.iload 4, 2) := by decide +kernel
theorem dX8_pays_20 : decode cX8_pays 20 = .ok (.invokestatic 182, 3) := by decide +kernel
theorem dX8_pays_23 : decode cX8_pays 23 = .ok (.ifCond .ne 5, 3) := by decide +kernel
theorem dX8_pays_26 : decode cX8_pays 26 = .ok (.iconst (-1), 1) := by decide +kernel
theorem dX8_pays_27 : decode cX8_pays 27 = .ok (.ireturn, 1) := by decide +kernel
theorem dX8_pays_28 : decode cX8_pays 28 = .ok (.aload_n 0, 1) := by decide +kernel
theorem dX8_pays_29 : decode cX8_pays 29 = .ok (.getfield 19, 3) := by decide +kernel
theorem dX8_pays_32 : decode cX8_pays 32 = .ok (.getfield 132, 3) := by decide +kernel
theorem dX8_pays_35 : decode cX8_pays 35 = .ok (.iload_n 1, 1) := by decide +kernel
theorem dX8_pays_36 : decode cX8_pays 36 = .ok (.aaload, 1) := by decide +kernel
theorem dX8_pays_37 : decode cX8_pays 37 = .ok (.getfield 158, 3) := by decide +kernel
theorem dX8_pays_40 : decode cX8_pays 40 = .ok (.bipush (-4), 2) := by decide +kernel
theorem dX8_pays_42 : decode cX8_pays 42 = .ok (.if_icmp .eq 6, 3) := by decide +kernel
theorem dX8_pays_45 : decode cX8_pays 45 = .ok (.bipush (-2), 2) := by decide +kernel
theorem dX8_pays_47 : decode cX8_pays 47 = .ok (.ireturn, 1) := by decide +kernel
theorem dX8_pays_48 : decode cX8_pays 48 = .ok (.aload_n 0, 1) := by decide +kernel
theorem dX8_pays_49 : decode cX8_pays 49 = .ok (.aload_n 0, 1) := by decide +kernel
theorem dX8_pays_50 : decode cX8_pays 50 = .ok (.getfield 19, 3) := by decide +kernel
theorem dX8_pays_53 : decode cX8_pays 53 = .ok (.getfield 132, 3) := by decide +kernel
theorem dX8_pays_56 : decode cX8_pays 56 = .ok (.iload_n 1, 1) := by decide +kernel
theorem dX8_pays_57 : decode cX8_pays 57 = .ok (.aaload, 1) := by decide +kernel
theorem dX8_pays_58 : decode cX8_pays 58 = .ok (.getfield 136, 3) := by decide +kernel
theorem dX8_pays_61 : decode cX8_pays 61 = .ok (.iload_n 2, 1) := by decide +kernel
theorem dX8_pays_62 : decode cX8_pays 62 = .ok (.iload_n 3, 1) := by decide +kernel
theorem dX8_pays_63 : decode cX8_pays 63 = .ok (.invokevirtual 227, 3) := by decide +kernel
theorem dX8_pays_66 : decode cX8_pays 66 = .ok (.aload_n 0, 1) := by decide +kernel
theorem dX8_pays_67 : decode cX8_pays 67 = .ok (.iload_n 1, 1) := by decide +kernel
theorem dX8_pays_68 : decode cX8_pays 68 = .ok (.iload_n 2, 1) := by decide +kernel
theorem dX8_pays_69 : decode cX8_pays 69 = .ok (.iload_n 3, 1) := by decide +kernel
theorem dX8_pays_70 : decode cX8_pays 70 = .ok (.invokevirtual 231, 3) := by decide +kernel
theorem dX8_pays_73 : decode cX8_pays 73 = .ok (.aload_n 0, 1) := by decide +kernel
theorem dX8_pays_74 : decode cX8_pays 74 = .ok (.getfield 234, 3) := by decide +kernel
theorem dX8_pays_77 : decode cX8_pays 77 = .ok (.bipush (-4), 2) := by decide +kernel
theorem dX8_pays_79 : decode cX8_pays 79 = .ok (.if_icmp .ne 6, 3) := by decide +kernel
theorem dX8_pays_82 : decode cX8_pays 82 = .ok (.bipush (-4), 2) := by decide +kernel
theorem dX8_pays_84 : decode cX8_pays 84 = .ok (.ireturn, 1) := by decide +kernel
theorem dX8_pays_85 : decode cX8_pays 85 = .ok (.iload 4, 2) := by decide +kernel
theorem dX8_pays_87 : decode cX8_pays 87 = .ok (.ifCond .ne 10, 3) := by decide +kernel
theorem dX8_pays_90 : decode cX8_pays 90 = .ok (.aload_n 0, 1) := by decide +kernel
theorem dX8_pays_91 : decode cX8_pays 91 = .ok (.getfield 237, 3) := by decide +kernel
theorem dX8_pays_94 : decode cX8_pays 94 = .ok (.goto 7, 3) := by decide +kernel
theorem dX8_pays_97 : decode cX8_pays 97 = .ok (.aload_n 0, 1) := by decide +kernel
theorem dX8_pays_98 : decode cX8_pays 98 = .ok (.getfield 240, 3) := by decide +kernel
theorem dX8_pays_101 : decode cX8_pays 101 = .ok (.ireturn, 1) := by decide +kernel
theorem dX8_best_0 : decode cX8_best 0 = .ok (.iload_n 1, 1) := by decide +kernel
theorem dX8_best_1 : decode cX8_best 1 = .ok (.invokestatic 175, 3) := by decide +kernel
theorem dX8_best_4 : decode cX8_best 4 = .ok (.ifCond .eq 18, 3) := by decide +kernel
theorem dX8_best_7 : decode cX8_best 7 = .ok (.iload_n 2, 1) := by decide +kernel
theorem dX8_best_8 : decode cX8_best 8 = .ok (.invokestatic 213, 3) := by decide +kernel
theorem dX8_best_11 : decode cX8_best 11 = .ok (.ifCond .eq 11, 3) := by decide +kernel
theorem dX8_best_14 : decode cX8_best 14 = .ok (.iload 4, 2) := by decide +kernel
theorem dX8_best_16 : decode cX8_best 16 = .ok (.invokestatic 182, 3) := by decide +kernel
theorem dX8_best_19 : decode cX8_best 19 = .ok (.ifCond .ne 5, 3) := by decide +kernel
theorem dX8_best_22 : decode cX8_best 22 = .ok (.iconst (-1), 1) := by decide +kernel
theorem dX8_best_23 : decode cX8_best 23 = .ok (.ireturn, 1) := by decide +kernel
theorem dX8_best_24 : decode cX8_best 24 = .ok (.aload_n 0, 1) := by decide +kernel
theorem dX8_best_25 : decode cX8_best 25 = .ok (.iload_n 1, 1) := by decide +kernel
theorem dX8_best_26 : decode cX8_best 26 = .ok (.iload_n 2, 1) := by decide +kernel
theorem dX8_best_27 : decode cX8_best 27 = .ok (.iload_n 3, 1) := by decide +kernel
theorem dX8_best_28 : decode cX8_best 28 = .ok (.invokevirtual 227, 3) := by decide +kernel
theorem dX8_best_31 : decode cX8_best 31 = .ok (.iconst 0, 1) := by decide +kernel
theorem dX8_best_32 : decode cX8_best 32 = .ok (.istore 5, 2) := by decide +kernel
theorem dX8_best_34 : decode cX8_best 34 = .ok (.iload 5, 2) := by decide +kernel
theorem dX8_best_36 : decode cX8_best 36 = .ok (.aload_n 0, 1) := by decide +kernel
theorem dX8_best_37 : decode cX8_best 37 = .ok (.getfield 19, 3) := by decide +kernel
theorem dX8_best_40 : decode cX8_best 40 = .ok (.getfield 243, 3) := by decide +kernel
theorem dX8_best_43 : decode cX8_best 43 = .ok (.if_icmp .ge 52, 3) := by decide +kernel
theorem dX8_best_46 : decode cX8_best 46 = .ok (.aload_n 0, 1) := by decide +kernel
theorem dX8_best_47 : decode cX8_best 47 = .ok (.getfield 19, 3) := by decide +kernel
theorem dX8_best_50 : decode cX8_best 50 = .ok (.getfield 132, 3) := by decide +kernel
theorem dX8_best_53 : decode cX8_best 53 = .ok (.iload 5, 2) := by decide +kernel
theorem dX8_best_55 : decode cX8_best 55 = .ok (.aaload, 1) := by decide +kernel
theorem dX8_best_56 : decode cX8_best 56 = .ok (.getfield 136, 3) := by decide +kernel
theorem dX8_best_59 : decode cX8_best 59 = .ok (.iload_n 1, 1) := by decide +kernel
theorem dX8_best_60 : decode cX8_best 60 = .ok (.if_icmp .ne 29, 3) := by decide +kernel
theorem dX8_best_63 : decode cX8_best 63 = .ok (.aload_n 0, 1) := by decide +kernel
theorem dX8_best_64 : decode cX8_best 64 = .ok (.getfield 19, 3) := by decide +kernel
theorem dX8_best_67 : decode cX8_best 67 = .ok (.getfield 132, 3) := by decide +kernel
theorem dX8_best_70 : decode cX8_best 70 = .ok (.iload 5, 2) := by decide +kernel
theorem dX8_best_72 : decode cX8_best 72 = .ok (.aaload, 1) := by decide +kernel
theorem dX8_best_73 : decode cX8_best 73 = .ok (.getfield 158, 3) := by decide +kernel
theorem dX8_best_76 : decode cX8_best 76 = .ok (.bipush (-4), 2) := by decide +kernel
theorem dX8_best_78 : decode cX8_best 78 = .ok (.if_icmp .ne 11, 3) := by decide +kernel
theorem dX8_best_81 : decode cX8_best 81 = .ok (.aload_n 0, 1) := by decide +kernel
theorem dX8_best_82 : decode cX8_best 82 = .ok (.iload 5, 2) := by decide +kernel
theorem dX8_best_84 : decode cX8_best 84 = .ok (.iload_n 2, 1) := by decide +kernel
theorem dX8_best_85 : decode cX8_best 85 = .ok (.iload_n 3, 1) := by decide +kernel
theorem dX8_best_86 : decode cX8_best 86 = .ok (.invokevirtual 231, 3) := by decide +kernel
theorem dX8_best_89 : decode cX8_best 89 = .ok (.iinc 5 1, 3) := by decide +kernel
theorem dX8_best_92 : decode cX8_best 92 = .ok (.goto (-58), 3) := by decide +kernel
theorem dX8_best_95 : decode cX8_best 95 = .ok (.aload_n 0, 1) := by decide +kernel
theorem dX8_best_96 : decode cX8_best 96 = .ok (.getfield 234, 3) := by decide +kernel
theorem dX8_best_99 : decode cX8_best 99 = .ok (.bipush (-4), 2) := by decide +kernel
theorem dX8_best_101 : decode cX8_best 101 = .ok (.if_icmp .ne 6, 3) := by decide +kernel
theorem dX8_best_104 : decode cX8_best 104 = .ok (.bipush (-4), 2) := by decide +kernel
theorem dX8_best_106 : decode cX8_best 106 = .ok (.ireturn, 1) := by decide +kernel
theorem dX8_best_107 : decode cX8_best 107 = .ok (.iload 4, 2) := by decide +kernel
theorem dX8_best_109 : decode cX8_best 109 = .ok (.ifCond .ne 18, 3) := by decide +kernel
theorem dX8_best_112 : decode cX8_best 112 = .ok (.bipush 100, 2) := by decide +kernel
theorem dX8_best_114 : decode cX8_best 114 = .ok (.aload_n 0, 1) := by decide +kernel
theorem dX8_best_115 : decode cX8_best 115 = .ok (.getfield 234, 3) := by decide +kernel
theorem dX8_best_118 : decode cX8_best 118 = .ok (.imul, 1) := by decide +kernel
theorem dX8_best_119 : decode cX8_best 119 = .ok (.aload_n 0, 1) := by decide +kernel
theorem dX8_best_120 : decode cX8_best 120 = .ok (.getfield 237, 3) := by decide +kernel
theorem dX8_best_123 : decode cX8_best 123 = .ok (.iadd, 1) := by decide +kernel
theorem dX8_best_124 : decode cX8_best 124 = .ok (.goto 7, 3) := by decide +kernel
theorem dX8_best_127 : decode cX8_best 127 = .ok (.aload_n 0, 1) := by decide +kernel
theorem dX8_best_128 : decode cX8_best 128 = .ok (.getfield 240, 3) := by decide +kernel
theorem dX8_best_131 : decode cX8_best 131 = .ok (.ireturn, 1) := by decide +kernel
theorem dX8_sew_0 : decode cX8_sew 0 = .ok (.aload_n 0, 1) := by decide +kernel
theorem dX8_sew_1 : decode cX8_sew 1 = .ok (.getfield 19, 3) := by decide +kernel
theorem dX8_sew_4 : decode cX8_sew 4 = .ok (.getfield 243, 3) := by decide +kernel
theorem dX8_sew_7 : decode cX8_sew 7 = .ok (.iload_n 1, 1) := by decide +kernel
theorem dX8_sew_8 : decode cX8_sew 8 = .ok (.iload_n 2, 1) := by decide +kernel
theorem dX8_sew_9 : decode cX8_sew 9 = .ok (.invokestatic 246, 3) := by decide +kernel
theorem dX8_sew_12 : decode cX8_sew 12 = .ok (.istore_n 3, 1) := by decide +kernel
theorem dX8_sew_13 : decode cX8_sew 13 = .ok (.iload_n 3, 1) := by decide +kernel
theorem dX8_sew_14 : decode cX8_sew 14 = .ok (.ifCond .eq 7, 3) := by decide +kernel
theorem dX8_sew_17 : decode cX8_sew 17 = .ok (.iload_n 3, 1) := by decide +kernel
theorem dX8_sew_18 : decode cX8_sew 18 = .ok (.goto 13, 3) := by decide +kernel
theorem dX8_sew_21 : decode cX8_sew 21 = .ok (.aload_n 0, 1) := by decide +kernel
theorem dX8_sew_22 : decode cX8_sew 22 = .ok (.getfield 19, 3) := by decide +kernel
theorem dX8_sew_25 : decode cX8_sew 25 = .ok (.iload_n 1, 1) := by decide +kernel
theorem dX8_sew_26 : decode cX8_sew 26 = .ok (.iload_n 2, 1) := by decide +kernel
theorem dX8_sew_27 : decode cX8_sew 27 = .ok (.iconst 3, 1) := by decide +kernel
theorem dX8_sew_28 : decode cX8_sew 28 = .ok (.invokevirtual 249, 3) := by decide +kernel
theorem dX8_sew_31 : decode cX8_sew 31 = .ok (.ireturn, 1) := by decide +kernel
theorem dX8_wish_0 : decode cX8_wish 0 = .ok (.iload_n 1, 1) := by decide +kernel
theorem dX8_wish_1 : decode cX8_wish 1 = .ok (.invokestatic 175, 3) := by decide +kernel
theorem dX8_wish_4 : decode cX8_wish 4 = .ok (.ifCond .eq 18, 3) := by decide +kernel
theorem dX8_wish_7 : decode cX8_wish 7 = .ok (.iload_n 2, 1) := by decide +kernel
theorem dX8_wish_8 : decode cX8_wish 8 = .ok (.invokestatic 213, 3) := by decide +kernel
theorem dX8_wish_11 : decode cX8_wish 11 = .ok (.ifCond .eq 11, 3) := by decide +kernel
theorem dX8_wish_14 : decode cX8_wish 14 = .ok (.iload 4, 2) := by decide +kernel
theorem dX8_wish_16 : decode cX8_wish 16 = .ok (.invokestatic 182, 3) := by decide +kernel
theorem dX8_wish_19 : decode cX8_wish 19 = .ok (.ifCond .ne 5, 3) := by decide +kernel
theorem dX8_wish_22 : decode cX8_wish 22 = .ok (.iconst (-1), 1) := by decide +kernel
theorem dX8_wish_23 : decode cX8_wish 23 = .ok (.ireturn, 1) := by decide +kernel
theorem dX8_wish_24 : decode cX8_wish 24 = .ok (.aload_n 0, 1) := by decide +kernel
theorem dX8_wish_25 : decode cX8_wish 25 = .ok (.getfield 19, 3) := by decide +kernel
theorem dX8_wish_28 : decode cX8_wish 28 = .ok (.getfield 243, 3) := by decide +kernel
theorem dX8_wish_31 : decode cX8_wish 31 = .ok (.bipush 10, 2) := by decide +kernel
theorem dX8_wish_33 : decode cX8_wish 33 = .ok (.if_icmp .lt 6, 3) := by decide +kernel
theorem dX8_wish_36 : decode cX8_wish 36 = .ok (.bipush (-3), 2) := by decide +kernel
theorem dX8_wish_38 : decode cX8_wish 38 = .ok (.ireturn, 1) := by decide +kernel
theorem dX8_wish_39 : decode cX8_wish 39 = .ok (.iconst 0, 1) := by decide +kernel
theorem dX8_wish_40 : decode cX8_wish 40 = .ok (.istore 5, 2) := by decide +kernel
theorem dX8_wish_42 : decode cX8_wish 42 = .ok (.iconst 0, 1) := by decide +kernel
theorem dX8_wish_43 : decode cX8_wish 43 = .ok (.istore 6, 2) := by decide +kernel
theorem dX8_wish_45 : decode cX8_wish 45 = .ok (.iconst 1, 1) := by decide +kernel
theorem dX8_wish_46 : decode cX8_wish 46 = .ok (.istore 7, 2) := by decide +kernel
theorem dX8_wish_48 : decode cX8_wish 48 = .ok (.iload 7, 2) := by decide +kernel
theorem dX8_wish_50 : decode cX8_wish 50 = .ok (.bipush 40, 2) := by decide +kernel
theorem dX8_wish_52 : decode cX8_wish 52 = .ok (.if_icmp .gt 62, 3) := by decide +kernel
theorem dX8_wish_55 : decode cX8_wish 55 = .ok (.aload_n 0, 1) := by decide +kernel
theorem dX8_wish_56 : decode cX8_wish 56 = .ok (.getfield 23, 3) := by decide +kernel
theorem dX8_wish_59 : decode cX8_wish 59 = .ok (.aload_n 0, 1) := by decide +kernel
theorem dX8_wish_60 : decode cX8_wish 60 = .ok (.getfield 19, 3) := by decide +kernel
theorem dX8_wish_63 : decode cX8_wish 63 = .ok (.invokevirtual 216, 3) := by decide +kernel
theorem dX8_wish_66 : decode cX8_wish 66 = .ok (.aload_n 0, 1) := by decide +kernel
theorem dX8_wish_67 : decode cX8_wish 67 = .ok (.getfield 23, 3) := by decide +kernel
theorem dX8_wish_70 : decode cX8_wish 70 = .ok (.iload_n 1, 1) := by decide +kernel
theorem dX8_wish_71 : decode cX8_wish 71 = .ok (.iload 7, 2) := by decide +kernel
theorem dX8_wish_73 : decode cX8_wish 73 = .ok (.bipush 9, 2) := by decide +kernel
theorem dX8_wish_75 : decode cX8_wish 75 = .ok (.invokevirtual 249, 3) := by decide +kernel
theorem dX8_wish_78 : decode cX8_wish 78 = .ok (.pop, 1) := by decide +kernel
theorem dX8_wish_79 : decode cX8_wish 79 = .ok (.aload_n 0, 1) := by decide +kernel
theorem dX8_wish_80 : decode cX8_wish 80 = .ok (.iload_n 1, 1) := by decide +kernel
theorem dX8_wish_81 : decode cX8_wish 81 = .ok (.iload_n 2, 1) := by decide +kernel
theorem dX8_wish_82 : decode cX8_wish 82 = .ok (.iload_n 3, 1) := by decide +kernel
theorem dX8_wish_83 : decode cX8_wish 83 = .ok (.invokevirtual 219, 3) := by decide +kernel
theorem dX8_wish_86 : decode cX8_wish 86 = .ok (.istore 8, 2) := by decide +kernel
theorem dX8_wish_88 : decode cX8_wish 88 = .ok (.iload 5, 2) := by decide +kernel
theorem dX8_wish_90 : decode cX8_wish 90 = .ok (.ifCond .eq 10, 3) := by decide +kernel
theorem dX8_wish_93 : decode cX8_wish 93 = .ok (.iload 8, 2) := by decide +kernel
theorem dX8_wish_95 : decode cX8_wish 95 = .ok (.iload 6, 2) := by decide +kernel
theorem dX8_wish_97 : decode cX8_wish 97 = .ok (.if_icmp .ge 11, 3) := by decide +kernel
theorem dX8_wish_100 : decode cX8_wish 100 = .ok (.iload 7, 2) := by decide +kernel
theorem dX8_wish_102 : decode cX8_wish 102 = .ok (.istore 5, 2) := by decide +kernel
theorem dX8_wish_104 : decode cX8_wish 104 = .ok (.iload 8, 2) := by decide +kernel
theorem dX8_wish_106 : decode cX8_wish 106 = .ok (.istore 6, 2) := by decide +kernel
theorem dX8_wish_108 : decode cX8_wish 108 = .ok (.iinc 7 1, 3) := by decide +kernel
theorem dX8_wish_111 : decode cX8_wish 111 = .ok (.goto (-63), 3) := by decide +kernel
theorem dX8_wish_114 : decode cX8_wish 114 = .ok (.iload 4, 2) := by decide +kernel
theorem dX8_wish_116 : decode cX8_wish 116 = .ok (.ifCond .ne 8, 3) := by decide +kernel
theorem dX8_wish_119 : decode cX8_wish 119 = .ok (.iload 5, 2) := by decide +kernel
theorem dX8_wish_121 : decode cX8_wish 121 = .ok (.goto 5, 3) := by decide +kernel
theorem dX8_wish_124 : decode cX8_wish 124 = .ok (.iload 6, 2) := by decide +kernel
theorem dX8_wish_126 : decode cX8_wish 126 = .ok (.ireturn, 1) := by decide +kernel
theorem dX8_swap_0 : decode cX8_swap 0 = .ok (.aload_n 0, 1) := by decide +kernel
theorem dX8_swap_1 : decode cX8_swap 1 = .ok (.getfield 19, 3) := by decide +kernel
theorem dX8_swap_4 : decode cX8_swap 4 = .ok (.aload_n 0, 1) := by decide +kernel
theorem dX8_swap_5 : decode cX8_swap 5 = .ok (.getfield 67, 3) := by decide +kernel
theorem dX8_swap_8 : decode cX8_swap 8 = .ok (.invokevirtual 252, 3) := by decide +kernel
theorem dX8_swap_11 : decode cX8_swap 11 = .ok (.ireturn, 1) := by decide +kernel
theorem dX8_settle_0 : decode cX8_settle 0 = .ok (.sipush 144, 3) := by decide +kernel
theorem dX8_settle_3 : decode cX8_settle 3 = .ok (.istore_n 1, 1) := by decide +kernel
theorem dX8_settle_4 : decode cX8_settle 4 = .ok (.iconst 0, 1) := by decide +kernel
theorem dX8_settle_5 : decode cX8_settle 5 = .ok (.istore_n 2, 1) := by decide +kernel
theorem dX8_settle_6 : decode cX8_settle 6 = .ok (.iload_n 2, 1) := by decide +kernel
theorem dX8_settle_7 : decode cX8_settle 7 = .ok (.iload_n 1, 1) := by decide +kernel
theorem dX8_settle_8 : decode cX8_settle 8 = .ok (.if_icmp .ge 52, 3) := by decide +kernel
theorem dX8_settle_11 : decode cX8_settle 11 = .ok (.aload_n 0, 1) := by decide +kernel
theorem dX8_settle_12 : decode cX8_settle 12 = .ok (.getfield 19, 3) := by decide +kernel
theorem dX8_settle_15 : decode cX8_settle 15 = .ok (.aload_n 0, 1) := by decide +kernel
theorem dX8_settle_16 : decode cX8_settle 16 = .ok (.getfield 67, 3) := by decide +kernel
theorem dX8_settle_19 : decode cX8_settle 19 = .ok (.invokevirtual 252, 3) := by decide +kernel
theorem dX8_settle_22 : decode cX8_settle 22 = .ok (.istore_n 3, 1) := by decide +kernel
theorem dX8_settle_23 : decode cX8_settle 23 = .ok (.iload_n 3, 1) := by decide +kernel
theorem dX8_settle_24 : decode cX8_settle 24 = .ok (.bipush (-4), 2) := by decide +kernel
theorem dX8_settle_26 : decode cX8_settle 26 = .ok (.if_icmp .ne 6, 3) := by decide +kernel
theorem dX8_settle_29 : decode cX8_settle 29 = .ok (.goto 31, 3) := by decide +kernel
theorem dX8_settle_32 : decode cX8_settle 32 = .ok (.aload_n 0, 1) := by decide +kernel
theorem dX8_settle_33 : decode cX8_settle 33 = .ok (.getfield 19, 3) := by decide +kernel
theorem dX8_settle_36 : decode cX8_settle 36 = .ok (.iload_n 3, 1) := by decide +kernel
theorem dX8_settle_37 : decode cX8_settle 37 = .ok (.bipush 100, 2) := by decide +kernel
theorem dX8_settle_39 : decode cX8_settle 39 = .ok (.idiv, 1) := by decide +kernel
theorem dX8_settle_40 : decode cX8_settle 40 = .ok (.iload_n 3, 1) := by decide +kernel
theorem dX8_settle_41 : decode cX8_settle 41 = .ok (.bipush 10, 2) := by decide +kernel
theorem dX8_settle_43 : decode cX8_settle 43 = .ok (.idiv, 1) := by decide +kernel
theorem dX8_settle_44 : decode cX8_settle 44 = .ok (.bipush 10, 2) := by decide +kernel
theorem dX8_settle_46 : decode cX8_settle 46 = .ok (.irem, 1) := by decide +kernel
theorem dX8_settle_47 : decode cX8_settle 47 = .ok (.iload_n 3, 1) := by decide +kernel
theorem dX8_settle_48 : decode cX8_settle 48 = .ok (.bipush 10, 2) := by decide +kernel
theorem dX8_settle_50 : decode cX8_settle 50 = .ok (.irem, 1) := by decide +kernel
theorem dX8_settle_51 : decode cX8_settle 51 = .ok (.invokevirtual 255, 3) := by decide +kernel
theorem dX8_settle_54 : decode cX8_settle 54 = .ok (.iinc 2 1, 3) := by decide +kernel
theorem dX8_settle_57 : decode cX8_settle 57 = .ok (.goto (-51), 3) := by decide +kernel
theorem dX8_settle_60 : decode cX8_settle 60 = .ok (.iload_n 2, 1) := by decide +kernel
theorem dX8_settle_61 : decode cX8_settle 61 = .ok (.ireturn, 1) := by decide +kernel
theorem dX8_odds_0 : decode cX8_odds 0 = .ok (.iload_n 1, 1) := by decide +kernel
theorem dX8_odds_1 : decode cX8_odds 1 = .ok (.invokestatic 175, 3) := by decide +kernel
theorem dX8_odds_4 : decode cX8_odds 4 = .ok (.ifCond .eq 10, 3) := by decide +kernel
theorem dX8_odds_7 : decode cX8_odds 7 = .ok (.iload_n 2, 1) := by decide +kernel
theorem dX8_odds_8 : decode cX8_odds 8 = .ok (.invokestatic 182, 3) := by decide +kernel
theorem dX8_odds_11 : decode cX8_odds 11 = .ok (.ifCond .ne 7, 3) := by decide +kernel
theorem dX8_odds_14 : decode cX8_odds 14 = .ok (.ldc2_w 258, 3) := by decide +kernel
theorem dX8_odds_17 : decode cX8_odds 17 = .ok (.lreturn, 1) := by decide +kernel
theorem dX8_odds_18 : decode cX8_odds 18 = .ok (.iconst 1, 1) := by decide +kernel
theorem dX8_odds_19 : decode cX8_odds 19 = .ok (.aload_n 0, 1) := by decide +kernel
theorem dX8_odds_20 : decode cX8_odds 20 = .ok (.getfield 19, 3) := by decide +kernel
theorem dX8_odds_23 : decode cX8_odds 23 = .ok (.getfield 192, 3) := by decide +kernel
theorem dX8_odds_26 : decode cX8_odds 26 = .ok (.ishl, 1) := by decide +kernel
theorem dX8_odds_27 : decode cX8_odds 27 = .ok (.istore_n 3, 1) := by decide +kernel
theorem dX8_odds_28 : decode cX8_odds 28 = .ok (.iconst 0, 1) := by decide +kernel
theorem dX8_odds_29 : decode cX8_odds 29 = .ok (.istore 4, 2) := by decide +kernel
theorem dX8_odds_31 : decode cX8_odds 31 = .ok (.iconst 0, 1) := by decide +kernel
theorem dX8_odds_32 : decode cX8_odds 32 = .ok (.istore 5, 2) := by decide +kernel
theorem dX8_odds_34 : decode cX8_odds 34 = .ok (.iload 5, 2) := by decide +kernel
theorem dX8_odds_36 : decode cX8_odds 36 = .ok (.iload_n 3, 1) := by decide +kernel
theorem dX8_odds_37 : decode cX8_odds 37 = .ok (.if_icmp .ge 72, 3) := by decide +kernel
theorem dX8_odds_40 : decode cX8_odds 40 = .ok (.aload_n 0, 1) := by decide +kernel
theorem dX8_odds_41 : decode cX8_odds 41 = .ok (.getfield 23, 3) := by decide +kernel
theorem dX8_odds_44 : decode cX8_odds 44 = .ok (.aload_n 0, 1) := by decide +kernel
theorem dX8_odds_45 : decode cX8_odds 45 = .ok (.getfield 19, 3) := by decide +kernel
theorem dX8_odds_48 : decode cX8_odds 48 = .ok (.invokevirtual 216, 3) := by decide +kernel
theorem dX8_odds_51 : decode cX8_odds 51 = .ok (.aload_n 0, 1) := by decide +kernel
theorem dX8_odds_52 : decode cX8_odds 52 = .ok (.getfield 23, 3) := by decide +kernel
theorem dX8_odds_55 : decode cX8_odds 55 = .ok (.iload 5, 2) := by decide +kernel
theorem dX8_odds_57 : decode cX8_odds 57 = .ok (.invokevirtual 260, 3) := by decide +kernel
theorem dX8_odds_60 : decode cX8_odds 60 = .ok (.aload_n 0, 1) := by decide +kernel
theorem dX8_odds_61 : decode cX8_odds 61 = .ok (.getfield 52, 3) := by decide +kernel
theorem dX8_odds_64 : decode cX8_odds 64 = .ok (.aload_n 0, 1) := by decide +kernel
theorem dX8_odds_65 : decode cX8_odds 65 = .ok (.getfield 23, 3) := by decide +kernel
theorem dX8_odds_68 : decode cX8_odds 68 = .ok (.iload_n 1, 1) := by decide +kernel
theorem dX8_odds_69 : decode cX8_odds 69 = .ok (.aload_n 0, 1) := by decide +kernel
theorem dX8_odds_70 : decode cX8_odds 70 = .ok (.getfield 67, 3) := by decide +kernel
theorem dX8_odds_73 : decode cX8_odds 73 = .ok (.invokevirtual 264, 3) := by decide +kernel
theorem dX8_odds_76 : decode cX8_odds 76 = .ok (.aload_n 0, 1) := by decide +kernel
theorem dX8_odds_77 : decode cX8_odds 77 = .ok (.getfield 52, 3) := by decide +kernel
theorem dX8_odds_80 : decode cX8_odds 80 = .ok (.invokevirtual 267, 3) := by decide +kernel
theorem dX8_odds_83 : decode cX8_odds 83 = .ok (.aload_n 0, 1) := by decide +kernel
theorem dX8_odds_84 : decode cX8_odds 84 = .ok (.getfield 52, 3) := by decide +kernel
theorem dX8_odds_87 : decode cX8_odds 87 = .ok (.getfield 189, 3) := by decide +kernel
theorem dX8_odds_90 : decode cX8_odds 90 = .ok (.aload_n 0, 1) := by decide +kernel
theorem dX8_odds_91 : decode cX8_odds 91 = .ok (.getfield 19, 3) := by decide +kernel
theorem dX8_odds_94 : decode cX8_odds 94 = .ok (.getfield 192, 3) := by decide +kernel
theorem dX8_odds_97 : decode cX8_odds 97 = .ok (.if_icmp .ne 6, 3) := by decide +kernel
theorem dX8_odds_100 : decode cX8_odds 100 = .ok (.iinc 4 1, 3) := by decide +kernel
theorem dX8_odds_103 : decode cX8_odds 103 = .ok (.iinc 5 1, 3) := by decide +kernel
theorem dX8_odds_106 : decode cX8_odds 106 = .ok (.goto (-72), 3) := by decide +kernel
theorem dX8_odds_109 : decode cX8_odds 109 = .ok (.iload_n 3, 1) := by decide +kernel
theorem dX8_odds_110 : decode cX8_odds 110 = .ok (.iconst 1, 1) := by decide +kernel
theorem dX8_odds_111 : decode cX8_odds 111 = .ok (.if_icmp .le 23, 3) := by decide +kernel
theorem dX8_odds_114 : decode cX8_odds 114 = .ok (.iload 4, 2) := by decide +kernel
theorem dX8_odds_116 : decode cX8_odds 116 = .ok (.iconst 2, 1) := by decide +kernel
theorem dX8_odds_117 : decode cX8_odds 117 = .ok (.irem, 1) := by decide +kernel
theorem dX8_odds_118 : decode cX8_odds 118 = .ok (.ifCond .ne 16, 3) := by decide +kernel
theorem dX8_odds_121 : decode cX8_odds 121 = .ok (.iload 4, 2) := by decide +kernel
theorem dX8_odds_123 : decode cX8_odds 123 = .ok (.iconst 2, 1) := by decide +kernel
theorem dX8_odds_124 : decode cX8_odds 124 = .ok (.idiv, 1) := by decide +kernel
theorem dX8_odds_125 : decode cX8_odds 125 = .ok (.istore 4, 2) := by decide +kernel
theorem dX8_odds_127 : decode cX8_odds 127 = .ok (.iload_n 3, 1) := by decide +kernel
theorem dX8_odds_128 : decode cX8_odds 128 = .ok (.iconst 2, 1) := by decide +kernel
theorem dX8_odds_129 : decode cX8_odds 129 = .ok (.idiv, 1) := by decide +kernel
theorem dX8_odds_130 : decode cX8_odds 130 = .ok (.istore_n 3, 1) := by decide +kernel
theorem dX8_odds_131 : decode cX8_odds 131 = .ok (.goto (-22), 3) := by decide +kernel
theorem dX8_odds_134 : decode cX8_odds 134 = .ok (.iload_n 2, 1) := by decide +kernel
theorem dX8_odds_135 : decode cX8_odds 135 = .ok (.ifCond .ne 9, 3) := by decide +kernel
theorem dX8_odds_138 : decode cX8_odds 138 = .ok (.iload 4, 2) := by decide +kernel
theorem dX8_odds_140 : decode cX8_odds 140 = .ok (.i2l, 1) := by decide +kernel
theorem dX8_odds_141 : decode cX8_odds 141 = .ok (.goto 5, 3) := by decide +kernel
theorem dX8_odds_144 : decode cX8_odds 144 = .ok (.iload_n 3, 1) := by decide +kernel
theorem dX8_odds_145 : decode cX8_odds 145 = .ok (.i2l, 1) := by decide +kernel
theorem dX8_odds_146 : decode cX8_odds 146 = .ok (.lreturn, 1) := by decide +kernel
theorem dX8_mark_0 : decode cX8_mark 0 = .ok (.iload_n 1, 1) := by decide +kernel
theorem dX8_mark_1 : decode cX8_mark 1 = .ok (.invokestatic 270, 3) := by decide +kernel
theorem dX8_mark_4 : decode cX8_mark 4 = .ok (.ifCond .ne 5, 3) := by decide +kernel
theorem dX8_mark_7 : decode cX8_mark 7 = .ok (.iconst (-1), 1) := by decide +kernel
theorem dX8_mark_8 : decode cX8_mark 8 = .ok (.ireturn, 1) := by decide +kernel
theorem dX8_mark_9 : decode cX8_mark 9 = .ok (.aload_n 0, 1) := by decide +kernel
theorem dX8_mark_10 : decode cX8_mark 10 = .ok (.getfield 19, 3) := by decide +kernel
theorem dX8_mark_13 : decode cX8_mark 13 = .ok (.getfield 273, 3) := by decide +kernel
theorem dX8_mark_16 : decode cX8_mark 16 = .ok (.bipush 6, 2) := by decide +kernel
theorem dX8_mark_18 : decode cX8_mark 18 = .ok (.if_icmp .lt 6, 3) := by decide +kernel
theorem dX8_mark_21 : decode cX8_mark 21 = .ok (.bipush (-3), 2) := by decide +kernel
theorem dX8_mark_23 : decode cX8_mark 23 = .ok (.ireturn, 1) := by decide +kernel
theorem dX8_mark_24 : decode cX8_mark 24 = .ok (.aload_n 0, 1) := by decide +kernel
theorem dX8_mark_25 : decode cX8_mark 25 = .ok (.getfield 19, 3) := by decide +kernel
theorem dX8_mark_28 : decode cX8_mark 28 = .ok (.iload_n 1, 1) := by decide +kernel
theorem dX8_mark_29 : decode cX8_mark 29 = .ok (.invokevirtual 276, 3) := by decide +kernel
theorem dX8_mark_32 : decode cX8_mark 32 = .ok (.aload_n 0, 1) := by decide +kernel
theorem dX8_mark_33 : decode cX8_mark 33 = .ok (.getfield 19, 3) := by decide +kernel
theorem dX8_mark_36 : decode cX8_mark 36 = .ok (.getfield 273, 3) := by decide +kernel
theorem dX8_mark_39 : decode cX8_mark 39 = .ok (.ireturn, 1) := by decide +kernel
theorem dX8_unmark_0 : decode cX8_unmark 0 = .ok (.iload_n 1, 1) := by decide +kernel
theorem dX8_unmark_1 : decode cX8_unmark 1 = .ok (.iconst 0, 1) := by decide +kernel
theorem dX8_unmark_2 : decode cX8_unmark 2 = .ok (.aload_n 0, 1) := by decide +kernel
theorem dX8_unmark_3 : decode cX8_unmark 3 = .ok (.getfield 19, 3) := by decide +kernel
theorem dX8_unmark_6 : decode cX8_unmark 6 = .ok (.getfield 273, 3) := by decide +kernel
theorem dX8_unmark_9 : decode cX8_unmark 9 = .ok (.invokestatic 85, 3) := by decide +kernel
theorem dX8_unmark_12 : decode cX8_unmark 12 = .ok (.ifCond .ne 5, 3) := by decide +kernel
theorem dX8_unmark_15 : decode cX8_unmark 15 = .ok (.iconst (-1), 1) := by decide +kernel
theorem dX8_unmark_16 : decode cX8_unmark 16 = .ok (.ireturn, 1) := by decide +kernel
theorem dX8_unmark_17 : decode cX8_unmark 17 = .ok (.aload_n 0, 1) := by decide +kernel
theorem dX8_unmark_18 : decode cX8_unmark 18 = .ok (.getfield 19, 3) := by decide +kernel
theorem dX8_unmark_21 : decode cX8_unmark 21 = .ok (.getfield 273, 3) := by decide +kernel
theorem dX8_unmark_24 : decode cX8_unmark 24 = .ok (.istore_n 2, 1) := by decide +kernel
theorem dX8_unmark_25 : decode cX8_unmark 25 = .ok (.aload_n 0, 1) := by decide +kernel
theorem dX8_unmark_26 : decode cX8_unmark 26 = .ok (.getfield 19, 3) := by decide +kernel
theorem dX8_unmark_29 : decode cX8_unmark 29 = .ok (.iload_n 1, 1) := by decide +kernel
theorem dX8_unmark_30 : decode cX8_unmark 30 = .ok (.putfield 273, 3) := by decide +kernel
theorem dX8_unmark_33 : decode cX8_unmark 33 = .ok (.iload_n 2, 1) := by decide +kernel
theorem dX8_unmark_34 : decode cX8_unmark 34 = .ok (.ireturn, 1) := by decide +kernel
theorem dX8_rows_0 : decode cX8_rows 0 = .ok (.iload_n 1, 1) := by decide +kernel
theorem dX8_rows_1 : decode cX8_rows 1 = .ok (.bipush 10, 2) := by decide +kernel
theorem dX8_rows_3 : decode cX8_rows 3 = .ok (.isub, 1) := by decide +kernel
theorem dX8_rows_4 : decode cX8_rows 4 = .ok (.istore_n 2, 1) := by decide +kernel
theorem dX8_rows_5 : decode cX8_rows 5 = .ok (.iload_n 1, 1) := by decide +kernel
theorem dX8_rows_6 : decode cX8_rows 6 = .ok (.ifCond .eq 22, 3) := by decide +kernel
theorem dX8_rows_9 : decode cX8_rows 9 = .ok (.iload_n 2, 1) := by decide +kernel
theorem dX8_rows_10 : decode cX8_rows 10 = .ok (.iconst 0, 1) := by decide +kernel
theorem dX8_rows_11 : decode cX8_rows 11 = .ok (.aload_n 0, 1) := by decide +kernel
theorem dX8_rows_12 : decode cX8_rows 12 = .ok (.getfield 19, 3) := by decide +kernel
theorem dX8_rows_15 : decode cX8_rows 15 = .ok (.getfield 273, 3) := by decide +kernel
theorem dX8_rows_18 : decode cX8_rows 18 = .ok (.iconst 1, 1) := by decide +kernel
theorem dX8_rows_19 : decode cX8_rows 19 = .ok (.isub, 1) := by decide +kernel
theorem dX8_rows_20 : decode cX8_rows 20 = .ok (.invokestatic 85, 3) := by decide +kernel
theorem dX8_rows_23 : decode cX8_rows 23 = .ok (.ifCond .ne 5, 3) := by decide +kernel
theorem dX8_rows_26 : decode cX8_rows 26 = .ok (.iconst (-1), 1) := by decide +kernel
theorem dX8_rows_27 : decode cX8_rows 27 = .ok (.ireturn, 1) := by decide +kernel
theorem dX8_rows_28 : decode cX8_rows 28 = .ok (.aload_n 0, 1) := by decide +kernel
theorem dX8_rows_29 : decode cX8_rows 29 = .ok (.getfield 59, 3) := by decide +kernel
theorem dX8_rows_32 : decode cX8_rows 32 = .ok (.aload_n 0, 1) := by decide +kernel
theorem dX8_rows_33 : decode cX8_rows 33 = .ok (.getfield 19, 3) := by decide +kernel
theorem dX8_rows_36 : decode cX8_rows 36 = .ok (.aload_n 0, 1) := by decide +kernel
theorem dX8_rows_37 : decode cX8_rows 37 = .ok (.getfield 67, 3) := by decide +kernel
theorem dX8_rows_40 : decode cX8_rows 40 = .ok (.invokevirtual 279, 3) := by decide +kernel
theorem dX8_rows_43 : decode cX8_rows 43 = .ok (.iload_n 1, 1) := by decide +kernel
theorem dX8_rows_44 : decode cX8_rows 44 = .ok (.ifCond .ne 13, 3) := by decide +kernel
theorem dX8_rows_47 : decode cX8_rows 47 = .ok (.aload_n 0, 1) := by decide +kernel
theorem dX8_rows_48 : decode cX8_rows 48 = .ok (.getfield 59, 3) := by decide +kernel
theorem dX8_rows_51 : decode cX8_rows 51 = .ok (.invokevirtual 283, 3) := by decide +kernel
theorem dX8_rows_54 : decode cX8_rows 54 = .ok (.goto 11, 3) := by decide +kernel
theorem dX8_rows_57 : decode cX8_rows 57 = .ok (.aload_n 0, 1) := by decide +kernel
theorem dX8_rows_58 : decode cX8_rows 58 = .ok (.getfield 59, 3) := by decide +kernel
theorem dX8_rows_61 : decode cX8_rows 61 = .ok (.iload_n 2, 1) := by decide +kernel
theorem dX8_rows_62 : decode cX8_rows 62 = .ok (.invokevirtual 286, 3) := by decide +kernel
theorem dX8_rows_65 : decode cX8_rows 65 = .ok (.ireturn, 1) := by decide +kernel
theorem dX8_whose_0 : decode cX8_whose 0 = .ok (.iload_n 1, 1) := by decide +kernel
theorem dX8_whose_1 : decode cX8_whose 1 = .ok (.invokestatic 182, 3) := by decide +kernel
theorem dX8_whose_4 : decode cX8_whose 4 = .ok (.ifCond .ne 5, 3) := by decide +kernel
theorem dX8_whose_7 : decode cX8_whose 7 = .ok (.iconst (-1), 1) := by decide +kernel
theorem dX8_whose_8 : decode cX8_whose 8 = .ok (.ireturn, 1) := by decide +kernel
theorem dX8_whose_9 : decode cX8_whose 9 = .ok (.aload_n 0, 1) := by decide +kernel
theorem dX8_whose_10 : decode cX8_whose 10 = .ok (.getfield 19, 3) := by decide +kernel
theorem dX8_whose_13 : decode cX8_whose 13 = .ok (.getfield 273, 3) := by decide +kernel
theorem dX8_whose_16 : decode cX8_whose 16 = .ok (.ifCond .ne 6, 3) := by decide +kernel
theorem dX8_whose_19 : decode cX8_whose 19 = .ok (.bipush (-2), 2) := by decide +kernel
theorem dX8_whose_21 : decode cX8_whose 21 = .ok (.ireturn, 1) := by decide +kernel
theorem dX8_whose_22 : decode cX8_whose 22 = .ok (.aload_n 0, 1) := by decide +kernel
theorem dX8_whose_23 : decode cX8_whose 23 = .ok (.getfield 59, 3) := by decide +kernel
theorem dX8_whose_26 : decode cX8_whose 26 = .ok (.aload_n 0, 1) := by decide +kernel
theorem dX8_whose_27 : decode cX8_whose 27 = .ok (.getfield 19, 3) := by decide +kernel
theorem dX8_whose_30 : decode cX8_whose 30 = .ok (.aload_n 0, 1) := by decide +kernel
theorem dX8_whose_31 : decode cX8_whose 31 = .ok (.getfield 67, 3) := by decide +kernel
theorem dX8_whose_34 : decode cX8_whose 34 = .ok (.invokevirtual 279, 3) := by decide +kernel
theorem dX8_whose_37 : decode cX8_whose 37 = .ok (.iload_n 1, 1) := by decide +kernel
theorem dX8_whose_38 : decode cX8_whose 38 = .ok (.ifCond .ne 13, 3) := by decide +kernel
theorem dX8_whose_41 : decode cX8_whose 41 = .ok (.aload_n 0, 1) := by decide +kernel
theorem dX8_whose_42 : decode cX8_whose 42 = .ok (.getfield 59, 3) := by decide +kernel
theorem dX8_whose_45 : decode cX8_whose 45 = .ok (.invokevirtual 289, 3) := by decide +kernel
theorem dX8_whose_48 : decode cX8_whose 48 = .ok (.goto 10, 3) := by decide +kernel
theorem dX8_whose_51 : decode cX8_whose 51 = .ok (.aload_n 0, 1) := by decide +kernel
theorem dX8_whose_52 : decode cX8_whose 52 = .ok (.getfield 59, 3) := by decide +kernel
theorem dX8_whose_55 : decode cX8_whose 55 = .ok (.invokevirtual 292, 3) := by decide +kernel
theorem dX8_whose_58 : decode cX8_whose 58 = .ok (.ireturn, 1) := by decide +kernel
theorem dX8_lend_0 : decode cX8_lend 0 = .ok (.iload_n 1, 1) := by decide +kernel
theorem dX8_lend_1 : decode cX8_lend 1 = .ok (.invokestatic 295, 3) := by decide +kernel
theorem dX8_lend_4 : decode cX8_lend 4 = .ok (.ifCond .eq 17, 3) := by decide +kernel
theorem dX8_lend_7 : decode cX8_lend 7 = .ok (.iload_n 2, 1) := by decide +kernel
theorem dX8_lend_8 : decode cX8_lend 8 = .ok (.invokestatic 175, 3) := by decide +kernel
theorem dX8_lend_11 : decode cX8_lend 11 = .ok (.ifCond .eq 10, 3) := by decide +kernel
theorem dX8_lend_14 : decode cX8_lend 14 = .ok (.iload_n 3, 1) := by decide +kernel
theorem dX8_lend_15 : decode cX8_lend 15 = .ok (.invokestatic 182, 3) := by decide +kernel
theorem dX8_lend_18 : decode cX8_lend 18 = .ok (.ifCond .ne 5, 3) := by decide +kernel
theorem dX8_lend_21 : decode cX8_lend 21 = .ok (.iconst (-1), 1) := by decide +kernel
theorem dX8_lend_22 : decode cX8_lend 22 = .ok (.ireturn, 1) := by decide +kernel
theorem dX8_lend_23 : decode cX8_lend 23 = .ok (.aload_n 0, 1) := by decide +kernel
theorem dX8_lend_24 : decode cX8_lend 24 = .ok (.getfield 39, 3) := by decide +kernel
theorem dX8_lend_27 : decode cX8_lend 27 = .ok (.iload_n 1, 1) := by decide +kernel
theorem dX8_lend_28 : decode cX8_lend 28 = .ok (.baload, 1) := by decide +kernel
theorem dX8_lend_29 : decode cX8_lend 29 = .ok (.ifCond .ne 6, 3) := by decide +kernel
theorem dX8_lend_32 : decode cX8_lend 32 = .ok (.bipush (-2), 2) := by decide +kernel
theorem dX8_lend_34 : decode cX8_lend 34 = .ok (.ireturn, 1) := by decide +kernel
theorem dX8_lend_35 : decode cX8_lend 35 = .ok (.aload_n 0, 1) := by decide +kernel
theorem dX8_lend_36 : decode cX8_lend 36 = .ok (.getfield 52, 3) := by decide +kernel
theorem dX8_lend_39 : decode cX8_lend 39 = .ok (.aload_n 0, 1) := by decide +kernel
theorem dX8_lend_40 : decode cX8_lend 40 = .ok (.getfield 35, 3) := by decide +kernel
theorem dX8_lend_43 : decode cX8_lend 43 = .ok (.iload_n 1, 1) := by decide +kernel
theorem dX8_lend_44 : decode cX8_lend 44 = .ok (.aaload, 1) := by decide +kernel
theorem dX8_lend_45 : decode cX8_lend 45 = .ok (.iload_n 2, 1) := by decide +kernel
theorem dX8_lend_46 : decode cX8_lend 46 = .ok (.aload_n 0, 1) := by decide +kernel
theorem dX8_lend_47 : decode cX8_lend 47 = .ok (.getfield 67, 3) := by decide +kernel
theorem dX8_lend_50 : decode cX8_lend 50 = .ok (.invokevirtual 185, 3) := by decide +kernel
theorem dX8_lend_53 : decode cX8_lend 53 = .ok (.aload_n 0, 1) := by decide +kernel
theorem dX8_lend_54 : decode cX8_lend 54 = .ok (.getfield 52, 3) := by decide +kernel
theorem dX8_lend_57 : decode cX8_lend 57 = .ok (.aload_n 0, 1) := by decide +kernel
theorem dX8_lend_58 : decode cX8_lend 58 = .ok (.getfield 35, 3) := by decide +kernel
theorem dX8_lend_61 : decode cX8_lend 61 = .ok (.iload_n 1, 1) := by decide +kernel
theorem dX8_lend_62 : decode cX8_lend 62 = .ok (.aaload, 1) := by decide +kernel
theorem dX8_lend_63 : decode cX8_lend 63 = .ok (.iload_n 2, 1) := by decide +kernel
theorem dX8_lend_64 : decode cX8_lend 64 = .ok (.iconst 0, 1) := by decide +kernel
theorem dX8_lend_65 : decode cX8_lend 65 = .ok (.invokevirtual 202, 3) := by decide +kernel
theorem dX8_lend_68 : decode cX8_lend 68 = .ok (.istore 4, 2) := by decide +kernel
theorem dX8_lend_70 : decode cX8_lend 70 = .ok (.aload_n 0, 1) := by decide +kernel
theorem dX8_lend_71 : decode cX8_lend 71 = .ok (.getfield 52, 3) := by decide +kernel
theorem dX8_lend_74 : decode cX8_lend 74 = .ok (.aload_n 0, 1) := by decide +kernel
theorem dX8_lend_75 : decode cX8_lend 75 = .ok (.getfield 19, 3) := by decide +kernel
theorem dX8_lend_78 : decode cX8_lend 78 = .ok (.iload_n 2, 1) := by decide +kernel
theorem dX8_lend_79 : decode cX8_lend 79 = .ok (.aload_n 0, 1) := by decide +kernel
theorem dX8_lend_80 : decode cX8_lend 80 = .ok (.getfield 67, 3) := by decide +kernel
theorem dX8_lend_83 : decode cX8_lend 83 = .ok (.invokevirtual 264, 3) := by decide +kernel
theorem dX8_lend_86 : decode cX8_lend 86 = .ok (.aload_n 0, 1) := by decide +kernel
theorem dX8_lend_87 : decode cX8_lend 87 = .ok (.getfield 52, 3) := by decide +kernel
theorem dX8_lend_90 : decode cX8_lend 90 = .ok (.invokevirtual 267, 3) := by decide +kernel
theorem dX8_lend_93 : decode cX8_lend 93 = .ok (.aload_n 0, 1) := by decide +kernel
theorem dX8_lend_94 : decode cX8_lend 94 = .ok (.getfield 52, 3) := by decide +kernel
theorem dX8_lend_97 : decode cX8_lend 97 = .ok (.getfield 189, 3) := by decide +kernel
theorem dX8_lend_100 : decode cX8_lend 100 = .ok (.istore 5, 2) := by decide +kernel
theorem dX8_lend_102 : decode cX8_lend 102 = .ok (.aload_n 0, 1) := by decide +kernel
theorem dX8_lend_103 : decode cX8_lend 103 = .ok (.getfield 52, 3) := by decide +kernel
theorem dX8_lend_106 : decode cX8_lend 106 = .ok (.aload_n 0, 1) := by decide +kernel
theorem dX8_lend_107 : decode cX8_lend 107 = .ok (.getfield 19, 3) := by decide +kernel
theorem dX8_lend_110 : decode cX8_lend 110 = .ok (.aload_n 0, 1) := by decide +kernel
theorem dX8_lend_111 : decode cX8_lend 111 = .ok (.getfield 35, 3) := by decide +kernel
theorem dX8_lend_114 : decode cX8_lend 114 = .ok (.iload_n 1, 1) := by decide +kernel
theorem dX8_lend_115 : decode cX8_lend 115 = .ok (.aaload, 1) := by decide +kernel
theorem dX8_lend_116 : decode cX8_lend 116 = .ok (.iload 4, 2) := by decide +kernel
theorem dX8_lend_118 : decode cX8_lend 118 = .ok (.aload_n 0, 1) := by decide +kernel
theorem dX8_lend_119 : decode cX8_lend 119 = .ok (.getfield 67, 3) := by decide +kernel
theorem dX8_lend_122 : decode cX8_lend 122 = .ok (.invokevirtual 298, 3) := by decide +kernel
theorem dX8_lend_125 : decode cX8_lend 125 = .ok (.aload_n 0, 1) := by decide +kernel
theorem dX8_lend_126 : decode cX8_lend 126 = .ok (.getfield 52, 3) := by decide +kernel
theorem dX8_lend_129 : decode cX8_lend 129 = .ok (.invokevirtual 267, 3) := by decide +kernel
theorem dX8_lend_132 : decode cX8_lend 132 = .ok (.iload_n 3, 1) := by decide +kernel
theorem dX8_lend_133 : decode cX8_lend 133 = .ok (.ifCond .ne 21, 3) := by decide +kernel
theorem dX8_lend_136 : decode cX8_lend 136 = .ok (.aload_n 0, 1) := by decide +kernel
theorem dX8_lend_137 : decode cX8_lend 137 = .ok (.getfield 19, 3) := by decide +kernel
theorem dX8_lend_140 : decode cX8_lend 140 = .ok (.getfield 192, 3) := by decide +kernel
theorem dX8_lend_143 : decode cX8_lend 143 = .ok (.aload_n 0, 1) := by decide +kernel
theorem dX8_lend_144 : decode cX8_lend 144 = .ok (.getfield 52, 3) := by decide +kernel
theorem dX8_lend_147 : decode cX8_lend 147 = .ok (.getfield 189, 3) := by decide +kernel
theorem dX8_lend_150 : decode cX8_lend 150 = .ok (.isub, 1) := by decide +kernel
theorem dX8_lend_151 : decode cX8_lend 151 = .ok (.goto 13, 3) := by decide +kernel
theorem dX8_lend_154 : decode cX8_lend 154 = .ok (.aload_n 0, 1) := by decide +kernel
theorem dX8_lend_155 : decode cX8_lend 155 = .ok (.getfield 52, 3) := by decide +kernel
theorem dX8_lend_158 : decode cX8_lend 158 = .ok (.getfield 189, 3) := by decide +kernel
theorem dX8_lend_161 : decode cX8_lend 161 = .ok (.iload 5, 2) := by decide +kernel
theorem dX8_lend_163 : decode cX8_lend 163 = .ok (.isub, 1) := by decide +kernel
theorem dX8_lend_164 : decode cX8_lend 164 = .ok (.ireturn, 1) := by decide +kernel
theorem dX8_keep_0 : decode cX8_keep 0 = .ok (.iload_n 1, 1) := by decide +kernel
theorem dX8_keep_1 : decode cX8_keep 1 = .ok (.invokestatic 295, 3) := by decide +kernel
theorem dX8_keep_4 : decode cX8_keep 4 = .ok (.ifCond .ne 5, 3) := by decide +kernel
theorem dX8_keep_7 : decode cX8_keep 7 = .ok (.iconst (-1), 1) := by decide +kernel
theorem dX8_keep_8 : decode cX8_keep 8 = .ok (.ireturn, 1) := by decide +kernel
theorem dX8_keep_9 : decode cX8_keep 9 = .ok (.aload_n 0, 1) := by decide +kernel
theorem dX8_keep_10 : decode cX8_keep 10 = .ok (.getfield 39, 3) := by decide +kernel
theorem dX8_keep_13 : decode cX8_keep 13 = .ok (.iload_n 1, 1) := by decide +kernel
theorem dX8_keep_14 : decode cX8_keep 14 = .ok (.baload, 1) := by decide +kernel
theorem dX8_keep_15 : decode cX8_keep 15 = .ok (.ifCond .eq 7, 3) := by decide +kernel
theorem dX8_keep_18 : decode cX8_keep 18 = .ok (.iconst 1, 1) := by decide +kernel
theorem dX8_keep_19 : decode cX8_keep 19 = .ok (.goto 4, 3) := by decide +kernel
theorem dX8_keep_22 : decode cX8_keep 22 = .ok (.iconst 0, 1) := by decide +kernel
theorem dX8_keep_23 : decode cX8_keep 23 = .ok (.istore_n 2, 1) := by decide +kernel
theorem dX8_keep_24 : decode cX8_keep 24 = .ok (.aload_n 0, 1) := by decide +kernel
theorem dX8_keep_25 : decode cX8_keep 25 = .ok (.getfield 35, 3) := by decide +kernel
theorem dX8_keep_28 : decode cX8_keep 28 = .ok (.iload_n 1, 1) := by decide +kernel
theorem dX8_keep_29 : decode cX8_keep 29 = .ok (.aaload, 1) := by decide +kernel
theorem dX8_keep_30 : decode cX8_keep 30 = .ok (.aload_n 0, 1) := by decide +kernel
theorem dX8_keep_31 : decode cX8_keep 31 = .ok (.getfield 19, 3) := by decide +kernel
theorem dX8_keep_34 : decode cX8_keep 34 = .ok (.invokevirtual 99, 3) := by decide +kernel
theorem dX8_keep_37 : decode cX8_keep 37 = .ok (.aload_n 0, 1) := by decide +kernel
theorem dX8_keep_38 : decode cX8_keep 38 = .ok (.getfield 39, 3) := by decide +kernel
theorem dX8_keep_41 : decode cX8_keep 41 = .ok (.iload_n 1, 1) := by decide +kernel
theorem dX8_keep_42 : decode cX8_keep 42 = .ok (.iconst 1, 1) := by decide +kernel
theorem dX8_keep_43 : decode cX8_keep 43 = .ok (.bastore, 1) := by decide +kernel
theorem dX8_keep_44 : decode cX8_keep 44 = .ok (.iload_n 2, 1) := by decide +kernel
theorem dX8_keep_45 : decode cX8_keep 45 = .ok (.ireturn, 1) := by decide +kernel
theorem dX8_back_0 : decode cX8_back 0 = .ok (.iload_n 1, 1) := by decide +kernel
theorem dX8_back_1 : decode cX8_back 1 = .ok (.invokestatic 295, 3) := by decide +kernel
theorem dX8_back_4 : decode cX8_back 4 = .ok (.ifCond .ne 5, 3) := by decide +kernel
theorem dX8_back_7 : decode cX8_back 7 = .ok (.iconst (-1), 1) := by decide +kernel
theorem dX8_back_8 : decode cX8_back 8 = .ok (.ireturn, 1) := by decide +kernel
theorem dX8_back_9 : decode cX8_back 9 = .ok (.aload_n 0, 1) := by decide +kernel
theorem dX8_back_10 : decode cX8_back 10 = .ok (.getfield 39, 3) := by decide +kernel
theorem dX8_back_13 : decode cX8_back 13 = .ok (.iload_n 1, 1) := by decide +kernel
theorem dX8_back_14 : decode cX8_back 14 = .ok (.baload, 1) := by decide +kernel
theorem dX8_back_15 : decode cX8_back 15 = .ok (.ifCond .ne 6, 3) := by decide +kernel
theorem dX8_back_18 : decode cX8_back 18 = .ok (.bipush (-2), 2) := by decide +kernel
theorem dX8_back_20 : decode cX8_back 20 = .ok (.ireturn, 1) := by decide +kernel
theorem dX8_back_21 : decode cX8_back 21 = .ok (.aload_n 0, 1) := by decide +kernel
theorem dX8_back_22 : decode cX8_back 22 = .ok (.getfield 19, 3) := by decide +kernel
theorem dX8_back_25 : decode cX8_back 25 = .ok (.aload_n 0, 1) := by decide +kernel
theorem dX8_back_26 : decode cX8_back 26 = .ok (.getfield 35, 3) := by decide +kernel
theorem dX8_back_29 : decode cX8_back 29 = .ok (.iload_n 1, 1) := by decide +kernel
theorem dX8_back_30 : decode cX8_back 30 = .ok (.aaload, 1) := by decide +kernel
theorem dX8_back_31 : decode cX8_back 31 = .ok (.invokevirtual 99, 3) := by decide +kernel
theorem dX8_back_34 : decode cX8_back 34 = .ok (.aload_n 0, 1) := by decide +kernel
theorem dX8_back_35 : decode cX8_back 35 = .ok (.getfield 19, 3) := by decide +kernel
theorem dX8_back_38 : decode cX8_back 38 = .ok (.getfield 243, 3) := by decide +kernel
theorem dX8_back_41 : decode cX8_back 41 = .ok (.ireturn, 1) := by decide +kernel
theorem dX8_sheet_0 : decode cX8_sheet 0 = .ok (.iload_n 1, 1) := by decide +kernel
theorem dX8_sheet_1 : decode cX8_sheet 1 = .ok (.invokestatic 302, 3) := by decide +kernel
theorem dX8_sheet_4 : decode cX8_sheet 4 = .ok (.ifCond .eq 16, 3) := by decide +kernel
theorem dX8_sheet_7 : decode cX8_sheet 7 = .ok (.iload_n 2, 1) := by decide +kernel
theorem dX8_sheet_8 : decode cX8_sheet 8 = .ok (.invokestatic 305, 3) := by decide +kernel
theorem dX8_sheet_11 : decode cX8_sheet 11 = .ok (.ifCond .eq 9, 3) := by decide +kernel
theorem dX8_sheet_14 : decode cX8_sheet 14 = .ok (.iload_n 3, 1) := by decide +kernel
theorem dX8_sheet_15 : decode cX8_sheet 15 = .ok (.bipush 40, 2) := by decide +kernel
theorem dX8_sheet_17 : decode cX8_sheet 17 = .ok (.if_icmp .le 5, 3) := by decide +kernel
theorem dX8_sheet_20 : decode cX8_sheet 20 = .ok (.iconst (-1), 1) := by decide +kernel
theorem dX8_sheet_21 : decode cX8_sheet 21 = .ok (.ireturn, 1) := by decide +kernel
theorem dX8_sheet_22 : decode cX8_sheet 22 = .ok (.iload_n 3, 1) := by decide +kernel
theorem dX8_sheet_23 : decode cX8_sheet 23 = .ok (.ifCond .ge 6, 3) := by decide +kernel
theorem dX8_sheet_26 : decode cX8_sheet 26 = .ok (.bipush (-14), 2) := by decide +kernel
theorem dX8_sheet_28 : decode cX8_sheet 28 = .ok (.ireturn, 1) := by decide +kernel
theorem dX8_sheet_29 : decode cX8_sheet 29 = .ok (.aload_n 0, 1) := by decide +kernel
theorem dX8_sheet_30 : decode cX8_sheet 30 = .ok (.getfield 45, 3) := by decide +kernel
theorem dX8_sheet_33 : decode cX8_sheet 33 = .ok (.iload_n 1, 1) := by decide +kernel
theorem dX8_sheet_34 : decode cX8_sheet 34 = .ok (.aaload, 1) := by decide +kernel
theorem dX8_sheet_35 : decode cX8_sheet 35 = .ok (.iload_n 2, 1) := by decide +kernel
theorem dX8_sheet_36 : decode cX8_sheet 36 = .ok (.iload_n 3, 1) := by decide +kernel
theorem dX8_sheet_37 : decode cX8_sheet 37 = .ok (.invokevirtual 308, 3) := by decide +kernel
theorem dX8_sheet_40 : decode cX8_sheet 40 = .ok (.iconst 1, 1) := by decide +kernel
theorem dX8_sheet_41 : decode cX8_sheet 41 = .ok (.ireturn, 1) := by decide +kernel
theorem dX8_lay_0 : decode cX8_lay 0 = .ok (.iload_n 1, 1) := by decide +kernel
theorem dX8_lay_1 : decode cX8_lay 1 = .ok (.invokestatic 302, 3) := by decide +kernel
theorem dX8_lay_4 : decode cX8_lay 4 = .ok (.ifCond .ne 5, 3) := by decide +kernel
theorem dX8_lay_7 : decode cX8_lay 7 = .ok (.iconst (-1), 1) := by decide +kernel
theorem dX8_lay_8 : decode cX8_lay 8 = .ok (.ireturn, 1) := by decide +kernel
theorem dX8_lay_9 : decode cX8_lay 9 = .ok (.aload_n 0, 1) := by decide +kernel
theorem dX8_lay_10 : decode cX8_lay 10 = .ok (.getfield 45, 3) := by decide +kernel
theorem dX8_lay_13 : decode cX8_lay 13 = .ok (.iload_n 1, 1) := by decide +kernel
theorem dX8_lay_14 : decode cX8_lay 14 = .ok (.aaload, 1) := by decide +kernel
theorem dX8_lay_15 : decode cX8_lay 15 = .ok (.invokevirtual 311, 3) := by decide +kernel
theorem dX8_lay_18 : decode cX8_lay 18 = .ok (.ifCond .eq 6, 3) := by decide +kernel
theorem dX8_lay_21 : decode cX8_lay 21 = .ok (.bipush (-11), 2) := by decide +kernel
theorem dX8_lay_23 : decode cX8_lay 23 = .ok (.ireturn, 1) := by decide +kernel
theorem dX8_lay_24 : decode cX8_lay 24 = .ok (.aload_n 0, 1) := by decide +kernel
theorem dX8_lay_25 : decode cX8_lay 25 = .ok (.getfield 45, 3) := by decide +kernel
theorem dX8_lay_28 : decode cX8_lay 28 = .ok (.iload_n 1, 1) := by decide +kernel
theorem dX8_lay_29 : decode cX8_lay 29 = .ok (.aaload, 1) := by decide +kernel
theorem dX8_lay_30 : decode cX8_lay 30 = .ok (.iload_n 2, 1) := by decide +kernel
theorem dX8_lay_31 : decode cX8_lay 31 = .ok (.invokevirtual 315, 3) := by decide +kernel
theorem dX8_lay_34 : decode cX8_lay 34 = .ok (.ifCond .ne 6, 3) := by decide +kernel
theorem dX8_lay_37 : decode cX8_lay 37 = .ok (.bipush (-12), 2) := by decide +kernel
theorem dX8_lay_39 : decode cX8_lay 39 = .ok (.ireturn, 1) := by decide +kernel
theorem dX8_lay_40 : decode cX8_lay 40 = .ok (.aload_n 0, 1) := by decide +kernel
theorem dX8_lay_41 : decode cX8_lay 41 = .ok (.getfield 45, 3) := by decide +kernel
theorem dX8_lay_44 : decode cX8_lay 44 = .ok (.iload_n 1, 1) := by decide +kernel
theorem dX8_lay_45 : decode cX8_lay 45 = .ok (.aaload, 1) := by decide +kernel
theorem dX8_lay_46 : decode cX8_lay 46 = .ok (.iload_n 2, 1) := by decide +kernel
theorem dX8_lay_47 : decode cX8_lay 47 = .ok (.iload_n 3, 1) := by decide +kernel
theorem dX8_lay_48 : decode cX8_lay 48 = .ok (.invokevirtual 318, 3) := by decide +kernel
theorem dX8_lay_51 : decode cX8_lay 51 = .ok (.iconst 1, 1) := by decide +kernel
theorem dX8_lay_52 : decode cX8_lay 52 = .ok (.ireturn, 1) := by decide +kernel
theorem dX8_read_0 : decode cX8_read 0 = .ok (.iload_n 1, 1) := by decide +kernel
theorem dX8_read_1 : decode cX8_read 1 = .ok (.invokestatic 302, 3) := by decide +kernel
theorem dX8_read_4 : decode cX8_read 4 = .ok (.ifCond .eq 21, 3) := by decide +kernel
theorem dX8_read_7 : decode cX8_read 7 = .ok (.iload_n 2, 1) := by decide +kernel
theorem dX8_read_8 : decode cX8_read 8 = .ok (.invokestatic 305, 3) := by decide +kernel
theorem dX8_read_11 : decode cX8_read 11 = .ok (.ifCond .eq 14, 3) := by decide +kernel
theorem dX8_read_14 : decode cX8_read 14 = .ok (.iload 4, 2) := by decide +kernel
theorem dX8_read_16 : decode cX8_read 16 = .ok (.iconst 0, 1) := by decide +kernel
theorem dX8_read_17 : decode cX8_read 17 = .ok (.bipush 10, 2) := by decide +kernel
theorem dX8_read_19 : decode cX8_read 19 = .ok (.invokestatic 85, 3) := by decide +kernel
theorem dX8_read_22 : decode cX8_read 22 = .ok (.ifCond .ne 5, 3) := by decide +kernel
theorem dX8_read_25 : decode cX8_read 25 = .ok (.iconst (-1), 1) := by decide +kernel
theorem dX8_read_26 : decode cX8_read 26 = .ok (.ireturn, 1) := by decide +kernel
theorem dX8_read_27 : decode cX8_read 27 = .ok (.aload_n 0, 1) := by decide +kernel
theorem dX8_read_28 : decode cX8_read 28 = .ok (.getfield 45, 3) := by decide +kernel
theorem dX8_read_31 : decode cX8_read 31 = .ok (.iload_n 1, 1) := by decide +kernel
theorem dX8_read_32 : decode cX8_read 32 = .ok (.aaload, 1) := by decide +kernel
theorem dX8_read_33 : decode cX8_read 33 = .ok (.astore 5, 2) := by decide +kernel
theorem dX8_read_35 : decode cX8_read 35 = .ok (.iload 4, 2) := by decide +kernel
theorem dX8_read_37 : decode cX8_read 37 = .ok (.ifCond .ne 7, 3) := by decide +kernel
theorem dX8_read_40 : decode cX8_read 40 = .ok (.iconst 0, 1) := by decide +kernel
theorem dX8_read_41 : decode cX8_read 41 = .ok (.goto 9, 3) := by decide +kernel
theorem dX8_read_44 : decode cX8_read 44 = .ok (.aload 5, 2) := by decide +kernel
theorem dX8_read_46 : decode cX8_read 46 = .ok (.iload_n 2, 1) := by decide +kernel
theorem dX8_read_47 : decode cX8_read 47 = .ok (.invokevirtual 321, 3) := by decide +kernel
theorem dX8_read_50 : decode cX8_read 50 = .ok (.istore 6, 2) := by decide +kernel
theorem dX8_read_52 : decode cX8_read 52 = .ok (.iconst 0, 1) := by decide +kernel
theorem dX8_read_53 : decode cX8_read 53 = .ok (.istore 7, 2) := by decide +kernel
theorem dX8_read_55 : decode cX8_read 55 = .ok (.iconst 0, 1) := by decide +kernel
theorem dX8_read_56 : decode cX8_read 56 = .ok (.istore 8, 2) := by decide +kernel
theorem dX8_read_58 : decode cX8_read 58 = .ok (.iload 8, 2) := by decide +kernel
theorem dX8_read_60 : decode cX8_read 60 = .ok (.iload 4, 2) := by decide +kernel
theorem dX8_read_62 : decode cX8_read 62 = .ok (.if_icmp .ge 91, 3) := by decide +kernel
theorem dX8_read_65 : decode cX8_read 65 = .ok (.iload 6, 2) := by decide +kernel
theorem dX8_read_67 : decode cX8_read 67 = .ok (.ifCond .ne 86, 3) := by decide +kernel
theorem dX8_read_70 : decode cX8_read 70 = .ok (.iload_n 3, 1) := by decide +kernel
theorem dX8_read_71 : decode cX8_read 71 = .ok (.iconst 2, 1) := by decide +kernel
theorem dX8_read_72 : decode cX8_read 72 = .ok (.iload 8, 2) := by decide +kernel
theorem dX8_read_74 : decode cX8_read 74 = .ok (.imul, 1) := by decide +kernel
theorem dX8_read_75 : decode cX8_read 75 = .ok (.iadd, 1) := by decide +kernel
theorem dX8_read_76 : decode cX8_read 76 = .ok (.istore 9, 2) := by decide +kernel
theorem dX8_read_78 : decode cX8_read 78 = .ok (.aload 5, 2) := by decide +kernel
theorem dX8_read_80 : decode cX8_read 80 = .ok (.iload 9, 2) := by decide +kernel
theorem dX8_read_82 : decode cX8_read 82 = .ok (.invokevirtual 315, 3) := by decide +kernel
theorem dX8_read_85 : decode cX8_read 85 = .ok (.ifCond .eq 15, 3) := by decide +kernel
theorem dX8_read_88 : decode cX8_read 88 = .ok (.aload 5, 2) := by decide +kernel
theorem dX8_read_90 : decode cX8_read 90 = .ok (.iload 9, 2) := by decide +kernel
theorem dX8_read_92 : decode cX8_read 92 = .ok (.iconst 1, 1) := by decide +kernel
theorem dX8_read_93 : decode cX8_read 93 = .ok (.iadd, 1) := by decide +kernel
theorem dX8_read_94 : decode cX8_read 94 = .ok (.invokevirtual 315, 3) := by decide +kernel
theorem dX8_read_97 : decode cX8_read 97 = .ok (.ifCond .ne 9, 3) := by decide +kernel
theorem dX8_read_100 : decode cX8_read 100 = .ok (.iconst 2, 1) := by decide +kernel
theorem dX8_read_101 : decode cX8_read 101 = .ok (.istore 6, 2) := by decide +kernel
theorem dX8_read_103 : decode cX8_read 103 = .ok (.goto 44, 3) := by decide +kernel
theorem dX8_read_106 : decode cX8_read 106 = .ok (.aload_n 0, 1) := by decide +kernel
theorem dX8_read_107 : decode cX8_read 107 = .ok (.getfield 19, 3) := by decide +kernel
theorem dX8_read_110 : decode cX8_read 110 = .ok (.getfield 243, 3) := by decide +kernel
theorem dX8_read_113 : decode cX8_read 113 = .ok (.iload 8, 2) := by decide +kernel
theorem dX8_read_115 : decode cX8_read 115 = .ok (.iadd, 1) := by decide +kernel
theorem dX8_read_116 : decode cX8_read 116 = .ok (.aload 5, 2) := by decide +kernel
theorem dX8_read_118 : decode cX8_read 118 = .ok (.iload 9, 2) := by decide +kernel
theorem dX8_read_120 : decode cX8_read 120 = .ok (.invokevirtual 324, 3) := by decide +kernel
theorem dX8_read_123 : decode cX8_read 123 = .ok (.aload 5, 2) := by decide +kernel
theorem dX8_read_125 : decode cX8_read 125 = .ok (.iload 9, 2) := by decide +kernel
theorem dX8_read_127 : decode cX8_read 127 = .ok (.iconst 1, 1) := by decide +kernel
theorem dX8_read_128 : decode cX8_read 128 = .ok (.iadd, 1) := by decide +kernel
theorem dX8_read_129 : decode cX8_read 129 = .ok (.invokevirtual 324, 3) := by decide +kernel
theorem dX8_read_132 : decode cX8_read 132 = .ok (.invokestatic 246, 3) := by decide +kernel
theorem dX8_read_135 : decode cX8_read 135 = .ok (.ifCond .eq 9, 3) := by decide +kernel
theorem dX8_read_138 : decode cX8_read 138 = .ok (.bipush (-20), 2) := by decide +kernel
theorem dX8_read_140 : decode cX8_read 140 = .ok (.iload 8, 2) := by decide +kernel
theorem dX8_read_142 : decode cX8_read 142 = .ok (.isub, 1) := by decide +kernel
theorem dX8_read_143 : decode cX8_read 143 = .ok (.ireturn, 1) := by decide +kernel
theorem dX8_read_144 : decode cX8_read 144 = .ok (.iinc 7 1, 3) := by decide +kernel
theorem dX8_read_147 : decode cX8_read 147 = .ok (.iinc 8 1, 3) := by decide +kernel
theorem dX8_read_150 : decode cX8_read 150 = .ok (.goto (-92), 3) := by decide +kernel
theorem dX8_read_153 : decode cX8_read 153 = .ok (.iconst 0, 1) := by decide +kernel
theorem dX8_read_154 : decode cX8_read 154 = .ok (.istore 8, 2) := by decide +kernel
theorem dX8_read_156 : decode cX8_read 156 = .ok (.iload 8, 2) := by decide +kernel
theorem dX8_read_158 : decode cX8_read 158 = .ok (.iload 7, 2) := by decide +kernel
theorem dX8_read_160 : decode cX8_read 160 = .ok (.if_icmp .ge 42, 3) := by decide +kernel
theorem dX8_read_163 : decode cX8_read 163 = .ok (.aload_n 0, 1) := by decide +kernel
theorem dX8_read_164 : decode cX8_read 164 = .ok (.getfield 19, 3) := by decide +kernel
theorem dX8_read_167 : decode cX8_read 167 = .ok (.aload 5, 2) := by decide +kernel
theorem dX8_read_169 : decode cX8_read 169 = .ok (.iload_n 3, 1) := by decide +kernel
theorem dX8_read_170 : decode cX8_read 170 = .ok (.iconst 2, 1) := by decide +kernel
theorem dX8_read_171 : decode cX8_read 171 = .ok (.iload 8, 2) := by decide +kernel
theorem dX8_read_173 : decode cX8_read 173 = .ok (.imul, 1) := by decide +kernel
theorem dX8_read_174 : decode cX8_read 174 = .ok (.iadd, 1) := by decide +kernel
theorem dX8_read_175 : decode cX8_read 175 = .ok (.invokevirtual 324, 3) := by decide +kernel
theorem dX8_read_178 : decode cX8_read 178 = .ok (.aload 5, 2) := by decide +kernel
theorem dX8_read_180 : decode cX8_read 180 = .ok (.iload_n 3, 1) := by decide +kernel
theorem dX8_read_181 : decode cX8_read 181 = .ok (.iconst 2, 1) := by decide +kernel
theorem dX8_read_182 : decode cX8_read 182 = .ok (.iload 8, 2) := by decide +kernel
theorem dX8_read_184 : decode cX8_read 184 = .ok (.imul, 1) := by decide +kernel
theorem dX8_read_185 : decode cX8_read 185 = .ok (.iadd, 1) := by decide +kernel
theorem dX8_read_186 : decode cX8_read 186 = .ok (.iconst 1, 1) := by decide +kernel
theorem dX8_read_187 : decode cX8_read 187 = .ok (.iadd, 1) := by decide +kernel
theorem dX8_read_188 : decode cX8_read 188 = .ok (.invokevirtual 324, 3) := by decide +kernel
theorem dX8_read_191 : decode cX8_read 191 = .ok (.iconst 3, 1) := by decide +kernel
theorem dX8_read_192 : decode cX8_read 192 = .ok (.invokevirtual 249, 3) := by decide +kernel
theorem dX8_read_195 : decode cX8_read 195 = .ok (.pop, 1) := by decide +kernel
theorem dX8_read_196 : decode cX8_read 196 = .ok (.iinc 8 1, 3) := by decide +kernel
theorem dX8_read_199 : decode cX8_read 199 = .ok (.goto (-43), 3) := by decide +kernel
theorem dX8_read_202 : decode cX8_read 202 = .ok (.aload_n 0, 1) := by decide +kernel
theorem dX8_read_203 : decode cX8_read 203 = .ok (.iload 6, 2) := by decide +kernel
theorem dX8_read_205 : decode cX8_read 205 = .ok (.putfield 74, 3) := by decide +kernel
theorem dX8_read_208 : decode cX8_read 208 = .ok (.iload 7, 2) := by decide +kernel
theorem dX8_read_210 : decode cX8_read 210 = .ok (.ireturn, 1) := by decide +kernel
theorem dX8_torn_0 : decode cX8_torn 0 = .ok (.aload_n 0, 1) := by decide +kernel
theorem dX8_torn_1 : decode cX8_torn 1 = .ok (.getfield 74, 3) := by decide +kernel
theorem dX8_torn_4 : decode cX8_torn 4 = .ok (.ireturn, 1) := by decide +kernel
theorem dX8_count_0 : decode cX8_count 0 = .ok (.iload_n 1, 1) := by decide +kernel
theorem dX8_count_1 : decode cX8_count 1 = .ok (.tableswitch 149 0 7 #[47, 55, 63, 71, 79, 109, 117, 144], 47) := by decide +kernel
theorem dX8_count_48 : decode cX8_count 48 = .ok (.aload_n 0, 1) := by decide +kernel
theorem dX8_count_49 : decode cX8_count 49 = .ok (.getfield 19, 3) := by decide +kernel
theorem dX8_count_52 : decode cX8_count 52 = .ok (.getfield 192, 3) := by decide +kernel
theorem dX8_count_55 : decode cX8_count 55 = .ok (.ireturn, 1) := by decide +kernel
theorem dX8_count_56 : decode cX8_count 56 = .ok (.aload_n 0, 1) := by decide +kernel
theorem dX8_count_57 : decode cX8_count 57 = .ok (.getfield 19, 3) := by decide +kernel
theorem dX8_count_60 : decode cX8_count 60 = .ok (.getfield 243, 3) := by decide +kernel
theorem dX8_count_63 : decode cX8_count 63 = .ok (.ireturn, 1) := by decide +kernel
theorem dX8_count_64 : decode cX8_count 64 = .ok (.aload_n 0, 1) := by decide +kernel
theorem dX8_count_65 : decode cX8_count 65 = .ok (.getfield 19, 3) := by decide +kernel
theorem dX8_count_68 : decode cX8_count 68 = .ok (.getfield 273, 3) := by decide +kernel
theorem dX8_count_71 : decode cX8_count 71 = .ok (.ireturn, 1) := by decide +kernel
theorem dX8_count_72 : decode cX8_count 72 = .ok (.aload_n 0, 1) := by decide +kernel
theorem dX8_count_73 : decode cX8_count 73 = .ok (.getfield 19, 3) := by decide +kernel
theorem dX8_count_76 : decode cX8_count 76 = .ok (.invokevirtual 327, 3) := by decide +kernel
theorem dX8_count_79 : decode cX8_count 79 = .ok (.ireturn, 1) := by decide +kernel
theorem dX8_count_80 : decode cX8_count 80 = .ok (.aload_n 0, 1) := by decide +kernel
theorem dX8_count_81 : decode cX8_count 81 = .ok (.getfield 39, 3) := by decide +kernel
theorem dX8_count_84 : decode cX8_count 84 = .ok (.iconst 0, 1) := by decide +kernel
theorem dX8_count_85 : decode cX8_count 85 = .ok (.baload, 1) := by decide +kernel
theorem dX8_count_86 : decode cX8_count 86 = .ok (.ifCond .eq 7, 3) := by decide +kernel
theorem dX8_count_89 : decode cX8_count 89 = .ok (.iconst 1, 1) := by decide +kernel
theorem dX8_count_90 : decode cX8_count 90 = .ok (.goto 4, 3) := by decide +kernel
theorem dX8_count_93 : decode cX8_count 93 = .ok (.iconst 0, 1) := by decide +kernel
theorem dX8_count_94 : decode cX8_count 94 = .ok (.aload_n 0, 1) := by decide +kernel
theorem dX8_count_95 : decode cX8_count 95 = .ok (.getfield 39, 3) := by decide +kernel
theorem dX8_count_98 : decode cX8_count 98 = .ok (.iconst 1, 1) := by decide +kernel
theorem dX8_count_99 : decode cX8_count 99 = .ok (.baload, 1) := by decide +kernel
theorem dX8_count_100 : decode cX8_count 100 = .ok (.ifCond .eq 7, 3) := by decide +kernel
theorem dX8_count_103 : decode cX8_count 103 = .ok (.iconst 1, 1) := by decide +kernel
theorem dX8_count_104 : decode cX8_count 104 = .ok (.goto 4, 3) := by decide +kernel
theorem dX8_count_107 : decode cX8_count 107 = .ok (.iconst 0, 1) := by decide +kernel
theorem dX8_count_108 : decode cX8_count 108 = .ok (.iadd, 1) := by decide +kernel
theorem dX8_count_109 : decode cX8_count 109 = .ok (.ireturn, 1) := by decide +kernel
theorem dX8_count_110 : decode cX8_count 110 = .ok (.aload_n 0, 1) := by decide +kernel
theorem dX8_count_111 : decode cX8_count 111 = .ok (.getfield 10, 3) := by decide +kernel
theorem dX8_count_114 : decode cX8_count 114 = .ok (.getfield 82, 3) := by decide +kernel
theorem dX8_count_117 : decode cX8_count 117 = .ok (.ireturn, 1) := by decide +kernel
theorem dX8_count_118 : decode cX8_count 118 = .ok (.aload_n 0, 1) := by decide +kernel
theorem dX8_count_119 : decode cX8_count 119 = .ok (.getfield 45, 3) := by decide +kernel
theorem dX8_count_122 : decode cX8_count 122 = .ok (.iconst 0, 1) := by decide +kernel
theorem dX8_count_123 : decode cX8_count 123 = .ok (.aaload, 1) := by decide +kernel
theorem dX8_count_124 : decode cX8_count 124 = .ok (.invokevirtual 311, 3) := by decide +kernel
theorem dX8_count_127 : decode cX8_count 127 = .ok (.ifCond .eq 8, 3) := by decide +kernel
theorem dX8_count_130 : decode cX8_count 130 = .ok (.bipush (-4), 2) := by decide +kernel
theorem dX8_count_132 : decode cX8_count 132 = .ok (.goto 12, 3) := by decide +kernel
theorem dX8_count_135 : decode cX8_count 135 = .ok (.aload_n 0, 1) := by decide +kernel
theorem dX8_count_136 : decode cX8_count 136 = .ok (.getfield 45, 3) := by decide +kernel
theorem dX8_count_139 : decode cX8_count 139 = .ok (.iconst 0, 1) := by decide +kernel
theorem dX8_count_140 : decode cX8_count 140 = .ok (.aaload, 1) := by decide +kernel
theorem dX8_count_141 : decode cX8_count 141 = .ok (.getfield 330, 3) := by decide +kernel
theorem dX8_count_144 : decode cX8_count 144 = .ok (.ireturn, 1) := by decide +kernel
theorem dX8_count_145 : decode cX8_count 145 = .ok (.aload_n 0, 1) := by decide +kernel
theorem dX8_count_146 : decode cX8_count 146 = .ok (.getfield 67, 3) := by decide +kernel
theorem dX8_count_149 : decode cX8_count 149 = .ok (.ireturn, 1) := by decide +kernel
theorem dX8_count_150 : decode cX8_count 150 = .ok (.iconst (-1), 1) := by decide +kernel
theorem dX8_count_151 : decode cX8_count 151 = .ok (.ireturn, 1) := by decide +kernel
theorem dX8_within_0 : decode cX8_within 0 = .ok (.iload_n 0, 1) := by decide +kernel
theorem dX8_within_1 : decode cX8_within 1 = .ok (.iload_n 1, 1) := by decide +kernel
theorem dX8_within_2 : decode cX8_within 2 = .ok (.if_icmp .lt 12, 3) := by decide +kernel
theorem dX8_within_5 : decode cX8_within 5 = .ok (.iload_n 0, 1) := by decide +kernel
theorem dX8_within_6 : decode cX8_within 6 = .ok (.iload_n 2, 1) := by decide +kernel
theorem dX8_within_7 : decode cX8_within 7 = .ok (.if_icmp .gt 7, 3) := by decide +kernel
theorem dX8_within_10 : decode cX8_within 10 = .ok (.iconst 1, 1) := by decide +kernel
theorem dX8_within_11 : decode cX8_within 11 = .ok (.goto 4, 3) := by decide +kernel
theorem dX8_within_14 : decode cX8_within 14 = .ok (.iconst 0, 1) := by decide +kernel
theorem dX8_within_15 : decode cX8_within 15 = .ok (.ireturn, 1) := by decide +kernel
theorem dX8_isSlot_0 : decode cX8_isSlot 0 = .ok (.iload_n 0, 1) := by decide +kernel
theorem dX8_isSlot_1 : decode cX8_isSlot 1 = .ok (.iconst 0, 1) := by decide +kernel
theorem dX8_isSlot_2 : decode cX8_isSlot 2 = .ok (.iconst 1, 1) := by decide +kernel
theorem dX8_isSlot_3 : decode cX8_isSlot 3 = .ok (.invokestatic 85, 3) := by decide +kernel
theorem dX8_isSlot_6 : decode cX8_isSlot 6 = .ok (.ireturn, 1) := by decide +kernel
theorem dX8_isSize_0 : decode cX8_isSize 0 = .ok (.iload_n 0, 1) := by decide +kernel
theorem dX8_isSize_1 : decode cX8_isSize 1 = .ok (.iconst 1, 1) := by decide +kernel
theorem dX8_isSize_2 : decode cX8_isSize 2 = .ok (.bipush 40, 2) := by decide +kernel
theorem dX8_isSize_4 : decode cX8_isSize 4 = .ok (.invokestatic 85, 3) := by decide +kernel
theorem dX8_isSize_7 : decode cX8_isSize 7 = .ok (.ireturn, 1) := by decide +kernel
theorem dX8_isYears_0 : decode cX8_isYears 0 = .ok (.iload_n 0, 1) := by decide +kernel
theorem dX8_isYears_1 : decode cX8_isYears 1 = .ok (.iconst 1, 1) := by decide +kernel
theorem dX8_isYears_2 : decode cX8_isYears 2 = .ok (.iconst 4, 1) := by decide +kernel
theorem dX8_isYears_3 : decode cX8_isYears 3 = .ok (.invokestatic 85, 3) := by decide +kernel
theorem dX8_isYears_6 : decode cX8_isYears 6 = .ok (.ireturn, 1) := by decide +kernel
theorem dX8_isZeroOrOne_0 : decode cX8_isZeroOrOne 0 = .ok (.iload_n 0, 1) := by decide +kernel
theorem dX8_isZeroOrOne_1 : decode cX8_isZeroOrOne 1 = .ok (.ifCond .eq 8, 3) := by decide +kernel
theorem dX8_isZeroOrOne_4 : decode cX8_isZeroOrOne 4 = .ok (.iload_n 0, 1) := by decide +kernel
theorem dX8_isZeroOrOne_5 : decode cX8_isZeroOrOne 5 = .ok (.iconst 1, 1) := by decide +kernel
theorem dX8_isZeroOrOne_6 : decode cX8_isZeroOrOne 6 = .ok (.if_icmp .ne 7, 3) := by decide +kernel
theorem dX8_isZeroOrOne_9 : decode cX8_isZeroOrOne 9 = .ok (.iconst 1, 1) := by decide +kernel
theorem dX8_isZeroOrOne_10 : decode cX8_isZeroOrOne 10 = .ok (.goto 4, 3) := by decide +kernel
theorem dX8_isZeroOrOne_13 : decode cX8_isZeroOrOne 13 = .ok (.iconst 0, 1) := by decide +kernel
theorem dX8_isZeroOrOne_14 : decode cX8_isZeroOrOne 14 = .ok (.ireturn, 1) := by decide +kernel
theorem dX8_isImage_0 : decode cX8_isImage 0 = .ok (.iload_n 0, 1) := by decide +kernel
theorem dX8_isImage_1 : decode cX8_isImage 1 = .ok (.iconst 0, 1) := by decide +kernel
theorem dX8_isImage_2 : decode cX8_isImage 2 = .ok (.iconst 1, 1) := by decide +kernel
theorem dX8_isImage_3 : decode cX8_isImage 3 = .ok (.invokestatic 85, 3) := by decide +kernel
theorem dX8_isImage_6 : decode cX8_isImage 6 = .ok (.ireturn, 1) := by decide +kernel
theorem dX8_isSheet_0 : decode cX8_isSheet 0 = .ok (.iload_n 0, 1) := by decide +kernel
theorem dX8_isSheet_1 : decode cX8_isSheet 1 = .ok (.iconst 0, 1) := by decide +kernel
theorem dX8_isSheet_2 : decode cX8_isSheet 2 = .ok (.iconst 3, 1) := by decide +kernel
theorem dX8_isSheet_3 : decode cX8_isSheet 3 = .ok (.invokestatic 85, 3) := by decide +kernel
theorem dX8_isSheet_6 : decode cX8_isSheet 6 = .ok (.ireturn, 1) := by decide +kernel
theorem dX8_isLane_0 : decode cX8_isLane 0 = .ok (.iload_n 0, 1) := by decide +kernel
theorem dX8_isLane_1 : decode cX8_isLane 1 = .ok (.iconst 0, 1) := by decide +kernel
theorem dX8_isLane_2 : decode cX8_isLane 2 = .ok (.iconst 2, 1) := by decide +kernel
theorem dX8_isLane_3 : decode cX8_isLane 3 = .ok (.invokestatic 85, 3) := by decide +kernel
theorem dX8_isLane_6 : decode cX8_isLane 6 = .ok (.ireturn, 1) := by decide +kernel
theorem dX8_sewRefusal_0 : decode cX8_sewRefusal 0 = .ok (.iload_n 1, 1) := by decide +kernel
theorem dX8_sewRefusal_1 : decode cX8_sewRefusal 1 = .ok (.invokestatic 175, 3) := by decide +kernel
theorem dX8_sewRefusal_4 : decode cX8_sewRefusal 4 = .ok (.ifCond .eq 10, 3) := by decide +kernel
theorem dX8_sewRefusal_7 : decode cX8_sewRefusal 7 = .ok (.iload_n 2, 1) := by decide +kernel
theorem dX8_sewRefusal_8 : decode cX8_sewRefusal 8 = .ok (.invokestatic 270, 3) := by decide +kernel
theorem dX8_sewRefusal_11 : decode cX8_sewRefusal 11 = .ok (.ifCond .ne 5, 3) := by decide +kernel
theorem dX8_sewRefusal_14 : decode cX8_sewRefusal 14 = .ok (.iconst (-1), 1) := by decide +kernel
theorem dX8_sewRefusal_15 : decode cX8_sewRefusal 15 = .ok (.ireturn, 1) := by decide +kernel
theorem dX8_sewRefusal_16 : decode cX8_sewRefusal 16 = .ok (.iload_n 0, 1) := by decide +kernel
theorem dX8_sewRefusal_17 : decode cX8_sewRefusal 17 = .ok (.bipush 10, 2) := by decide +kernel
theorem dX8_sewRefusal_19 : decode cX8_sewRefusal 19 = .ok (.if_icmp .lt 8, 3) := by decide +kernel
theorem dX8_sewRefusal_22 : decode cX8_sewRefusal 22 = .ok (.bipush (-3), 2) := by decide +kernel
theorem dX8_sewRefusal_24 : decode cX8_sewRefusal 24 = .ok (.goto 4, 3) := by decide +kernel
theorem dX8_sewRefusal_27 : decode cX8_sewRefusal 27 = .ok (.iconst 0, 1) := by decide +kernel
theorem dX8_sewRefusal_28 : decode cX8_sewRefusal 28 = .ok (.ireturn, 1) := by decide +kernel
theorem dX8_dressAll_0 : decode cX8_dressAll 0 = .ok (.aload_n 0, 1) := by decide +kernel
theorem dX8_dressAll_1 : decode cX8_dressAll 1 = .ok (.getfield 52, 3) := by decide +kernel
theorem dX8_dressAll_4 : decode cX8_dressAll 4 = .ok (.aload_n 1, 1) := by decide +kernel
theorem dX8_dressAll_5 : decode cX8_dressAll 5 = .ok (.iload_n 2, 1) := by decide +kernel
theorem dX8_dressAll_6 : decode cX8_dressAll 6 = .ok (.aload_n 0, 1) := by decide +kernel
theorem dX8_dressAll_7 : decode cX8_dressAll 7 = .ok (.getfield 67, 3) := by decide +kernel
theorem dX8_dressAll_10 : decode cX8_dressAll 10 = .ok (.invokevirtual 264, 3) := by decide +kernel
theorem dX8_dressAll_13 : decode cX8_dressAll 13 = .ok (.aload_n 0, 1) := by decide +kernel
theorem dX8_dressAll_14 : decode cX8_dressAll 14 = .ok (.getfield 52, 3) := by decide +kernel
theorem dX8_dressAll_17 : decode cX8_dressAll 17 = .ok (.invokevirtual 267, 3) := by decide +kernel
theorem dX8_dressAll_20 : decode cX8_dressAll 20 = .ok (.aload_n 0, 1) := by decide +kernel
theorem dX8_dressAll_21 : decode cX8_dressAll 21 = .ok (.getfield 52, 3) := by decide +kernel
theorem dX8_dressAll_24 : decode cX8_dressAll 24 = .ok (.invokevirtual 331, 3) := by decide +kernel
theorem dX8_dressAll_27 : decode cX8_dressAll 27 = .ok (.aload_n 1, 1) := by decide +kernel
theorem dX8_dressAll_28 : decode cX8_dressAll 28 = .ok (.iload_n 2, 1) := by decide +kernel
theorem dX8_dressAll_29 : decode cX8_dressAll 29 = .ok (.invokevirtual 334, 3) := by decide +kernel
theorem dX8_dressAll_32 : decode cX8_dressAll 32 = .ok (.iconst 0, 1) := by decide +kernel
theorem dX8_dressAll_33 : decode cX8_dressAll 33 = .ok (.istore_n 3, 1) := by decide +kernel
theorem dX8_dressAll_34 : decode cX8_dressAll 34 = .ok (.iload_n 3, 1) := by decide +kernel
theorem dX8_dressAll_35 : decode cX8_dressAll 35 = .ok (.aload_n 1, 1) := by decide +kernel
theorem dX8_dressAll_36 : decode cX8_dressAll 36 = .ok (.getfield 192, 3) := by decide +kernel
theorem dX8_dressAll_39 : decode cX8_dressAll 39 = .ok (.if_icmp .ge 39, 3) := by decide +kernel
theorem dX8_dressAll_42 : decode cX8_dressAll 42 = .ok (.aload_n 0, 1) := by decide +kernel
theorem dX8_dressAll_43 : decode cX8_dressAll 43 = .ok (.getfield 52, 3) := by decide +kernel
theorem dX8_dressAll_46 : decode cX8_dressAll 46 = .ok (.iload_n 3, 1) := by decide +kernel
theorem dX8_dressAll_47 : decode cX8_dressAll 47 = .ok (.invokevirtual 195, 3) := by decide +kernel
theorem dX8_dressAll_50 : decode cX8_dressAll 50 = .ok (.istore 4, 2) := by decide +kernel
theorem dX8_dressAll_52 : decode cX8_dressAll 52 = .ok (.aload_n 1, 1) := by decide +kernel
theorem dX8_dressAll_53 : decode cX8_dressAll 53 = .ok (.iload 4, 2) := by decide +kernel
theorem dX8_dressAll_55 : decode cX8_dressAll 55 = .ok (.invokevirtual 129, 3) := by decide +kernel
theorem dX8_dressAll_58 : decode cX8_dressAll 58 = .ok (.ifCond .eq 14, 3) := by decide +kernel
theorem dX8_dressAll_61 : decode cX8_dressAll 61 = .ok (.aload_n 1, 1) := by decide +kernel
theorem dX8_dressAll_62 : decode cX8_dressAll 62 = .ok (.iload_n 3, 1) := by decide +kernel
theorem dX8_dressAll_63 : decode cX8_dressAll 63 = .ok (.iload 4, 2) := by decide +kernel
theorem dX8_dressAll_65 : decode cX8_dressAll 65 = .ok (.aload_n 0, 1) := by decide +kernel
theorem dX8_dressAll_66 : decode cX8_dressAll 66 = .ok (.getfield 67, 3) := by decide +kernel
theorem dX8_dressAll_69 : decode cX8_dressAll 69 = .ok (.invokevirtual 172, 3) := by decide +kernel
theorem dX8_dressAll_72 : decode cX8_dressAll 72 = .ok (.iinc 3 1, 3) := by decide +kernel
theorem dX8_dressAll_75 : decode cX8_dressAll 75 = .ok (.goto (-41), 3) := by decide +kernel
theorem dX8_dressAll_78 : decode cX8_dressAll 78 = .ok (.aload_n 1, 1) := by decide +kernel
theorem dX8_dressAll_79 : decode cX8_dressAll 79 = .ok (.getfield 192, 3) := by decide +kernel
theorem dX8_dressAll_82 : decode cX8_dressAll 82 = .ok (.aload_n 0, 1) := by decide +kernel
theorem dX8_dressAll_83 : decode cX8_dressAll 83 = .ok (.getfield 52, 3) := by decide +kernel
theorem dX8_dressAll_86 : decode cX8_dressAll 86 = .ok (.getfield 189, 3) := by decide +kernel
theorem dX8_dressAll_89 : decode cX8_dressAll 89 = .ok (.isub, 1) := by decide +kernel
theorem dX8_dressAll_90 : decode cX8_dressAll 90 = .ok (.ireturn, 1) := by decide +kernel
theorem dX8_newAhead_0 : decode cX8_newAhead 0 = .ok (.iconst 0, 1) := by decide +kernel
theorem dX8_newAhead_1 : decode cX8_newAhead 1 = .ok (.istore 4, 2) := by decide +kernel
theorem dX8_newAhead_3 : decode cX8_newAhead 3 = .ok (.iconst 0, 1) := by decide +kernel
theorem dX8_newAhead_4 : decode cX8_newAhead 4 = .ok (.istore 5, 2) := by decide +kernel
theorem dX8_newAhead_6 : decode cX8_newAhead 6 = .ok (.iload 5, 2) := by decide +kernel
theorem dX8_newAhead_8 : decode cX8_newAhead 8 = .ok (.iload_n 2, 1) := by decide +kernel
theorem dX8_newAhead_9 : decode cX8_newAhead 9 = .ok (.if_icmp .ge 64, 3) := by decide +kernel
theorem dX8_newAhead_12 : decode cX8_newAhead 12 = .ok (.iload 5, 2) := by decide +kernel
theorem dX8_newAhead_14 : decode cX8_newAhead 14 = .ok (.iconst 4, 1) := by decide +kernel
theorem dX8_newAhead_15 : decode cX8_newAhead 15 = .ok (.if_icmp .ge 58, 3) := by decide +kernel
theorem dX8_newAhead_18 : decode cX8_newAhead 18 = .ok (.aload_n 0, 1) := by decide +kernel
theorem dX8_newAhead_19 : decode cX8_newAhead 19 = .ok (.getfield 63, 3) := by decide +kernel
theorem dX8_newAhead_22 : decode cX8_newAhead 22 = .ok (.iload 5, 2) := by decide +kernel
theorem dX8_newAhead_24 : decode cX8_newAhead 24 = .ok (.aload_n 0, 1) := by decide +kernel
theorem dX8_newAhead_25 : decode cX8_newAhead 25 = .ok (.aload_n 0, 1) := by decide +kernel
theorem dX8_newAhead_26 : decode cX8_newAhead 26 = .ok (.getfield 23, 3) := by decide +kernel
theorem dX8_newAhead_29 : decode cX8_newAhead 29 = .ok (.iload_n 1, 1) := by decide +kernel
theorem dX8_newAhead_30 : decode cX8_newAhead 30 = .ok (.invokevirtual 198, 3) := by decide +kernel
theorem dX8_newAhead_33 : decode cX8_newAhead 33 = .ok (.iastore, 1) := by decide +kernel
theorem dX8_newAhead_34 : decode cX8_newAhead 34 = .ok (.iload 4, 2) := by decide +kernel
theorem dX8_newAhead_36 : decode cX8_newAhead 36 = .ok (.aload_n 0, 1) := by decide +kernel
theorem dX8_newAhead_37 : decode cX8_newAhead 37 = .ok (.getfield 63, 3) := by decide +kernel
theorem dX8_newAhead_40 : decode cX8_newAhead 40 = .ok (.iload 5, 2) := by decide +kernel
theorem dX8_newAhead_42 : decode cX8_newAhead 42 = .ok (.iaload, 1) := by decide +kernel
theorem dX8_newAhead_43 : decode cX8_newAhead 43 = .ok (.iadd, 1) := by decide +kernel
theorem dX8_newAhead_44 : decode cX8_newAhead 44 = .ok (.istore 4, 2) := by decide +kernel
theorem dX8_newAhead_46 : decode cX8_newAhead 46 = .ok (.aload_n 0, 1) := by decide +kernel
theorem dX8_newAhead_47 : decode cX8_newAhead 47 = .ok (.getfield 23, 3) := by decide +kernel
theorem dX8_newAhead_50 : decode cX8_newAhead 50 = .ok (.invokevirtual 206, 3) := by decide +kernel
theorem dX8_newAhead_53 : decode cX8_newAhead 53 = .ok (.pop, 1) := by decide +kernel
theorem dX8_newAhead_54 : decode cX8_newAhead 54 = .ok (.aload_n 0, 1) := by decide +kernel
theorem dX8_newAhead_55 : decode cX8_newAhead 55 = .ok (.getfield 23, 3) := by decide +kernel
theorem dX8_newAhead_58 : decode cX8_newAhead 58 = .ok (.iload_n 3, 1) := by decide +kernel
theorem dX8_newAhead_59 : decode cX8_newAhead 59 = .ok (.aload_n 0, 1) := by decide +kernel
theorem dX8_newAhead_60 : decode cX8_newAhead 60 = .ok (.getfield 67, 3) := by decide +kernel
theorem dX8_newAhead_63 : decode cX8_newAhead 63 = .ok (.invokevirtual 209, 3) := by decide +kernel
theorem dX8_newAhead_66 : decode cX8_newAhead 66 = .ok (.pop, 1) := by decide +kernel
theorem dX8_newAhead_67 : decode cX8_newAhead 67 = .ok (.iinc 5 1, 3) := by decide +kernel
theorem dX8_newAhead_70 : decode cX8_newAhead 70 = .ok (.goto (-64), 3) := by decide +kernel
theorem dX8_newAhead_73 : decode cX8_newAhead 73 = .ok (.iload 4, 2) := by decide +kernel
theorem dX8_newAhead_75 : decode cX8_newAhead 75 = .ok (.ireturn, 1) := by decide +kernel
theorem dX8_startCuts_0 : decode cX8_startCuts 0 = .ok (.aload_n 0, 1) := by decide +kernel
theorem dX8_startCuts_1 : decode cX8_startCuts 1 = .ok (.getfield 23, 3) := by decide +kernel
theorem dX8_startCuts_4 : decode cX8_startCuts 4 = .ok (.aload_n 0, 1) := by decide +kernel
theorem dX8_startCuts_5 : decode cX8_startCuts 5 = .ok (.getfield 19, 3) := by decide +kernel
theorem dX8_startCuts_8 : decode cX8_startCuts 8 = .ok (.invokevirtual 216, 3) := by decide +kernel
theorem dX8_startCuts_11 : decode cX8_startCuts 11 = .ok (.aload_n 0, 1) := by decide +kernel
theorem dX8_startCuts_12 : decode cX8_startCuts 12 = .ok (.aload_n 0, 1) := by decide +kernel
theorem dX8_startCuts_13 : decode cX8_startCuts 13 = .ok (.iload_n 1, 1) := by decide +kernel
theorem dX8_startCuts_14 : decode cX8_startCuts 14 = .ok (.iload_n 2, 1) := by decide +kernel
theorem dX8_startCuts_15 : decode cX8_startCuts 15 = .ok (.iload_n 3, 1) := by decide +kernel
theorem dX8_startCuts_16 : decode cX8_startCuts 16 = .ok (.invokevirtual 219, 3) := by decide +kernel
theorem dX8_startCuts_19 : decode cX8_startCuts 19 = .ok (.putfield 240, 3) := by decide +kernel
theorem dX8_startCuts_22 : decode cX8_startCuts 22 = .ok (.aload_n 0, 1) := by decide +kernel
theorem dX8_startCuts_23 : decode cX8_startCuts 23 = .ok (.bipush (-4), 2) := by decide +kernel
theorem dX8_startCuts_25 : decode cX8_startCuts 25 = .ok (.putfield 234, 3) := by decide +kernel
theorem dX8_startCuts_28 : decode cX8_startCuts 28 = .ok (.aload_n 0, 1) := by decide +kernel
theorem dX8_startCuts_29 : decode cX8_startCuts 29 = .ok (.iconst 0, 1) := by decide +kernel
theorem dX8_startCuts_30 : decode cX8_startCuts 30 = .ok (.putfield 237, 3) := by decide +kernel
theorem dX8_startCuts_33 : decode cX8_startCuts 33 = .ok (.return_, 1) := by decide +kernel
theorem dX8_tryCuts_0 : decode cX8_tryCuts 0 = .ok (.aload_n 0, 1) := by decide +kernel
theorem dX8_tryCuts_1 : decode cX8_tryCuts 1 = .ok (.getfield 19, 3) := by decide +kernel
theorem dX8_tryCuts_4 : decode cX8_tryCuts 4 = .ok (.getfield 132, 3) := by decide +kernel
theorem dX8_tryCuts_7 : decode cX8_tryCuts 7 = .ok (.iload_n 1, 1) := by decide +kernel
theorem dX8_tryCuts_8 : decode cX8_tryCuts 8 = .ok (.aaload, 1) := by decide +kernel
theorem dX8_tryCuts_9 : decode cX8_tryCuts 9 = .ok (.getfield 136, 3) := by decide +kernel
theorem dX8_tryCuts_12 : decode cX8_tryCuts 12 = .ok (.istore 4, 2) := by decide +kernel
theorem dX8_tryCuts_14 : decode cX8_tryCuts 14 = .ok (.aload_n 0, 1) := by decide +kernel
theorem dX8_tryCuts_15 : decode cX8_tryCuts 15 = .ok (.getfield 19, 3) := by decide +kernel
theorem dX8_tryCuts_18 : decode cX8_tryCuts 18 = .ok (.invokevirtual 337, 3) := by decide +kernel
theorem dX8_tryCuts_21 : decode cX8_tryCuts 21 = .ok (.istore 5, 2) := by decide +kernel
theorem dX8_tryCuts_23 : decode cX8_tryCuts 23 = .ok (.aload_n 0, 1) := by decide +kernel
theorem dX8_tryCuts_24 : decode cX8_tryCuts 24 = .ok (.getfield 19, 3) := by decide +kernel
theorem dX8_tryCuts_27 : decode cX8_tryCuts 27 = .ok (.getfield 132, 3) := by decide +kernel
theorem dX8_tryCuts_30 : decode cX8_tryCuts 30 = .ok (.iload_n 1, 1) := by decide +kernel
theorem dX8_tryCuts_31 : decode cX8_tryCuts 31 = .ok (.aaload, 1) := by decide +kernel
theorem dX8_tryCuts_32 : decode cX8_tryCuts 32 = .ok (.getfield 144, 3) := by decide +kernel
theorem dX8_tryCuts_35 : decode cX8_tryCuts 35 = .ok (.iconst 1, 1) := by decide +kernel
theorem dX8_tryCuts_36 : decode cX8_tryCuts 36 = .ok (.isub, 1) := by decide +kernel
theorem dX8_tryCuts_37 : decode cX8_tryCuts 37 = .ok (.istore 6, 2) := by decide +kernel
theorem dX8_tryCuts_39 : decode cX8_tryCuts 39 = .ok (.iload 6, 2) := by decide +kernel
theorem dX8_tryCuts_41 : decode cX8_tryCuts 41 = .ok (.iconst 1, 1) := by decide +kernel
theorem dX8_tryCuts_42 : decode cX8_tryCuts 42 = .ok (.if_icmp .lt 89, 3) := by decide +kernel
theorem dX8_tryCuts_45 : decode cX8_tryCuts 45 = .ok (.aload_n 0, 1) := by decide +kernel
theorem dX8_tryCuts_46 : decode cX8_tryCuts 46 = .ok (.getfield 240, 3) := by decide +kernel
theorem dX8_tryCuts_49 : decode cX8_tryCuts 49 = .ok (.ifCond .le 82, 3) := by decide +kernel
theorem dX8_tryCuts_52 : decode cX8_tryCuts 52 = .ok (.aload_n 0, 1) := by decide +kernel
theorem dX8_tryCuts_53 : decode cX8_tryCuts 53 = .ok (.getfield 23, 3) := by decide +kernel
theorem dX8_tryCuts_56 : decode cX8_tryCuts 56 = .ok (.aload_n 0, 1) := by decide +kernel
theorem dX8_tryCuts_57 : decode cX8_tryCuts 57 = .ok (.getfield 19, 3) := by decide +kernel
theorem dX8_tryCuts_60 : decode cX8_tryCuts 60 = .ok (.invokevirtual 216, 3) := by decide +kernel
theorem dX8_tryCuts_63 : decode cX8_tryCuts 63 = .ok (.aload_n 0, 1) := by decide +kernel
theorem dX8_tryCuts_64 : decode cX8_tryCuts 64 = .ok (.getfield 23, 3) := by decide +kernel
theorem dX8_tryCuts_67 : decode cX8_tryCuts 67 = .ok (.getfield 132, 3) := by decide +kernel
theorem dX8_tryCuts_70 : decode cX8_tryCuts 70 = .ok (.iload_n 1, 1) := by decide +kernel
theorem dX8_tryCuts_71 : decode cX8_tryCuts 71 = .ok (.aaload, 1) := by decide +kernel
theorem dX8_tryCuts_72 : decode cX8_tryCuts 72 = .ok (.iload 6, 2) := by decide +kernel
theorem dX8_tryCuts_74 : decode cX8_tryCuts 74 = .ok (.putfield 144, 3) := by decide +kernel
theorem dX8_tryCuts_77 : decode cX8_tryCuts 77 = .ok (.aload_n 0, 1) := by decide +kernel
theorem dX8_tryCuts_78 : decode cX8_tryCuts 78 = .ok (.iload 4, 2) := by decide +kernel
theorem dX8_tryCuts_80 : decode cX8_tryCuts 80 = .ok (.iload_n 2, 1) := by decide +kernel
theorem dX8_tryCuts_81 : decode cX8_tryCuts 81 = .ok (.iload_n 3, 1) := by decide +kernel
theorem dX8_tryCuts_82 : decode cX8_tryCuts 82 = .ok (.invokevirtual 219, 3) := by decide +kernel
theorem dX8_tryCuts_85 : decode cX8_tryCuts 85 = .ok (.istore 7, 2) := by decide +kernel
theorem dX8_tryCuts_87 : decode cX8_tryCuts 87 = .ok (.iload 7, 2) := by decide +kernel
theorem dX8_tryCuts_89 : decode cX8_tryCuts 89 = .ok (.aload_n 0, 1) := by decide +kernel
theorem dX8_tryCuts_90 : decode cX8_tryCuts 90 = .ok (.getfield 240, 3) := by decide +kernel
theorem dX8_tryCuts_93 : decode cX8_tryCuts 93 = .ok (.if_icmp .ge 20, 3) := by decide +kernel
theorem dX8_tryCuts_96 : decode cX8_tryCuts 96 = .ok (.aload_n 0, 1) := by decide +kernel
theorem dX8_tryCuts_97 : decode cX8_tryCuts 97 = .ok (.iload 7, 2) := by decide +kernel
theorem dX8_tryCuts_99 : decode cX8_tryCuts 99 = .ok (.putfield 240, 3) := by decide +kernel
theorem dX8_tryCuts_102 : decode cX8_tryCuts 102 = .ok (.aload_n 0, 1) := by decide +kernel
theorem dX8_tryCuts_103 : decode cX8_tryCuts 103 = .ok (.iload_n 1, 1) := by decide +kernel
theorem dX8_tryCuts_104 : decode cX8_tryCuts 104 = .ok (.putfield 234, 3) := by decide +kernel
theorem dX8_tryCuts_107 : decode cX8_tryCuts 107 = .ok (.aload_n 0, 1) := by decide +kernel
theorem dX8_tryCuts_108 : decode cX8_tryCuts 108 = .ok (.iload 6, 2) := by decide +kernel
theorem dX8_tryCuts_110 : decode cX8_tryCuts 110 = .ok (.putfield 237, 3) := by decide +kernel
theorem dX8_tryCuts_113 : decode cX8_tryCuts 113 = .ok (.iload 6, 2) := by decide +kernel
theorem dX8_tryCuts_115 : decode cX8_tryCuts 115 = .ok (.iconst 2, 1) := by decide +kernel
theorem dX8_tryCuts_116 : decode cX8_tryCuts 116 = .ok (.iadd, 1) := by decide +kernel
theorem dX8_tryCuts_117 : decode cX8_tryCuts 117 = .ok (.iload 5, 2) := by decide +kernel
theorem dX8_tryCuts_119 : decode cX8_tryCuts 119 = .ok (.if_icmp .ge 6, 3) := by decide +kernel
theorem dX8_tryCuts_122 : decode cX8_tryCuts 122 = .ok (.goto 9, 3) := by decide +kernel
theorem dX8_tryCuts_125 : decode cX8_tryCuts 125 = .ok (.iinc 6 (-1), 3) := by decide +kernel
theorem dX8_tryCuts_128 : decode cX8_tryCuts 128 = .ok (.goto (-89), 3) := by decide +kernel
theorem dX8_tryCuts_131 : decode cX8_tryCuts 131 = .ok (.return_, 1) := by decide +kernel
theorem dX9_init_0 : decode cX9_init 0 = .ok (.aload_n 0, 1) := by decide +kernel
theorem dX9_init_1 : decode cX9_init 1 = .ok (.invokespecial 1, 3) := by decide +kernel
theorem dX9_init_4 : decode cX9_init 4 = .ok (.aload_n 0, 1) := by decide +kernel
theorem dX9_init_5 : decode cX9_init 5 = .ok (.sipush 796, 3) := by decide +kernel
theorem dX9_init_8 : decode cX9_init 8 = .ok (.newarray .int, 2) := by decide +kernel
theorem dX9_init_10 : decode cX9_init 10 = .ok (.putfield 7, 3) := by decide +kernel
theorem dX9_init_13 : decode cX9_init 13 = .ok (.aload_n 0, 1) := by decide +kernel
theorem dX9_init_14 : decode cX9_init 14 = .ok (.iconst 2, 1) := by decide +kernel
theorem dX9_init_15 : decode cX9_init 15 = .ok (.newarray .boolean, 2) := by decide +kernel
theorem dX9_init_17 : decode cX9_init 17 = .ok (.putfield 13, 3) := by decide +kernel
theorem dX9_init_20 : decode cX9_init 20 = .ok (.aload_n 0, 1) := by decide +kernel
theorem dX9_init_21 : decode cX9_init 21 = .ok (.sipush 199, 3) := by decide +kernel
theorem dX9_init_24 : decode cX9_init 24 = .ok (.newarray .int, 2) := by decide +kernel
theorem dX9_init_26 : decode cX9_init 26 = .ok (.putfield 17, 3) := by decide +kernel
theorem dX9_init_29 : decode cX9_init 29 = .ok (.aload_n 0, 1) := by decide +kernel
theorem dX9_init_30 : decode cX9_init 30 = .ok (.sipush 400, 3) := by decide +kernel
theorem dX9_init_33 : decode cX9_init 33 = .ok (.newarray .int, 2) := by decide +kernel
theorem dX9_init_35 : decode cX9_init 35 = .ok (.putfield 20, 3) := by decide +kernel
theorem dX9_init_38 : decode cX9_init 38 = .ok (.aload_n 0, 1) := by decide +kernel
theorem dX9_init_39 : decode cX9_init 39 = .ok (.bipush 8, 2) := by decide +kernel
theorem dX9_init_41 : decode cX9_init 41 = .ok (.newarray .int, 2) := by decide +kernel
theorem dX9_init_43 : decode cX9_init 43 = .ok (.putfield 23, 3) := by decide +kernel
theorem dX9_init_46 : decode cX9_init 46 = .ok (.aload_n 0, 1) := by decide +kernel
theorem dX9_init_47 : decode cX9_init 47 = .ok (.bipush 8, 2) := by decide +kernel
theorem dX9_init_49 : decode cX9_init 49 = .ok (.newarray .int, 2) := by decide +kernel
theorem dX9_init_51 : decode cX9_init 51 = .ok (.putfield 26, 3) := by decide +kernel
theorem dX9_init_54 : decode cX9_init 54 = .ok (.aload_n 0, 1) := by decide +kernel
theorem dX9_init_55 : decode cX9_init 55 = .ok (.bipush 20, 2) := by decide +kernel
theorem dX9_init_57 : decode cX9_init 57 = .ok (.newarray .int, 2) := by decide +kernel
theorem dX9_init_59 : decode cX9_init 59 = .ok (.putfield 29, 3) := by decide +kernel
theorem dX9_init_62 : decode cX9_init 62 = .ok (.aload_n 0, 1) := by decide +kernel
theorem dX9_init_63 : decode cX9_init 63 = .ok (.bipush 20, 2) := by decide +kernel
theorem dX9_init_65 : decode cX9_init 65 = .ok (.newarray .int, 2) := by decide +kernel
theorem dX9_init_67 : decode cX9_init 67 = .ok (.putfield 32, 3) := by decide +kernel
theorem dX9_init_70 : decode cX9_init 70 = .ok (.aload_n 0, 1) := by decide +kernel
theorem dX9_init_71 : decode cX9_init 71 = .ok (.bipush 8, 2) := by decide +kernel
theorem dX9_init_73 : decode cX9_init 73 = .ok (.newarray .int, 2) := by decide +kernel
theorem dX9_init_75 : decode cX9_init 75 = .ok (.putfield 35, 3) := by decide +kernel
theorem dX9_init_78 : decode cX9_init 78 = .ok (.aload_n 0, 1) := by decide +kernel
theorem dX9_init_79 : decode cX9_init 79 = .ok (.bipush 8, 2) := by decide +kernel
theorem dX9_init_81 : decode cX9_init 81 = .ok (.newarray .int, 2) := by decide +kernel
theorem dX9_init_83 : decode cX9_init 83 = .ok (.putfield 38, 3) := by decide +kernel
theorem dX9_init_86 : decode cX9_init 86 = .ok (.aload_n 0, 1) := by decide +kernel
theorem dX9_init_87 : decode cX9_init 87 = .ok (.bipush 20, 2) := by decide +kernel
theorem dX9_init_89 : decode cX9_init 89 = .ok (.newarray .int, 2) := by decide +kernel
theorem dX9_init_91 : decode cX9_init 91 = .ok (.putfield 41, 3) := by decide +kernel
theorem dX9_init_94 : decode cX9_init 94 = .ok (.aload_n 0, 1) := by decide +kernel
theorem dX9_init_95 : decode cX9_init 95 = .ok (.iconst 4, 1) := by decide +kernel
theorem dX9_init_96 : decode cX9_init 96 = .ok (.newarray .int, 2) := by decide +kernel
theorem dX9_init_98 : decode cX9_init 98 = .ok (.putfield 44, 3) := by decide +kernel
theorem dX9_init_101 : decode cX9_init 101 = .ok (.aload_n 0, 1) := by decide +kernel
theorem dX9_init_102 : decode cX9_init 102 = .ok (.bipush 10, 2) := by decide +kernel
theorem dX9_init_104 : decode cX9_init 104 = .ok (.newarray .int, 2) := by decide +kernel
theorem dX9_init_106 : decode cX9_init 106 = .ok (.putfield 47, 3) := by decide +kernel
theorem dX9_init_109 : decode cX9_init 109 = .ok (.aload_n 0, 1) := by decide +kernel
theorem dX9_init_110 : decode cX9_init 110 = .ok (.bipush 7, 2) := by decide +kernel
theorem dX9_init_112 : decode cX9_init 112 = .ok (.newarray .int, 2) := by decide +kernel
theorem dX9_init_114 : decode cX9_init 114 = .ok (.putfield 50, 3) := by decide +kernel
theorem dX9_init_117 : decode cX9_init 117 = .ok (.aload_n 0, 1) := by decide +kernel
theorem dX9_init_118 : decode cX9_init 118 = .ok (.bipush 6, 2) := by decide +kernel
theorem dX9_init_120 : decode cX9_init 120 = .ok (.newarray .int, 2) := by decide +kernel
theorem dX9_init_122 : decode cX9_init 122 = .ok (.putfield 53, 3) := by decide +kernel
theorem dX9_init_125 : decode cX9_init 125 = .ok (.aload_n 0, 1) := by decide +kernel
theorem dX9_init_126 : decode cX9_init 126 = .ok (.iconst 4, 1) := by decide +kernel
theorem dX9_init_127 : decode cX9_init 127 = .ok (.newarray .int, 2) := by decide +kernel
theorem dX9_init_129 : decode cX9_init 129 = .ok (.putfield 56, 3) := by decide +kernel
theorem dX9_init_132 : decode cX9_init 132 = .ok (.aload_n 0, 1) := by decide +kernel
theorem dX9_init_133 : decode cX9_init 133 = .ok (.iconst 4, 1) := by decide +kernel
theorem dX9_init_134 : decode cX9_init 134 = .ok (.newarray .int, 2) := by decide +kernel
theorem dX9_init_136 : decode cX9_init 136 = .ok (.putfield 59, 3) := by decide +kernel
theorem dX9_init_139 : decode cX9_init 139 = .ok (.aload_n 0, 1) := by decide +kernel
theorem dX9_init_140 : decode cX9_init 140 = .ok (.sipush 160, 3) := by decide +kernel
theorem dX9_init_143 : decode cX9_init 143 = .ok (.newarray .int, 2) := by decide +kernel
theorem dX9_init_145 : decode cX9_init 145 = .ok (.putfield 62, 3) := by decide +kernel
theorem dX9_init_148 : decode cX9_init 148 = .ok (.iconst 0, 1) := by decide +kernel
theorem dX9_init_149 : decode cX9_init 149 = .ok (.istore_n 1, 1) := by decide +kernel
theorem dX9_init_150 : decode cX9_init 150 = .ok (.iload_n 1, 1) := by decide +kernel
theorem dX9_init_151 : decode cX9_init 151 = .ok (.iconst 4, 1) := by decide +kernel
theorem dX9_init_152 : decode cX9_init 152 = .ok (.if_icmp .ge 17, 3) := by decide +kernel
theorem dX9_init_155 : decode cX9_init 155 = .ok (.aload_n 0, 1) := by decide +kernel
theorem dX9_init_156 : decode cX9_init 156 = .ok (.getfield 56, 3) := by decide +kernel
theorem dX9_init_159 : decode cX9_init 159 = .ok (.iload_n 1, 1) := by decide +kernel
theorem dX9_init_160 : decode cX9_init 160 = .ok (.bipush (-4), 2) := by decide +kernel
theorem dX9_init_162 : decode cX9_init 162 = .ok (.iastore, 1) := by decide +kernel
theorem dX9_init_163 : decode cX9_init 163 = .ok (.iinc 1 1, 3) := by decide +kernel
theorem dX9_init_166 : decode cX9_init 166 = .ok (.goto (-16), 3) := by decide +kernel
theorem dX9_init_169 : decode cX9_init 169 = .ok (.aload_n 0, 1) := by decide +kernel
theorem dX9_init_170 : decode cX9_init 170 = .ok (.invokevirtual 65, 3) := by decide +kernel
theorem dX9_init_173 : decode cX9_init 173 = .ok (.aload_n 0, 1) := by decide +kernel
theorem dX9_init_174 : decode cX9_init 174 = .ok (.invokevirtual 68, 3) := by decide +kernel
theorem dX9_init_177 : decode cX9_init 177 = .ok (.return_, 1) := by decide +kernel
theorem dX9_in_0 : decode cX9_in 0 = .ok (.lload_n 0, 1) := by decide +kernel
theorem dX9_in_1 : decode cX9_in 1 = .ok (.lload_n 2, 1) := by decide +kernel
theorem dX9_in_2 : decode cX9_in 2 = .ok (.lcmp, 1) := by decide +kernel
theorem dX9_in_3 : decode cX9_in 3 = .ok (.ifCond .lt 14, 3) := by decide +kernel
theorem dX9_in_6 : decode cX9_in 6 = .ok (.lload_n 0, 1) := by decide +kernel
theorem dX9_in_7 : decode cX9_in 7 = .ok (.lload 4, 2) := by decide +kernel
theorem dX9_in_9 : decode cX9_in 9 = .ok (.lcmp, 1) := by decide +kernel
theorem dX9_in_10 : decode cX9_in 10 = .ok (.ifCond .gt 7, 3) := by decide +kernel
theorem dX9_in_13 : decode cX9_in 13 = .ok (.iconst 1, 1) := by decide +kernel
theorem dX9_in_14 : decode cX9_in 14 = .ok (.goto 4, 3) := by decide +kernel
theorem dX9_in_17 : decode cX9_in 17 = .ok (.iconst 0, 1) := by decide +kernel
theorem dX9_in_18 : decode cX9_in 18 = .ok (.ireturn, 1) := by decide +kernel
theorem dX9_flag_0 : decode cX9_flag 0 = .ok (.iload_n 0, 1) := by decide +kernel
theorem dX9_flag_1 : decode cX9_flag 1 = .ok (.ifCond .eq 7, 3) := by decide +kernel
theorem dX9_flag_4 : decode cX9_flag 4 = .ok (.iconst 1, 1) := by decide +kernel
theorem dX9_flag_5 : decode cX9_flag 5 = .ok (.goto 4, 3) := by decide +kernel
theorem dX9_flag_8 : decode cX9_flag 8 = .ok (.iconst 0, 1) := by decide +kernel
theorem dX9_flag_9 : decode cX9_flag 9 = .ok (.ireturn, 1) := by decide +kernel
theorem dX9_firstDraft_0 : decode cX9_firstDraft 0 = .ok (.iconst 0, 1) := by decide +kernel
theorem dX9_firstDraft_1 : decode cX9_firstDraft 1 = .ok (.istore_n 1, 1) := by decide +kernel
theorem dX9_firstDraft_2 : decode cX9_firstDraft 2 = .ok (.iload_n 1, 1) := by decide +kernel
theorem dX9_firstDraft_3 : decode cX9_firstDraft 3 = .ok (.sipush 199, 3) := by decide +kernel
theorem dX9_firstDraft_6 : decode cX9_firstDraft 6 = .ok (.if_icmp .ge 16, 3) := by decide +kernel
theorem dX9_firstDraft_9 : decode cX9_firstDraft 9 = .ok (.aload_n 0, 1) := by decide +kernel
theorem dX9_firstDraft_10 : decode cX9_firstDraft 10 = .ok (.getfield 17, 3) := by decide +kernel
theorem dX9_firstDraft_13 : decode cX9_firstDraft 13 = .ok (.iload_n 1, 1) := by decide +kernel
theorem dX9_firstDraft_14 : decode cX9_firstDraft 14 = .ok (.iconst 0, 1) := by decide +kernel
theorem dX9_firstDraft_15 : decode cX9_firstDraft 15 = .ok (.iastore, 1) := by decide +kernel
theorem dX9_firstDraft_16 : decode cX9_firstDraft 16 = .ok (.iinc 1 1, 3) := by decide +kernel
theorem dX9_firstDraft_19 : decode cX9_firstDraft 19 = .ok (.goto (-17), 3) := by decide +kernel
theorem dX9_firstDraft_22 : decode cX9_firstDraft 22 = .ok (.aload_n 0, 1) := by decide +kernel
theorem dX9_firstDraft_23 : decode cX9_firstDraft 23 = .ok (.iconst 2, 1) := by decide +kernel
theorem dX9_firstDraft_24 : decode cX9_firstDraft 24 = .ok (.putfield 71, 3) := by decide +kernel
theorem dX9_firstDraft_27 : decode cX9_firstDraft 27 = .ok (.aload_n 0, 1) := by decide +kernel
theorem dX9_firstDraft_28 : decode cX9_firstDraft 28 = .ok (.iconst 0, 1) := by decide +kernel
theorem dX9_firstDraft_29 : decode cX9_firstDraft 29 = .ok (.putfield 75, 3) := by decide +kernel
theorem dX9_firstDraft_32 : decode cX9_firstDraft 32 = .ok (.aload_n 0, 1) := by decide +kernel
theorem dX9_firstDraft_33 : decode cX9_firstDraft 33 = .ok (.bipush (-4), 2) := by decide +kernel
theorem dX9_firstDraft_35 : decode cX9_firstDraft 35 = .ok (.putfield 79, 3) := by decide +kernel
theorem dX9_firstDraft_38 : decode cX9_firstDraft 38 = .ok (.aload_n 0, 1) := by decide +kernel
theorem dX9_firstDraft_39 : decode cX9_firstDraft 39 = .ok (.bipush (-4), 2) := by decide +kernel
theorem dX9_firstDraft_41 : decode cX9_firstDraft 41 = .ok (.putfield 82, 3) := by decide +kernel
theorem dX9_firstDraft_44 : decode cX9_firstDraft 44 = .ok (.return_, 1) := by decide +kernel
theorem dX9_keepDraft_0 : decode cX9_keepDraft 0 = .ok (.iconst 0, 1) := by decide +kernel
theorem dX9_keepDraft_1 : decode cX9_keepDraft 1 = .ok (.istore_n 1, 1) := by decide +kernel
theorem dX9_keepDraft_2 : decode cX9_keepDraft 2 = .ok (.iload_n 1, 1) := by decide +kernel
theorem dX9_keepDraft_3 : decode cX9_keepDraft 3 = .ok (.sipush 199, 3) := by decide +kernel
theorem dX9_keepDraft_6 : decode cX9_keepDraft 6 = .ok (.if_icmp .ge 21, 3) := by decide +kernel
theorem dX9_keepDraft_9 : decode cX9_keepDraft 9 = .ok (.aload_n 0, 1) := by decide +kernel
theorem dX9_keepDraft_10 : decode cX9_keepDraft 10 = .ok (.getfield 7, 3) := by decide +kernel
theorem dX9_keepDraft_13 : decode cX9_keepDraft 13 = .ok (.iload_n 1, 1) := by decide +kernel
theorem dX9_keepDraft_14 : decode cX9_keepDraft 14 = .ok (.aload_n 0, 1) := by decide +kernel
theorem dX9_keepDraft_15 : decode cX9_keepDraft 15 = .ok (.getfield 17, 3) := by decide +kernel
theorem dX9_keepDraft_18 : decode cX9_keepDraft 18 = .ok (.iload_n 1, 1) := by decide +kernel
theorem dX9_keepDraft_19 : decode cX9_keepDraft 19 = .ok (.iaload, 1) := by decide +kernel
theorem dX9_keepDraft_20 : decode cX9_keepDraft 20 = .ok (.iastore, 1) := by decide +kernel
theorem dX9_keepDraft_21 : decode cX9_keepDraft 21 = .ok (.iinc 1 1, 3) := by decide +kernel
theorem dX9_keepDraft_24 : decode cX9_keepDraft 24 = .ok (.goto (-22), 3) := by decide +kernel
theorem dX9_keepDraft_27 : decode cX9_keepDraft 27 = .ok (.aload_n 0, 1) := by decide +kernel
theorem dX9_keepDraft_28 : decode cX9_keepDraft 28 = .ok (.aload_n 0, 1) := by decide +kernel
theorem dX9_keepDraft_29 : decode cX9_keepDraft 29 = .ok (.getfield 71, 3) := by decide +kernel
theorem dX9_keepDraft_32 : decode cX9_keepDraft 32 = .ok (.putfield 85, 3) := by decide +kernel
theorem dX9_keepDraft_35 : decode cX9_keepDraft 35 = .ok (.aload_n 0, 1) := by decide +kernel
theorem dX9_keepDraft_36 : decode cX9_keepDraft 36 = .ok (.getfield 13, 3) := by decide +kernel
theorem dX9_keepDraft_39 : decode cX9_keepDraft 39 = .ok (.iconst 0, 1) := by decide +kernel
theorem dX9_keepDraft_40 : decode cX9_keepDraft 40 = .ok (.iconst 0, 1) := by decide +kernel
theorem dX9_keepDraft_41 : decode cX9_keepDraft 41 = .ok (.bastore, 1) := by decide +kernel
theorem dX9_keepDraft_42 : decode cX9_keepDraft 42 = .ok (.aload_n 0, 1) := by decide +kernel
theorem dX9_keepDraft_43 : decode cX9_keepDraft 43 = .ok (.getfield 13, 3) := by decide +kernel
theorem dX9_keepDraft_46 : decode cX9_keepDraft 46 = .ok (.iconst 1, 1) := by decide +kernel
theorem dX9_keepDraft_47 : decode cX9_keepDraft 47 = .ok (.iconst 0, 1) := by decide +kernel
theorem dX9_keepDraft_48 : decode cX9_keepDraft 48 = .ok (.bastore, 1) := by decide +kernel
theorem dX9_keepDraft_49 : decode cX9_keepDraft 49 = .ok (.return_, 1) := by decide +kernel
theorem dX9_feed_0 : decode cX9_feed 0 = .ok (.aload_n 0, 1) := by decide +kernel
theorem dX9_feed_1 : decode cX9_feed 1 = .ok (.getfield 88, 3) := by decide +kernel
theorem dX9_feed_4 : decode cX9_feed 4 = .ok (.bipush 8, 2) := by decide +kernel
theorem dX9_feed_6 : decode cX9_feed 6 = .ok (.iadd, 1) := by decide +kernel
theorem dX9_feed_7 : decode cX9_feed 7 = .ok (.sipush 400, 3) := by decide +kernel
theorem dX9_feed_10 : decode cX9_feed 10 = .ok (.if_icmp .le 6, 3) := by decide +kernel
theorem dX9_feed_13 : decode cX9_feed 13 = .ok (.bipush (-3), 2) := by decide +kernel
theorem dX9_feed_15 : decode cX9_feed 15 = .ok (.ireturn, 1) := by decide +kernel
theorem dX9_feed_16 : decode cX9_feed 16 = .ok (.bipush 56, 2) := by decide +kernel
theorem dX9_feed_18 : decode cX9_feed 18 = .ok (.istore_n 3, 1) := by decide +kernel
theorem dX9_feed_19 : decode cX9_feed 19 = .ok (.iload_n 3, 1) := by decide +kernel
theorem dX9_feed_20 : decode cX9_feed 20 = .ok (.ifCond .lt 36, 3) := by decide +kernel
theorem dX9_feed_23 : decode cX9_feed 23 = .ok (.aload_n 0, 1) := by decide +kernel
theorem dX9_feed_24 : decode cX9_feed 24 = .ok (.getfield 20, 3) := by decide +kernel
theorem dX9_feed_27 : decode cX9_feed 27 = .ok (.aload_n 0, 1) := by decide +kernel
theorem dX9_feed_28 : decode cX9_feed 28 = .ok (.getfield 88, 3) := by decide +kernel
theorem dX9_feed_31 : decode cX9_feed 31 = .ok (.lload_n 1, 1) := by decide +kernel
theorem dX9_feed_32 : decode cX9_feed 32 = .ok (.iload_n 3, 1) := by decide +kernel
theorem dX9_feed_33 : decode cX9_feed 33 = .ok (.lshr, 1) := by decide +kernel
theorem dX9_feed_34 : decode cX9_feed 34 = .ok (.ldc2_w 91, 3) := by decide +kernel
theorem dX9_feed_37 : decode cX9_feed 37 = .ok (.land, 1) := by decide +kernel
theorem dX9_feed_38 : decode cX9_feed 38 = .ok (.l2i, 1) := by decide +kernel
theorem dX9_feed_39 : decode cX9_feed 39 = .ok (.iastore, 1) := by decide +kernel
theorem dX9_feed_40 : decode cX9_feed 40 = .ok (.aload_n 0, 1) := by decide +kernel
theorem dX9_feed_41 : decode cX9_feed 41 = .ok (.dup, 1) := by decide +kernel
theorem dX9_feed_42 : decode cX9_feed 42 = .ok (.getfield 88, 3) := by decide +kernel
theorem dX9_feed_45 : decode cX9_feed 45 = .ok (.iconst 1, 1) := by decide +kernel
theorem dX9_feed_46 : decode cX9_feed 46 = .ok (.iadd, 1) := by decide +kernel
theorem dX9_feed_47 : decode cX9_feed 47 = .ok (.putfield 88, 3) := by decide +kernel
theorem dX9_feed_50 : decode cX9_feed 50 = .ok (.iinc 3 (-8), 3) := by decide +kernel
theorem dX9_feed_53 : decode cX9_feed 53 = .ok (.goto (-34), 3) := by decide +kernel
theorem dX9_feed_56 : decode cX9_feed 56 = .ok (.aload_n 0, 1) := by decide +kernel
theorem dX9_feed_57 : decode cX9_feed 57 = .ok (.getfield 88, 3) := by decide +kernel
theorem dX9_feed_60 : decode cX9_feed 60 = .ok (.ireturn, 1) := by decide +kernel
theorem dX9_end_0 : decode cX9_end 0 = .ok (.iload_n 1, 1) := by decide +kernel
theorem dX9_end_1 : decode cX9_end 1 = .ok (.i2l, 1) := by decide +kernel
theorem dX9_end_2 : decode cX9_end 2 = .ok (.lconst 0, 1) := by decide +kernel
theorem dX9_end_3 : decode cX9_end 3 = .ok (.aload_n 0, 1) := by decide +kernel
theorem dX9_end_4 : decode cX9_end 4 = .ok (.getfield 88, 3) := by decide +kernel
theorem dX9_end_7 : decode cX9_end 7 = .ok (.i2l, 1) := by decide +kernel
theorem dX9_end_8 : decode cX9_end 8 = .ok (.invokestatic 93, 3) := by decide +kernel
theorem dX9_end_11 : decode cX9_end 11 = .ok (.ifCond .ne 5, 3) := by decide +kernel
theorem dX9_end_14 : decode cX9_end 14 = .ok (.iconst (-1), 1) := by decide +kernel
theorem dX9_end_15 : decode cX9_end 15 = .ok (.ireturn, 1) := by decide +kernel
theorem dX9_end_16 : decode cX9_end 16 = .ok (.aload_n 0, 1) := by decide +kernel
theorem dX9_end_17 : decode cX9_end 17 = .ok (.getfield 88, 3) := by decide +kernel
theorem dX9_end_20 : decode cX9_end 20 = .ok (.istore_n 2, 1) := by decide +kernel
theorem dX9_end_21 : decode cX9_end 21 = .ok (.aload_n 0, 1) := by decide +kernel
theorem dX9_end_22 : decode cX9_end 22 = .ok (.iload_n 1, 1) := by decide +kernel
theorem dX9_end_23 : decode cX9_end 23 = .ok (.putfield 88, 3) := by decide +kernel
theorem dX9_end_26 : decode cX9_end 26 = .ok (.iload_n 2, 1) := by decide +kernel
theorem dX9_end_27 : decode cX9_end 27 = .ok (.ireturn, 1) := by decide +kernel
theorem dX9_needs_0 : decode cX9_needs 0 = .ok (.iload_n 1, 1) := by decide +kernel
theorem dX9_needs_1 : decode cX9_needs 1 = .ok (.ifCond .ne 23, 3) := by decide +kernel
theorem dX9_needs_4 : decode cX9_needs 4 = .ok (.aload_n 0, 1) := by decide +kernel
theorem dX9_needs_5 : decode cX9_needs 5 = .ok (.getfield 97, 3) := by decide +kernel
theorem dX9_needs_8 : decode cX9_needs 8 = .ok (.ifCond .ne 16, 3) := by decide +kernel
theorem dX9_needs_11 : decode cX9_needs 11 = .ok (.aload_n 0, 1) := by decide +kernel
theorem dX9_needs_12 : decode cX9_needs 12 = .ok (.iload_n 2, 1) := by decide +kernel
theorem dX9_needs_13 : decode cX9_needs 13 = .ok (.putfield 97, 3) := by decide +kernel
theorem dX9_needs_16 : decode cX9_needs 16 = .ok (.aload_n 0, 1) := by decide +kernel
theorem dX9_needs_17 : decode cX9_needs 17 = .ok (.aload_n 0, 1) := by decide +kernel
theorem dX9_needs_18 : decode cX9_needs 18 = .ok (.getfield 100, 3) := by decide +kernel
theorem dX9_needs_21 : decode cX9_needs 21 = .ok (.putfield 103, 3) := by decide +kernel
theorem dX9_needs_24 : decode cX9_needs 24 = .ok (.return_, 1) := by decide +kernel
theorem dX9_look_0 : decode cX9_look 0 = .ok (.iload_n 1, 1) := by decide +kernel
theorem dX9_look_1 : decode cX9_look 1 = .ok (.aload_n 0, 1) := by decide +kernel
theorem dX9_look_2 : decode cX9_look 2 = .ok (.getfield 88, 3) := by decide +kernel
theorem dX9_look_5 : decode cX9_look 5 = .ok (.if_icmp .ge 12, 3) := by decide +kernel
theorem dX9_look_8 : decode cX9_look 8 = .ok (.aload_n 0, 1) := by decide +kernel
theorem dX9_look_9 : decode cX9_look 9 = .ok (.getfield 20, 3) := by decide +kernel
theorem dX9_look_12 : decode cX9_look 12 = .ok (.iload_n 1, 1) := by decide +kernel
theorem dX9_look_13 : decode cX9_look 13 = .ok (.iaload, 1) := by decide +kernel
theorem dX9_look_14 : decode cX9_look 14 = .ok (.goto 4, 3) := by decide +kernel
theorem dX9_look_17 : decode cX9_look 17 = .ok (.iconst (-1), 1) := by decide +kernel
theorem dX9_look_18 : decode cX9_look 18 = .ok (.ireturn, 1) := by decide +kernel
theorem dX9_is_0 : decode cX9_is 0 = .ok (.aload_n 0, 1) := by decide +kernel
theorem dX9_is_1 : decode cX9_is 1 = .ok (.getfield 106, 3) := by decide +kernel
theorem dX9_is_4 : decode cX9_is 4 = .ok (.aload_n 0, 1) := by decide +kernel
theorem dX9_is_5 : decode cX9_is 5 = .ok (.getfield 100, 3) := by decide +kernel
theorem dX9_is_8 : decode cX9_is 8 = .ok (.isub, 1) := by decide +kernel
theorem dX9_is_9 : decode cX9_is 9 = .ok (.iload_n 1, 1) := by decide +kernel
theorem dX9_is_10 : decode cX9_is 10 = .ok (.if_icmp .ne 68, 3) := by decide +kernel
theorem dX9_is_13 : decode cX9_is 13 = .ok (.aload_n 0, 1) := by decide +kernel
theorem dX9_is_14 : decode cX9_is 14 = .ok (.aload_n 0, 1) := by decide +kernel
theorem dX9_is_15 : decode cX9_is 15 = .ok (.getfield 100, 3) := by decide +kernel
theorem dX9_is_18 : decode cX9_is 18 = .ok (.invokevirtual 109, 3) := by decide +kernel
theorem dX9_is_21 : decode cX9_is 21 = .ok (.iload_n 2, 1) := by decide +kernel
theorem dX9_is_22 : decode cX9_is 22 = .ok (.if_icmp .ne 56, 3) := by decide +kernel
theorem dX9_is_25 : decode cX9_is 25 = .ok (.aload_n 0, 1) := by decide +kernel
theorem dX9_is_26 : decode cX9_is 26 = .ok (.aload_n 0, 1) := by decide +kernel
theorem dX9_is_27 : decode cX9_is 27 = .ok (.getfield 100, 3) := by decide +kernel
theorem dX9_is_30 : decode cX9_is 30 = .ok (.iconst 1, 1) := by decide +kernel
theorem dX9_is_31 : decode cX9_is 31 = .ok (.iadd, 1) := by decide +kernel
theorem dX9_is_32 : decode cX9_is 32 = .ok (.invokevirtual 109, 3) := by decide +kernel
theorem dX9_is_35 : decode cX9_is 35 = .ok (.iload_n 3, 1) := by decide +kernel
theorem dX9_is_36 : decode cX9_is 36 = .ok (.if_icmp .ne 42, 3) := by decide +kernel
theorem dX9_is_39 : decode cX9_is 39 = .ok (.aload_n 0, 1) := by decide +kernel
theorem dX9_is_40 : decode cX9_is 40 = .ok (.aload_n 0, 1) := by decide +kernel
theorem dX9_is_41 : decode cX9_is 41 = .ok (.getfield 100, 3) := by decide +kernel
theorem dX9_is_44 : decode cX9_is 44 = .ok (.iconst 2, 1) := by decide +kernel
theorem dX9_is_45 : decode cX9_is 45 = .ok (.iadd, 1) := by decide +kernel
theorem dX9_is_46 : decode cX9_is 46 = .ok (.invokevirtual 109, 3) := by decide +kernel
theorem dX9_is_49 : decode cX9_is 49 = .ok (.iload 4, 2) := by decide +kernel
theorem dX9_is_51 : decode cX9_is 51 = .ok (.if_icmp .ne 27, 3) := by decide +kernel
theorem dX9_is_54 : decode cX9_is 54 = .ok (.iload_n 1, 1) := by decide +kernel
theorem dX9_is_55 : decode cX9_is 55 = .ok (.iconst 4, 1) := by decide +kernel
theorem dX9_is_56 : decode cX9_is 56 = .ok (.if_icmp .lt 18, 3) := by decide +kernel
theorem dX9_is_59 : decode cX9_is 59 = .ok (.aload_n 0, 1) := by decide +kernel
theorem dX9_is_60 : decode cX9_is 60 = .ok (.aload_n 0, 1) := by decide +kernel
theorem dX9_is_61 : decode cX9_is 61 = .ok (.getfield 100, 3) := by decide +kernel
theorem dX9_is_64 : decode cX9_is 64 = .ok (.iconst 3, 1) := by decide +kernel
theorem dX9_is_65 : decode cX9_is 65 = .ok (.iadd, 1) := by decide +kernel
theorem dX9_is_66 : decode cX9_is 66 = .ok (.invokevirtual 109, 3) := by decide +kernel
theorem dX9_is_69 : decode cX9_is 69 = .ok (.iload 5, 2) := by decide +kernel
theorem dX9_is_71 : decode cX9_is 71 = .ok (.if_icmp .ne 7, 3) := by decide +kernel
theorem dX9_is_74 : decode cX9_is 74 = .ok (.iconst 1, 1) := by decide +kernel
theorem dX9_is_75 : decode cX9_is 75 = .ok (.goto 4, 3) := by decide +kernel
theorem dX9_is_78 : decode cX9_is 78 = .ok (.iconst 0, 1) := by decide +kernel
theorem dX9_is_79 : decode cX9_is 79 = .ok (.ireturn, 1) := by decide +kernel
theorem dX9_ends_0 : decode cX9_ends 0 = .ok (.aload_n 0, 1) := by decide +kernel
theorem dX9_ends_1 : decode cX9_ends 1 = .ok (.aload_n 0, 1) := by decide +kernel
theorem dX9_ends_2 : decode cX9_ends 2 = .ok (.getfield 100, 3) := by decide +kernel
theorem dX9_ends_5 : decode cX9_ends 5 = .ok (.iconst 4, 1) := by decide +kernel
theorem dX9_ends_6 : decode cX9_ends 6 = .ok (.iadd, 1) := by decide +kernel
theorem dX9_ends_7 : decode cX9_ends 7 = .ok (.invokevirtual 109, 3) := by decide +kernel
theorem dX9_ends_10 : decode cX9_ends 10 = .ok (.iload_n 1, 1) := by decide +kernel
theorem dX9_ends_11 : decode cX9_ends 11 = .ok (.if_icmp .ne 25, 3) := by decide +kernel
theorem dX9_ends_14 : decode cX9_ends 14 = .ok (.iload_n 2, 1) := by decide +kernel
theorem dX9_ends_15 : decode cX9_ends 15 = .ok (.ifCond .eq 17, 3) := by decide +kernel
theorem dX9_ends_18 : decode cX9_ends 18 = .ok (.aload_n 0, 1) := by decide +kernel
theorem dX9_ends_19 : decode cX9_ends 19 = .ok (.aload_n 0, 1) := by decide +kernel
theorem dX9_ends_20 : decode cX9_ends 20 = .ok (.getfield 100, 3) := by decide +kernel
theorem dX9_ends_23 : decode cX9_ends 23 = .ok (.iconst 5, 1) := by decide +kernel
theorem dX9_ends_24 : decode cX9_ends 24 = .ok (.iadd, 1) := by decide +kernel
theorem dX9_ends_25 : decode cX9_ends 25 = .ok (.invokevirtual 109, 3) := by decide +kernel
theorem dX9_ends_28 : decode cX9_ends 28 = .ok (.iload_n 2, 1) := by decide +kernel
theorem dX9_ends_29 : decode cX9_ends 29 = .ok (.if_icmp .ne 7, 3) := by decide +kernel
theorem dX9_ends_32 : decode cX9_ends 32 = .ok (.iconst 1, 1) := by decide +kernel
theorem dX9_ends_33 : decode cX9_ends 33 = .ok (.goto 4, 3) := by decide +kernel
theorem dX9_ends_36 : decode cX9_ends 36 = .ok (.iconst 0, 1) := by decide +kernel
theorem dX9_ends_37 : decode cX9_ends 37 = .ok (.ireturn, 1) := by decide +kernel
theorem dX9_lineNow_0 : decode cX9_lineNow 0 = .ok (.aload_n 0, 1) := by decide +kernel
theorem dX9_lineNow_1 : decode cX9_lineNow 1 = .ok (.iconst 4, 1) := by decide +kernel
theorem dX9_lineNow_2 : decode cX9_lineNow 2 = .ok (.bipush 99, 2) := by decide +kernel
theorem dX9_lineNow_4 : decode cX9_lineNow 4 = .ok (.bipush 111, 2) := by decide +kernel
theorem dX9_lineNow_6 : decode cX9_lineNow 6 = .ok (.bipush 97, 2) := by decide +kernel
theorem dX9_lineNow_8 : decode cX9_lineNow 8 = .ok (.bipush 116, 2) := by decide +kernel
theorem dX9_lineNow_10 : decode cX9_lineNow 10 = .ok (.invokevirtual 113, 3) := by decide +kernel
theorem dX9_lineNow_13 : decode cX9_lineNow 13 = .ok (.ifCond .eq 5, 3) := by decide +kernel
theorem dX9_lineNow_16 : decode cX9_lineNow 16 = .ok (.iconst 0, 1) := by decide +kernel
theorem dX9_lineNow_17 : decode cX9_lineNow 17 = .ok (.ireturn, 1) := by decide +kernel
theorem dX9_lineNow_18 : decode cX9_lineNow 18 = .ok (.aload_n 0, 1) := by decide +kernel
theorem dX9_lineNow_19 : decode cX9_lineNow 19 = .ok (.iconst 5, 1) := by decide +kernel
theorem dX9_lineNow_20 : decode cX9_lineNow 20 = .ok (.bipush 98, 2) := by decide +kernel
theorem dX9_lineNow_22 : decode cX9_lineNow 22 = .ok (.bipush 111, 2) := by decide +kernel
theorem dX9_lineNow_24 : decode cX9_lineNow 24 = .ok (.bipush 111, 2) := by decide +kernel
theorem dX9_lineNow_26 : decode cX9_lineNow 26 = .ok (.bipush 116, 2) := by decide +kernel
theorem dX9_lineNow_28 : decode cX9_lineNow 28 = .ok (.invokevirtual 113, 3) := by decide +kernel
theorem dX9_lineNow_31 : decode cX9_lineNow 31 = .ok (.ifCond .eq 15, 3) := by decide +kernel
theorem dX9_lineNow_34 : decode cX9_lineNow 34 = .ok (.aload_n 0, 1) := by decide +kernel
theorem dX9_lineNow_35 : decode cX9_lineNow 35 = .ok (.bipush 115, 2) := by decide +kernel
theorem dX9_lineNow_37 : decode cX9_lineNow 37 = .ok (.iconst 0, 1) := by decide +kernel
theorem dX9_lineNow_38 : decode cX9_lineNow 38 = .ok (.invokevirtual 117, 3) := by decide +kernel
theorem dX9_lineNow_41 : decode cX9_lineNow 41 = .ok (.ifCond .eq 5, 3) := by decide +kernel
theorem dX9_lineNow_44 : decode cX9_lineNow 44 = .ok (.iconst 1, 1) := by decide +kernel
theorem dX9_lineNow_45 : decode cX9_lineNow 45 = .ok (.ireturn, 1) := by decide +kernel
theorem dX9_lineNow_46 : decode cX9_lineNow 46 = .ok (.aload_n 0, 1) := by decide +kernel
theorem dX9_lineNow_47 : decode cX9_lineNow 47 = .ok (.iconst 5, 1) := by decide +kernel
theorem dX9_lineNow_48 : decode cX9_lineNow 48 = .ok (.bipush 115, 2) := by decide +kernel
theorem dX9_lineNow_50 : decode cX9_lineNow 50 = .ok (.bipush 108, 2) := by decide +kernel
theorem dX9_lineNow_52 : decode cX9_lineNow 52 = .ok (.bipush 97, 2) := by decide +kernel
theorem dX9_lineNow_54 : decode cX9_lineNow 54 = .ok (.bipush 99, 2) := by decide +kernel
theorem dX9_lineNow_56 : decode cX9_lineNow 56 = .ok (.invokevirtual 113, 3) := by decide +kernel
theorem dX9_lineNow_59 : decode cX9_lineNow 59 = .ok (.ifCond .eq 15, 3) := by decide +kernel
theorem dX9_lineNow_62 : decode cX9_lineNow 62 = .ok (.aload_n 0, 1) := by decide +kernel
theorem dX9_lineNow_63 : decode cX9_lineNow 63 = .ok (.bipush 107, 2) := by decide +kernel
theorem dX9_lineNow_65 : decode cX9_lineNow 65 = .ok (.iconst 0, 1) := by decide +kernel
theorem dX9_lineNow_66 : decode cX9_lineNow 66 = .ok (.invokevirtual 117, 3) := by decide +kernel
theorem dX9_lineNow_69 : decode cX9_lineNow 69 = .ok (.ifCond .eq 5, 3) := by decide +kernel
theorem dX9_lineNow_72 : decode cX9_lineNow 72 = .ok (.iconst 2, 1) := by decide +kernel
theorem dX9_lineNow_73 : decode cX9_lineNow 73 = .ok (.ireturn, 1) := by decide +kernel
theorem dX9_lineNow_74 : decode cX9_lineNow 74 = .ok (.aload_n 0, 1) := by decide +kernel
theorem dX9_lineNow_75 : decode cX9_lineNow 75 = .ok (.iconst 5, 1) := by decide +kernel
theorem dX9_lineNow_76 : decode cX9_lineNow 76 = .ok (.bipush 99, 2) := by decide +kernel
theorem dX9_lineNow_78 : decode cX9_lineNow 78 = .ok (.bipush 104, 2) := by decide +kernel
theorem dX9_lineNow_80 : decode cX9_lineNow 80 = .ok (.bipush 105, 2) := by decide +kernel
theorem dX9_lineNow_82 : decode cX9_lineNow 82 = .ok (.bipush 108, 2) := by decide +kernel
theorem dX9_lineNow_84 : decode cX9_lineNow 84 = .ok (.invokevirtual 113, 3) := by decide +kernel
theorem dX9_lineNow_87 : decode cX9_lineNow 87 = .ok (.ifCond .eq 15, 3) := by decide +kernel
theorem dX9_lineNow_90 : decode cX9_lineNow 90 = .ok (.aload_n 0, 1) := by decide +kernel
theorem dX9_lineNow_91 : decode cX9_lineNow 91 = .ok (.bipush 100, 2) := by decide +kernel
theorem dX9_lineNow_93 : decode cX9_lineNow 93 = .ok (.iconst 0, 1) := by decide +kernel
theorem dX9_lineNow_94 : decode cX9_lineNow 94 = .ok (.invokevirtual 117, 3) := by decide +kernel
theorem dX9_lineNow_97 : decode cX9_lineNow 97 = .ok (.ifCond .eq 5, 3) := by decide +kernel
theorem dX9_lineNow_100 : decode cX9_lineNow 100 = .ok (.iconst 3, 1) := by decide +kernel
theorem dX9_lineNow_101 : decode cX9_lineNow 101 = .ok (.ireturn, 1) := by decide +kernel
theorem dX9_lineNow_102 : decode cX9_lineNow 102 = .ok (.aload_n 0, 1) := by decide +kernel
theorem dX9_lineNow_103 : decode cX9_lineNow 103 = .ok (.iconst 4, 1) := by decide +kernel
theorem dX9_lineNow_104 : decode cX9_lineNow 104 = .ok (.bipush 108, 2) := by decide +kernel
theorem dX9_lineNow_106 : decode cX9_lineNow 106 = .ok (.bipush 105, 2) := by decide +kernel
theorem dX9_lineNow_108 : decode cX9_lineNow 108 = .ok (.bipush 107, 2) := by decide +kernel
theorem dX9_lineNow_110 : decode cX9_lineNow 110 = .ok (.bipush 101, 2) := by decide +kernel
theorem dX9_lineNow_112 : decode cX9_lineNow 112 = .ok (.invokevirtual 113, 3) := by decide +kernel
theorem dX9_lineNow_115 : decode cX9_lineNow 115 = .ok (.ifCond .eq 7, 3) := by decide +kernel
theorem dX9_lineNow_118 : decode cX9_lineNow 118 = .ok (.iconst 4, 1) := by decide +kernel
theorem dX9_lineNow_119 : decode cX9_lineNow 119 = .ok (.goto 25, 3) := by decide +kernel
theorem dX9_lineNow_122 : decode cX9_lineNow 122 = .ok (.aload_n 0, 1) := by decide +kernel
theorem dX9_lineNow_123 : decode cX9_lineNow 123 = .ok (.iconst 4, 1) := by decide +kernel
theorem dX9_lineNow_124 : decode cX9_lineNow 124 = .ok (.bipush 109, 2) := by decide +kernel
theorem dX9_lineNow_126 : decode cX9_lineNow 126 = .ok (.bipush 97, 2) := by decide +kernel
theorem dX9_lineNow_128 : decode cX9_lineNow 128 = .ok (.bipush 114, 2) := by decide +kernel
theorem dX9_lineNow_130 : decode cX9_lineNow 130 = .ok (.bipush 107, 2) := by decide +kernel
theorem dX9_lineNow_132 : decode cX9_lineNow 132 = .ok (.invokevirtual 113, 3) := by decide +kernel
theorem dX9_lineNow_135 : decode cX9_lineNow 135 = .ok (.ifCond .eq 7, 3) := by decide +kernel
theorem dX9_lineNow_138 : decode cX9_lineNow 138 = .ok (.iconst 5, 1) := by decide +kernel
theorem dX9_lineNow_139 : decode cX9_lineNow 139 = .ok (.goto 5, 3) := by decide +kernel
theorem dX9_lineNow_142 : decode cX9_lineNow 142 = .ok (.bipush (-4), 2) := by decide +kernel
theorem dX9_lineNow_144 : decode cX9_lineNow 144 = .ok (.ireturn, 1) := by decide +kernel
theorem dX9_kindNow_0 : decode cX9_kindNow 0 = .ok (.aload_n 0, 1) := by decide +kernel
theorem dX9_kindNow_1 : decode cX9_kindNow 1 = .ok (.iconst 5, 1) := by decide +kernel
theorem dX9_kindNow_2 : decode cX9_kindNow 2 = .ok (.bipush 112, 2) := by decide +kernel
theorem dX9_kindNow_4 : decode cX9_kindNow 4 = .ok (.bipush 108, 2) := by decide +kernel
theorem dX9_kindNow_6 : decode cX9_kindNow 6 = .ok (.bipush 97, 2) := by decide +kernel
theorem dX9_kindNow_8 : decode cX9_kindNow 8 = .ok (.bipush 105, 2) := by decide +kernel
theorem dX9_kindNow_10 : decode cX9_kindNow 10 = .ok (.invokevirtual 113, 3) := by decide +kernel
theorem dX9_kindNow_13 : decode cX9_kindNow 13 = .ok (.ifCond .eq 15, 3) := by decide +kernel
theorem dX9_kindNow_16 : decode cX9_kindNow 16 = .ok (.aload_n 0, 1) := by decide +kernel
theorem dX9_kindNow_17 : decode cX9_kindNow 17 = .ok (.bipush 110, 2) := by decide +kernel
theorem dX9_kindNow_19 : decode cX9_kindNow 19 = .ok (.iconst 0, 1) := by decide +kernel
theorem dX9_kindNow_20 : decode cX9_kindNow 20 = .ok (.invokevirtual 117, 3) := by decide +kernel
theorem dX9_kindNow_23 : decode cX9_kindNow 23 = .ok (.ifCond .eq 5, 3) := by decide +kernel
theorem dX9_kindNow_26 : decode cX9_kindNow 26 = .ok (.iconst 0, 1) := by decide +kernel
theorem dX9_kindNow_27 : decode cX9_kindNow 27 = .ok (.ireturn, 1) := by decide +kernel
theorem dX9_kindNow_28 : decode cX9_kindNow 28 = .ok (.aload_n 0, 1) := by decide +kernel
theorem dX9_kindNow_29 : decode cX9_kindNow 29 = .ok (.bipush 6, 2) := by decide +kernel
theorem dX9_kindNow_31 : decode cX9_kindNow 31 = .ok (.bipush 116, 2) := by decide +kernel
theorem dX9_kindNow_33 : decode cX9_kindNow 33 = .ok (.bipush 117, 2) := by decide +kernel
theorem dX9_kindNow_35 : decode cX9_kindNow 35 = .ok (.bipush 114, 2) := by decide +kernel
theorem dX9_kindNow_37 : decode cX9_kindNow 37 = .ok (.bipush 110, 2) := by decide +kernel
theorem dX9_kindNow_39 : decode cX9_kindNow 39 = .ok (.invokevirtual 113, 3) := by decide +kernel
theorem dX9_kindNow_42 : decode cX9_kindNow 42 = .ok (.ifCond .eq 16, 3) := by decide +kernel
theorem dX9_kindNow_45 : decode cX9_kindNow 45 = .ok (.aload_n 0, 1) := by decide +kernel
theorem dX9_kindNow_46 : decode cX9_kindNow 46 = .ok (.bipush 101, 2) := by decide +kernel
theorem dX9_kindNow_48 : decode cX9_kindNow 48 = .ok (.bipush 100, 2) := by decide +kernel
theorem dX9_kindNow_50 : decode cX9_kindNow 50 = .ok (.invokevirtual 117, 3) := by decide +kernel
theorem dX9_kindNow_53 : decode cX9_kindNow 53 = .ok (.ifCond .eq 5, 3) := by decide +kernel
theorem dX9_kindNow_56 : decode cX9_kindNow 56 = .ok (.iconst 1, 1) := by decide +kernel
theorem dX9_kindNow_57 : decode cX9_kindNow 57 = .ok (.ireturn, 1) := by decide +kernel
theorem dX9_kindNow_58 : decode cX9_kindNow 58 = .ok (.aload_n 0, 1) := by decide +kernel
theorem dX9_kindNow_59 : decode cX9_kindNow 59 = .ok (.iconst 3, 1) := by decide +kernel
theorem dX9_kindNow_60 : decode cX9_kindNow 60 = .ok (.bipush 108, 2) := by decide +kernel
theorem dX9_kindNow_62 : decode cX9_kindNow 62 = .ok (.bipush 101, 2) := by decide +kernel
theorem dX9_kindNow_64 : decode cX9_kindNow 64 = .ok (.bipush 116, 2) := by decide +kernel
theorem dX9_kindNow_66 : decode cX9_kindNow 66 = .ok (.iconst 0, 1) := by decide +kernel
theorem dX9_kindNow_67 : decode cX9_kindNow 67 = .ok (.invokevirtual 113, 3) := by decide +kernel
theorem dX9_kindNow_70 : decode cX9_kindNow 70 = .ok (.ifCond .eq 5, 3) := by decide +kernel
theorem dX9_kindNow_73 : decode cX9_kindNow 73 = .ok (.iconst 2, 1) := by decide +kernel
theorem dX9_kindNow_74 : decode cX9_kindNow 74 = .ok (.ireturn, 1) := by decide +kernel
theorem dX9_kindNow_75 : decode cX9_kindNow 75 = .ok (.aload_n 0, 1) := by decide +kernel
theorem dX9_kindNow_76 : decode cX9_kindNow 76 = .ok (.iconst 4, 1) := by decide +kernel
theorem dX9_kindNow_77 : decode cX9_kindNow 77 = .ok (.bipush 98, 2) := by decide +kernel
theorem dX9_kindNow_79 : decode cX9_kindNow 79 = .ok (.bipush 111, 2) := by decide +kernel
theorem dX9_kindNow_81 : decode cX9_kindNow 81 = .ok (.bipush 116, 2) := by decide +kernel
theorem dX9_kindNow_83 : decode cX9_kindNow 83 = .ok (.bipush 104, 2) := by decide +kernel
theorem dX9_kindNow_85 : decode cX9_kindNow 85 = .ok (.invokevirtual 113, 3) := by decide +kernel
theorem dX9_kindNow_88 : decode cX9_kindNow 88 = .ok (.ifCond .eq 7, 3) := by decide +kernel
theorem dX9_kindNow_91 : decode cX9_kindNow 91 = .ok (.iconst 3, 1) := by decide +kernel
theorem dX9_kindNow_92 : decode cX9_kindNow 92 = .ok (.goto 25, 3) := by decide +kernel
theorem dX9_kindNow_95 : decode cX9_kindNow 95 = .ok (.aload_n 0, 1) := by decide +kernel
theorem dX9_kindNow_96 : decode cX9_kindNow 96 = .ok (.iconst 4, 1) := by decide +kernel
theorem dX9_kindNow_97 : decode cX9_kindNow 97 = .ok (.bipush 107, 2) := by decide +kernel
theorem dX9_kindNow_99 : decode cX9_kindNow 99 = .ok (.bipush 101, 2) := by decide +kernel
theorem dX9_kindNow_101 : decode cX9_kindNow 101 = .ok (.bipush 112, 2) := by decide +kernel
theorem dX9_kindNow_103 : decode cX9_kindNow 103 = .ok (.bipush 116, 2) := by decide +kernel
theorem dX9_kindNow_105 : decode cX9_kindNow 105 = .ok (.invokevirtual 113, 3) := by decide +kernel
theorem dX9_kindNow_108 : decode cX9_kindNow 108 = .ok (.ifCond .eq 7, 3) := by decide +kernel
theorem dX9_kindNow_111 : decode cX9_kindNow 111 = .ok (.iconst 4, 1) := by decide +kernel
theorem dX9_kindNow_112 : decode cX9_kindNow 112 = .ok (.goto 5, 3) := by decide +kernel
theorem dX9_kindNow_115 : decode cX9_kindNow 115 = .ok (.bipush (-4), 2) := by decide +kernel
theorem dX9_kindNow_117 : decode cX9_kindNow 117 = .ok (.ireturn, 1) := by decide +kernel
theorem dX9_next_0 : decode cX9_next 0 = .ok (.aload_n 0, 1) := by decide +kernel
theorem dX9_next_1 : decode cX9_next 1 = .ok (.getfield 97, 3) := by decide +kernel
theorem dX9_next_4 : decode cX9_next 4 = .ok (.ifCond .le 4, 3) := by decide +kernel
theorem dX9_next_7 : decode cX9_next 7 = .ok (.return_, 1) := by decide +kernel
theorem dX9_next_8 : decode cX9_next 8 = .ok (.aload_n 0, 1) := by decide +kernel
theorem dX9_next_9 : decode cX9_next 9 = .ok (.aload_n 0, 1) := by decide +kernel
theorem dX9_next_10 : decode cX9_next 10 = .ok (.getfield 106, 3) := by decide +kernel
theorem dX9_next_13 : decode cX9_next 13 = .ok (.invokevirtual 109, 3) := by decide +kernel
theorem dX9_next_16 : decode cX9_next 16 = .ok (.bipush 32, 2) := by decide +kernel
theorem dX9_next_18 : decode cX9_next 18 = .ok (.if_icmp .ne 16, 3) := by decide +kernel
theorem dX9_next_21 : decode cX9_next 21 = .ok (.aload_n 0, 1) := by decide +kernel
theorem dX9_next_22 : decode cX9_next 22 = .ok (.dup, 1) := by decide +kernel
theorem dX9_next_23 : decode cX9_next 23 = .ok (.getfield 106, 3) := by decide +kernel
theorem dX9_next_26 : decode cX9_next 26 = .ok (.iconst 1, 1) := by decide +kernel
theorem dX9_next_27 : decode cX9_next 27 = .ok (.iadd, 1) := by decide +kernel
theorem dX9_next_28 : decode cX9_next 28 = .ok (.putfield 106, 3) := by decide +kernel
theorem dX9_next_31 : decode cX9_next 31 = .ok (.goto (-23), 3) := by decide +kernel
theorem dX9_next_34 : decode cX9_next 34 = .ok (.aload_n 0, 1) := by decide +kernel
theorem dX9_next_35 : decode cX9_next 35 = .ok (.aload_n 0, 1) := by decide +kernel
theorem dX9_next_36 : decode cX9_next 36 = .ok (.getfield 106, 3) := by decide +kernel
theorem dX9_next_39 : decode cX9_next 39 = .ok (.putfield 100, 3) := by decide +kernel
theorem dX9_next_42 : decode cX9_next 42 = .ok (.aload_n 0, 1) := by decide +kernel
theorem dX9_next_43 : decode cX9_next 43 = .ok (.aload_n 0, 1) := by decide +kernel
theorem dX9_next_44 : decode cX9_next 44 = .ok (.getfield 106, 3) := by decide +kernel
theorem dX9_next_47 : decode cX9_next 47 = .ok (.invokevirtual 109, 3) := by decide +kernel
theorem dX9_next_50 : decode cX9_next 50 = .ok (.istore_n 1, 1) := by decide +kernel
theorem dX9_next_51 : decode cX9_next 51 = .ok (.iload_n 1, 1) := by decide +kernel
theorem dX9_next_52 : decode cX9_next 52 = .ok (.ifCond .ge 11, 3) := by decide +kernel
theorem dX9_next_55 : decode cX9_next 55 = .ok (.aload_n 0, 1) := by decide +kernel
theorem dX9_next_56 : decode cX9_next 56 = .ok (.iconst 0, 1) := by decide +kernel
theorem dX9_next_57 : decode cX9_next 57 = .ok (.putfield 121, 3) := by decide +kernel
theorem dX9_next_60 : decode cX9_next 60 = .ok (.goto 214, 3) := by decide +kernel
theorem dX9_next_63 : decode cX9_next 63 = .ok (.iload_n 1, 1) := by decide +kernel
theorem dX9_next_64 : decode cX9_next 64 = .ok (.i2l, 1) := by decide +kernel
theorem dX9_next_65 : decode cX9_next 65 = .ok (.ldc2_w 124, 3) := by decide +kernel
theorem dX9_next_68 : decode cX9_next 68 = .ok (.ldc2_w 126, 3) := by decide +kernel
theorem dX9_next_71 : decode cX9_next 71 = .ok (.invokestatic 93, 3) := by decide +kernel
theorem dX9_next_74 : decode cX9_next 74 = .ok (.ifCond .eq 42, 3) := by decide +kernel
theorem dX9_next_77 : decode cX9_next 77 = .ok (.aload_n 0, 1) := by decide +kernel
theorem dX9_next_78 : decode cX9_next 78 = .ok (.iconst 1, 1) := by decide +kernel
theorem dX9_next_79 : decode cX9_next 79 = .ok (.putfield 121, 3) := by decide +kernel
theorem dX9_next_82 : decode cX9_next 82 = .ok (.aload_n 0, 1) := by decide +kernel
theorem dX9_next_83 : decode cX9_next 83 = .ok (.aload_n 0, 1) := by decide +kernel
theorem dX9_next_84 : decode cX9_next 84 = .ok (.getfield 106, 3) := by decide +kernel
theorem dX9_next_87 : decode cX9_next 87 = .ok (.invokevirtual 109, 3) := by decide +kernel
theorem dX9_next_90 : decode cX9_next 90 = .ok (.i2l, 1) := by decide +kernel
theorem dX9_next_91 : decode cX9_next 91 = .ok (.ldc2_w 124, 3) := by decide +kernel
theorem dX9_next_94 : decode cX9_next 94 = .ok (.ldc2_w 126, 3) := by decide +kernel
theorem dX9_next_97 : decode cX9_next 97 = .ok (.invokestatic 93, 3) := by decide +kernel
theorem dX9_next_100 : decode cX9_next 100 = .ok (.ifCond .eq 174, 3) := by decide +kernel
theorem dX9_next_103 : decode cX9_next 103 = .ok (.aload_n 0, 1) := by decide +kernel
theorem dX9_next_104 : decode cX9_next 104 = .ok (.dup, 1) := by decide +kernel
theorem dX9_next_105 : decode cX9_next 105 = .ok (.getfield 106, 3) := by decide +kernel
theorem dX9_next_108 : decode cX9_next 108 = .ok (.iconst 1, 1) := by decide +kernel
theorem dX9_next_109 : decode cX9_next 109 = .ok (.iadd, 1) := by decide +kernel
theorem dX9_next_110 : decode cX9_next 110 = .ok (.putfield 106, 3) := by decide +kernel
theorem dX9_next_113 : decode cX9_next 113 = .ok (.goto (-31), 3) := by decide +kernel
theorem dX9_next_116 : decode cX9_next 116 = .ok (.iload_n 1, 1) := by decide +kernel
theorem dX9_next_117 : decode cX9_next 117 = .ok (.i2l, 1) := by decide +kernel
theorem dX9_next_118 : decode cX9_next 118 = .ok (.ldc2_w 128, 3) := by decide +kernel
theorem dX9_next_121 : decode cX9_next 121 = .ok (.ldc2_w 130, 3) := by decide +kernel
theorem dX9_next_124 : decode cX9_next 124 = .ok (.invokestatic 93, 3) := by decide +kernel
theorem dX9_next_127 : decode cX9_next 127 = .ok (.ifCond .eq 116, 3) := by decide +kernel
theorem dX9_next_130 : decode cX9_next 130 = .ok (.aload_n 0, 1) := by decide +kernel
theorem dX9_next_131 : decode cX9_next 131 = .ok (.iconst 2, 1) := by decide +kernel
theorem dX9_next_132 : decode cX9_next 132 = .ok (.putfield 121, 3) := by decide +kernel
theorem dX9_next_135 : decode cX9_next 135 = .ok (.aload_n 0, 1) := by decide +kernel
theorem dX9_next_136 : decode cX9_next 136 = .ok (.iconst 0, 1) := by decide +kernel
theorem dX9_next_137 : decode cX9_next 137 = .ok (.putfield 132, 3) := by decide +kernel
theorem dX9_next_140 : decode cX9_next 140 = .ok (.aload_n 0, 1) := by decide +kernel
theorem dX9_next_141 : decode cX9_next 141 = .ok (.aload_n 0, 1) := by decide +kernel
theorem dX9_next_142 : decode cX9_next 142 = .ok (.getfield 106, 3) := by decide +kernel
theorem dX9_next_145 : decode cX9_next 145 = .ok (.invokevirtual 109, 3) := by decide +kernel
theorem dX9_next_148 : decode cX9_next 148 = .ok (.i2l, 1) := by decide +kernel
theorem dX9_next_149 : decode cX9_next 149 = .ok (.ldc2_w 128, 3) := by decide +kernel
theorem dX9_next_152 : decode cX9_next 152 = .ok (.ldc2_w 130, 3) := by decide +kernel
theorem dX9_next_155 : decode cX9_next 155 = .ok (.invokestatic 93, 3) := by decide +kernel
theorem dX9_next_158 : decode cX9_next 158 = .ok (.ifCond .eq 59, 3) := by decide +kernel
theorem dX9_next_161 : decode cX9_next 161 = .ok (.aload_n 0, 1) := by decide +kernel
theorem dX9_next_162 : decode cX9_next 162 = .ok (.aload_n 0, 1) := by decide +kernel
theorem dX9_next_163 : decode cX9_next 163 = .ok (.getfield 106, 3) := by decide +kernel
theorem dX9_next_166 : decode cX9_next 166 = .ok (.aload_n 0, 1) := by decide +kernel
theorem dX9_next_167 : decode cX9_next 167 = .ok (.getfield 100, 3) := by decide +kernel
theorem dX9_next_170 : decode cX9_next 170 = .ok (.isub, 1) := by decide +kernel
theorem dX9_next_171 : decode cX9_next 171 = .ok (.iconst 2, 1) := by decide +kernel
theorem dX9_next_172 : decode cX9_next 172 = .ok (.if_icmp .ge 25, 3) := by decide +kernel
theorem dX9_next_175 : decode cX9_next 175 = .ok (.bipush 10, 2) := by decide +kernel
theorem dX9_next_177 : decode cX9_next 177 = .ok (.aload_n 0, 1) := by decide +kernel
theorem dX9_next_178 : decode cX9_next 178 = .ok (.getfield 132, 3) := by decide +kernel
theorem dX9_next_181 : decode cX9_next 181 = .ok (.imul, 1) := by decide +kernel
theorem dX9_next_182 : decode cX9_next 182 = .ok (.aload_n 0, 1) := by decide +kernel
theorem dX9_next_183 : decode cX9_next 183 = .ok (.aload_n 0, 1) := by decide +kernel
theorem dX9_next_184 : decode cX9_next 184 = .ok (.getfield 106, 3) := by decide +kernel
theorem dX9_next_187 : decode cX9_next 187 = .ok (.invokevirtual 109, 3) := by decide +kernel
theorem dX9_next_190 : decode cX9_next 190 = .ok (.iadd, 1) := by decide +kernel
theorem dX9_next_191 : decode cX9_next 191 = .ok (.bipush 48, 2) := by decide +kernel
theorem dX9_next_193 : decode cX9_next 193 = .ok (.isub, 1) := by decide +kernel
theorem dX9_next_194 : decode cX9_next 194 = .ok (.goto 7, 3) := by decide +kernel
theorem dX9_next_197 : decode cX9_next 197 = .ok (.aload_n 0, 1) := by decide +kernel
theorem dX9_next_198 : decode cX9_next 198 = .ok (.getfield 132, 3) := by decide +kernel
theorem dX9_next_201 : decode cX9_next 201 = .ok (.putfield 132, 3) := by decide +kernel
theorem dX9_next_204 : decode cX9_next 204 = .ok (.aload_n 0, 1) := by decide +kernel
theorem dX9_next_205 : decode cX9_next 205 = .ok (.dup, 1) := by decide +kernel
theorem dX9_next_206 : decode cX9_next 206 = .ok (.getfield 106, 3) := by decide +kernel
theorem dX9_next_209 : decode cX9_next 209 = .ok (.iconst 1, 1) := by decide +kernel
theorem dX9_next_210 : decode cX9_next 210 = .ok (.iadd, 1) := by decide +kernel
theorem dX9_next_211 : decode cX9_next 211 = .ok (.putfield 106, 3) := by decide +kernel
theorem dX9_next_214 : decode cX9_next 214 = .ok (.goto (-74), 3) := by decide +kernel
theorem dX9_next_217 : decode cX9_next 217 = .ok (.aload_n 0, 1) := by decide +kernel
theorem dX9_next_218 : decode cX9_next 218 = .ok (.aload_n 0, 1) := by decide +kernel
theorem dX9_next_219 : decode cX9_next 219 = .ok (.getfield 106, 3) := by decide +kernel
theorem dX9_next_222 : decode cX9_next 222 = .ok (.aload_n 0, 1) := by decide +kernel
theorem dX9_next_223 : decode cX9_next 223 = .ok (.getfield 100, 3) := by decide +kernel
theorem dX9_next_226 : decode cX9_next 226 = .ok (.isub, 1) := by decide +kernel
theorem dX9_next_227 : decode cX9_next 227 = .ok (.iconst 2, 1) := by decide +kernel
theorem dX9_next_228 : decode cX9_next 228 = .ok (.if_icmp .gt 7, 3) := by decide +kernel
theorem dX9_next_231 : decode cX9_next 231 = .ok (.iconst 1, 1) := by decide +kernel
theorem dX9_next_232 : decode cX9_next 232 = .ok (.goto 4, 3) := by decide +kernel
theorem dX9_next_235 : decode cX9_next 235 = .ok (.iconst 0, 1) := by decide +kernel
theorem dX9_next_236 : decode cX9_next 236 = .ok (.iconst 1, 1) := by decide +kernel
theorem dX9_next_237 : decode cX9_next 237 = .ok (.invokevirtual 135, 3) := by decide +kernel
theorem dX9_next_240 : decode cX9_next 240 = .ok (.goto 34, 3) := by decide +kernel
theorem dX9_next_243 : decode cX9_next 243 = .ok (.aload_n 0, 1) := by decide +kernel
theorem dX9_next_244 : decode cX9_next 244 = .ok (.iconst 3, 1) := by decide +kernel
theorem dX9_next_245 : decode cX9_next 245 = .ok (.putfield 121, 3) := by decide +kernel
theorem dX9_next_248 : decode cX9_next 248 = .ok (.aload_n 0, 1) := by decide +kernel
theorem dX9_next_249 : decode cX9_next 249 = .ok (.iload_n 1, 1) := by decide +kernel
theorem dX9_next_250 : decode cX9_next 250 = .ok (.bipush 59, 2) := by decide +kernel
theorem dX9_next_252 : decode cX9_next 252 = .ok (.if_icmp .ne 7, 3) := by decide +kernel
theorem dX9_next_255 : decode cX9_next 255 = .ok (.iconst 1, 1) := by decide +kernel
theorem dX9_next_256 : decode cX9_next 256 = .ok (.goto 4, 3) := by decide +kernel
theorem dX9_next_259 : decode cX9_next 259 = .ok (.iconst 0, 1) := by decide +kernel
theorem dX9_next_260 : decode cX9_next 260 = .ok (.iconst 1, 1) := by decide +kernel
theorem dX9_next_261 : decode cX9_next 261 = .ok (.invokevirtual 135, 3) := by decide +kernel
theorem dX9_next_264 : decode cX9_next 264 = .ok (.aload_n 0, 1) := by decide +kernel
theorem dX9_next_265 : decode cX9_next 265 = .ok (.dup, 1) := by decide +kernel
theorem dX9_next_266 : decode cX9_next 266 = .ok (.getfield 106, 3) := by decide +kernel
theorem dX9_next_269 : decode cX9_next 269 = .ok (.iconst 1, 1) := by decide +kernel
theorem dX9_next_270 : decode cX9_next 270 = .ok (.iadd, 1) := by decide +kernel
theorem dX9_next_271 : decode cX9_next 271 = .ok (.putfield 106, 3) := by decide +kernel
theorem dX9_next_274 : decode cX9_next 274 = .ok (.return_, 1) := by decide +kernel
theorem dX9_readNumber_0 : decode cX9_readNumber 0 = .ok (.aload_n 0, 1) := by decide +kernel
theorem dX9_readNumber_1 : decode cX9_readNumber 1 = .ok (.getfield 97, 3) := by decide +kernel
theorem dX9_readNumber_4 : decode cX9_readNumber 4 = .ok (.ifCond .ne 21, 3) := by decide +kernel
theorem dX9_readNumber_7 : decode cX9_readNumber 7 = .ok (.aload_n 0, 1) := by decide +kernel
theorem dX9_readNumber_8 : decode cX9_readNumber 8 = .ok (.aload_n 0, 1) := by decide +kernel
theorem dX9_readNumber_9 : decode cX9_readNumber 9 = .ok (.getfield 121, 3) := by decide +kernel
theorem dX9_readNumber_12 : decode cX9_readNumber 12 = .ok (.iconst 2, 1) := by decide +kernel
theorem dX9_readNumber_13 : decode cX9_readNumber 13 = .ok (.if_icmp .ne 7, 3) := by decide +kernel
theorem dX9_readNumber_16 : decode cX9_readNumber 16 = .ok (.iconst 1, 1) := by decide +kernel
theorem dX9_readNumber_17 : decode cX9_readNumber 17 = .ok (.goto 4, 3) := by decide +kernel
theorem dX9_readNumber_20 : decode cX9_readNumber 20 = .ok (.iconst 0, 1) := by decide +kernel
theorem dX9_readNumber_21 : decode cX9_readNumber 21 = .ok (.iconst 2, 1) := by decide +kernel
theorem dX9_readNumber_22 : decode cX9_readNumber 22 = .ok (.invokevirtual 135, 3) := by decide +kernel
theorem dX9_readNumber_25 : decode cX9_readNumber 25 = .ok (.aload_n 0, 1) := by decide +kernel
theorem dX9_readNumber_26 : decode cX9_readNumber 26 = .ok (.getfield 97, 3) := by decide +kernel
theorem dX9_readNumber_29 : decode cX9_readNumber 29 = .ok (.ifCond .ne 20, 3) := by decide +kernel
theorem dX9_readNumber_32 : decode cX9_readNumber 32 = .ok (.aload_n 0, 1) := by decide +kernel
theorem dX9_readNumber_33 : decode cX9_readNumber 33 = .ok (.aload_n 0, 1) := by decide +kernel
theorem dX9_readNumber_34 : decode cX9_readNumber 34 = .ok (.getfield 132, 3) := by decide +kernel
theorem dX9_readNumber_37 : decode cX9_readNumber 37 = .ok (.i2l, 1) := by decide +kernel
theorem dX9_readNumber_38 : decode cX9_readNumber 38 = .ok (.iload_n 1, 1) := by decide +kernel
theorem dX9_readNumber_39 : decode cX9_readNumber 39 = .ok (.i2l, 1) := by decide +kernel
theorem dX9_readNumber_40 : decode cX9_readNumber 40 = .ok (.iload_n 2, 1) := by decide +kernel
theorem dX9_readNumber_41 : decode cX9_readNumber 41 = .ok (.i2l, 1) := by decide +kernel
theorem dX9_readNumber_42 : decode cX9_readNumber 42 = .ok (.invokestatic 93, 3) := by decide +kernel
theorem dX9_readNumber_45 : decode cX9_readNumber 45 = .ok (.iconst 3, 1) := by decide +kernel
theorem dX9_readNumber_46 : decode cX9_readNumber 46 = .ok (.invokevirtual 135, 3) := by decide +kernel
theorem dX9_readNumber_49 : decode cX9_readNumber 49 = .ok (.aload_n 0, 1) := by decide +kernel
theorem dX9_readNumber_50 : decode cX9_readNumber 50 = .ok (.getfield 97, 3) := by decide +kernel
theorem dX9_readNumber_53 : decode cX9_readNumber 53 = .ok (.ifCond .ne 10, 3) := by decide +kernel
theorem dX9_readNumber_56 : decode cX9_readNumber 56 = .ok (.aload_n 0, 1) := by decide +kernel
theorem dX9_readNumber_57 : decode cX9_readNumber 57 = .ok (.getfield 132, 3) := by decide +kernel
theorem dX9_readNumber_60 : decode cX9_readNumber 60 = .ok (.goto 4, 3) := by decide +kernel
theorem dX9_readNumber_63 : decode cX9_readNumber 63 = .ok (.iconst 0, 1) := by decide +kernel
theorem dX9_readNumber_64 : decode cX9_readNumber 64 = .ok (.istore_n 3, 1) := by decide +kernel
theorem dX9_readNumber_65 : decode cX9_readNumber 65 = .ok (.aload_n 0, 1) := by decide +kernel
theorem dX9_readNumber_66 : decode cX9_readNumber 66 = .ok (.invokevirtual 139, 3) := by decide +kernel
theorem dX9_readNumber_69 : decode cX9_readNumber 69 = .ok (.iload_n 3, 1) := by decide +kernel
theorem dX9_readNumber_70 : decode cX9_readNumber 70 = .ok (.ireturn, 1) := by decide +kernel
theorem dX9_readChildOf_0 : decode cX9_readChildOf 0 = .ok (.aload_n 0, 1) := by decide +kernel
theorem dX9_readChildOf_1 : decode cX9_readChildOf 1 = .ok (.iconst 0, 1) := by decide +kernel
theorem dX9_readChildOf_2 : decode cX9_readChildOf 2 = .ok (.bipush 7, 2) := by decide +kernel
theorem dX9_readChildOf_4 : decode cX9_readChildOf 4 = .ok (.invokevirtual 142, 3) := by decide +kernel
theorem dX9_readChildOf_7 : decode cX9_readChildOf 7 = .ok (.istore_n 1, 1) := by decide +kernel
theorem dX9_readChildOf_8 : decode cX9_readChildOf 8 = .ok (.aload_n 0, 1) := by decide +kernel
theorem dX9_readChildOf_9 : decode cX9_readChildOf 9 = .ok (.iload_n 1, 1) := by decide +kernel
theorem dX9_readChildOf_10 : decode cX9_readChildOf 10 = .ok (.aload_n 0, 1) := by decide +kernel
theorem dX9_readChildOf_11 : decode cX9_readChildOf 11 = .ok (.getfield 79, 3) := by decide +kernel
theorem dX9_readChildOf_14 : decode cX9_readChildOf 14 = .ok (.if_icmp .le 7, 3) := by decide +kernel
theorem dX9_readChildOf_17 : decode cX9_readChildOf 17 = .ok (.iload_n 1, 1) := by decide +kernel
theorem dX9_readChildOf_18 : decode cX9_readChildOf 18 = .ok (.goto 7, 3) := by decide +kernel
theorem dX9_readChildOf_21 : decode cX9_readChildOf 21 = .ok (.aload_n 0, 1) := by decide +kernel
theorem dX9_readChildOf_22 : decode cX9_readChildOf 22 = .ok (.getfield 79, 3) := by decide +kernel
theorem dX9_readChildOf_25 : decode cX9_readChildOf 25 = .ok (.putfield 79, 3) := by decide +kernel
theorem dX9_readChildOf_28 : decode cX9_readChildOf 28 = .ok (.iload_n 1, 1) := by decide +kernel
theorem dX9_readChildOf_29 : decode cX9_readChildOf 29 = .ok (.ireturn, 1) := by decide +kernel
theorem dX9_readChild_0 : decode cX9_readChild 0 = .ok (.iconst 1, 1) := by decide +kernel
theorem dX9_readChild_1 : decode cX9_readChild 1 = .ok (.iconst 5, 1) := by decide +kernel
theorem dX9_readChild_2 : decode cX9_readChild 2 = .ok (.aload_n 0, 1) := by decide +kernel
theorem dX9_readChild_3 : decode cX9_readChild 3 = .ok (.getfield 17, 3) := by decide +kernel
theorem dX9_readChild_6 : decode cX9_readChild 6 = .ok (.iconst 0, 1) := by decide +kernel
theorem dX9_readChild_7 : decode cX9_readChild 7 = .ok (.iaload, 1) := by decide +kernel
theorem dX9_readChild_8 : decode cX9_readChild 8 = .ok (.imul, 1) := by decide +kernel
theorem dX9_readChild_9 : decode cX9_readChild 9 = .ok (.iadd, 1) := by decide +kernel
theorem dX9_readChild_10 : decode cX9_readChild 10 = .ok (.istore_n 1, 1) := by decide +kernel
theorem dX9_readChild_11 : decode cX9_readChild 11 = .ok (.aload_n 0, 1) := by decide +kernel
theorem dX9_readChild_12 : decode cX9_readChild 12 = .ok (.getfield 17, 3) := by decide +kernel
theorem dX9_readChild_15 : decode cX9_readChild 15 = .ok (.iload_n 1, 1) := by decide +kernel
theorem dX9_readChild_16 : decode cX9_readChild 16 = .ok (.aload_n 0, 1) := by decide +kernel
theorem dX9_readChild_17 : decode cX9_readChild 17 = .ok (.iconst 1, 1) := by decide +kernel
theorem dX9_readChild_18 : decode cX9_readChild 18 = .ok (.bipush 40, 2) := by decide +kernel
theorem dX9_readChild_20 : decode cX9_readChild 20 = .ok (.invokevirtual 142, 3) := by decide +kernel
theorem dX9_readChild_23 : decode cX9_readChild 23 = .ok (.iastore, 1) := by decide +kernel
theorem dX9_readChild_24 : decode cX9_readChild 24 = .ok (.aload_n 0, 1) := by decide +kernel
theorem dX9_readChild_25 : decode cX9_readChild 25 = .ok (.getfield 17, 3) := by decide +kernel
theorem dX9_readChild_28 : decode cX9_readChild 28 = .ok (.iload_n 1, 1) := by decide +kernel
theorem dX9_readChild_29 : decode cX9_readChild 29 = .ok (.iconst 1, 1) := by decide +kernel
theorem dX9_readChild_30 : decode cX9_readChild 30 = .ok (.iadd, 1) := by decide +kernel
theorem dX9_readChild_31 : decode cX9_readChild 31 = .ok (.aload_n 0, 1) := by decide +kernel
theorem dX9_readChild_32 : decode cX9_readChild 32 = .ok (.iconst 0, 1) := by decide +kernel
theorem dX9_readChild_33 : decode cX9_readChild 33 = .ok (.iconst 4, 1) := by decide +kernel
theorem dX9_readChild_34 : decode cX9_readChild 34 = .ok (.invokevirtual 142, 3) := by decide +kernel
theorem dX9_readChild_37 : decode cX9_readChild 37 = .ok (.iastore, 1) := by decide +kernel
theorem dX9_readChild_38 : decode cX9_readChild 38 = .ok (.aload_n 0, 1) := by decide +kernel
theorem dX9_readChild_39 : decode cX9_readChild 39 = .ok (.getfield 17, 3) := by decide +kernel
theorem dX9_readChild_42 : decode cX9_readChild 42 = .ok (.iload_n 1, 1) := by decide +kernel
theorem dX9_readChild_43 : decode cX9_readChild 43 = .ok (.iconst 2, 1) := by decide +kernel
theorem dX9_readChild_44 : decode cX9_readChild 44 = .ok (.iadd, 1) := by decide +kernel
theorem dX9_readChild_45 : decode cX9_readChild 45 = .ok (.aload_n 0, 1) := by decide +kernel
theorem dX9_readChild_46 : decode cX9_readChild 46 = .ok (.aload_n 0, 1) := by decide +kernel
theorem dX9_readChild_47 : decode cX9_readChild 47 = .ok (.getfield 17, 3) := by decide +kernel
theorem dX9_readChild_50 : decode cX9_readChild 50 = .ok (.iload_n 1, 1) := by decide +kernel
theorem dX9_readChild_51 : decode cX9_readChild 51 = .ok (.iconst 1, 1) := by decide +kernel
theorem dX9_readChild_52 : decode cX9_readChild 52 = .ok (.iadd, 1) := by decide +kernel
theorem dX9_readChild_53 : decode cX9_readChild 53 = .ok (.iaload, 1) := by decide +kernel
theorem dX9_readChild_54 : decode cX9_readChild 54 = .ok (.iconst 4, 1) := by decide +kernel
theorem dX9_readChild_55 : decode cX9_readChild 55 = .ok (.invokevirtual 142, 3) := by decide +kernel
theorem dX9_readChild_58 : decode cX9_readChild 58 = .ok (.iastore, 1) := by decide +kernel
theorem dX9_readChild_59 : decode cX9_readChild 59 = .ok (.aload_n 0, 1) := by decide +kernel
theorem dX9_readChild_60 : decode cX9_readChild 60 = .ok (.getfield 17, 3) := by decide +kernel
theorem dX9_readChild_63 : decode cX9_readChild 63 = .ok (.iload_n 1, 1) := by decide +kernel
theorem dX9_readChild_64 : decode cX9_readChild 64 = .ok (.iconst 3, 1) := by decide +kernel
theorem dX9_readChild_65 : decode cX9_readChild 65 = .ok (.iadd, 1) := by decide +kernel
theorem dX9_readChild_66 : decode cX9_readChild 66 = .ok (.bipush (-4), 2) := by decide +kernel
theorem dX9_readChild_68 : decode cX9_readChild 68 = .ok (.iastore, 1) := by decide +kernel
theorem dX9_readChild_69 : decode cX9_readChild 69 = .ok (.aload_n 0, 1) := by decide +kernel
theorem dX9_readChild_70 : decode cX9_readChild 70 = .ok (.getfield 17, 3) := by decide +kernel
theorem dX9_readChild_73 : decode cX9_readChild 73 = .ok (.iload_n 1, 1) := by decide +kernel
theorem dX9_readChild_74 : decode cX9_readChild 74 = .ok (.iconst 4, 1) := by decide +kernel
theorem dX9_readChild_75 : decode cX9_readChild 75 = .ok (.iadd, 1) := by decide +kernel
theorem dX9_readChild_76 : decode cX9_readChild 76 = .ok (.bipush (-4), 2) := by decide +kernel
theorem dX9_readChild_78 : decode cX9_readChild 78 = .ok (.iastore, 1) := by decide +kernel
theorem dX9_readChild_79 : decode cX9_readChild 79 = .ok (.aload_n 0, 1) := by decide +kernel
theorem dX9_readChild_80 : decode cX9_readChild 80 = .ok (.getfield 17, 3) := by decide +kernel
theorem dX9_readChild_83 : decode cX9_readChild 83 = .ok (.iconst 0, 1) := by decide +kernel
theorem dX9_readChild_84 : decode cX9_readChild 84 = .ok (.dup2, 1) := by decide +kernel
theorem dX9_readChild_85 : decode cX9_readChild 85 = .ok (.iaload, 1) := by decide +kernel
theorem dX9_readChild_86 : decode cX9_readChild 86 = .ok (.iconst 1, 1) := by decide +kernel
theorem dX9_readChild_87 : decode cX9_readChild 87 = .ok (.iadd, 1) := by decide +kernel
theorem dX9_readChild_88 : decode cX9_readChild 88 = .ok (.iastore, 1) := by decide +kernel
theorem dX9_readChild_89 : decode cX9_readChild 89 = .ok (.return_, 1) := by decide +kernel
theorem dX9_readThing_0 : decode cX9_readThing 0 = .ok (.bipush 42, 2) := by decide +kernel
theorem dX9_readThing_2 : decode cX9_readThing 2 = .ok (.bipush 7, 2) := by decide +kernel
theorem dX9_readThing_4 : decode cX9_readThing 4 = .ok (.aload_n 0, 1) := by decide +kernel
theorem dX9_readThing_5 : decode cX9_readThing 5 = .ok (.getfield 17, 3) := by decide +kernel
theorem dX9_readThing_8 : decode cX9_readThing 8 = .ok (.bipush 41, 2) := by decide +kernel
theorem dX9_readThing_10 : decode cX9_readThing 10 = .ok (.iaload, 1) := by decide +kernel
theorem dX9_readThing_11 : decode cX9_readThing 11 = .ok (.imul, 1) := by decide +kernel
theorem dX9_readThing_12 : decode cX9_readThing 12 = .ok (.iadd, 1) := by decide +kernel
theorem dX9_readThing_13 : decode cX9_readThing 13 = .ok (.istore_n 2, 1) := by decide +kernel
theorem dX9_readThing_14 : decode cX9_readThing 14 = .ok (.aload_n 0, 1) := by decide +kernel
theorem dX9_readThing_15 : decode cX9_readThing 15 = .ok (.getfield 97, 3) := by decide +kernel
theorem dX9_readThing_18 : decode cX9_readThing 18 = .ok (.ifCond .ne 18, 3) := by decide +kernel
theorem dX9_readThing_21 : decode cX9_readThing 21 = .ok (.aload_n 0, 1) := by decide +kernel
theorem dX9_readThing_22 : decode cX9_readThing 22 = .ok (.getfield 121, 3) := by decide +kernel
theorem dX9_readThing_25 : decode cX9_readThing 25 = .ok (.iconst 1, 1) := by decide +kernel
theorem dX9_readThing_26 : decode cX9_readThing 26 = .ok (.if_icmp .ne 10, 3) := by decide +kernel
theorem dX9_readThing_29 : decode cX9_readThing 29 = .ok (.aload_n 0, 1) := by decide +kernel
theorem dX9_readThing_30 : decode cX9_readThing 30 = .ok (.invokevirtual 146, 3) := by decide +kernel
theorem dX9_readThing_33 : decode cX9_readThing 33 = .ok (.goto 5, 3) := by decide +kernel
theorem dX9_readThing_36 : decode cX9_readThing 36 = .ok (.bipush (-4), 2) := by decide +kernel
theorem dX9_readThing_38 : decode cX9_readThing 38 = .ok (.istore_n 3, 1) := by decide +kernel
theorem dX9_readThing_39 : decode cX9_readThing 39 = .ok (.aload_n 0, 1) := by decide +kernel
theorem dX9_readThing_40 : decode cX9_readThing 40 = .ok (.iload_n 3, 1) := by decide +kernel
theorem dX9_readThing_41 : decode cX9_readThing 41 = .ok (.bipush (-4), 2) := by decide +kernel
theorem dX9_readThing_43 : decode cX9_readThing 43 = .ok (.if_icmp .eq 7, 3) := by decide +kernel
theorem dX9_readThing_46 : decode cX9_readThing 46 = .ok (.iconst 1, 1) := by decide +kernel
theorem dX9_readThing_47 : decode cX9_readThing 47 = .ok (.goto 4, 3) := by decide +kernel
theorem dX9_readThing_50 : decode cX9_readThing 50 = .ok (.iconst 0, 1) := by decide +kernel
theorem dX9_readThing_51 : decode cX9_readThing 51 = .ok (.iconst 2, 1) := by decide +kernel
theorem dX9_readThing_52 : decode cX9_readThing 52 = .ok (.invokevirtual 135, 3) := by decide +kernel
theorem dX9_readThing_55 : decode cX9_readThing 55 = .ok (.aload_n 0, 1) := by decide +kernel
theorem dX9_readThing_56 : decode cX9_readThing 56 = .ok (.invokevirtual 139, 3) := by decide +kernel
theorem dX9_readThing_59 : decode cX9_readThing 59 = .ok (.aload_n 0, 1) := by decide +kernel
theorem dX9_readThing_60 : decode cX9_readThing 60 = .ok (.getfield 17, 3) := by decide +kernel
theorem dX9_readThing_63 : decode cX9_readThing 63 = .ok (.iload_n 2, 1) := by decide +kernel
theorem dX9_readThing_64 : decode cX9_readThing 64 = .ok (.iconst 0, 1) := by decide +kernel
theorem dX9_readThing_65 : decode cX9_readThing 65 = .ok (.iadd, 1) := by decide +kernel
theorem dX9_readThing_66 : decode cX9_readThing 66 = .ok (.iload_n 1, 1) := by decide +kernel
theorem dX9_readThing_67 : decode cX9_readThing 67 = .ok (.iastore, 1) := by decide +kernel
theorem dX9_readThing_68 : decode cX9_readThing 68 = .ok (.aload_n 0, 1) := by decide +kernel
theorem dX9_readThing_69 : decode cX9_readThing 69 = .ok (.getfield 17, 3) := by decide +kernel
theorem dX9_readThing_72 : decode cX9_readThing 72 = .ok (.iload_n 2, 1) := by decide +kernel
theorem dX9_readThing_73 : decode cX9_readThing 73 = .ok (.iconst 1, 1) := by decide +kernel
theorem dX9_readThing_74 : decode cX9_readThing 74 = .ok (.iadd, 1) := by decide +kernel
theorem dX9_readThing_75 : decode cX9_readThing 75 = .ok (.iload_n 3, 1) := by decide +kernel
theorem dX9_readThing_76 : decode cX9_readThing 76 = .ok (.iastore, 1) := by decide +kernel
theorem dX9_readThing_77 : decode cX9_readThing 77 = .ok (.aload_n 0, 1) := by decide +kernel
theorem dX9_readThing_78 : decode cX9_readThing 78 = .ok (.getfield 17, 3) := by decide +kernel
theorem dX9_readThing_81 : decode cX9_readThing 81 = .ok (.iload_n 2, 1) := by decide +kernel
theorem dX9_readThing_82 : decode cX9_readThing 82 = .ok (.bipush 6, 2) := by decide +kernel
theorem dX9_readThing_84 : decode cX9_readThing 84 = .ok (.iadd, 1) := by decide +kernel
theorem dX9_readThing_85 : decode cX9_readThing 85 = .ok (.iload_n 3, 1) := by decide +kernel
theorem dX9_readThing_86 : decode cX9_readThing 86 = .ok (.iconst 4, 1) := by decide +kernel
theorem dX9_readThing_87 : decode cX9_readThing 87 = .ok (.if_icmp .ne 10, 3) := by decide +kernel
theorem dX9_readThing_90 : decode cX9_readThing 90 = .ok (.aload_n 0, 1) := by decide +kernel
theorem dX9_readThing_91 : decode cX9_readThing 91 = .ok (.invokevirtual 150, 3) := by decide +kernel
theorem dX9_readThing_94 : decode cX9_readThing 94 = .ok (.goto 5, 3) := by decide +kernel
theorem dX9_readThing_97 : decode cX9_readThing 97 = .ok (.bipush (-4), 2) := by decide +kernel
theorem dX9_readThing_99 : decode cX9_readThing 99 = .ok (.iastore, 1) := by decide +kernel
theorem dX9_readThing_100 : decode cX9_readThing 100 = .ok (.aload_n 0, 1) := by decide +kernel
theorem dX9_readThing_101 : decode cX9_readThing 101 = .ok (.getfield 17, 3) := by decide +kernel
theorem dX9_readThing_104 : decode cX9_readThing 104 = .ok (.iload_n 2, 1) := by decide +kernel
theorem dX9_readThing_105 : decode cX9_readThing 105 = .ok (.iconst 2, 1) := by decide +kernel
theorem dX9_readThing_106 : decode cX9_readThing 106 = .ok (.iadd, 1) := by decide +kernel
theorem dX9_readThing_107 : decode cX9_readThing 107 = .ok (.aload_n 0, 1) := by decide +kernel
theorem dX9_readThing_108 : decode cX9_readThing 108 = .ok (.iconst 1, 1) := by decide +kernel
theorem dX9_readThing_109 : decode cX9_readThing 109 = .ok (.bipush 40, 2) := by decide +kernel
theorem dX9_readThing_111 : decode cX9_readThing 111 = .ok (.invokevirtual 142, 3) := by decide +kernel
theorem dX9_readThing_114 : decode cX9_readThing 114 = .ok (.iastore, 1) := by decide +kernel
theorem dX9_readThing_115 : decode cX9_readThing 115 = .ok (.aload_n 0, 1) := by decide +kernel
theorem dX9_readThing_116 : decode cX9_readThing 116 = .ok (.getfield 17, 3) := by decide +kernel
theorem dX9_readThing_119 : decode cX9_readThing 119 = .ok (.iload_n 2, 1) := by decide +kernel
theorem dX9_readThing_120 : decode cX9_readThing 120 = .ok (.iconst 3, 1) := by decide +kernel
theorem dX9_readThing_121 : decode cX9_readThing 121 = .ok (.iadd, 1) := by decide +kernel
theorem dX9_readThing_122 : decode cX9_readThing 122 = .ok (.aload_n 0, 1) := by decide +kernel
theorem dX9_readThing_123 : decode cX9_readThing 123 = .ok (.iconst 1, 1) := by decide +kernel
theorem dX9_readThing_124 : decode cX9_readThing 124 = .ok (.bipush 9, 2) := by decide +kernel
theorem dX9_readThing_126 : decode cX9_readThing 126 = .ok (.invokevirtual 142, 3) := by decide +kernel
theorem dX9_readThing_129 : decode cX9_readThing 129 = .ok (.iastore, 1) := by decide +kernel
theorem dX9_readThing_130 : decode cX9_readThing 130 = .ok (.aload_n 0, 1) := by decide +kernel
theorem dX9_readThing_131 : decode cX9_readThing 131 = .ok (.getfield 17, 3) := by decide +kernel
theorem dX9_readThing_134 : decode cX9_readThing 134 = .ok (.iload_n 2, 1) := by decide +kernel
theorem dX9_readThing_135 : decode cX9_readThing 135 = .ok (.iconst 4, 1) := by decide +kernel
theorem dX9_readThing_136 : decode cX9_readThing 136 = .ok (.iadd, 1) := by decide +kernel
theorem dX9_readThing_137 : decode cX9_readThing 137 = .ok (.iconst 0, 1) := by decide +kernel
theorem dX9_readThing_138 : decode cX9_readThing 138 = .ok (.iastore, 1) := by decide +kernel
theorem dX9_readThing_139 : decode cX9_readThing 139 = .ok (.aload_n 0, 1) := by decide +kernel
theorem dX9_readThing_140 : decode cX9_readThing 140 = .ok (.getfield 17, 3) := by decide +kernel
theorem dX9_readThing_143 : decode cX9_readThing 143 = .ok (.iload_n 2, 1) := by decide +kernel
theorem dX9_readThing_144 : decode cX9_readThing 144 = .ok (.iconst 5, 1) := by decide +kernel
theorem dX9_readThing_145 : decode cX9_readThing 145 = .ok (.iadd, 1) := by decide +kernel
theorem dX9_readThing_146 : decode cX9_readThing 146 = .ok (.iconst 0, 1) := by decide +kernel
theorem dX9_readThing_147 : decode cX9_readThing 147 = .ok (.iastore, 1) := by decide +kernel
theorem dX9_readThing_148 : decode cX9_readThing 148 = .ok (.aload_n 0, 1) := by decide +kernel
theorem dX9_readThing_149 : decode cX9_readThing 149 = .ok (.getfield 17, 3) := by decide +kernel
theorem dX9_readThing_152 : decode cX9_readThing 152 = .ok (.bipush 41, 2) := by decide +kernel
theorem dX9_readThing_154 : decode cX9_readThing 154 = .ok (.dup2, 1) := by decide +kernel
theorem dX9_readThing_155 : decode cX9_readThing 155 = .ok (.iaload, 1) := by decide +kernel
theorem dX9_readThing_156 : decode cX9_readThing 156 = .ok (.iconst 1, 1) := by decide +kernel
theorem dX9_readThing_157 : decode cX9_readThing 157 = .ok (.iadd, 1) := by decide +kernel
theorem dX9_readThing_158 : decode cX9_readThing 158 = .ok (.iastore, 1) := by decide +kernel
theorem dX9_readThing_159 : decode cX9_readThing 159 = .ok (.return_, 1) := by decide +kernel
theorem dX9_readLike_0 : decode cX9_readLike 0 = .ok (.aload_n 0, 1) := by decide +kernel
theorem dX9_readLike_1 : decode cX9_readLike 1 = .ok (.invokevirtual 150, 3) := by decide +kernel
theorem dX9_readLike_4 : decode cX9_readLike 4 = .ok (.istore_n 1, 1) := by decide +kernel
theorem dX9_readLike_5 : decode cX9_readLike 5 = .ok (.aload_n 0, 1) := by decide +kernel
theorem dX9_readLike_6 : decode cX9_readLike 6 = .ok (.iconst 0, 1) := by decide +kernel
theorem dX9_readLike_7 : decode cX9_readLike 7 = .ok (.bipush 9, 2) := by decide +kernel
theorem dX9_readLike_9 : decode cX9_readLike 9 = .ok (.invokevirtual 142, 3) := by decide +kernel
theorem dX9_readLike_12 : decode cX9_readLike 12 = .ok (.istore_n 2, 1) := by decide +kernel
theorem dX9_readLike_13 : decode cX9_readLike 13 = .ok (.aload_n 0, 1) := by decide +kernel
theorem dX9_readLike_14 : decode cX9_readLike 14 = .ok (.iload_n 2, 1) := by decide +kernel
theorem dX9_readLike_15 : decode cX9_readLike 15 = .ok (.aload_n 0, 1) := by decide +kernel
theorem dX9_readLike_16 : decode cX9_readLike 16 = .ok (.getfield 82, 3) := by decide +kernel
theorem dX9_readLike_19 : decode cX9_readLike 19 = .ok (.if_icmp .le 7, 3) := by decide +kernel
theorem dX9_readLike_22 : decode cX9_readLike 22 = .ok (.iload_n 2, 1) := by decide +kernel
theorem dX9_readLike_23 : decode cX9_readLike 23 = .ok (.goto 7, 3) := by decide +kernel
theorem dX9_readLike_26 : decode cX9_readLike 26 = .ok (.aload_n 0, 1) := by decide +kernel
theorem dX9_readLike_27 : decode cX9_readLike 27 = .ok (.getfield 82, 3) := by decide +kernel
theorem dX9_readLike_30 : decode cX9_readLike 30 = .ok (.putfield 82, 3) := by decide +kernel
theorem dX9_readLike_33 : decode cX9_readLike 33 = .ok (.aload_n 0, 1) := by decide +kernel
theorem dX9_readLike_34 : decode cX9_readLike 34 = .ok (.iconst 0, 1) := by decide +kernel
theorem dX9_readLike_35 : decode cX9_readLike 35 = .ok (.bipush 9, 2) := by decide +kernel
theorem dX9_readLike_37 : decode cX9_readLike 37 = .ok (.invokevirtual 142, 3) := by decide +kernel
theorem dX9_readLike_40 : decode cX9_readLike 40 = .ok (.istore_n 3, 1) := by decide +kernel
theorem dX9_readLike_41 : decode cX9_readLike 41 = .ok (.aload_n 0, 1) := by decide +kernel
theorem dX9_readLike_42 : decode cX9_readLike 42 = .ok (.getfield 17, 3) := by decide +kernel
theorem dX9_readLike_45 : decode cX9_readLike 45 = .ok (.bipush 119, 2) := by decide +kernel
theorem dX9_readLike_47 : decode cX9_readLike 47 = .ok (.bipush 10, 2) := by decide +kernel
theorem dX9_readLike_49 : decode cX9_readLike 49 = .ok (.iload_n 1, 1) := by decide +kernel
theorem dX9_readLike_50 : decode cX9_readLike 50 = .ok (.imul, 1) := by decide +kernel
theorem dX9_readLike_51 : decode cX9_readLike 51 = .ok (.iadd, 1) := by decide +kernel
theorem dX9_readLike_52 : decode cX9_readLike 52 = .ok (.iload_n 2, 1) := by decide +kernel
theorem dX9_readLike_53 : decode cX9_readLike 53 = .ok (.iadd, 1) := by decide +kernel
theorem dX9_readLike_54 : decode cX9_readLike 54 = .ok (.iload_n 3, 1) := by decide +kernel
theorem dX9_readLike_55 : decode cX9_readLike 55 = .ok (.iastore, 1) := by decide +kernel
theorem dX9_readLike_56 : decode cX9_readLike 56 = .ok (.return_, 1) := by decide +kernel
theorem dX9_readLineOf_0 : decode cX9_readLineOf 0 = .ok (.iload_n 1, 1) := by decide +kernel
theorem dX9_readLineOf_1 : decode cX9_readLineOf 1 = .ok (.tableswitch 94 2 5 #[31, 44, 51, 58], 31) := by decide +kernel
theorem dX9_readLineOf_32 : decode cX9_readLineOf 32 = .ok (.aload_n 0, 1) := by decide +kernel
theorem dX9_readLineOf_33 : decode cX9_readLineOf 33 = .ok (.aload_n 0, 1) := by decide +kernel
theorem dX9_readLineOf_34 : decode cX9_readLineOf 34 = .ok (.iconst 0, 1) := by decide +kernel
theorem dX9_readLineOf_35 : decode cX9_readLineOf 35 = .ok (.iconst 4, 1) := by decide +kernel
theorem dX9_readLineOf_36 : decode cX9_readLineOf 36 = .ok (.invokevirtual 142, 3) := by decide +kernel
theorem dX9_readLineOf_39 : decode cX9_readLineOf 39 = .ok (.putfield 71, 3) := by decide +kernel
theorem dX9_readLineOf_42 : decode cX9_readLineOf 42 = .ok (.goto 58, 3) := by decide +kernel
theorem dX9_readLineOf_45 : decode cX9_readLineOf 45 = .ok (.aload_n 0, 1) := by decide +kernel
theorem dX9_readLineOf_46 : decode cX9_readLineOf 46 = .ok (.invokevirtual 153, 3) := by decide +kernel
theorem dX9_readLineOf_49 : decode cX9_readLineOf 49 = .ok (.goto 51, 3) := by decide +kernel
theorem dX9_readLineOf_52 : decode cX9_readLineOf 52 = .ok (.aload_n 0, 1) := by decide +kernel
theorem dX9_readLineOf_53 : decode cX9_readLineOf 53 = .ok (.invokevirtual 156, 3) := by decide +kernel
theorem dX9_readLineOf_56 : decode cX9_readLineOf 56 = .ok (.goto 44, 3) := by decide +kernel
theorem dX9_readLineOf_59 : decode cX9_readLineOf 59 = .ok (.aload_n 0, 1) := by decide +kernel
theorem dX9_readLineOf_60 : decode cX9_readLineOf 60 = .ok (.getfield 17, 3) := by decide +kernel
theorem dX9_readLineOf_63 : decode cX9_readLineOf 63 = .ok (.bipush 113, 2) := by decide +kernel
theorem dX9_readLineOf_65 : decode cX9_readLineOf 65 = .ok (.aload_n 0, 1) := by decide +kernel
theorem dX9_readLineOf_66 : decode cX9_readLineOf 66 = .ok (.getfield 17, 3) := by decide +kernel
theorem dX9_readLineOf_69 : decode cX9_readLineOf 69 = .ok (.bipush 112, 2) := by decide +kernel
theorem dX9_readLineOf_71 : decode cX9_readLineOf 71 = .ok (.iaload, 1) := by decide +kernel
theorem dX9_readLineOf_72 : decode cX9_readLineOf 72 = .ok (.iadd, 1) := by decide +kernel
theorem dX9_readLineOf_73 : decode cX9_readLineOf 73 = .ok (.aload_n 0, 1) := by decide +kernel
theorem dX9_readLineOf_74 : decode cX9_readLineOf 74 = .ok (.iconst 1, 1) := by decide +kernel
theorem dX9_readLineOf_75 : decode cX9_readLineOf 75 = .ok (.bipush 40, 2) := by decide +kernel
theorem dX9_readLineOf_77 : decode cX9_readLineOf 77 = .ok (.invokevirtual 142, 3) := by decide +kernel
theorem dX9_readLineOf_80 : decode cX9_readLineOf 80 = .ok (.iastore, 1) := by decide +kernel
theorem dX9_readLineOf_81 : decode cX9_readLineOf 81 = .ok (.aload_n 0, 1) := by decide +kernel
theorem dX9_readLineOf_82 : decode cX9_readLineOf 82 = .ok (.getfield 17, 3) := by decide +kernel
theorem dX9_readLineOf_85 : decode cX9_readLineOf 85 = .ok (.bipush 112, 2) := by decide +kernel
theorem dX9_readLineOf_87 : decode cX9_readLineOf 87 = .ok (.dup2, 1) := by decide +kernel
theorem dX9_readLineOf_88 : decode cX9_readLineOf 88 = .ok (.iaload, 1) := by decide +kernel
theorem dX9_readLineOf_89 : decode cX9_readLineOf 89 = .ok (.iconst 1, 1) := by decide +kernel
theorem dX9_readLineOf_90 : decode cX9_readLineOf 90 = .ok (.iadd, 1) := by decide +kernel
theorem dX9_readLineOf_91 : decode cX9_readLineOf 91 = .ok (.iastore, 1) := by decide +kernel
theorem dX9_readLineOf_92 : decode cX9_readLineOf 92 = .ok (.goto 8, 3) := by decide +kernel
theorem dX9_readLineOf_95 : decode cX9_readLineOf 95 = .ok (.aload_n 0, 1) := by decide +kernel
theorem dX9_readLineOf_96 : decode cX9_readLineOf 96 = .ok (.iload_n 1, 1) := by decide +kernel
theorem dX9_readLineOf_97 : decode cX9_readLineOf 97 = .ok (.invokevirtual 159, 3) := by decide +kernel
theorem dX9_readLineOf_100 : decode cX9_readLineOf 100 = .ok (.return_, 1) := by decide +kernel
theorem dX9_readLine_0 : decode cX9_readLine 0 = .ok (.aload_n 0, 1) := by decide +kernel
theorem dX9_readLine_1 : decode cX9_readLine 1 = .ok (.getfield 121, 3) := by decide +kernel
theorem dX9_readLine_4 : decode cX9_readLine 4 = .ok (.iconst 1, 1) := by decide +kernel
theorem dX9_readLine_5 : decode cX9_readLine 5 = .ok (.if_icmp .ne 10, 3) := by decide +kernel
theorem dX9_readLine_8 : decode cX9_readLine 8 = .ok (.aload_n 0, 1) := by decide +kernel
theorem dX9_readLine_9 : decode cX9_readLine 9 = .ok (.invokevirtual 163, 3) := by decide +kernel
theorem dX9_readLine_12 : decode cX9_readLine 12 = .ok (.goto 5, 3) := by decide +kernel
theorem dX9_readLine_15 : decode cX9_readLine 15 = .ok (.bipush (-4), 2) := by decide +kernel
theorem dX9_readLine_17 : decode cX9_readLine 17 = .ok (.istore_n 1, 1) := by decide +kernel
theorem dX9_readLine_18 : decode cX9_readLine 18 = .ok (.aload_n 0, 1) := by decide +kernel
theorem dX9_readLine_19 : decode cX9_readLine 19 = .ok (.iload_n 1, 1) := by decide +kernel
theorem dX9_readLine_20 : decode cX9_readLine 20 = .ok (.bipush (-4), 2) := by decide +kernel
theorem dX9_readLine_22 : decode cX9_readLine 22 = .ok (.if_icmp .eq 7, 3) := by decide +kernel
theorem dX9_readLine_25 : decode cX9_readLine 25 = .ok (.iconst 1, 1) := by decide +kernel
theorem dX9_readLine_26 : decode cX9_readLine 26 = .ok (.goto 4, 3) := by decide +kernel
theorem dX9_readLine_29 : decode cX9_readLine 29 = .ok (.iconst 0, 1) := by decide +kernel
theorem dX9_readLine_30 : decode cX9_readLine 30 = .ok (.iconst 2, 1) := by decide +kernel
theorem dX9_readLine_31 : decode cX9_readLine 31 = .ok (.invokevirtual 135, 3) := by decide +kernel
theorem dX9_readLine_34 : decode cX9_readLine 34 = .ok (.aload_n 0, 1) := by decide +kernel
theorem dX9_readLine_35 : decode cX9_readLine 35 = .ok (.iload_n 1, 1) := by decide +kernel
theorem dX9_readLine_36 : decode cX9_readLine 36 = .ok (.iconst 3, 1) := by decide +kernel
theorem dX9_readLine_37 : decode cX9_readLine 37 = .ok (.if_icmp .ne 14, 3) := by decide +kernel
theorem dX9_readLine_40 : decode cX9_readLine 40 = .ok (.aload_n 0, 1) := by decide +kernel
theorem dX9_readLine_41 : decode cX9_readLine 41 = .ok (.getfield 17, 3) := by decide +kernel
theorem dX9_readLine_44 : decode cX9_readLine 44 = .ok (.iconst 0, 1) := by decide +kernel
theorem dX9_readLine_45 : decode cX9_readLine 45 = .ok (.iaload, 1) := by decide +kernel
theorem dX9_readLine_46 : decode cX9_readLine 46 = .ok (.bipush 8, 2) := by decide +kernel
theorem dX9_readLine_48 : decode cX9_readLine 48 = .ok (.if_icmp .ge 45, 3) := by decide +kernel
theorem dX9_readLine_51 : decode cX9_readLine 51 = .ok (.iload_n 1, 1) := by decide +kernel
theorem dX9_readLine_52 : decode cX9_readLine 52 = .ok (.ifCond .eq 8, 3) := by decide +kernel
theorem dX9_readLine_55 : decode cX9_readLine 55 = .ok (.iload_n 1, 1) := by decide +kernel
theorem dX9_readLine_56 : decode cX9_readLine 56 = .ok (.iconst 1, 1) := by decide +kernel
theorem dX9_readLine_57 : decode cX9_readLine 57 = .ok (.if_icmp .ne 15, 3) := by decide +kernel
theorem dX9_readLine_60 : decode cX9_readLine 60 = .ok (.aload_n 0, 1) := by decide +kernel
theorem dX9_readLine_61 : decode cX9_readLine 61 = .ok (.getfield 17, 3) := by decide +kernel
theorem dX9_readLine_64 : decode cX9_readLine 64 = .ok (.bipush 41, 2) := by decide +kernel
theorem dX9_readLine_66 : decode cX9_readLine 66 = .ok (.iaload, 1) := by decide +kernel
theorem dX9_readLine_67 : decode cX9_readLine 67 = .ok (.bipush 10, 2) := by decide +kernel
theorem dX9_readLine_69 : decode cX9_readLine 69 = .ok (.if_icmp .ge 24, 3) := by decide +kernel
theorem dX9_readLine_72 : decode cX9_readLine 72 = .ok (.iload_n 1, 1) := by decide +kernel
theorem dX9_readLine_73 : decode cX9_readLine 73 = .ok (.iconst 5, 1) := by decide +kernel
theorem dX9_readLine_74 : decode cX9_readLine 74 = .ok (.if_icmp .ne 15, 3) := by decide +kernel
theorem dX9_readLine_77 : decode cX9_readLine 77 = .ok (.aload_n 0, 1) := by decide +kernel
theorem dX9_readLine_78 : decode cX9_readLine 78 = .ok (.getfield 17, 3) := by decide +kernel
theorem dX9_readLine_81 : decode cX9_readLine 81 = .ok (.bipush 112, 2) := by decide +kernel
theorem dX9_readLine_83 : decode cX9_readLine 83 = .ok (.iaload, 1) := by decide +kernel
theorem dX9_readLine_84 : decode cX9_readLine 84 = .ok (.bipush 6, 2) := by decide +kernel
theorem dX9_readLine_86 : decode cX9_readLine 86 = .ok (.if_icmp .ge 7, 3) := by decide +kernel
theorem dX9_readLine_89 : decode cX9_readLine 89 = .ok (.iconst 1, 1) := by decide +kernel
theorem dX9_readLine_90 : decode cX9_readLine 90 = .ok (.goto 4, 3) := by decide +kernel
theorem dX9_readLine_93 : decode cX9_readLine 93 = .ok (.iconst 0, 1) := by decide +kernel
theorem dX9_readLine_94 : decode cX9_readLine 94 = .ok (.iconst 5, 1) := by decide +kernel
theorem dX9_readLine_95 : decode cX9_readLine 95 = .ok (.invokevirtual 135, 3) := by decide +kernel
theorem dX9_readLine_98 : decode cX9_readLine 98 = .ok (.aload_n 0, 1) := by decide +kernel
theorem dX9_readLine_99 : decode cX9_readLine 99 = .ok (.iload_n 1, 1) := by decide +kernel
theorem dX9_readLine_100 : decode cX9_readLine 100 = .ok (.iconst 2, 1) := by decide +kernel
theorem dX9_readLine_101 : decode cX9_readLine 101 = .ok (.if_icmp .ne 10, 3) := by decide +kernel
theorem dX9_readLine_104 : decode cX9_readLine 104 = .ok (.aload_n 0, 1) := by decide +kernel
theorem dX9_readLine_105 : decode cX9_readLine 105 = .ok (.getfield 75, 3) := by decide +kernel
theorem dX9_readLine_108 : decode cX9_readLine 108 = .ok (.ifCond .ne 7, 3) := by decide +kernel
theorem dX9_readLine_111 : decode cX9_readLine 111 = .ok (.iconst 1, 1) := by decide +kernel
theorem dX9_readLine_112 : decode cX9_readLine 112 = .ok (.goto 4, 3) := by decide +kernel
theorem dX9_readLine_115 : decode cX9_readLine 115 = .ok (.iconst 0, 1) := by decide +kernel
theorem dX9_readLine_116 : decode cX9_readLine 116 = .ok (.iconst 4, 1) := by decide +kernel
theorem dX9_readLine_117 : decode cX9_readLine 117 = .ok (.invokevirtual 135, 3) := by decide +kernel
theorem dX9_readLine_120 : decode cX9_readLine 120 = .ok (.aload_n 0, 1) := by decide +kernel
theorem dX9_readLine_121 : decode cX9_readLine 121 = .ok (.aload_n 0, 1) := by decide +kernel
theorem dX9_readLine_122 : decode cX9_readLine 122 = .ok (.getfield 75, 3) := by decide +kernel
theorem dX9_readLine_125 : decode cX9_readLine 125 = .ok (.ifCond .ne 8, 3) := by decide +kernel
theorem dX9_readLine_128 : decode cX9_readLine 128 = .ok (.iload_n 1, 1) := by decide +kernel
theorem dX9_readLine_129 : decode cX9_readLine 129 = .ok (.iconst 2, 1) := by decide +kernel
theorem dX9_readLine_130 : decode cX9_readLine 130 = .ok (.if_icmp .ne 7, 3) := by decide +kernel
theorem dX9_readLine_133 : decode cX9_readLine 133 = .ok (.iconst 1, 1) := by decide +kernel
theorem dX9_readLine_134 : decode cX9_readLine 134 = .ok (.goto 4, 3) := by decide +kernel
theorem dX9_readLine_137 : decode cX9_readLine 137 = .ok (.iconst 0, 1) := by decide +kernel
theorem dX9_readLine_138 : decode cX9_readLine 138 = .ok (.putfield 75, 3) := by decide +kernel
theorem dX9_readLine_141 : decode cX9_readLine 141 = .ok (.aload_n 0, 1) := by decide +kernel
theorem dX9_readLine_142 : decode cX9_readLine 142 = .ok (.invokevirtual 139, 3) := by decide +kernel
theorem dX9_readLine_145 : decode cX9_readLine 145 = .ok (.aload_n 0, 1) := by decide +kernel
theorem dX9_readLine_146 : decode cX9_readLine 146 = .ok (.getfield 97, 3) := by decide +kernel
theorem dX9_readLine_149 : decode cX9_readLine 149 = .ok (.ifCond .le 4, 3) := by decide +kernel
theorem dX9_readLine_152 : decode cX9_readLine 152 = .ok (.return_, 1) := by decide +kernel
theorem dX9_readLine_153 : decode cX9_readLine 153 = .ok (.aload_n 0, 1) := by decide +kernel
theorem dX9_readLine_154 : decode cX9_readLine 154 = .ok (.iload_n 1, 1) := by decide +kernel
theorem dX9_readLine_155 : decode cX9_readLine 155 = .ok (.invokevirtual 166, 3) := by decide +kernel
theorem dX9_readLine_158 : decode cX9_readLine 158 = .ok (.aload_n 0, 1) := by decide +kernel
theorem dX9_readLine_159 : decode cX9_readLine 159 = .ok (.getfield 97, 3) := by decide +kernel
theorem dX9_readLine_162 : decode cX9_readLine 162 = .ok (.ifCond .ne 21, 3) := by decide +kernel
theorem dX9_readLine_165 : decode cX9_readLine 165 = .ok (.aload_n 0, 1) := by decide +kernel
theorem dX9_readLine_166 : decode cX9_readLine 166 = .ok (.aload_n 0, 1) := by decide +kernel
theorem dX9_readLine_167 : decode cX9_readLine 167 = .ok (.getfield 121, 3) := by decide +kernel
theorem dX9_readLine_170 : decode cX9_readLine 170 = .ok (.iconst 3, 1) := by decide +kernel
theorem dX9_readLine_171 : decode cX9_readLine 171 = .ok (.if_icmp .ne 7, 3) := by decide +kernel
theorem dX9_readLine_174 : decode cX9_readLine 174 = .ok (.iconst 1, 1) := by decide +kernel
theorem dX9_readLine_175 : decode cX9_readLine 175 = .ok (.goto 4, 3) := by decide +kernel
theorem dX9_readLine_178 : decode cX9_readLine 178 = .ok (.iconst 0, 1) := by decide +kernel
theorem dX9_readLine_179 : decode cX9_readLine 179 = .ok (.iconst 2, 1) := by decide +kernel
theorem dX9_readLine_180 : decode cX9_readLine 180 = .ok (.invokevirtual 135, 3) := by decide +kernel
theorem dX9_readLine_183 : decode cX9_readLine 183 = .ok (.aload_n 0, 1) := by decide +kernel
theorem dX9_readLine_184 : decode cX9_readLine 184 = .ok (.invokevirtual 139, 3) := by decide +kernel
theorem dX9_readLine_187 : decode cX9_readLine 187 = .ok (.return_, 1) := by decide +kernel
theorem dX9_text_0 : decode cX9_text 0 = .ok (.iconst 0, 1) := by decide +kernel
theorem dX9_text_1 : decode cX9_text 1 = .ok (.istore_n 1, 1) := by decide +kernel
theorem dX9_text_2 : decode cX9_text 2 = .ok (.aload_n 0, 1) := by decide +kernel
theorem dX9_text_3 : decode cX9_text 3 = .ok (.iconst 0, 1) := by decide +kernel
theorem dX9_text_4 : decode cX9_text 4 = .ok (.putfield 97, 3) := by decide +kernel
theorem dX9_text_7 : decode cX9_text 7 = .ok (.aload_n 0, 1) := by decide +kernel
theorem dX9_text_8 : decode cX9_text 8 = .ok (.iconst 0, 1) := by decide +kernel
theorem dX9_text_9 : decode cX9_text 9 = .ok (.putfield 106, 3) := by decide +kernel
theorem dX9_text_12 : decode cX9_text 12 = .ok (.aload_n 0, 1) := by decide +kernel
theorem dX9_text_13 : decode cX9_text 13 = .ok (.invokevirtual 65, 3) := by decide +kernel
theorem dX9_text_16 : decode cX9_text 16 = .ok (.aload_n 0, 1) := by decide +kernel
theorem dX9_text_17 : decode cX9_text 17 = .ok (.invokevirtual 139, 3) := by decide +kernel
theorem dX9_text_20 : decode cX9_text 20 = .ok (.aload_n 0, 1) := by decide +kernel
theorem dX9_text_21 : decode cX9_text 21 = .ok (.getfield 97, 3) := by decide +kernel
theorem dX9_text_24 : decode cX9_text 24 = .ok (.ifCond .ne 20, 3) := by decide +kernel
theorem dX9_text_27 : decode cX9_text 27 = .ok (.aload_n 0, 1) := by decide +kernel
theorem dX9_text_28 : decode cX9_text 28 = .ok (.getfield 121, 3) := by decide +kernel
theorem dX9_text_31 : decode cX9_text 31 = .ok (.ifCond .eq 13, 3) := by decide +kernel
theorem dX9_text_34 : decode cX9_text 34 = .ok (.aload_n 0, 1) := by decide +kernel
theorem dX9_text_35 : decode cX9_text 35 = .ok (.invokevirtual 169, 3) := by decide +kernel
theorem dX9_text_38 : decode cX9_text 38 = .ok (.iinc 1 1, 3) := by decide +kernel
theorem dX9_text_41 : decode cX9_text 41 = .ok (.goto (-21), 3) := by decide +kernel
theorem dX9_text_44 : decode cX9_text 44 = .ok (.aload_n 0, 1) := by decide +kernel
theorem dX9_text_45 : decode cX9_text 45 = .ok (.getfield 97, 3) := by decide +kernel
theorem dX9_text_48 : decode cX9_text 48 = .ok (.ifCond .ne 41, 3) := by decide +kernel
theorem dX9_text_51 : decode cX9_text 51 = .ok (.aload_n 0, 1) := by decide +kernel
theorem dX9_text_52 : decode cX9_text 52 = .ok (.aload_n 0, 1) := by decide +kernel
theorem dX9_text_53 : decode cX9_text 53 = .ok (.getfield 79, 3) := by decide +kernel
theorem dX9_text_56 : decode cX9_text 56 = .ok (.aload_n 0, 1) := by decide +kernel
theorem dX9_text_57 : decode cX9_text 57 = .ok (.getfield 17, 3) := by decide +kernel
theorem dX9_text_60 : decode cX9_text 60 = .ok (.iconst 0, 1) := by decide +kernel
theorem dX9_text_61 : decode cX9_text 61 = .ok (.iaload, 1) := by decide +kernel
theorem dX9_text_62 : decode cX9_text 62 = .ok (.if_icmp .ge 21, 3) := by decide +kernel
theorem dX9_text_65 : decode cX9_text 65 = .ok (.aload_n 0, 1) := by decide +kernel
theorem dX9_text_66 : decode cX9_text 66 = .ok (.getfield 82, 3) := by decide +kernel
theorem dX9_text_69 : decode cX9_text 69 = .ok (.aload_n 0, 1) := by decide +kernel
theorem dX9_text_70 : decode cX9_text 70 = .ok (.getfield 17, 3) := by decide +kernel
theorem dX9_text_73 : decode cX9_text 73 = .ok (.bipush 41, 2) := by decide +kernel
theorem dX9_text_75 : decode cX9_text 75 = .ok (.iaload, 1) := by decide +kernel
theorem dX9_text_76 : decode cX9_text 76 = .ok (.if_icmp .ge 7, 3) := by decide +kernel
theorem dX9_text_79 : decode cX9_text 79 = .ok (.iconst 1, 1) := by decide +kernel
theorem dX9_text_80 : decode cX9_text 80 = .ok (.goto 4, 3) := by decide +kernel
theorem dX9_text_83 : decode cX9_text 83 = .ok (.iconst 0, 1) := by decide +kernel
theorem dX9_text_84 : decode cX9_text 84 = .ok (.bipush 6, 2) := by decide +kernel
theorem dX9_text_86 : decode cX9_text 86 = .ok (.invokevirtual 135, 3) := by decide +kernel
theorem dX9_text_89 : decode cX9_text 89 = .ok (.aload_n 0, 1) := by decide +kernel
theorem dX9_text_90 : decode cX9_text 90 = .ok (.iconst 0, 1) := by decide +kernel
theorem dX9_text_91 : decode cX9_text 91 = .ok (.putfield 88, 3) := by decide +kernel
theorem dX9_text_94 : decode cX9_text 94 = .ok (.aload_n 0, 1) := by decide +kernel
theorem dX9_text_95 : decode cX9_text 95 = .ok (.getfield 97, 3) := by decide +kernel
theorem dX9_text_98 : decode cX9_text 98 = .ok (.ifCond .le 11, 3) := by decide +kernel
theorem dX9_text_101 : decode cX9_text 101 = .ok (.bipush (-10), 2) := by decide +kernel
theorem dX9_text_103 : decode cX9_text 103 = .ok (.aload_n 0, 1) := by decide +kernel
theorem dX9_text_104 : decode cX9_text 104 = .ok (.getfield 103, 3) := by decide +kernel
theorem dX9_text_107 : decode cX9_text 107 = .ok (.isub, 1) := by decide +kernel
theorem dX9_text_108 : decode cX9_text 108 = .ok (.ireturn, 1) := by decide +kernel
theorem dX9_text_109 : decode cX9_text 109 = .ok (.aload_n 0, 1) := by decide +kernel
theorem dX9_text_110 : decode cX9_text 110 = .ok (.invokevirtual 68, 3) := by decide +kernel
theorem dX9_text_113 : decode cX9_text 113 = .ok (.iload_n 1, 1) := by decide +kernel
theorem dX9_text_114 : decode cX9_text 114 = .ok (.ireturn, 1) := by decide +kernel
theorem dX9_fault_0 : decode cX9_fault 0 = .ok (.aload_n 0, 1) := by decide +kernel
theorem dX9_fault_1 : decode cX9_fault 1 = .ok (.getfield 97, 3) := by decide +kernel
theorem dX9_fault_4 : decode cX9_fault 4 = .ok (.ireturn, 1) := by decide +kernel
theorem dX9_isChild_0 : decode cX9_isChild 0 = .ok (.iload_n 1, 1) := by decide +kernel
theorem dX9_isChild_1 : decode cX9_isChild 1 = .ok (.i2l, 1) := by decide +kernel
theorem dX9_isChild_2 : decode cX9_isChild 2 = .ok (.lconst 0, 1) := by decide +kernel
theorem dX9_isChild_3 : decode cX9_isChild 3 = .ok (.aload_n 0, 1) := by decide +kernel
theorem dX9_isChild_4 : decode cX9_isChild 4 = .ok (.getfield 7, 3) := by decide +kernel
theorem dX9_isChild_7 : decode cX9_isChild 7 = .ok (.iconst 0, 1) := by decide +kernel
theorem dX9_isChild_8 : decode cX9_isChild 8 = .ok (.iaload, 1) := by decide +kernel
theorem dX9_isChild_9 : decode cX9_isChild 9 = .ok (.iconst 1, 1) := by decide +kernel
theorem dX9_isChild_10 : decode cX9_isChild 10 = .ok (.isub, 1) := by decide +kernel
theorem dX9_isChild_11 : decode cX9_isChild 11 = .ok (.i2l, 1) := by decide +kernel
theorem dX9_isChild_12 : decode cX9_isChild 12 = .ok (.invokestatic 93, 3) := by decide +kernel
theorem dX9_isChild_15 : decode cX9_isChild 15 = .ok (.ireturn, 1) := by decide +kernel
theorem dX9_isThing_0 : decode cX9_isThing 0 = .ok (.iload_n 1, 1) := by decide +kernel
theorem dX9_isThing_1 : decode cX9_isThing 1 = .ok (.i2l, 1) := by decide +kernel
theorem dX9_isThing_2 : decode cX9_isThing 2 = .ok (.lconst 0, 1) := by decide +kernel
theorem dX9_isThing_3 : decode cX9_isThing 3 = .ok (.aload_n 0, 1) := by decide +kernel
theorem dX9_isThing_4 : decode cX9_isThing 4 = .ok (.getfield 7, 3) := by decide +kernel
theorem dX9_isThing_7 : decode cX9_isThing 7 = .ok (.bipush 41, 2) := by decide +kernel
theorem dX9_isThing_9 : decode cX9_isThing 9 = .ok (.iaload, 1) := by decide +kernel
theorem dX9_isThing_10 : decode cX9_isThing 10 = .ok (.iconst 1, 1) := by decide +kernel
theorem dX9_isThing_11 : decode cX9_isThing 11 = .ok (.isub, 1) := by decide +kernel
theorem dX9_isThing_12 : decode cX9_isThing 12 = .ok (.i2l, 1) := by decide +kernel
theorem dX9_isThing_13 : decode cX9_isThing 13 = .ok (.invokestatic 93, 3) := by decide +kernel
theorem dX9_isThing_16 : decode cX9_isThing 16 = .ok (.ireturn, 1) := by decide +kernel
theorem dX9_isSlot_0 : decode cX9_isSlot 0 = .ok (.iload_n 0, 1) := by decide +kernel
theorem dX9_isSlot_1 : decode cX9_isSlot 1 = .ok (.i2l, 1) := by decide +kernel
theorem dX9_isSlot_2 : decode cX9_isSlot 2 = .ok (.lconst 0, 1) := by decide +kernel
theorem dX9_isSlot_3 : decode cX9_isSlot 3 = .ok (.lconst 1, 1) := by decide +kernel
theorem dX9_isSlot_4 : decode cX9_isSlot 4 = .ok (.invokestatic 93, 3) := by decide +kernel
theorem dX9_isSlot_7 : decode cX9_isSlot 7 = .ok (.ireturn, 1) := by decide +kernel
theorem dX9_of_0 : decode cX9_of 0 = .ok (.aload_n 0, 1) := by decide +kernel
theorem dX9_of_1 : decode cX9_of 1 = .ok (.getfield 7, 3) := by decide +kernel
theorem dX9_of_4 : decode cX9_of 4 = .ok (.bipush 42, 2) := by decide +kernel
theorem dX9_of_6 : decode cX9_of 6 = .ok (.bipush 7, 2) := by decide +kernel
theorem dX9_of_8 : decode cX9_of 8 = .ok (.iload_n 1, 1) := by decide +kernel
theorem dX9_of_9 : decode cX9_of 9 = .ok (.imul, 1) := by decide +kernel
theorem dX9_of_10 : decode cX9_of 10 = .ok (.iadd, 1) := by decide +kernel
theorem dX9_of_11 : decode cX9_of 11 = .ok (.iload_n 2, 1) := by decide +kernel
theorem dX9_of_12 : decode cX9_of 12 = .ok (.iadd, 1) := by decide +kernel
theorem dX9_of_13 : decode cX9_of 13 = .ok (.iaload, 1) := by decide +kernel
theorem dX9_of_14 : decode cX9_of 14 = .ok (.ireturn, 1) := by decide +kernel
theorem dX9_worn_0 : decode cX9_worn 0 = .ok (.aload_n 0, 1) := by decide +kernel
theorem dX9_worn_1 : decode cX9_worn 1 = .ok (.getfield 7, 3) := by decide +kernel
theorem dX9_worn_4 : decode cX9_worn 4 = .ok (.iconst 1, 1) := by decide +kernel
theorem dX9_worn_5 : decode cX9_worn 5 = .ok (.iconst 5, 1) := by decide +kernel
theorem dX9_worn_6 : decode cX9_worn 6 = .ok (.iload_n 1, 1) := by decide +kernel
theorem dX9_worn_7 : decode cX9_worn 7 = .ok (.imul, 1) := by decide +kernel
theorem dX9_worn_8 : decode cX9_worn 8 = .ok (.iadd, 1) := by decide +kernel
theorem dX9_worn_9 : decode cX9_worn 9 = .ok (.iconst 3, 1) := by decide +kernel
theorem dX9_worn_10 : decode cX9_worn 10 = .ok (.iadd, 1) := by decide +kernel
theorem dX9_worn_11 : decode cX9_worn 11 = .ok (.iload_n 2, 1) := by decide +kernel
theorem dX9_worn_12 : decode cX9_worn 12 = .ok (.iadd, 1) := by decide +kernel
theorem dX9_worn_13 : decode cX9_worn 13 = .ok (.iaload, 1) := by decide +kernel
theorem dX9_worn_14 : decode cX9_worn 14 = .ok (.ireturn, 1) := by decide +kernel
theorem dX9_whoWears_0 : decode cX9_whoWears 0 = .ok (.bipush (-4), 2) := by decide +kernel
theorem dX9_whoWears_2 : decode cX9_whoWears 2 = .ok (.istore_n 2, 1) := by decide +kernel
theorem dX9_whoWears_3 : decode cX9_whoWears 3 = .ok (.iconst 0, 1) := by decide +kernel
theorem dX9_whoWears_4 : decode cX9_whoWears 4 = .ok (.istore_n 3, 1) := by decide +kernel
theorem dX9_whoWears_5 : decode cX9_whoWears 5 = .ok (.iload_n 3, 1) := by decide +kernel
theorem dX9_whoWears_6 : decode cX9_whoWears 6 = .ok (.aload_n 0, 1) := by decide +kernel
theorem dX9_whoWears_7 : decode cX9_whoWears 7 = .ok (.getfield 7, 3) := by decide +kernel
theorem dX9_whoWears_10 : decode cX9_whoWears 10 = .ok (.iconst 0, 1) := by decide +kernel
theorem dX9_whoWears_11 : decode cX9_whoWears 11 = .ok (.iaload, 1) := by decide +kernel
theorem dX9_whoWears_12 : decode cX9_whoWears 12 = .ok (.if_icmp .ge 30, 3) := by decide +kernel
theorem dX9_whoWears_15 : decode cX9_whoWears 15 = .ok (.aload_n 0, 1) := by decide +kernel
theorem dX9_whoWears_16 : decode cX9_whoWears 16 = .ok (.iload_n 3, 1) := by decide +kernel
theorem dX9_whoWears_17 : decode cX9_whoWears 17 = .ok (.aload_n 0, 1) := by decide +kernel
theorem dX9_whoWears_18 : decode cX9_whoWears 18 = .ok (.iload_n 1, 1) := by decide +kernel
theorem dX9_whoWears_19 : decode cX9_whoWears 19 = .ok (.iconst 0, 1) := by decide +kernel
theorem dX9_whoWears_20 : decode cX9_whoWears 20 = .ok (.invokevirtual 172, 3) := by decide +kernel
theorem dX9_whoWears_23 : decode cX9_whoWears 23 = .ok (.invokevirtual 175, 3) := by decide +kernel
theorem dX9_whoWears_26 : decode cX9_whoWears 26 = .ok (.iload_n 1, 1) := by decide +kernel
theorem dX9_whoWears_27 : decode cX9_whoWears 27 = .ok (.if_icmp .ne 7, 3) := by decide +kernel
theorem dX9_whoWears_30 : decode cX9_whoWears 30 = .ok (.iload_n 3, 1) := by decide +kernel
theorem dX9_whoWears_31 : decode cX9_whoWears 31 = .ok (.goto 4, 3) := by decide +kernel
theorem dX9_whoWears_34 : decode cX9_whoWears 34 = .ok (.iload_n 2, 1) := by decide +kernel
theorem dX9_whoWears_35 : decode cX9_whoWears 35 = .ok (.istore_n 2, 1) := by decide +kernel
theorem dX9_whoWears_36 : decode cX9_whoWears 36 = .ok (.iinc 3 1, 3) := by decide +kernel
theorem dX9_whoWears_39 : decode cX9_whoWears 39 = .ok (.goto (-34), 3) := by decide +kernel
theorem dX9_whoWears_42 : decode cX9_whoWears 42 = .ok (.iload_n 2, 1) := by decide +kernel
theorem dX9_whoWears_43 : decode cX9_whoWears 43 = .ok (.ireturn, 1) := by decide +kernel
theorem dX9_child_0 : decode cX9_child 0 = .ok (.aload_n 0, 1) := by decide +kernel
theorem dX9_child_1 : decode cX9_child 1 = .ok (.iload_n 1, 1) := by decide +kernel
theorem dX9_child_2 : decode cX9_child 2 = .ok (.invokevirtual 178, 3) := by decide +kernel
theorem dX9_child_5 : decode cX9_child 5 = .ok (.ifCond .ne 5, 3) := by decide +kernel
theorem dX9_child_8 : decode cX9_child 8 = .ok (.iconst (-1), 1) := by decide +kernel
theorem dX9_child_9 : decode cX9_child 9 = .ok (.ireturn, 1) := by decide +kernel
theorem dX9_child_10 : decode cX9_child 10 = .ok (.iload_n 2, 1) := by decide +kernel
theorem dX9_child_11 : decode cX9_child 11 = .ok (.i2l, 1) := by decide +kernel
theorem dX9_child_12 : decode cX9_child 12 = .ok (.lconst 0, 1) := by decide +kernel
theorem dX9_child_13 : decode cX9_child 13 = .ok (.ldc2_w 182, 3) := by decide +kernel
theorem dX9_child_16 : decode cX9_child 16 = .ok (.invokestatic 93, 3) := by decide +kernel
theorem dX9_child_19 : decode cX9_child 19 = .ok (.ifCond .eq 18, 3) := by decide +kernel
theorem dX9_child_22 : decode cX9_child 22 = .ok (.aload_n 0, 1) := by decide +kernel
theorem dX9_child_23 : decode cX9_child 23 = .ok (.getfield 7, 3) := by decide +kernel
theorem dX9_child_26 : decode cX9_child 26 = .ok (.iconst 1, 1) := by decide +kernel
theorem dX9_child_27 : decode cX9_child 27 = .ok (.iconst 5, 1) := by decide +kernel
theorem dX9_child_28 : decode cX9_child 28 = .ok (.iload_n 1, 1) := by decide +kernel
theorem dX9_child_29 : decode cX9_child 29 = .ok (.imul, 1) := by decide +kernel
theorem dX9_child_30 : decode cX9_child 30 = .ok (.iadd, 1) := by decide +kernel
theorem dX9_child_31 : decode cX9_child 31 = .ok (.iload_n 2, 1) := by decide +kernel
theorem dX9_child_32 : decode cX9_child 32 = .ok (.iadd, 1) := by decide +kernel
theorem dX9_child_33 : decode cX9_child 33 = .ok (.iaload, 1) := by decide +kernel
theorem dX9_child_34 : decode cX9_child 34 = .ok (.goto 30, 3) := by decide +kernel
theorem dX9_child_37 : decode cX9_child 37 = .ok (.iload_n 2, 1) := by decide +kernel
theorem dX9_child_38 : decode cX9_child 38 = .ok (.i2l, 1) := by decide +kernel
theorem dX9_child_39 : decode cX9_child 39 = .ok (.ldc2_w 184, 3) := by decide +kernel
theorem dX9_child_42 : decode cX9_child 42 = .ok (.ldc2_w 186, 3) := by decide +kernel
theorem dX9_child_45 : decode cX9_child 45 = .ok (.invokestatic 93, 3) := by decide +kernel
theorem dX9_child_48 : decode cX9_child 48 = .ok (.ifCond .eq 15, 3) := by decide +kernel
theorem dX9_child_51 : decode cX9_child 51 = .ok (.aload_n 0, 1) := by decide +kernel
theorem dX9_child_52 : decode cX9_child 52 = .ok (.iload_n 1, 1) := by decide +kernel
theorem dX9_child_53 : decode cX9_child 53 = .ok (.iload_n 2, 1) := by decide +kernel
theorem dX9_child_54 : decode cX9_child 54 = .ok (.bipush 10, 2) := by decide +kernel
theorem dX9_child_56 : decode cX9_child 56 = .ok (.isub, 1) := by decide +kernel
theorem dX9_child_57 : decode cX9_child 57 = .ok (.invokevirtual 175, 3) := by decide +kernel
theorem dX9_child_60 : decode cX9_child 60 = .ok (.goto 4, 3) := by decide +kernel
theorem dX9_child_63 : decode cX9_child 63 = .ok (.iconst (-1), 1) := by decide +kernel
theorem dX9_child_64 : decode cX9_child 64 = .ok (.ireturn, 1) := by decide +kernel
theorem dX9_thing_0 : decode cX9_thing 0 = .ok (.aload_n 0, 1) := by decide +kernel
theorem dX9_thing_1 : decode cX9_thing 1 = .ok (.iload_n 1, 1) := by decide +kernel
theorem dX9_thing_2 : decode cX9_thing 2 = .ok (.invokevirtual 188, 3) := by decide +kernel
theorem dX9_thing_5 : decode cX9_thing 5 = .ok (.ifCond .ne 7, 3) := by decide +kernel
theorem dX9_thing_8 : decode cX9_thing 8 = .ok (.iconst (-1), 1) := by decide +kernel
theorem dX9_thing_9 : decode cX9_thing 9 = .ok (.goto 39, 3) := by decide +kernel
theorem dX9_thing_12 : decode cX9_thing 12 = .ok (.iload_n 2, 1) := by decide +kernel
theorem dX9_thing_13 : decode cX9_thing 13 = .ok (.i2l, 1) := by decide +kernel
theorem dX9_thing_14 : decode cX9_thing 14 = .ok (.lconst 0, 1) := by decide +kernel
theorem dX9_thing_15 : decode cX9_thing 15 = .ok (.ldc2_w 191, 3) := by decide +kernel
theorem dX9_thing_18 : decode cX9_thing 18 = .ok (.invokestatic 93, 3) := by decide +kernel
theorem dX9_thing_21 : decode cX9_thing 21 = .ok (.ifCond .eq 12, 3) := by decide +kernel
theorem dX9_thing_24 : decode cX9_thing 24 = .ok (.aload_n 0, 1) := by decide +kernel
theorem dX9_thing_25 : decode cX9_thing 25 = .ok (.iload_n 1, 1) := by decide +kernel
theorem dX9_thing_26 : decode cX9_thing 26 = .ok (.iload_n 2, 1) := by decide +kernel
theorem dX9_thing_27 : decode cX9_thing 27 = .ok (.invokevirtual 172, 3) := by decide +kernel
theorem dX9_thing_30 : decode cX9_thing 30 = .ok (.goto 18, 3) := by decide +kernel
theorem dX9_thing_33 : decode cX9_thing 33 = .ok (.iload_n 2, 1) := by decide +kernel
theorem dX9_thing_34 : decode cX9_thing 34 = .ok (.bipush 7, 2) := by decide +kernel
theorem dX9_thing_36 : decode cX9_thing 36 = .ok (.if_icmp .ne 11, 3) := by decide +kernel
theorem dX9_thing_39 : decode cX9_thing 39 = .ok (.aload_n 0, 1) := by decide +kernel
theorem dX9_thing_40 : decode cX9_thing 40 = .ok (.iload_n 1, 1) := by decide +kernel
theorem dX9_thing_41 : decode cX9_thing 41 = .ok (.invokevirtual 193, 3) := by decide +kernel
theorem dX9_thing_44 : decode cX9_thing 44 = .ok (.goto 4, 3) := by decide +kernel
theorem dX9_thing_47 : decode cX9_thing 47 = .ok (.iconst (-1), 1) := by decide +kernel
theorem dX9_thing_48 : decode cX9_thing 48 = .ok (.ireturn, 1) := by decide +kernel
theorem dX9_slack_0 : decode cX9_slack 0 = .ok (.iload_n 1, 1) := by decide +kernel
theorem dX9_slack_1 : decode cX9_slack 1 = .ok (.i2l, 1) := by decide +kernel
theorem dX9_slack_2 : decode cX9_slack 2 = .ok (.lconst 0, 1) := by decide +kernel
theorem dX9_slack_3 : decode cX9_slack 3 = .ok (.ldc2_w 196, 3) := by decide +kernel
theorem dX9_slack_6 : decode cX9_slack 6 = .ok (.invokestatic 93, 3) := by decide +kernel
theorem dX9_slack_9 : decode cX9_slack 9 = .ok (.ifCond .ne 5, 3) := by decide +kernel
theorem dX9_slack_12 : decode cX9_slack 12 = .ok (.iconst (-1), 1) := by decide +kernel
theorem dX9_slack_13 : decode cX9_slack 13 = .ok (.ireturn, 1) := by decide +kernel
theorem dX9_slack_14 : decode cX9_slack 14 = .ok (.aload_n 0, 1) := by decide +kernel
theorem dX9_slack_15 : decode cX9_slack 15 = .ok (.getfield 85, 3) := by decide +kernel
theorem dX9_slack_18 : decode cX9_slack 18 = .ok (.istore_n 2, 1) := by decide +kernel
theorem dX9_slack_19 : decode cX9_slack 19 = .ok (.aload_n 0, 1) := by decide +kernel
theorem dX9_slack_20 : decode cX9_slack 20 = .ok (.iload_n 1, 1) := by decide +kernel
theorem dX9_slack_21 : decode cX9_slack 21 = .ok (.putfield 85, 3) := by decide +kernel
theorem dX9_slack_24 : decode cX9_slack 24 = .ok (.iload_n 2, 1) := by decide +kernel
theorem dX9_slack_25 : decode cX9_slack 25 = .ok (.ireturn, 1) := by decide +kernel
theorem dX9_like_0 : decode cX9_like 0 = .ok (.aload_n 0, 1) := by decide +kernel
theorem dX9_like_1 : decode cX9_like 1 = .ok (.iload_n 1, 1) := by decide +kernel
theorem dX9_like_2 : decode cX9_like 2 = .ok (.invokevirtual 178, 3) := by decide +kernel
theorem dX9_like_5 : decode cX9_like 5 = .ok (.ifCond .eq 23, 3) := by decide +kernel
theorem dX9_like_8 : decode cX9_like 8 = .ok (.aload_n 0, 1) := by decide +kernel
theorem dX9_like_9 : decode cX9_like 9 = .ok (.iload_n 2, 1) := by decide +kernel
theorem dX9_like_10 : decode cX9_like 10 = .ok (.invokevirtual 188, 3) := by decide +kernel
theorem dX9_like_13 : decode cX9_like 13 = .ok (.ifCond .eq 15, 3) := by decide +kernel
theorem dX9_like_16 : decode cX9_like 16 = .ok (.iload_n 3, 1) := by decide +kernel
theorem dX9_like_17 : decode cX9_like 17 = .ok (.i2l, 1) := by decide +kernel
theorem dX9_like_18 : decode cX9_like 18 = .ok (.lconst 0, 1) := by decide +kernel
theorem dX9_like_19 : decode cX9_like 19 = .ok (.ldc2_w 198, 3) := by decide +kernel
theorem dX9_like_22 : decode cX9_like 22 = .ok (.invokestatic 93, 3) := by decide +kernel
theorem dX9_like_25 : decode cX9_like 25 = .ok (.ifCond .ne 5, 3) := by decide +kernel
theorem dX9_like_28 : decode cX9_like 28 = .ok (.iconst (-1), 1) := by decide +kernel
theorem dX9_like_29 : decode cX9_like 29 = .ok (.ireturn, 1) := by decide +kernel
theorem dX9_like_30 : decode cX9_like 30 = .ok (.aload_n 0, 1) := by decide +kernel
theorem dX9_like_31 : decode cX9_like 31 = .ok (.getfield 7, 3) := by decide +kernel
theorem dX9_like_34 : decode cX9_like 34 = .ok (.bipush 119, 2) := by decide +kernel
theorem dX9_like_36 : decode cX9_like 36 = .ok (.bipush 10, 2) := by decide +kernel
theorem dX9_like_38 : decode cX9_like 38 = .ok (.iload_n 1, 1) := by decide +kernel
theorem dX9_like_39 : decode cX9_like 39 = .ok (.imul, 1) := by decide +kernel
theorem dX9_like_40 : decode cX9_like 40 = .ok (.iadd, 1) := by decide +kernel
theorem dX9_like_41 : decode cX9_like 41 = .ok (.iload_n 2, 1) := by decide +kernel
theorem dX9_like_42 : decode cX9_like 42 = .ok (.iadd, 1) := by decide +kernel
theorem dX9_like_43 : decode cX9_like 43 = .ok (.iaload, 1) := by decide +kernel
theorem dX9_like_44 : decode cX9_like 44 = .ok (.istore 4, 2) := by decide +kernel
theorem dX9_like_46 : decode cX9_like 46 = .ok (.aload_n 0, 1) := by decide +kernel
theorem dX9_like_47 : decode cX9_like 47 = .ok (.getfield 7, 3) := by decide +kernel
theorem dX9_like_50 : decode cX9_like 50 = .ok (.bipush 119, 2) := by decide +kernel
theorem dX9_like_52 : decode cX9_like 52 = .ok (.bipush 10, 2) := by decide +kernel
theorem dX9_like_54 : decode cX9_like 54 = .ok (.iload_n 1, 1) := by decide +kernel
theorem dX9_like_55 : decode cX9_like 55 = .ok (.imul, 1) := by decide +kernel
theorem dX9_like_56 : decode cX9_like 56 = .ok (.iadd, 1) := by decide +kernel
theorem dX9_like_57 : decode cX9_like 57 = .ok (.iload_n 2, 1) := by decide +kernel
theorem dX9_like_58 : decode cX9_like 58 = .ok (.iadd, 1) := by decide +kernel
theorem dX9_like_59 : decode cX9_like 59 = .ok (.iload_n 3, 1) := by decide +kernel
theorem dX9_like_60 : decode cX9_like 60 = .ok (.iastore, 1) := by decide +kernel
theorem dX9_like_61 : decode cX9_like 61 = .ok (.iload 4, 2) := by decide +kernel
theorem dX9_like_63 : decode cX9_like 63 = .ok (.ireturn, 1) := by decide +kernel
theorem dX9_isOut_0 : decode cX9_isOut 0 = .ok (.aload_n 0, 1) := by decide +kernel
theorem dX9_isOut_1 : decode cX9_isOut 1 = .ok (.iload_n 1, 1) := by decide +kernel
theorem dX9_isOut_2 : decode cX9_isOut 2 = .ok (.iconst 1, 1) := by decide +kernel
theorem dX9_isOut_3 : decode cX9_isOut 3 = .ok (.invokevirtual 172, 3) := by decide +kernel
theorem dX9_isOut_6 : decode cX9_isOut 6 = .ok (.iconst 1, 1) := by decide +kernel
theorem dX9_isOut_7 : decode cX9_isOut 7 = .ok (.if_icmp .eq 13, 3) := by decide +kernel
theorem dX9_isOut_10 : decode cX9_isOut 10 = .ok (.aload_n 0, 1) := by decide +kernel
theorem dX9_isOut_11 : decode cX9_isOut 11 = .ok (.iload_n 1, 1) := by decide +kernel
theorem dX9_isOut_12 : decode cX9_isOut 12 = .ok (.iconst 1, 1) := by decide +kernel
theorem dX9_isOut_13 : decode cX9_isOut 13 = .ok (.invokevirtual 172, 3) := by decide +kernel
theorem dX9_isOut_16 : decode cX9_isOut 16 = .ok (.iconst 3, 1) := by decide +kernel
theorem dX9_isOut_17 : decode cX9_isOut 17 = .ok (.if_icmp .ne 7, 3) := by decide +kernel
theorem dX9_isOut_20 : decode cX9_isOut 20 = .ok (.iconst 2, 1) := by decide +kernel
theorem dX9_isOut_21 : decode cX9_isOut 21 = .ok (.goto 4, 3) := by decide +kernel
theorem dX9_isOut_24 : decode cX9_isOut 24 = .ok (.iconst 1, 1) := by decide +kernel
theorem dX9_isOut_25 : decode cX9_isOut 25 = .ok (.istore_n 2, 1) := by decide +kernel
theorem dX9_isOut_26 : decode cX9_isOut 26 = .ok (.aload_n 0, 1) := by decide +kernel
theorem dX9_isOut_27 : decode cX9_isOut 27 = .ok (.iload_n 1, 1) := by decide +kernel
theorem dX9_isOut_28 : decode cX9_isOut 28 = .ok (.iconst 4, 1) := by decide +kernel
theorem dX9_isOut_29 : decode cX9_isOut 29 = .ok (.invokevirtual 172, 3) := by decide +kernel
theorem dX9_isOut_32 : decode cX9_isOut 32 = .ok (.iload_n 2, 1) := by decide +kernel
theorem dX9_isOut_33 : decode cX9_isOut 33 = .ok (.aload_n 0, 1) := by decide +kernel
theorem dX9_isOut_34 : decode cX9_isOut 34 = .ok (.iload_n 1, 1) := by decide +kernel
theorem dX9_isOut_35 : decode cX9_isOut 35 = .ok (.iconst 3, 1) := by decide +kernel
theorem dX9_isOut_36 : decode cX9_isOut 36 = .ok (.invokevirtual 172, 3) := by decide +kernel
theorem dX9_isOut_39 : decode cX9_isOut 39 = .ok (.imul, 1) := by decide +kernel
theorem dX9_isOut_40 : decode cX9_isOut 40 = .ok (.if_icmp .lt 7, 3) := by decide +kernel
theorem dX9_isOut_43 : decode cX9_isOut 43 = .ok (.iconst 1, 1) := by decide +kernel
theorem dX9_isOut_44 : decode cX9_isOut 44 = .ok (.goto 4, 3) := by decide +kernel
theorem dX9_isOut_47 : decode cX9_isOut 47 = .ok (.iconst 0, 1) := by decide +kernel
theorem dX9_isOut_48 : decode cX9_isOut 48 = .ok (.ireturn, 1) := by decide +kernel
theorem dX9_fitOf_0 : decode cX9_fitOf 0 = .ok (.aload_n 0, 1) := by decide +kernel
theorem dX9_fitOf_1 : decode cX9_fitOf 1 = .ok (.getfield 7, 3) := by decide +kernel
theorem dX9_fitOf_4 : decode cX9_fitOf 4 = .ok (.iload_n 1, 1) := by decide +kernel
theorem dX9_fitOf_5 : decode cX9_fitOf 5 = .ok (.iconst 1, 1) := by decide +kernel
theorem dX9_fitOf_6 : decode cX9_fitOf 6 = .ok (.iadd, 1) := by decide +kernel
theorem dX9_fitOf_7 : decode cX9_fitOf 7 = .ok (.iaload, 1) := by decide +kernel
theorem dX9_fitOf_8 : decode cX9_fitOf 8 = .ok (.istore 4, 2) := by decide +kernel
theorem dX9_fitOf_10 : decode cX9_fitOf 10 = .ok (.iload 4, 2) := by decide +kernel
theorem dX9_fitOf_12 : decode cX9_fitOf 12 = .ok (.iconst 1, 1) := by decide +kernel
theorem dX9_fitOf_13 : decode cX9_fitOf 13 = .ok (.if_icmp .eq 9, 3) := by decide +kernel
theorem dX9_fitOf_16 : decode cX9_fitOf 16 = .ok (.iload 4, 2) := by decide +kernel
theorem dX9_fitOf_18 : decode cX9_fitOf 18 = .ok (.iconst 3, 1) := by decide +kernel
theorem dX9_fitOf_19 : decode cX9_fitOf 19 = .ok (.if_icmp .ne 7, 3) := by decide +kernel
theorem dX9_fitOf_22 : decode cX9_fitOf 22 = .ok (.iconst 2, 1) := by decide +kernel
theorem dX9_fitOf_23 : decode cX9_fitOf 23 = .ok (.goto 4, 3) := by decide +kernel
theorem dX9_fitOf_26 : decode cX9_fitOf 26 = .ok (.iconst 1, 1) := by decide +kernel
theorem dX9_fitOf_27 : decode cX9_fitOf 27 = .ok (.istore 5, 2) := by decide +kernel
theorem dX9_fitOf_29 : decode cX9_fitOf 29 = .ok (.aload_n 0, 1) := by decide +kernel
theorem dX9_fitOf_30 : decode cX9_fitOf 30 = .ok (.getfield 7, 3) := by decide +kernel
theorem dX9_fitOf_33 : decode cX9_fitOf 33 = .ok (.iload_n 1, 1) := by decide +kernel
theorem dX9_fitOf_34 : decode cX9_fitOf 34 = .ok (.iconst 4, 1) := by decide +kernel
theorem dX9_fitOf_35 : decode cX9_fitOf 35 = .ok (.iadd, 1) := by decide +kernel
theorem dX9_fitOf_36 : decode cX9_fitOf 36 = .ok (.iaload, 1) := by decide +kernel
theorem dX9_fitOf_37 : decode cX9_fitOf 37 = .ok (.iload 5, 2) := by decide +kernel
theorem dX9_fitOf_39 : decode cX9_fitOf 39 = .ok (.aload_n 0, 1) := by decide +kernel
theorem dX9_fitOf_40 : decode cX9_fitOf 40 = .ok (.getfield 7, 3) := by decide +kernel
theorem dX9_fitOf_43 : decode cX9_fitOf 43 = .ok (.iload_n 1, 1) := by decide +kernel
theorem dX9_fitOf_44 : decode cX9_fitOf 44 = .ok (.iconst 3, 1) := by decide +kernel
theorem dX9_fitOf_45 : decode cX9_fitOf 45 = .ok (.iadd, 1) := by decide +kernel
theorem dX9_fitOf_46 : decode cX9_fitOf 46 = .ok (.iaload, 1) := by decide +kernel
theorem dX9_fitOf_47 : decode cX9_fitOf 47 = .ok (.imul, 1) := by decide +kernel
theorem dX9_fitOf_48 : decode cX9_fitOf 48 = .ok (.if_icmp .ge 22, 3) := by decide +kernel
theorem dX9_fitOf_51 : decode cX9_fitOf 51 = .ok (.iload 4, 2) := by decide +kernel
theorem dX9_fitOf_53 : decode cX9_fitOf 53 = .ok (.iconst 4, 1) := by decide +kernel
theorem dX9_fitOf_54 : decode cX9_fitOf 54 = .ok (.if_icmp .ne 18, 3) := by decide +kernel
theorem dX9_fitOf_57 : decode cX9_fitOf 57 = .ok (.aload_n 0, 1) := by decide +kernel
theorem dX9_fitOf_58 : decode cX9_fitOf 58 = .ok (.getfield 7, 3) := by decide +kernel
theorem dX9_fitOf_61 : decode cX9_fitOf 61 = .ok (.iload_n 1, 1) := by decide +kernel
theorem dX9_fitOf_62 : decode cX9_fitOf 62 = .ok (.bipush 6, 2) := by decide +kernel
theorem dX9_fitOf_64 : decode cX9_fitOf 64 = .ok (.iadd, 1) := by decide +kernel
theorem dX9_fitOf_65 : decode cX9_fitOf 65 = .ok (.iaload, 1) := by decide +kernel
theorem dX9_fitOf_66 : decode cX9_fitOf 66 = .ok (.iload_n 2, 1) := by decide +kernel
theorem dX9_fitOf_67 : decode cX9_fitOf 67 = .ok (.if_icmp .eq 5, 3) := by decide +kernel
theorem dX9_fitOf_70 : decode cX9_fitOf 70 = .ok (.iconst 0, 1) := by decide +kernel
theorem dX9_fitOf_71 : decode cX9_fitOf 71 = .ok (.ireturn, 1) := by decide +kernel
theorem dX9_fitOf_72 : decode cX9_fitOf 72 = .ok (.aload_n 0, 1) := by decide +kernel
theorem dX9_fitOf_73 : decode cX9_fitOf 73 = .ok (.getfield 7, 3) := by decide +kernel
theorem dX9_fitOf_76 : decode cX9_fitOf 76 = .ok (.iload_n 1, 1) := by decide +kernel
theorem dX9_fitOf_77 : decode cX9_fitOf 77 = .ok (.iconst 2, 1) := by decide +kernel
theorem dX9_fitOf_78 : decode cX9_fitOf 78 = .ok (.iadd, 1) := by decide +kernel
theorem dX9_fitOf_79 : decode cX9_fitOf 79 = .ok (.iaload, 1) := by decide +kernel
theorem dX9_fitOf_80 : decode cX9_fitOf 80 = .ok (.i2l, 1) := by decide +kernel
theorem dX9_fitOf_81 : decode cX9_fitOf 81 = .ok (.iload_n 3, 1) := by decide +kernel
theorem dX9_fitOf_82 : decode cX9_fitOf 82 = .ok (.i2l, 1) := by decide +kernel
theorem dX9_fitOf_83 : decode cX9_fitOf 83 = .ok (.iload_n 3, 1) := by decide +kernel
theorem dX9_fitOf_84 : decode cX9_fitOf 84 = .ok (.aload_n 0, 1) := by decide +kernel
theorem dX9_fitOf_85 : decode cX9_fitOf 85 = .ok (.getfield 85, 3) := by decide +kernel
theorem dX9_fitOf_88 : decode cX9_fitOf 88 = .ok (.iadd, 1) := by decide +kernel
theorem dX9_fitOf_89 : decode cX9_fitOf 89 = .ok (.i2l, 1) := by decide +kernel
theorem dX9_fitOf_90 : decode cX9_fitOf 90 = .ok (.invokestatic 93, 3) := by decide +kernel
theorem dX9_fitOf_93 : decode cX9_fitOf 93 = .ok (.ifCond .eq 5, 3) := by decide +kernel
theorem dX9_fitOf_96 : decode cX9_fitOf 96 = .ok (.iconst 1, 1) := by decide +kernel
theorem dX9_fitOf_97 : decode cX9_fitOf 97 = .ok (.ireturn, 1) := by decide +kernel
theorem dX9_fitOf_98 : decode cX9_fitOf 98 = .ok (.iload 4, 2) := by decide +kernel
theorem dX9_fitOf_100 : decode cX9_fitOf 100 = .ok (.i2l, 1) := by decide +kernel
theorem dX9_fitOf_101 : decode cX9_fitOf 101 = .ok (.ldc2_w 182, 3) := by decide +kernel
theorem dX9_fitOf_104 : decode cX9_fitOf 104 = .ok (.ldc2_w 200, 3) := by decide +kernel
theorem dX9_fitOf_107 : decode cX9_fitOf 107 = .ok (.invokestatic 93, 3) := by decide +kernel
theorem dX9_fitOf_110 : decode cX9_fitOf 110 = .ok (.ifCond .eq 44, 3) := by decide +kernel
theorem dX9_fitOf_113 : decode cX9_fitOf 113 = .ok (.aload_n 0, 1) := by decide +kernel
theorem dX9_fitOf_114 : decode cX9_fitOf 114 = .ok (.getfield 7, 3) := by decide +kernel
theorem dX9_fitOf_117 : decode cX9_fitOf 117 = .ok (.iload_n 1, 1) := by decide +kernel
theorem dX9_fitOf_118 : decode cX9_fitOf 118 = .ok (.iconst 5, 1) := by decide +kernel
theorem dX9_fitOf_119 : decode cX9_fitOf 119 = .ok (.iadd, 1) := by decide +kernel
theorem dX9_fitOf_120 : decode cX9_fitOf 120 = .ok (.iaload, 1) := by decide +kernel
theorem dX9_fitOf_121 : decode cX9_fitOf 121 = .ok (.ifCond .ne 33, 3) := by decide +kernel
theorem dX9_fitOf_124 : decode cX9_fitOf 124 = .ok (.aload_n 0, 1) := by decide +kernel
theorem dX9_fitOf_125 : decode cX9_fitOf 125 = .ok (.getfield 7, 3) := by decide +kernel
theorem dX9_fitOf_128 : decode cX9_fitOf 128 = .ok (.iload_n 1, 1) := by decide +kernel
theorem dX9_fitOf_129 : decode cX9_fitOf 129 = .ok (.iconst 2, 1) := by decide +kernel
theorem dX9_fitOf_130 : decode cX9_fitOf 130 = .ok (.iadd, 1) := by decide +kernel
theorem dX9_fitOf_131 : decode cX9_fitOf 131 = .ok (.iaload, 1) := by decide +kernel
theorem dX9_fitOf_132 : decode cX9_fitOf 132 = .ok (.iconst 2, 1) := by decide +kernel
theorem dX9_fitOf_133 : decode cX9_fitOf 133 = .ok (.iadd, 1) := by decide +kernel
theorem dX9_fitOf_134 : decode cX9_fitOf 134 = .ok (.i2l, 1) := by decide +kernel
theorem dX9_fitOf_135 : decode cX9_fitOf 135 = .ok (.iload_n 3, 1) := by decide +kernel
theorem dX9_fitOf_136 : decode cX9_fitOf 136 = .ok (.i2l, 1) := by decide +kernel
theorem dX9_fitOf_137 : decode cX9_fitOf 137 = .ok (.iload_n 3, 1) := by decide +kernel
theorem dX9_fitOf_138 : decode cX9_fitOf 138 = .ok (.aload_n 0, 1) := by decide +kernel
theorem dX9_fitOf_139 : decode cX9_fitOf 139 = .ok (.getfield 85, 3) := by decide +kernel
theorem dX9_fitOf_142 : decode cX9_fitOf 142 = .ok (.iadd, 1) := by decide +kernel
theorem dX9_fitOf_143 : decode cX9_fitOf 143 = .ok (.i2l, 1) := by decide +kernel
theorem dX9_fitOf_144 : decode cX9_fitOf 144 = .ok (.invokestatic 93, 3) := by decide +kernel
theorem dX9_fitOf_147 : decode cX9_fitOf 147 = .ok (.ifCond .eq 7, 3) := by decide +kernel
theorem dX9_fitOf_150 : decode cX9_fitOf 150 = .ok (.iconst 2, 1) := by decide +kernel
theorem dX9_fitOf_151 : decode cX9_fitOf 151 = .ok (.goto 4, 3) := by decide +kernel
theorem dX9_fitOf_154 : decode cX9_fitOf 154 = .ok (.iconst 0, 1) := by decide +kernel
theorem dX9_fitOf_155 : decode cX9_fitOf 155 = .ok (.ireturn, 1) := by decide +kernel
theorem dX9_fitNow_0 : decode cX9_fitNow 0 = .ok (.aload_n 0, 1) := by decide +kernel
theorem dX9_fitNow_1 : decode cX9_fitNow 1 = .ok (.bipush 42, 2) := by decide +kernel
theorem dX9_fitNow_3 : decode cX9_fitNow 3 = .ok (.bipush 7, 2) := by decide +kernel
theorem dX9_fitNow_5 : decode cX9_fitNow 5 = .ok (.iload_n 2, 1) := by decide +kernel
theorem dX9_fitNow_6 : decode cX9_fitNow 6 = .ok (.imul, 1) := by decide +kernel
theorem dX9_fitNow_7 : decode cX9_fitNow 7 = .ok (.iadd, 1) := by decide +kernel
theorem dX9_fitNow_8 : decode cX9_fitNow 8 = .ok (.iload_n 1, 1) := by decide +kernel
theorem dX9_fitNow_9 : decode cX9_fitNow 9 = .ok (.aload_n 0, 1) := by decide +kernel
theorem dX9_fitNow_10 : decode cX9_fitNow 10 = .ok (.getfield 7, 3) := by decide +kernel
theorem dX9_fitNow_13 : decode cX9_fitNow 13 = .ok (.iconst 1, 1) := by decide +kernel
theorem dX9_fitNow_14 : decode cX9_fitNow 14 = .ok (.iconst 5, 1) := by decide +kernel
theorem dX9_fitNow_15 : decode cX9_fitNow 15 = .ok (.iload_n 1, 1) := by decide +kernel
theorem dX9_fitNow_16 : decode cX9_fitNow 16 = .ok (.imul, 1) := by decide +kernel
theorem dX9_fitNow_17 : decode cX9_fitNow 17 = .ok (.iadd, 1) := by decide +kernel
theorem dX9_fitNow_18 : decode cX9_fitNow 18 = .ok (.iaload, 1) := by decide +kernel
theorem dX9_fitNow_19 : decode cX9_fitNow 19 = .ok (.invokevirtual 202, 3) := by decide +kernel
theorem dX9_fitNow_22 : decode cX9_fitNow 22 = .ok (.ireturn, 1) := by decide +kernel
theorem dX9_fits_0 : decode cX9_fits 0 = .ok (.aload_n 0, 1) := by decide +kernel
theorem dX9_fits_1 : decode cX9_fits 1 = .ok (.iload_n 1, 1) := by decide +kernel
theorem dX9_fits_2 : decode cX9_fits 2 = .ok (.invokevirtual 178, 3) := by decide +kernel
theorem dX9_fits_5 : decode cX9_fits 5 = .ok (.ifCond .eq 20, 3) := by decide +kernel
theorem dX9_fits_8 : decode cX9_fits 8 = .ok (.aload_n 0, 1) := by decide +kernel
theorem dX9_fits_9 : decode cX9_fits 9 = .ok (.iload_n 2, 1) := by decide +kernel
theorem dX9_fits_10 : decode cX9_fits 10 = .ok (.invokevirtual 188, 3) := by decide +kernel
theorem dX9_fits_13 : decode cX9_fits 13 = .ok (.ifCond .eq 12, 3) := by decide +kernel
theorem dX9_fits_16 : decode cX9_fits 16 = .ok (.aload_n 0, 1) := by decide +kernel
theorem dX9_fits_17 : decode cX9_fits 17 = .ok (.iload_n 1, 1) := by decide +kernel
theorem dX9_fits_18 : decode cX9_fits 18 = .ok (.iload_n 2, 1) := by decide +kernel
theorem dX9_fits_19 : decode cX9_fits 19 = .ok (.invokevirtual 206, 3) := by decide +kernel
theorem dX9_fits_22 : decode cX9_fits 22 = .ok (.goto 4, 3) := by decide +kernel
theorem dX9_fits_25 : decode cX9_fits 25 = .ok (.iconst (-1), 1) := by decide +kernel
theorem dX9_fits_26 : decode cX9_fits 26 = .ok (.ireturn, 1) := by decide +kernel
theorem dX9_takesOff_0 : decode cX9_takesOff 0 = .ok (.aload_n 0, 1) := by decide +kernel
theorem dX9_takesOff_1 : decode cX9_takesOff 1 = .ok (.getfield 7, 3) := by decide +kernel
theorem dX9_takesOff_4 : decode cX9_takesOff 4 = .ok (.iconst 1, 1) := by decide +kernel
theorem dX9_takesOff_5 : decode cX9_takesOff 5 = .ok (.iconst 5, 1) := by decide +kernel
theorem dX9_takesOff_6 : decode cX9_takesOff 6 = .ok (.iload_n 1, 1) := by decide +kernel
theorem dX9_takesOff_7 : decode cX9_takesOff 7 = .ok (.imul, 1) := by decide +kernel
theorem dX9_takesOff_8 : decode cX9_takesOff 8 = .ok (.iadd, 1) := by decide +kernel
theorem dX9_takesOff_9 : decode cX9_takesOff 9 = .ok (.iconst 3, 1) := by decide +kernel
theorem dX9_takesOff_10 : decode cX9_takesOff 10 = .ok (.iadd, 1) := by decide +kernel
theorem dX9_takesOff_11 : decode cX9_takesOff 11 = .ok (.iload_n 2, 1) := by decide +kernel
theorem dX9_takesOff_12 : decode cX9_takesOff 12 = .ok (.iadd, 1) := by decide +kernel
theorem dX9_takesOff_13 : decode cX9_takesOff 13 = .ok (.bipush (-4), 2) := by decide +kernel
theorem dX9_takesOff_15 : decode cX9_takesOff 15 = .ok (.iastore, 1) := by decide +kernel
theorem dX9_takesOff_16 : decode cX9_takesOff 16 = .ok (.return_, 1) := by decide +kernel
theorem dX9_putsOn_0 : decode cX9_putsOn 0 = .ok (.aload_n 0, 1) := by decide +kernel
theorem dX9_putsOn_1 : decode cX9_putsOn 1 = .ok (.iload_n 1, 1) := by decide +kernel
theorem dX9_putsOn_2 : decode cX9_putsOn 2 = .ok (.iload_n 2, 1) := by decide +kernel
theorem dX9_putsOn_3 : decode cX9_putsOn 3 = .ok (.invokevirtual 206, 3) := by decide +kernel
theorem dX9_putsOn_6 : decode cX9_putsOn 6 = .ok (.iconst 2, 1) := by decide +kernel
theorem dX9_putsOn_7 : decode cX9_putsOn 7 = .ok (.if_icmp .ne 36, 3) := by decide +kernel
theorem dX9_putsOn_10 : decode cX9_putsOn 10 = .ok (.aload_n 0, 1) := by decide +kernel
theorem dX9_putsOn_11 : decode cX9_putsOn 11 = .ok (.getfield 7, 3) := by decide +kernel
theorem dX9_putsOn_14 : decode cX9_putsOn 14 = .ok (.bipush 42, 2) := by decide +kernel
theorem dX9_putsOn_16 : decode cX9_putsOn 16 = .ok (.bipush 7, 2) := by decide +kernel
theorem dX9_putsOn_18 : decode cX9_putsOn 18 = .ok (.iload_n 2, 1) := by decide +kernel
theorem dX9_putsOn_19 : decode cX9_putsOn 19 = .ok (.imul, 1) := by decide +kernel
theorem dX9_putsOn_20 : decode cX9_putsOn 20 = .ok (.iadd, 1) := by decide +kernel
theorem dX9_putsOn_21 : decode cX9_putsOn 21 = .ok (.iconst 2, 1) := by decide +kernel
theorem dX9_putsOn_22 : decode cX9_putsOn 22 = .ok (.iadd, 1) := by decide +kernel
theorem dX9_putsOn_23 : decode cX9_putsOn 23 = .ok (.dup2, 1) := by decide +kernel
theorem dX9_putsOn_24 : decode cX9_putsOn 24 = .ok (.iaload, 1) := by decide +kernel
theorem dX9_putsOn_25 : decode cX9_putsOn 25 = .ok (.iconst 2, 1) := by decide +kernel
theorem dX9_putsOn_26 : decode cX9_putsOn 26 = .ok (.iadd, 1) := by decide +kernel
theorem dX9_putsOn_27 : decode cX9_putsOn 27 = .ok (.iastore, 1) := by decide +kernel
theorem dX9_putsOn_28 : decode cX9_putsOn 28 = .ok (.aload_n 0, 1) := by decide +kernel
theorem dX9_putsOn_29 : decode cX9_putsOn 29 = .ok (.getfield 7, 3) := by decide +kernel
theorem dX9_putsOn_32 : decode cX9_putsOn 32 = .ok (.bipush 42, 2) := by decide +kernel
theorem dX9_putsOn_34 : decode cX9_putsOn 34 = .ok (.bipush 7, 2) := by decide +kernel
theorem dX9_putsOn_36 : decode cX9_putsOn 36 = .ok (.iload_n 2, 1) := by decide +kernel
theorem dX9_putsOn_37 : decode cX9_putsOn 37 = .ok (.imul, 1) := by decide +kernel
theorem dX9_putsOn_38 : decode cX9_putsOn 38 = .ok (.iadd, 1) := by decide +kernel
theorem dX9_putsOn_39 : decode cX9_putsOn 39 = .ok (.iconst 5, 1) := by decide +kernel
theorem dX9_putsOn_40 : decode cX9_putsOn 40 = .ok (.iadd, 1) := by decide +kernel
theorem dX9_putsOn_41 : decode cX9_putsOn 41 = .ok (.iconst 1, 1) := by decide +kernel
theorem dX9_putsOn_42 : decode cX9_putsOn 42 = .ok (.iastore, 1) := by decide +kernel
theorem dX9_putsOn_43 : decode cX9_putsOn 43 = .ok (.aload_n 0, 1) := by decide +kernel
theorem dX9_putsOn_44 : decode cX9_putsOn 44 = .ok (.getfield 7, 3) := by decide +kernel
theorem dX9_putsOn_47 : decode cX9_putsOn 47 = .ok (.iconst 1, 1) := by decide +kernel
theorem dX9_putsOn_48 : decode cX9_putsOn 48 = .ok (.iconst 5, 1) := by decide +kernel
theorem dX9_putsOn_49 : decode cX9_putsOn 49 = .ok (.iload_n 1, 1) := by decide +kernel
theorem dX9_putsOn_50 : decode cX9_putsOn 50 = .ok (.imul, 1) := by decide +kernel
theorem dX9_putsOn_51 : decode cX9_putsOn 51 = .ok (.iadd, 1) := by decide +kernel
theorem dX9_putsOn_52 : decode cX9_putsOn 52 = .ok (.iconst 3, 1) := by decide +kernel
end
section
theorem dX9_putsOn_53 : decode cX9_putsOn 53 = .ok (.iadd, 1) := by decide +kernel
theorem dX9_putsOn_54 : decode cX9_putsOn 54 = .ok (.aload_n 0, 1) := by decide +kernel
theorem dX9_putsOn_55 : decode cX9_putsOn 55 = .ok (.iload_n 2, 1) := by decide +kernel
theorem dX9_putsOn_56 : decode cX9_putsOn 56 = .ok (.iconst 0, 1) := by decide +kernel
theorem dX9_putsOn_57 : decode cX9_putsOn 57 = .ok (.invokevirtual 172, 3) := by decide +kernel
theorem dX9_putsOn_60 : decode cX9_putsOn 60 = .ok (.iadd, 1) := by decide +kernel
theorem dX9_putsOn_61 : decode cX9_putsOn 61 = .ok (.iload_n 2, 1) := by decide +kernel
theorem dX9_putsOn_62 : decode cX9_putsOn 62 = .ok (.iastore, 1) := by decide +kernel
theorem dX9_putsOn_63 : decode cX9_putsOn 63 = .ok (.return_, 1) := by decide +kernel
theorem dX9_wear_0 : decode cX9_wear 0 = .ok (.aload_n 0, 1) := by decide +kernel
theorem dX9_wear_1 : decode cX9_wear 1 = .ok (.iload_n 1, 1) := by decide +kernel
theorem dX9_wear_2 : decode cX9_wear 2 = .ok (.invokevirtual 178, 3) := by decide +kernel
theorem dX9_wear_5 : decode cX9_wear 5 = .ok (.ifCond .eq 11, 3) := by decide +kernel
theorem dX9_wear_8 : decode cX9_wear 8 = .ok (.aload_n 0, 1) := by decide +kernel
theorem dX9_wear_9 : decode cX9_wear 9 = .ok (.iload_n 2, 1) := by decide +kernel
theorem dX9_wear_10 : decode cX9_wear 10 = .ok (.invokevirtual 188, 3) := by decide +kernel
theorem dX9_wear_13 : decode cX9_wear 13 = .ok (.ifCond .ne 5, 3) := by decide +kernel
theorem dX9_wear_16 : decode cX9_wear 16 = .ok (.iconst (-1), 1) := by decide +kernel
theorem dX9_wear_17 : decode cX9_wear 17 = .ok (.ireturn, 1) := by decide +kernel
theorem dX9_wear_18 : decode cX9_wear 18 = .ok (.aload_n 0, 1) := by decide +kernel
theorem dX9_wear_19 : decode cX9_wear 19 = .ok (.iload_n 1, 1) := by decide +kernel
theorem dX9_wear_20 : decode cX9_wear 20 = .ok (.iload_n 2, 1) := by decide +kernel
theorem dX9_wear_21 : decode cX9_wear 21 = .ok (.invokevirtual 206, 3) := by decide +kernel
theorem dX9_wear_24 : decode cX9_wear 24 = .ok (.ifCond .ne 6, 3) := by decide +kernel
theorem dX9_wear_27 : decode cX9_wear 27 = .ok (.bipush (-2), 2) := by decide +kernel
theorem dX9_wear_29 : decode cX9_wear 29 = .ok (.ireturn, 1) := by decide +kernel
theorem dX9_wear_30 : decode cX9_wear 30 = .ok (.aload_n 0, 1) := by decide +kernel
theorem dX9_wear_31 : decode cX9_wear 31 = .ok (.iload_n 1, 1) := by decide +kernel
theorem dX9_wear_32 : decode cX9_wear 32 = .ok (.aload_n 0, 1) := by decide +kernel
theorem dX9_wear_33 : decode cX9_wear 33 = .ok (.iload_n 2, 1) := by decide +kernel
theorem dX9_wear_34 : decode cX9_wear 34 = .ok (.iconst 0, 1) := by decide +kernel
theorem dX9_wear_35 : decode cX9_wear 35 = .ok (.invokevirtual 172, 3) := by decide +kernel
theorem dX9_wear_38 : decode cX9_wear 38 = .ok (.invokevirtual 175, 3) := by decide +kernel
theorem dX9_wear_41 : decode cX9_wear 41 = .ok (.istore_n 3, 1) := by decide +kernel
theorem dX9_wear_42 : decode cX9_wear 42 = .ok (.aload_n 0, 1) := by decide +kernel
theorem dX9_wear_43 : decode cX9_wear 43 = .ok (.iload_n 2, 1) := by decide +kernel
theorem dX9_wear_44 : decode cX9_wear 44 = .ok (.invokevirtual 193, 3) := by decide +kernel
theorem dX9_wear_47 : decode cX9_wear 47 = .ok (.istore 4, 2) := by decide +kernel
theorem dX9_wear_49 : decode cX9_wear 49 = .ok (.iload 4, 2) := by decide +kernel
theorem dX9_wear_51 : decode cX9_wear 51 = .ok (.bipush (-4), 2) := by decide +kernel
theorem dX9_wear_53 : decode cX9_wear 53 = .ok (.if_icmp .eq 15, 3) := by decide +kernel
theorem dX9_wear_56 : decode cX9_wear 56 = .ok (.aload_n 0, 1) := by decide +kernel
theorem dX9_wear_57 : decode cX9_wear 57 = .ok (.iload 4, 2) := by decide +kernel
theorem dX9_wear_59 : decode cX9_wear 59 = .ok (.aload_n 0, 1) := by decide +kernel
theorem dX9_wear_60 : decode cX9_wear 60 = .ok (.iload_n 2, 1) := by decide +kernel
theorem dX9_wear_61 : decode cX9_wear 61 = .ok (.iconst 0, 1) := by decide +kernel
theorem dX9_wear_62 : decode cX9_wear 62 = .ok (.invokevirtual 172, 3) := by decide +kernel
theorem dX9_wear_65 : decode cX9_wear 65 = .ok (.invokevirtual 209, 3) := by decide +kernel
theorem dX9_wear_68 : decode cX9_wear 68 = .ok (.aload_n 0, 1) := by decide +kernel
theorem dX9_wear_69 : decode cX9_wear 69 = .ok (.iload_n 1, 1) := by decide +kernel
theorem dX9_wear_70 : decode cX9_wear 70 = .ok (.iload_n 2, 1) := by decide +kernel
theorem dX9_wear_71 : decode cX9_wear 71 = .ok (.invokevirtual 213, 3) := by decide +kernel
theorem dX9_wear_74 : decode cX9_wear 74 = .ok (.iload_n 3, 1) := by decide +kernel
theorem dX9_wear_75 : decode cX9_wear 75 = .ok (.ireturn, 1) := by decide +kernel
theorem dX9_doff_0 : decode cX9_doff 0 = .ok (.aload_n 0, 1) := by decide +kernel
theorem dX9_doff_1 : decode cX9_doff 1 = .ok (.iload_n 1, 1) := by decide +kernel
theorem dX9_doff_2 : decode cX9_doff 2 = .ok (.invokevirtual 178, 3) := by decide +kernel
theorem dX9_doff_5 : decode cX9_doff 5 = .ok (.ifCond .eq 10, 3) := by decide +kernel
theorem dX9_doff_8 : decode cX9_doff 8 = .ok (.iload_n 2, 1) := by decide +kernel
theorem dX9_doff_9 : decode cX9_doff 9 = .ok (.invokestatic 216, 3) := by decide +kernel
theorem dX9_doff_12 : decode cX9_doff 12 = .ok (.ifCond .ne 5, 3) := by decide +kernel
theorem dX9_doff_15 : decode cX9_doff 15 = .ok (.iconst (-1), 1) := by decide +kernel
theorem dX9_doff_16 : decode cX9_doff 16 = .ok (.ireturn, 1) := by decide +kernel
theorem dX9_doff_17 : decode cX9_doff 17 = .ok (.aload_n 0, 1) := by decide +kernel
theorem dX9_doff_18 : decode cX9_doff 18 = .ok (.iload_n 1, 1) := by decide +kernel
theorem dX9_doff_19 : decode cX9_doff 19 = .ok (.iload_n 2, 1) := by decide +kernel
theorem dX9_doff_20 : decode cX9_doff 20 = .ok (.invokevirtual 175, 3) := by decide +kernel
theorem dX9_doff_23 : decode cX9_doff 23 = .ok (.istore_n 3, 1) := by decide +kernel
theorem dX9_doff_24 : decode cX9_doff 24 = .ok (.aload_n 0, 1) := by decide +kernel
theorem dX9_doff_25 : decode cX9_doff 25 = .ok (.iload_n 1, 1) := by decide +kernel
theorem dX9_doff_26 : decode cX9_doff 26 = .ok (.iload_n 2, 1) := by decide +kernel
theorem dX9_doff_27 : decode cX9_doff 27 = .ok (.invokevirtual 209, 3) := by decide +kernel
theorem dX9_doff_30 : decode cX9_doff 30 = .ok (.iload_n 3, 1) := by decide +kernel
theorem dX9_doff_31 : decode cX9_doff 31 = .ok (.ireturn, 1) := by decide +kernel
theorem dX9_cold_0 : decode cX9_cold 0 = .ok (.iload_n 1, 1) := by decide +kernel
theorem dX9_cold_1 : decode cX9_cold 1 = .ok (.invokestatic 216, 3) := by decide +kernel
theorem dX9_cold_4 : decode cX9_cold 4 = .ok (.ifCond .ne 5, 3) := by decide +kernel
theorem dX9_cold_7 : decode cX9_cold 7 = .ok (.iconst (-1), 1) := by decide +kernel
theorem dX9_cold_8 : decode cX9_cold 8 = .ok (.ireturn, 1) := by decide +kernel
theorem dX9_cold_9 : decode cX9_cold 9 = .ok (.iconst 0, 1) := by decide +kernel
theorem dX9_cold_10 : decode cX9_cold 10 = .ok (.istore_n 2, 1) := by decide +kernel
theorem dX9_cold_11 : decode cX9_cold 11 = .ok (.iconst 0, 1) := by decide +kernel
theorem dX9_cold_12 : decode cX9_cold 12 = .ok (.istore_n 3, 1) := by decide +kernel
theorem dX9_cold_13 : decode cX9_cold 13 = .ok (.iload_n 3, 1) := by decide +kernel
theorem dX9_cold_14 : decode cX9_cold 14 = .ok (.aload_n 0, 1) := by decide +kernel
theorem dX9_cold_15 : decode cX9_cold 15 = .ok (.getfield 7, 3) := by decide +kernel
theorem dX9_cold_18 : decode cX9_cold 18 = .ok (.iconst 0, 1) := by decide +kernel
theorem dX9_cold_19 : decode cX9_cold 19 = .ok (.iaload, 1) := by decide +kernel
theorem dX9_cold_20 : decode cX9_cold 20 = .ok (.if_icmp .ge 33, 3) := by decide +kernel
theorem dX9_cold_23 : decode cX9_cold 23 = .ok (.iload_n 2, 1) := by decide +kernel
theorem dX9_cold_24 : decode cX9_cold 24 = .ok (.aload_n 0, 1) := by decide +kernel
theorem dX9_cold_25 : decode cX9_cold 25 = .ok (.iload_n 3, 1) := by decide +kernel
theorem dX9_cold_26 : decode cX9_cold 26 = .ok (.iload_n 1, 1) := by decide +kernel
theorem dX9_cold_27 : decode cX9_cold 27 = .ok (.invokevirtual 175, 3) := by decide +kernel
theorem dX9_cold_30 : decode cX9_cold 30 = .ok (.bipush (-4), 2) := by decide +kernel
theorem dX9_cold_32 : decode cX9_cold 32 = .ok (.if_icmp .ne 7, 3) := by decide +kernel
theorem dX9_cold_35 : decode cX9_cold 35 = .ok (.iconst 1, 1) := by decide +kernel
theorem dX9_cold_36 : decode cX9_cold 36 = .ok (.goto 4, 3) := by decide +kernel
theorem dX9_cold_39 : decode cX9_cold 39 = .ok (.iconst 0, 1) := by decide +kernel
theorem dX9_cold_40 : decode cX9_cold 40 = .ok (.invokestatic 219, 3) := by decide +kernel
theorem dX9_cold_43 : decode cX9_cold 43 = .ok (.iload_n 3, 1) := by decide +kernel
theorem dX9_cold_44 : decode cX9_cold 44 = .ok (.ishl, 1) := by decide +kernel
theorem dX9_cold_45 : decode cX9_cold 45 = .ok (.ior, 1) := by decide +kernel
theorem dX9_cold_46 : decode cX9_cold 46 = .ok (.istore_n 2, 1) := by decide +kernel
theorem dX9_cold_47 : decode cX9_cold 47 = .ok (.iinc 3 1, 3) := by decide +kernel
theorem dX9_cold_50 : decode cX9_cold 50 = .ok (.goto (-37), 3) := by decide +kernel
theorem dX9_cold_53 : decode cX9_cold 53 = .ok (.iload_n 2, 1) := by decide +kernel
theorem dX9_cold_54 : decode cX9_cold 54 = .ok (.ireturn, 1) := by decide +kernel
theorem dX9_findCanHave_0 : decode cX9_findCanHave 0 = .ok (.aload_n 0, 1) := by decide +kernel
theorem dX9_findCanHave_1 : decode cX9_findCanHave 1 = .ok (.aload_n 0, 1) := by decide +kernel
theorem dX9_findCanHave_2 : decode cX9_findCanHave 2 = .ok (.getfield 7, 3) := by decide +kernel
theorem dX9_findCanHave_5 : decode cX9_findCanHave 5 = .ok (.iconst 0, 1) := by decide +kernel
theorem dX9_findCanHave_6 : decode cX9_findCanHave 6 = .ok (.iaload, 1) := by decide +kernel
theorem dX9_findCanHave_7 : decode cX9_findCanHave 7 = .ok (.putfield 223, 3) := by decide +kernel
theorem dX9_findCanHave_10 : decode cX9_findCanHave 10 = .ok (.iconst 0, 1) := by decide +kernel
theorem dX9_findCanHave_11 : decode cX9_findCanHave 11 = .ok (.istore_n 2, 1) := by decide +kernel
theorem dX9_findCanHave_12 : decode cX9_findCanHave 12 = .ok (.iload_n 2, 1) := by decide +kernel
theorem dX9_findCanHave_13 : decode cX9_findCanHave 13 = .ok (.aload_n 0, 1) := by decide +kernel
theorem dX9_findCanHave_14 : decode cX9_findCanHave 14 = .ok (.getfield 223, 3) := by decide +kernel
theorem dX9_findCanHave_17 : decode cX9_findCanHave 17 = .ok (.if_icmp .ge 73, 3) := by decide +kernel
theorem dX9_findCanHave_20 : decode cX9_findCanHave 20 = .ok (.aload_n 0, 1) := by decide +kernel
theorem dX9_findCanHave_21 : decode cX9_findCanHave 21 = .ok (.getfield 23, 3) := by decide +kernel
theorem dX9_findCanHave_24 : decode cX9_findCanHave 24 = .ok (.iload_n 2, 1) := by decide +kernel
theorem dX9_findCanHave_25 : decode cX9_findCanHave 25 = .ok (.iconst 0, 1) := by decide +kernel
theorem dX9_findCanHave_26 : decode cX9_findCanHave 26 = .ok (.iastore, 1) := by decide +kernel
theorem dX9_findCanHave_27 : decode cX9_findCanHave 27 = .ok (.iconst 0, 1) := by decide +kernel
theorem dX9_findCanHave_28 : decode cX9_findCanHave 28 = .ok (.istore_n 3, 1) := by decide +kernel
theorem dX9_findCanHave_29 : decode cX9_findCanHave 29 = .ok (.iload_n 3, 1) := by decide +kernel
theorem dX9_findCanHave_30 : decode cX9_findCanHave 30 = .ok (.aload_n 0, 1) := by decide +kernel
theorem dX9_findCanHave_31 : decode cX9_findCanHave 31 = .ok (.getfield 7, 3) := by decide +kernel
theorem dX9_findCanHave_34 : decode cX9_findCanHave 34 = .ok (.bipush 41, 2) := by decide +kernel
theorem dX9_findCanHave_36 : decode cX9_findCanHave 36 = .ok (.iaload, 1) := by decide +kernel
theorem dX9_findCanHave_37 : decode cX9_findCanHave 37 = .ok (.if_icmp .ge 47, 3) := by decide +kernel
theorem dX9_findCanHave_40 : decode cX9_findCanHave 40 = .ok (.aload_n 0, 1) := by decide +kernel
theorem dX9_findCanHave_41 : decode cX9_findCanHave 41 = .ok (.getfield 23, 3) := by decide +kernel
theorem dX9_findCanHave_44 : decode cX9_findCanHave 44 = .ok (.iload_n 2, 1) := by decide +kernel
theorem dX9_findCanHave_45 : decode cX9_findCanHave 45 = .ok (.dup2, 1) := by decide +kernel
theorem dX9_findCanHave_46 : decode cX9_findCanHave 46 = .ok (.iaload, 1) := by decide +kernel
theorem dX9_findCanHave_47 : decode cX9_findCanHave 47 = .ok (.aload_n 0, 1) := by decide +kernel
theorem dX9_findCanHave_48 : decode cX9_findCanHave 48 = .ok (.iload_n 3, 1) := by decide +kernel
theorem dX9_findCanHave_49 : decode cX9_findCanHave 49 = .ok (.iconst 0, 1) := by decide +kernel
theorem dX9_findCanHave_50 : decode cX9_findCanHave 50 = .ok (.invokevirtual 172, 3) := by decide +kernel
theorem dX9_findCanHave_53 : decode cX9_findCanHave 53 = .ok (.iload_n 1, 1) := by decide +kernel
theorem dX9_findCanHave_54 : decode cX9_findCanHave 54 = .ok (.if_icmp .ne 16, 3) := by decide +kernel
theorem dX9_findCanHave_57 : decode cX9_findCanHave 57 = .ok (.aload_n 0, 1) := by decide +kernel
theorem dX9_findCanHave_58 : decode cX9_findCanHave 58 = .ok (.iload_n 2, 1) := by decide +kernel
theorem dX9_findCanHave_59 : decode cX9_findCanHave 59 = .ok (.iload_n 3, 1) := by decide +kernel
theorem dX9_findCanHave_60 : decode cX9_findCanHave 60 = .ok (.invokevirtual 206, 3) := by decide +kernel
theorem dX9_findCanHave_63 : decode cX9_findCanHave 63 = .ok (.ifCond .le 7, 3) := by decide +kernel
theorem dX9_findCanHave_66 : decode cX9_findCanHave 66 = .ok (.iconst 1, 1) := by decide +kernel
theorem dX9_findCanHave_67 : decode cX9_findCanHave 67 = .ok (.goto 4, 3) := by decide +kernel
theorem dX9_findCanHave_70 : decode cX9_findCanHave 70 = .ok (.iconst 0, 1) := by decide +kernel
theorem dX9_findCanHave_71 : decode cX9_findCanHave 71 = .ok (.invokestatic 219, 3) := by decide +kernel
theorem dX9_findCanHave_74 : decode cX9_findCanHave 74 = .ok (.iload_n 3, 1) := by decide +kernel
theorem dX9_findCanHave_75 : decode cX9_findCanHave 75 = .ok (.ishl, 1) := by decide +kernel
theorem dX9_findCanHave_76 : decode cX9_findCanHave 76 = .ok (.ior, 1) := by decide +kernel
theorem dX9_findCanHave_77 : decode cX9_findCanHave 77 = .ok (.iastore, 1) := by decide +kernel
theorem dX9_findCanHave_78 : decode cX9_findCanHave 78 = .ok (.iinc 3 1, 3) := by decide +kernel
theorem dX9_findCanHave_81 : decode cX9_findCanHave 81 = .ok (.goto (-52), 3) := by decide +kernel
theorem dX9_findCanHave_84 : decode cX9_findCanHave 84 = .ok (.iinc 2 1, 3) := by decide +kernel
theorem dX9_findCanHave_87 : decode cX9_findCanHave 87 = .ok (.goto (-75), 3) := by decide +kernel
theorem dX9_findCanHave_90 : decode cX9_findCanHave 90 = .ok (.return_, 1) := by decide +kernel
theorem dX9_getsOne_0 : decode cX9_getsOne 0 = .ok (.iload_n 2, 1) := by decide +kernel
theorem dX9_getsOne_1 : decode cX9_getsOne 1 = .ok (.istore_n 3, 1) := by decide +kernel
theorem dX9_getsOne_2 : decode cX9_getsOne 2 = .ok (.iconst 1, 1) := by decide +kernel
theorem dX9_getsOne_3 : decode cX9_getsOne 3 = .ok (.istore 4, 2) := by decide +kernel
theorem dX9_getsOne_5 : decode cX9_getsOne 5 = .ok (.aload_n 0, 1) := by decide +kernel
theorem dX9_getsOne_6 : decode cX9_getsOne 6 = .ok (.getfield 35, 3) := by decide +kernel
theorem dX9_getsOne_9 : decode cX9_getsOne 9 = .ok (.iconst 0, 1) := by decide +kernel
theorem dX9_getsOne_10 : decode cX9_getsOne 10 = .ok (.iload_n 1, 1) := by decide +kernel
theorem dX9_getsOne_11 : decode cX9_getsOne 11 = .ok (.iastore, 1) := by decide +kernel
theorem dX9_getsOne_12 : decode cX9_getsOne 12 = .ok (.iconst 0, 1) := by decide +kernel
theorem dX9_getsOne_13 : decode cX9_getsOne 13 = .ok (.istore 5, 2) := by decide +kernel
theorem dX9_getsOne_15 : decode cX9_getsOne 15 = .ok (.iload 5, 2) := by decide +kernel
theorem dX9_getsOne_17 : decode cX9_getsOne 17 = .ok (.iload 4, 2) := by decide +kernel
theorem dX9_getsOne_19 : decode cX9_getsOne 19 = .ok (.if_icmp .ge 108, 3) := by decide +kernel
theorem dX9_getsOne_22 : decode cX9_getsOne 22 = .ok (.aload_n 0, 1) := by decide +kernel
theorem dX9_getsOne_23 : decode cX9_getsOne 23 = .ok (.getfield 35, 3) := by decide +kernel
theorem dX9_getsOne_26 : decode cX9_getsOne 26 = .ok (.iload 5, 2) := by decide +kernel
theorem dX9_getsOne_28 : decode cX9_getsOne 28 = .ok (.iaload, 1) := by decide +kernel
theorem dX9_getsOne_29 : decode cX9_getsOne 29 = .ok (.istore 6, 2) := by decide +kernel
theorem dX9_getsOne_31 : decode cX9_getsOne 31 = .ok (.iconst 0, 1) := by decide +kernel
theorem dX9_getsOne_32 : decode cX9_getsOne 32 = .ok (.istore 7, 2) := by decide +kernel
theorem dX9_getsOne_34 : decode cX9_getsOne 34 = .ok (.iload 7, 2) := by decide +kernel
theorem dX9_getsOne_36 : decode cX9_getsOne 36 = .ok (.bipush 20, 2) := by decide +kernel
theorem dX9_getsOne_38 : decode cX9_getsOne 38 = .ok (.if_icmp .ge 83, 3) := by decide +kernel
theorem dX9_getsOne_41 : decode cX9_getsOne 41 = .ok (.aload_n 0, 1) := by decide +kernel
theorem dX9_getsOne_42 : decode cX9_getsOne 42 = .ok (.getfield 23, 3) := by decide +kernel
theorem dX9_getsOne_45 : decode cX9_getsOne 45 = .ok (.iload 6, 2) := by decide +kernel
theorem dX9_getsOne_47 : decode cX9_getsOne 47 = .ok (.iaload, 1) := by decide +kernel
theorem dX9_getsOne_48 : decode cX9_getsOne 48 = .ok (.iload_n 3, 1) := by decide +kernel
theorem dX9_getsOne_49 : decode cX9_getsOne 49 = .ok (.iconst (-1), 1) := by decide +kernel
theorem dX9_getsOne_50 : decode cX9_getsOne 50 = .ok (.ixor, 1) := by decide +kernel
theorem dX9_getsOne_51 : decode cX9_getsOne 51 = .ok (.iand, 1) := by decide +kernel
theorem dX9_getsOne_52 : decode cX9_getsOne 52 = .ok (.iload 7, 2) := by decide +kernel
theorem dX9_getsOne_54 : decode cX9_getsOne 54 = .ok (.ishr, 1) := by decide +kernel
theorem dX9_getsOne_55 : decode cX9_getsOne 55 = .ok (.iconst 1, 1) := by decide +kernel
theorem dX9_getsOne_56 : decode cX9_getsOne 56 = .ok (.iand, 1) := by decide +kernel
theorem dX9_getsOne_57 : decode cX9_getsOne 57 = .ok (.iconst 1, 1) := by decide +kernel
theorem dX9_getsOne_58 : decode cX9_getsOne 58 = .ok (.if_icmp .ne 57, 3) := by decide +kernel
theorem dX9_getsOne_61 : decode cX9_getsOne 61 = .ok (.iload_n 3, 1) := by decide +kernel
theorem dX9_getsOne_62 : decode cX9_getsOne 62 = .ok (.iconst 1, 1) := by decide +kernel
theorem dX9_getsOne_63 : decode cX9_getsOne 63 = .ok (.iload 7, 2) := by decide +kernel
theorem dX9_getsOne_65 : decode cX9_getsOne 65 = .ok (.ishl, 1) := by decide +kernel
theorem dX9_getsOne_66 : decode cX9_getsOne 66 = .ok (.ior, 1) := by decide +kernel
theorem dX9_getsOne_67 : decode cX9_getsOne 67 = .ok (.istore_n 3, 1) := by decide +kernel
theorem dX9_getsOne_68 : decode cX9_getsOne 68 = .ok (.aload_n 0, 1) := by decide +kernel
theorem dX9_getsOne_69 : decode cX9_getsOne 69 = .ok (.getfield 32, 3) := by decide +kernel
theorem dX9_getsOne_72 : decode cX9_getsOne 72 = .ok (.iload 7, 2) := by decide +kernel
theorem dX9_getsOne_74 : decode cX9_getsOne 74 = .ok (.iload 6, 2) := by decide +kernel
theorem dX9_getsOne_76 : decode cX9_getsOne 76 = .ok (.iastore, 1) := by decide +kernel
theorem dX9_getsOne_77 : decode cX9_getsOne 77 = .ok (.aload_n 0, 1) := by decide +kernel
theorem dX9_getsOne_78 : decode cX9_getsOne 78 = .ok (.getfield 29, 3) := by decide +kernel
theorem dX9_getsOne_81 : decode cX9_getsOne 81 = .ok (.iload 7, 2) := by decide +kernel
theorem dX9_getsOne_83 : decode cX9_getsOne 83 = .ok (.iaload, 1) := by decide +kernel
theorem dX9_getsOne_84 : decode cX9_getsOne 84 = .ok (.bipush (-4), 2) := by decide +kernel
theorem dX9_getsOne_86 : decode cX9_getsOne 86 = .ok (.if_icmp .ne 12, 3) := by decide +kernel
theorem dX9_getsOne_89 : decode cX9_getsOne 89 = .ok (.aload_n 0, 1) := by decide +kernel
theorem dX9_getsOne_90 : decode cX9_getsOne 90 = .ok (.iload_n 1, 1) := by decide +kernel
theorem dX9_getsOne_91 : decode cX9_getsOne 91 = .ok (.iload 7, 2) := by decide +kernel
theorem dX9_getsOne_93 : decode cX9_getsOne 93 = .ok (.invokevirtual 226, 3) := by decide +kernel
theorem dX9_getsOne_96 : decode cX9_getsOne 96 = .ok (.iconst 1, 1) := by decide +kernel
theorem dX9_getsOne_97 : decode cX9_getsOne 97 = .ok (.ireturn, 1) := by decide +kernel
theorem dX9_getsOne_98 : decode cX9_getsOne 98 = .ok (.aload_n 0, 1) := by decide +kernel
theorem dX9_getsOne_99 : decode cX9_getsOne 99 = .ok (.getfield 35, 3) := by decide +kernel
theorem dX9_getsOne_102 : decode cX9_getsOne 102 = .ok (.iload 4, 2) := by decide +kernel
theorem dX9_getsOne_104 : decode cX9_getsOne 104 = .ok (.aload_n 0, 1) := by decide +kernel
theorem dX9_getsOne_105 : decode cX9_getsOne 105 = .ok (.getfield 29, 3) := by decide +kernel
theorem dX9_getsOne_108 : decode cX9_getsOne 108 = .ok (.iload 7, 2) := by decide +kernel
theorem dX9_getsOne_110 : decode cX9_getsOne 110 = .ok (.iaload, 1) := by decide +kernel
theorem dX9_getsOne_111 : decode cX9_getsOne 111 = .ok (.iastore, 1) := by decide +kernel
theorem dX9_getsOne_112 : decode cX9_getsOne 112 = .ok (.iinc 4 1, 3) := by decide +kernel
theorem dX9_getsOne_115 : decode cX9_getsOne 115 = .ok (.iinc 7 1, 3) := by decide +kernel
theorem dX9_getsOne_118 : decode cX9_getsOne 118 = .ok (.goto (-84), 3) := by decide +kernel
theorem dX9_getsOne_121 : decode cX9_getsOne 121 = .ok (.iinc 5 1, 3) := by decide +kernel
theorem dX9_getsOne_124 : decode cX9_getsOne 124 = .ok (.goto (-109), 3) := by decide +kernel
theorem dX9_getsOne_127 : decode cX9_getsOne 127 = .ok (.iconst 0, 1) := by decide +kernel
theorem dX9_getsOne_128 : decode cX9_getsOne 128 = .ok (.ireturn, 1) := by decide +kernel
theorem dX9_givesOn_0 : decode cX9_givesOn 0 = .ok (.iload_n 2, 1) := by decide +kernel
theorem dX9_givesOn_1 : decode cX9_givesOn 1 = .ok (.istore_n 3, 1) := by decide +kernel
theorem dX9_givesOn_2 : decode cX9_givesOn 2 = .ok (.iconst 1, 1) := by decide +kernel
theorem dX9_givesOn_3 : decode cX9_givesOn 3 = .ok (.istore 4, 2) := by decide +kernel
theorem dX9_givesOn_5 : decode cX9_givesOn 5 = .ok (.iload 4, 2) := by decide +kernel
theorem dX9_givesOn_7 : decode cX9_givesOn 7 = .ok (.ifCond .eq 55, 3) := by decide +kernel
theorem dX9_givesOn_10 : decode cX9_givesOn 10 = .ok (.aload_n 0, 1) := by decide +kernel
theorem dX9_givesOn_11 : decode cX9_givesOn 11 = .ok (.getfield 32, 3) := by decide +kernel
theorem dX9_givesOn_14 : decode cX9_givesOn 14 = .ok (.iload_n 3, 1) := by decide +kernel
theorem dX9_givesOn_15 : decode cX9_givesOn 15 = .ok (.iaload, 1) := by decide +kernel
theorem dX9_givesOn_16 : decode cX9_givesOn 16 = .ok (.istore 5, 2) := by decide +kernel
theorem dX9_givesOn_18 : decode cX9_givesOn 18 = .ok (.aload_n 0, 1) := by decide +kernel
theorem dX9_givesOn_19 : decode cX9_givesOn 19 = .ok (.getfield 26, 3) := by decide +kernel
theorem dX9_givesOn_22 : decode cX9_givesOn 22 = .ok (.iload 5, 2) := by decide +kernel
theorem dX9_givesOn_24 : decode cX9_givesOn 24 = .ok (.iaload, 1) := by decide +kernel
theorem dX9_givesOn_25 : decode cX9_givesOn 25 = .ok (.istore 6, 2) := by decide +kernel
theorem dX9_givesOn_27 : decode cX9_givesOn 27 = .ok (.aload_n 0, 1) := by decide +kernel
theorem dX9_givesOn_28 : decode cX9_givesOn 28 = .ok (.getfield 26, 3) := by decide +kernel
theorem dX9_givesOn_31 : decode cX9_givesOn 31 = .ok (.iload 5, 2) := by decide +kernel
theorem dX9_givesOn_33 : decode cX9_givesOn 33 = .ok (.iload_n 3, 1) := by decide +kernel
theorem dX9_givesOn_34 : decode cX9_givesOn 34 = .ok (.iastore, 1) := by decide +kernel
theorem dX9_givesOn_35 : decode cX9_givesOn 35 = .ok (.aload_n 0, 1) := by decide +kernel
theorem dX9_givesOn_36 : decode cX9_givesOn 36 = .ok (.getfield 29, 3) := by decide +kernel
theorem dX9_givesOn_39 : decode cX9_givesOn 39 = .ok (.iload_n 3, 1) := by decide +kernel
theorem dX9_givesOn_40 : decode cX9_givesOn 40 = .ok (.iload 5, 2) := by decide +kernel
theorem dX9_givesOn_42 : decode cX9_givesOn 42 = .ok (.iastore, 1) := by decide +kernel
theorem dX9_givesOn_43 : decode cX9_givesOn 43 = .ok (.iload 5, 2) := by decide +kernel
theorem dX9_givesOn_45 : decode cX9_givesOn 45 = .ok (.iload_n 1, 1) := by decide +kernel
theorem dX9_givesOn_46 : decode cX9_givesOn 46 = .ok (.if_icmp .eq 7, 3) := by decide +kernel
theorem dX9_givesOn_49 : decode cX9_givesOn 49 = .ok (.iconst 1, 1) := by decide +kernel
theorem dX9_givesOn_50 : decode cX9_givesOn 50 = .ok (.goto 4, 3) := by decide +kernel
theorem dX9_givesOn_53 : decode cX9_givesOn 53 = .ok (.iconst 0, 1) := by decide +kernel
theorem dX9_givesOn_54 : decode cX9_givesOn 54 = .ok (.istore 4, 2) := by decide +kernel
theorem dX9_givesOn_56 : decode cX9_givesOn 56 = .ok (.iload 6, 2) := by decide +kernel
theorem dX9_givesOn_58 : decode cX9_givesOn 58 = .ok (.istore_n 3, 1) := by decide +kernel
theorem dX9_givesOn_59 : decode cX9_givesOn 59 = .ok (.goto (-54), 3) := by decide +kernel
theorem dX9_givesOn_62 : decode cX9_givesOn 62 = .ok (.return_, 1) := by decide +kernel
theorem dX9_findMost_0 : decode cX9_findMost 0 = .ok (.iconst 0, 1) := by decide +kernel
theorem dX9_findMost_1 : decode cX9_findMost 1 = .ok (.istore_n 1, 1) := by decide +kernel
theorem dX9_findMost_2 : decode cX9_findMost 2 = .ok (.iconst 0, 1) := by decide +kernel
theorem dX9_findMost_3 : decode cX9_findMost 3 = .ok (.istore_n 2, 1) := by decide +kernel
theorem dX9_findMost_4 : decode cX9_findMost 4 = .ok (.iload_n 2, 1) := by decide +kernel
theorem dX9_findMost_5 : decode cX9_findMost 5 = .ok (.bipush 8, 2) := by decide +kernel
theorem dX9_findMost_7 : decode cX9_findMost 7 = .ok (.if_icmp .ge 17, 3) := by decide +kernel
theorem dX9_findMost_10 : decode cX9_findMost 10 = .ok (.aload_n 0, 1) := by decide +kernel
theorem dX9_findMost_11 : decode cX9_findMost 11 = .ok (.getfield 26, 3) := by decide +kernel
theorem dX9_findMost_14 : decode cX9_findMost 14 = .ok (.iload_n 2, 1) := by decide +kernel
theorem dX9_findMost_15 : decode cX9_findMost 15 = .ok (.bipush (-4), 2) := by decide +kernel
theorem dX9_findMost_17 : decode cX9_findMost 17 = .ok (.iastore, 1) := by decide +kernel
theorem dX9_findMost_18 : decode cX9_findMost 18 = .ok (.iinc 2 1, 3) := by decide +kernel
theorem dX9_findMost_21 : decode cX9_findMost 21 = .ok (.goto (-17), 3) := by decide +kernel
theorem dX9_findMost_24 : decode cX9_findMost 24 = .ok (.iconst 0, 1) := by decide +kernel
theorem dX9_findMost_25 : decode cX9_findMost 25 = .ok (.istore_n 2, 1) := by decide +kernel
theorem dX9_findMost_26 : decode cX9_findMost 26 = .ok (.iload_n 2, 1) := by decide +kernel
theorem dX9_findMost_27 : decode cX9_findMost 27 = .ok (.bipush 20, 2) := by decide +kernel
theorem dX9_findMost_29 : decode cX9_findMost 29 = .ok (.if_icmp .ge 17, 3) := by decide +kernel
theorem dX9_findMost_32 : decode cX9_findMost 32 = .ok (.aload_n 0, 1) := by decide +kernel
theorem dX9_findMost_33 : decode cX9_findMost 33 = .ok (.getfield 29, 3) := by decide +kernel
theorem dX9_findMost_36 : decode cX9_findMost 36 = .ok (.iload_n 2, 1) := by decide +kernel
theorem dX9_findMost_37 : decode cX9_findMost 37 = .ok (.bipush (-4), 2) := by decide +kernel
theorem dX9_findMost_39 : decode cX9_findMost 39 = .ok (.iastore, 1) := by decide +kernel
theorem dX9_findMost_40 : decode cX9_findMost 40 = .ok (.iinc 2 1, 3) := by decide +kernel
theorem dX9_findMost_43 : decode cX9_findMost 43 = .ok (.goto (-17), 3) := by decide +kernel
theorem dX9_findMost_46 : decode cX9_findMost 46 = .ok (.iconst 0, 1) := by decide +kernel
theorem dX9_findMost_47 : decode cX9_findMost 47 = .ok (.istore_n 2, 1) := by decide +kernel
theorem dX9_findMost_48 : decode cX9_findMost 48 = .ok (.iload_n 2, 1) := by decide +kernel
theorem dX9_findMost_49 : decode cX9_findMost 49 = .ok (.aload_n 0, 1) := by decide +kernel
theorem dX9_findMost_50 : decode cX9_findMost 50 = .ok (.getfield 223, 3) := by decide +kernel
theorem dX9_findMost_53 : decode cX9_findMost 53 = .ok (.if_icmp .ge 21, 3) := by decide +kernel
theorem dX9_findMost_56 : decode cX9_findMost 56 = .ok (.iload_n 1, 1) := by decide +kernel
theorem dX9_findMost_57 : decode cX9_findMost 57 = .ok (.aload_n 0, 1) := by decide +kernel
theorem dX9_findMost_58 : decode cX9_findMost 58 = .ok (.iload_n 2, 1) := by decide +kernel
theorem dX9_findMost_59 : decode cX9_findMost 59 = .ok (.iconst 0, 1) := by decide +kernel
theorem dX9_findMost_60 : decode cX9_findMost 60 = .ok (.invokevirtual 229, 3) := by decide +kernel
theorem dX9_findMost_63 : decode cX9_findMost 63 = .ok (.invokestatic 219, 3) := by decide +kernel
theorem dX9_findMost_66 : decode cX9_findMost 66 = .ok (.iadd, 1) := by decide +kernel
theorem dX9_findMost_67 : decode cX9_findMost 67 = .ok (.istore_n 1, 1) := by decide +kernel
theorem dX9_findMost_68 : decode cX9_findMost 68 = .ok (.iinc 2 1, 3) := by decide +kernel
theorem dX9_findMost_71 : decode cX9_findMost 71 = .ok (.goto (-23), 3) := by decide +kernel
theorem dX9_findMost_74 : decode cX9_findMost 74 = .ok (.iload_n 1, 1) := by decide +kernel
theorem dX9_findMost_75 : decode cX9_findMost 75 = .ok (.ireturn, 1) := by decide +kernel
theorem dX9_keepsDeal_0 : decode cX9_keepsDeal 0 = .ok (.iconst 0, 1) := by decide +kernel
theorem dX9_keepsDeal_1 : decode cX9_keepsDeal 1 = .ok (.istore_n 1, 1) := by decide +kernel
theorem dX9_keepsDeal_2 : decode cX9_keepsDeal 2 = .ok (.iload_n 1, 1) := by decide +kernel
theorem dX9_keepsDeal_3 : decode cX9_keepsDeal 3 = .ok (.bipush 8, 2) := by decide +kernel
theorem dX9_keepsDeal_5 : decode cX9_keepsDeal 5 = .ok (.if_icmp .ge 21, 3) := by decide +kernel
theorem dX9_keepsDeal_8 : decode cX9_keepsDeal 8 = .ok (.aload_n 0, 1) := by decide +kernel
theorem dX9_keepsDeal_9 : decode cX9_keepsDeal 9 = .ok (.getfield 38, 3) := by decide +kernel
theorem dX9_keepsDeal_12 : decode cX9_keepsDeal 12 = .ok (.iload_n 1, 1) := by decide +kernel
theorem dX9_keepsDeal_13 : decode cX9_keepsDeal 13 = .ok (.aload_n 0, 1) := by decide +kernel
theorem dX9_keepsDeal_14 : decode cX9_keepsDeal 14 = .ok (.getfield 26, 3) := by decide +kernel
theorem dX9_keepsDeal_17 : decode cX9_keepsDeal 17 = .ok (.iload_n 1, 1) := by decide +kernel
theorem dX9_keepsDeal_18 : decode cX9_keepsDeal 18 = .ok (.iaload, 1) := by decide +kernel
theorem dX9_keepsDeal_19 : decode cX9_keepsDeal 19 = .ok (.iastore, 1) := by decide +kernel
theorem dX9_keepsDeal_20 : decode cX9_keepsDeal 20 = .ok (.iinc 1 1, 3) := by decide +kernel
theorem dX9_keepsDeal_23 : decode cX9_keepsDeal 23 = .ok (.goto (-21), 3) := by decide +kernel
theorem dX9_keepsDeal_26 : decode cX9_keepsDeal 26 = .ok (.iconst 0, 1) := by decide +kernel
theorem dX9_keepsDeal_27 : decode cX9_keepsDeal 27 = .ok (.istore_n 1, 1) := by decide +kernel
theorem dX9_keepsDeal_28 : decode cX9_keepsDeal 28 = .ok (.iload_n 1, 1) := by decide +kernel
theorem dX9_keepsDeal_29 : decode cX9_keepsDeal 29 = .ok (.bipush 20, 2) := by decide +kernel
theorem dX9_keepsDeal_31 : decode cX9_keepsDeal 31 = .ok (.if_icmp .ge 21, 3) := by decide +kernel
theorem dX9_keepsDeal_34 : decode cX9_keepsDeal 34 = .ok (.aload_n 0, 1) := by decide +kernel
theorem dX9_keepsDeal_35 : decode cX9_keepsDeal 35 = .ok (.getfield 41, 3) := by decide +kernel
theorem dX9_keepsDeal_38 : decode cX9_keepsDeal 38 = .ok (.iload_n 1, 1) := by decide +kernel
theorem dX9_keepsDeal_39 : decode cX9_keepsDeal 39 = .ok (.aload_n 0, 1) := by decide +kernel
theorem dX9_keepsDeal_40 : decode cX9_keepsDeal 40 = .ok (.getfield 29, 3) := by decide +kernel
theorem dX9_keepsDeal_43 : decode cX9_keepsDeal 43 = .ok (.iload_n 1, 1) := by decide +kernel
theorem dX9_keepsDeal_44 : decode cX9_keepsDeal 44 = .ok (.iaload, 1) := by decide +kernel
theorem dX9_keepsDeal_45 : decode cX9_keepsDeal 45 = .ok (.iastore, 1) := by decide +kernel
theorem dX9_keepsDeal_46 : decode cX9_keepsDeal 46 = .ok (.iinc 1 1, 3) := by decide +kernel
theorem dX9_keepsDeal_49 : decode cX9_keepsDeal 49 = .ok (.goto (-21), 3) := by decide +kernel
theorem dX9_keepsDeal_52 : decode cX9_keepsDeal 52 = .ok (.return_, 1) := by decide +kernel
theorem dX9_asKept_0 : decode cX9_asKept 0 = .ok (.iconst 0, 1) := by decide +kernel
theorem dX9_asKept_1 : decode cX9_asKept 1 = .ok (.istore_n 1, 1) := by decide +kernel
theorem dX9_asKept_2 : decode cX9_asKept 2 = .ok (.iload_n 1, 1) := by decide +kernel
theorem dX9_asKept_3 : decode cX9_asKept 3 = .ok (.bipush 8, 2) := by decide +kernel
theorem dX9_asKept_5 : decode cX9_asKept 5 = .ok (.if_icmp .ge 21, 3) := by decide +kernel
theorem dX9_asKept_8 : decode cX9_asKept 8 = .ok (.aload_n 0, 1) := by decide +kernel
theorem dX9_asKept_9 : decode cX9_asKept 9 = .ok (.getfield 26, 3) := by decide +kernel
theorem dX9_asKept_12 : decode cX9_asKept 12 = .ok (.iload_n 1, 1) := by decide +kernel
theorem dX9_asKept_13 : decode cX9_asKept 13 = .ok (.aload_n 0, 1) := by decide +kernel
theorem dX9_asKept_14 : decode cX9_asKept 14 = .ok (.getfield 38, 3) := by decide +kernel
theorem dX9_asKept_17 : decode cX9_asKept 17 = .ok (.iload_n 1, 1) := by decide +kernel
theorem dX9_asKept_18 : decode cX9_asKept 18 = .ok (.iaload, 1) := by decide +kernel
theorem dX9_asKept_19 : decode cX9_asKept 19 = .ok (.iastore, 1) := by decide +kernel
theorem dX9_asKept_20 : decode cX9_asKept 20 = .ok (.iinc 1 1, 3) := by decide +kernel
theorem dX9_asKept_23 : decode cX9_asKept 23 = .ok (.goto (-21), 3) := by decide +kernel
theorem dX9_asKept_26 : decode cX9_asKept 26 = .ok (.iconst 0, 1) := by decide +kernel
theorem dX9_asKept_27 : decode cX9_asKept 27 = .ok (.istore_n 1, 1) := by decide +kernel
theorem dX9_asKept_28 : decode cX9_asKept 28 = .ok (.iload_n 1, 1) := by decide +kernel
theorem dX9_asKept_29 : decode cX9_asKept 29 = .ok (.bipush 20, 2) := by decide +kernel
theorem dX9_asKept_31 : decode cX9_asKept 31 = .ok (.if_icmp .ge 21, 3) := by decide +kernel
theorem dX9_asKept_34 : decode cX9_asKept 34 = .ok (.aload_n 0, 1) := by decide +kernel
theorem dX9_asKept_35 : decode cX9_asKept 35 = .ok (.getfield 29, 3) := by decide +kernel
theorem dX9_asKept_38 : decode cX9_asKept 38 = .ok (.iload_n 1, 1) := by decide +kernel
theorem dX9_asKept_39 : decode cX9_asKept 39 = .ok (.aload_n 0, 1) := by decide +kernel
theorem dX9_asKept_40 : decode cX9_asKept 40 = .ok (.getfield 41, 3) := by decide +kernel
theorem dX9_asKept_43 : decode cX9_asKept 43 = .ok (.iload_n 1, 1) := by decide +kernel
theorem dX9_asKept_44 : decode cX9_asKept 44 = .ok (.iaload, 1) := by decide +kernel
theorem dX9_asKept_45 : decode cX9_asKept 45 = .ok (.iastore, 1) := by decide +kernel
theorem dX9_asKept_46 : decode cX9_asKept 46 = .ok (.iinc 1 1, 3) := by decide +kernel
theorem dX9_asKept_49 : decode cX9_asKept 49 = .ok (.goto (-21), 3) := by decide +kernel
theorem dX9_asKept_52 : decode cX9_asKept 52 = .ok (.return_, 1) := by decide +kernel
theorem dX9_canGet_0 : decode cX9_canGet 0 = .ok (.aload_n 0, 1) := by decide +kernel
theorem dX9_canGet_1 : decode cX9_canGet 1 = .ok (.getfield 26, 3) := by decide +kernel
theorem dX9_canGet_4 : decode cX9_canGet 4 = .ok (.iload_n 1, 1) := by decide +kernel
theorem dX9_canGet_5 : decode cX9_canGet 5 = .ok (.iaload, 1) := by decide +kernel
theorem dX9_canGet_6 : decode cX9_canGet 6 = .ok (.iload_n 2, 1) := by decide +kernel
theorem dX9_canGet_7 : decode cX9_canGet 7 = .ok (.if_icmp .ne 5, 3) := by decide +kernel
theorem dX9_canGet_10 : decode cX9_canGet 10 = .ok (.iconst 1, 1) := by decide +kernel
theorem dX9_canGet_11 : decode cX9_canGet 11 = .ok (.ireturn, 1) := by decide +kernel
theorem dX9_canGet_12 : decode cX9_canGet 12 = .ok (.aload_n 0, 1) := by decide +kernel
theorem dX9_canGet_13 : decode cX9_canGet 13 = .ok (.invokevirtual 232, 3) := by decide +kernel
theorem dX9_canGet_16 : decode cX9_canGet 16 = .ok (.aload_n 0, 1) := by decide +kernel
theorem dX9_canGet_17 : decode cX9_canGet 17 = .ok (.getfield 26, 3) := by decide +kernel
theorem dX9_canGet_20 : decode cX9_canGet 20 = .ok (.iload_n 1, 1) := by decide +kernel
theorem dX9_canGet_21 : decode cX9_canGet 21 = .ok (.iaload, 1) := by decide +kernel
theorem dX9_canGet_22 : decode cX9_canGet 22 = .ok (.istore 4, 2) := by decide +kernel
theorem dX9_canGet_24 : decode cX9_canGet 24 = .ok (.aload_n 0, 1) := by decide +kernel
theorem dX9_canGet_25 : decode cX9_canGet 25 = .ok (.getfield 29, 3) := by decide +kernel
theorem dX9_canGet_28 : decode cX9_canGet 28 = .ok (.iload_n 2, 1) := by decide +kernel
theorem dX9_canGet_29 : decode cX9_canGet 29 = .ok (.iaload, 1) := by decide +kernel
theorem dX9_canGet_30 : decode cX9_canGet 30 = .ok (.istore 5, 2) := by decide +kernel
theorem dX9_canGet_32 : decode cX9_canGet 32 = .ok (.iload 4, 2) := by decide +kernel
theorem dX9_canGet_34 : decode cX9_canGet 34 = .ok (.bipush (-4), 2) := by decide +kernel
theorem dX9_canGet_36 : decode cX9_canGet 36 = .ok (.if_icmp .eq 12, 3) := by decide +kernel
theorem dX9_canGet_39 : decode cX9_canGet 39 = .ok (.aload_n 0, 1) := by decide +kernel
theorem dX9_canGet_40 : decode cX9_canGet 40 = .ok (.getfield 29, 3) := by decide +kernel
theorem dX9_canGet_43 : decode cX9_canGet 43 = .ok (.iload 4, 2) := by decide +kernel
theorem dX9_canGet_45 : decode cX9_canGet 45 = .ok (.bipush (-4), 2) := by decide +kernel
theorem dX9_canGet_47 : decode cX9_canGet 47 = .ok (.iastore, 1) := by decide +kernel
theorem dX9_canGet_48 : decode cX9_canGet 48 = .ok (.aload_n 0, 1) := by decide +kernel
theorem dX9_canGet_49 : decode cX9_canGet 49 = .ok (.getfield 26, 3) := by decide +kernel
theorem dX9_canGet_52 : decode cX9_canGet 52 = .ok (.iload_n 1, 1) := by decide +kernel
theorem dX9_canGet_53 : decode cX9_canGet 53 = .ok (.iload_n 2, 1) := by decide +kernel
theorem dX9_canGet_54 : decode cX9_canGet 54 = .ok (.iastore, 1) := by decide +kernel
theorem dX9_canGet_55 : decode cX9_canGet 55 = .ok (.aload_n 0, 1) := by decide +kernel
theorem dX9_canGet_56 : decode cX9_canGet 56 = .ok (.getfield 29, 3) := by decide +kernel
theorem dX9_canGet_59 : decode cX9_canGet 59 = .ok (.iload_n 2, 1) := by decide +kernel
theorem dX9_canGet_60 : decode cX9_canGet 60 = .ok (.iload_n 1, 1) := by decide +kernel
theorem dX9_canGet_61 : decode cX9_canGet 61 = .ok (.iastore, 1) := by decide +kernel
theorem dX9_canGet_62 : decode cX9_canGet 62 = .ok (.iload 5, 2) := by decide +kernel
theorem dX9_canGet_64 : decode cX9_canGet 64 = .ok (.bipush (-4), 2) := by decide +kernel
theorem dX9_canGet_66 : decode cX9_canGet 66 = .ok (.if_icmp .eq 12, 3) := by decide +kernel
theorem dX9_canGet_69 : decode cX9_canGet 69 = .ok (.aload_n 0, 1) := by decide +kernel
theorem dX9_canGet_70 : decode cX9_canGet 70 = .ok (.getfield 26, 3) := by decide +kernel
theorem dX9_canGet_73 : decode cX9_canGet 73 = .ok (.iload 5, 2) := by decide +kernel
theorem dX9_canGet_75 : decode cX9_canGet 75 = .ok (.bipush (-4), 2) := by decide +kernel
theorem dX9_canGet_77 : decode cX9_canGet 77 = .ok (.iastore, 1) := by decide +kernel
theorem dX9_canGet_78 : decode cX9_canGet 78 = .ok (.iload 4, 2) := by decide +kernel
theorem dX9_canGet_80 : decode cX9_canGet 80 = .ok (.bipush (-4), 2) := by decide +kernel
theorem dX9_canGet_82 : decode cX9_canGet 82 = .ok (.if_icmp .eq 10, 3) := by decide +kernel
theorem dX9_canGet_85 : decode cX9_canGet 85 = .ok (.iload 5, 2) := by decide +kernel
theorem dX9_canGet_87 : decode cX9_canGet 87 = .ok (.bipush (-4), 2) := by decide +kernel
theorem dX9_canGet_89 : decode cX9_canGet 89 = .ok (.if_icmp .ne 7, 3) := by decide +kernel
theorem dX9_canGet_92 : decode cX9_canGet 92 = .ok (.iconst 1, 1) := by decide +kernel
theorem dX9_canGet_93 : decode cX9_canGet 93 = .ok (.goto 4, 3) := by decide +kernel
theorem dX9_canGet_96 : decode cX9_canGet 96 = .ok (.iconst 0, 1) := by decide +kernel
theorem dX9_canGet_97 : decode cX9_canGet 97 = .ok (.istore 6, 2) := by decide +kernel
theorem dX9_canGet_99 : decode cX9_canGet 99 = .ok (.iload_n 1, 1) := by decide +kernel
theorem dX9_canGet_100 : decode cX9_canGet 100 = .ok (.iconst 1, 1) := by decide +kernel
theorem dX9_canGet_101 : decode cX9_canGet 101 = .ok (.iadd, 1) := by decide +kernel
theorem dX9_canGet_102 : decode cX9_canGet 102 = .ok (.istore 7, 2) := by decide +kernel
theorem dX9_canGet_104 : decode cX9_canGet 104 = .ok (.iload 7, 2) := by decide +kernel
theorem dX9_canGet_106 : decode cX9_canGet 106 = .ok (.aload_n 0, 1) := by decide +kernel
theorem dX9_canGet_107 : decode cX9_canGet 107 = .ok (.getfield 223, 3) := by decide +kernel
theorem dX9_canGet_110 : decode cX9_canGet 110 = .ok (.if_icmp .ge 47, 3) := by decide +kernel
theorem dX9_canGet_113 : decode cX9_canGet 113 = .ok (.iload 6, 2) := by decide +kernel
theorem dX9_canGet_115 : decode cX9_canGet 115 = .ok (.ifCond .ne 42, 3) := by decide +kernel
theorem dX9_canGet_118 : decode cX9_canGet 118 = .ok (.aload_n 0, 1) := by decide +kernel
theorem dX9_canGet_119 : decode cX9_canGet 119 = .ok (.getfield 26, 3) := by decide +kernel
theorem dX9_canGet_122 : decode cX9_canGet 122 = .ok (.iload 7, 2) := by decide +kernel
theorem dX9_canGet_124 : decode cX9_canGet 124 = .ok (.iaload, 1) := by decide +kernel
theorem dX9_canGet_125 : decode cX9_canGet 125 = .ok (.bipush (-4), 2) := by decide +kernel
theorem dX9_canGet_127 : decode cX9_canGet 127 = .ok (.if_icmp .ne 21, 3) := by decide +kernel
theorem dX9_canGet_130 : decode cX9_canGet 130 = .ok (.aload_n 0, 1) := by decide +kernel
theorem dX9_canGet_131 : decode cX9_canGet 131 = .ok (.iload 7, 2) := by decide +kernel
theorem dX9_canGet_133 : decode cX9_canGet 133 = .ok (.iload_n 3, 1) := by decide +kernel
theorem dX9_canGet_134 : decode cX9_canGet 134 = .ok (.iconst 1, 1) := by decide +kernel
theorem dX9_canGet_135 : decode cX9_canGet 135 = .ok (.iload_n 2, 1) := by decide +kernel
theorem dX9_canGet_136 : decode cX9_canGet 136 = .ok (.ishl, 1) := by decide +kernel
theorem dX9_canGet_137 : decode cX9_canGet 137 = .ok (.ior, 1) := by decide +kernel
theorem dX9_canGet_138 : decode cX9_canGet 138 = .ok (.invokevirtual 229, 3) := by decide +kernel
theorem dX9_canGet_141 : decode cX9_canGet 141 = .ok (.ifCond .eq 7, 3) := by decide +kernel
theorem dX9_canGet_144 : decode cX9_canGet 144 = .ok (.iconst 1, 1) := by decide +kernel
theorem dX9_canGet_145 : decode cX9_canGet 145 = .ok (.goto 4, 3) := by decide +kernel
theorem dX9_canGet_148 : decode cX9_canGet 148 = .ok (.iconst 0, 1) := by decide +kernel
theorem dX9_canGet_149 : decode cX9_canGet 149 = .ok (.istore 6, 2) := by decide +kernel
theorem dX9_canGet_151 : decode cX9_canGet 151 = .ok (.iinc 7 1, 3) := by decide +kernel
theorem dX9_canGet_154 : decode cX9_canGet 154 = .ok (.goto (-50), 3) := by decide +kernel
theorem dX9_canGet_157 : decode cX9_canGet 157 = .ok (.iload 6, 2) := by decide +kernel
theorem dX9_canGet_159 : decode cX9_canGet 159 = .ok (.ifCond .ne 7, 3) := by decide +kernel
theorem dX9_canGet_162 : decode cX9_canGet 162 = .ok (.aload_n 0, 1) := by decide +kernel
theorem dX9_canGet_163 : decode cX9_canGet 163 = .ok (.invokevirtual 235, 3) := by decide +kernel
theorem dX9_canGet_166 : decode cX9_canGet 166 = .ok (.iload 6, 2) := by decide +kernel
theorem dX9_canGet_168 : decode cX9_canGet 168 = .ok (.ireturn, 1) := by decide +kernel
theorem dX9_findDeal_0 : decode cX9_findDeal 0 = .ok (.aload_n 0, 1) := by decide +kernel
theorem dX9_findDeal_1 : decode cX9_findDeal 1 = .ok (.iload_n 1, 1) := by decide +kernel
theorem dX9_findDeal_2 : decode cX9_findDeal 2 = .ok (.invokevirtual 238, 3) := by decide +kernel
theorem dX9_findDeal_5 : decode cX9_findDeal 5 = .ok (.aload_n 0, 1) := by decide +kernel
theorem dX9_findDeal_6 : decode cX9_findDeal 6 = .ok (.invokevirtual 241, 3) := by decide +kernel
theorem dX9_findDeal_9 : decode cX9_findDeal 9 = .ok (.istore_n 2, 1) := by decide +kernel
theorem dX9_findDeal_10 : decode cX9_findDeal 10 = .ok (.iconst 0, 1) := by decide +kernel
theorem dX9_findDeal_11 : decode cX9_findDeal 11 = .ok (.istore_n 3, 1) := by decide +kernel
theorem dX9_findDeal_12 : decode cX9_findDeal 12 = .ok (.iconst 0, 1) := by decide +kernel
theorem dX9_findDeal_13 : decode cX9_findDeal 13 = .ok (.istore 4, 2) := by decide +kernel
theorem dX9_findDeal_15 : decode cX9_findDeal 15 = .ok (.iload 4, 2) := by decide +kernel
theorem dX9_findDeal_17 : decode cX9_findDeal 17 = .ok (.aload_n 0, 1) := by decide +kernel
theorem dX9_findDeal_18 : decode cX9_findDeal 18 = .ok (.getfield 223, 3) := by decide +kernel
theorem dX9_findDeal_21 : decode cX9_findDeal 21 = .ok (.if_icmp .ge 101, 3) := by decide +kernel
theorem dX9_findDeal_24 : decode cX9_findDeal 24 = .ok (.aload_n 0, 1) := by decide +kernel
theorem dX9_findDeal_25 : decode cX9_findDeal 25 = .ok (.getfield 26, 3) := by decide +kernel
theorem dX9_findDeal_28 : decode cX9_findDeal 28 = .ok (.iload 4, 2) := by decide +kernel
theorem dX9_findDeal_30 : decode cX9_findDeal 30 = .ok (.iaload, 1) := by decide +kernel
theorem dX9_findDeal_31 : decode cX9_findDeal 31 = .ok (.bipush (-4), 2) := by decide +kernel
theorem dX9_findDeal_33 : decode cX9_findDeal 33 = .ok (.if_icmp .ne 13, 3) := by decide +kernel
theorem dX9_findDeal_36 : decode cX9_findDeal 36 = .ok (.aload_n 0, 1) := by decide +kernel
theorem dX9_findDeal_37 : decode cX9_findDeal 37 = .ok (.getfield 23, 3) := by decide +kernel
theorem dX9_findDeal_40 : decode cX9_findDeal 40 = .ok (.iload 4, 2) := by decide +kernel
theorem dX9_findDeal_42 : decode cX9_findDeal 42 = .ok (.iaload, 1) := by decide +kernel
theorem dX9_findDeal_43 : decode cX9_findDeal 43 = .ok (.ifCond .eq 7, 3) := by decide +kernel
theorem dX9_findDeal_46 : decode cX9_findDeal 46 = .ok (.iconst 1, 1) := by decide +kernel
theorem dX9_findDeal_47 : decode cX9_findDeal 47 = .ok (.goto 4, 3) := by decide +kernel
theorem dX9_findDeal_50 : decode cX9_findDeal 50 = .ok (.iconst 0, 1) := by decide +kernel
theorem dX9_findDeal_51 : decode cX9_findDeal 51 = .ok (.istore 5, 2) := by decide +kernel
theorem dX9_findDeal_53 : decode cX9_findDeal 53 = .ok (.iconst 0, 1) := by decide +kernel
theorem dX9_findDeal_54 : decode cX9_findDeal 54 = .ok (.istore 6, 2) := by decide +kernel
theorem dX9_findDeal_56 : decode cX9_findDeal 56 = .ok (.iload 6, 2) := by decide +kernel
theorem dX9_findDeal_58 : decode cX9_findDeal 58 = .ok (.bipush 10, 2) := by decide +kernel
theorem dX9_findDeal_60 : decode cX9_findDeal 60 = .ok (.if_icmp .ge 56, 3) := by decide +kernel
theorem dX9_findDeal_63 : decode cX9_findDeal 63 = .ok (.iload 5, 2) := by decide +kernel
theorem dX9_findDeal_65 : decode cX9_findDeal 65 = .ok (.ifCond .eq 51, 3) := by decide +kernel
theorem dX9_findDeal_68 : decode cX9_findDeal 68 = .ok (.aload_n 0, 1) := by decide +kernel
theorem dX9_findDeal_69 : decode cX9_findDeal 69 = .ok (.getfield 23, 3) := by decide +kernel
theorem dX9_findDeal_72 : decode cX9_findDeal 72 = .ok (.iload 4, 2) := by decide +kernel
theorem dX9_findDeal_74 : decode cX9_findDeal 74 = .ok (.iaload, 1) := by decide +kernel
theorem dX9_findDeal_75 : decode cX9_findDeal 75 = .ok (.iload_n 3, 1) := by decide +kernel
theorem dX9_findDeal_76 : decode cX9_findDeal 76 = .ok (.iconst (-1), 1) := by decide +kernel
theorem dX9_findDeal_77 : decode cX9_findDeal 77 = .ok (.ixor, 1) := by decide +kernel
theorem dX9_findDeal_78 : decode cX9_findDeal 78 = .ok (.iand, 1) := by decide +kernel
theorem dX9_findDeal_79 : decode cX9_findDeal 79 = .ok (.iload 6, 2) := by decide +kernel
theorem dX9_findDeal_81 : decode cX9_findDeal 81 = .ok (.ishr, 1) := by decide +kernel
theorem dX9_findDeal_82 : decode cX9_findDeal 82 = .ok (.iconst 1, 1) := by decide +kernel
theorem dX9_findDeal_83 : decode cX9_findDeal 83 = .ok (.iand, 1) := by decide +kernel
theorem dX9_findDeal_84 : decode cX9_findDeal 84 = .ok (.iconst 1, 1) := by decide +kernel
theorem dX9_findDeal_85 : decode cX9_findDeal 85 = .ok (.if_icmp .ne 25, 3) := by decide +kernel
theorem dX9_findDeal_88 : decode cX9_findDeal 88 = .ok (.aload_n 0, 1) := by decide +kernel
theorem dX9_findDeal_89 : decode cX9_findDeal 89 = .ok (.iload 4, 2) := by decide +kernel
theorem dX9_findDeal_91 : decode cX9_findDeal 91 = .ok (.iload 6, 2) := by decide +kernel
theorem dX9_findDeal_93 : decode cX9_findDeal 93 = .ok (.iload_n 3, 1) := by decide +kernel
theorem dX9_findDeal_94 : decode cX9_findDeal 94 = .ok (.invokevirtual 244, 3) := by decide +kernel
theorem dX9_findDeal_97 : decode cX9_findDeal 97 = .ok (.ifCond .eq 13, 3) := by decide +kernel
theorem dX9_findDeal_100 : decode cX9_findDeal 100 = .ok (.iload_n 3, 1) := by decide +kernel
theorem dX9_findDeal_101 : decode cX9_findDeal 101 = .ok (.iconst 1, 1) := by decide +kernel
theorem dX9_findDeal_102 : decode cX9_findDeal 102 = .ok (.iload 6, 2) := by decide +kernel
theorem dX9_findDeal_104 : decode cX9_findDeal 104 = .ok (.ishl, 1) := by decide +kernel
theorem dX9_findDeal_105 : decode cX9_findDeal 105 = .ok (.ior, 1) := by decide +kernel
theorem dX9_findDeal_106 : decode cX9_findDeal 106 = .ok (.istore_n 3, 1) := by decide +kernel
theorem dX9_findDeal_107 : decode cX9_findDeal 107 = .ok (.iconst 0, 1) := by decide +kernel
theorem dX9_findDeal_108 : decode cX9_findDeal 108 = .ok (.istore 5, 2) := by decide +kernel
theorem dX9_findDeal_110 : decode cX9_findDeal 110 = .ok (.iinc 6 1, 3) := by decide +kernel
theorem dX9_findDeal_113 : decode cX9_findDeal 113 = .ok (.goto (-57), 3) := by decide +kernel
theorem dX9_findDeal_116 : decode cX9_findDeal 116 = .ok (.iinc 4 1, 3) := by decide +kernel
theorem dX9_findDeal_119 : decode cX9_findDeal 119 = .ok (.goto (-104), 3) := by decide +kernel
theorem dX9_findDeal_122 : decode cX9_findDeal 122 = .ok (.iload_n 2, 1) := by decide +kernel
theorem dX9_findDeal_123 : decode cX9_findDeal 123 = .ok (.ireturn, 1) := by decide +kernel
theorem dX9_deal_0 : decode cX9_deal 0 = .ok (.iload_n 1, 1) := by decide +kernel
theorem dX9_deal_1 : decode cX9_deal 1 = .ok (.invokestatic 216, 3) := by decide +kernel
theorem dX9_deal_4 : decode cX9_deal 4 = .ok (.ifCond .eq 24, 3) := by decide +kernel
theorem dX9_deal_7 : decode cX9_deal 7 = .ok (.iload_n 2, 1) := by decide +kernel
theorem dX9_deal_8 : decode cX9_deal 8 = .ok (.i2l, 1) := by decide +kernel
theorem dX9_deal_9 : decode cX9_deal 9 = .ok (.lconst 0, 1) := by decide +kernel
theorem dX9_deal_10 : decode cX9_deal 10 = .ok (.lconst 1, 1) := by decide +kernel
theorem dX9_deal_11 : decode cX9_deal 11 = .ok (.invokestatic 93, 3) := by decide +kernel
theorem dX9_deal_14 : decode cX9_deal 14 = .ok (.ifCond .ne 16, 3) := by decide +kernel
theorem dX9_deal_17 : decode cX9_deal 17 = .ok (.aload_n 0, 1) := by decide +kernel
theorem dX9_deal_18 : decode cX9_deal 18 = .ok (.iload_n 2, 1) := by decide +kernel
theorem dX9_deal_19 : decode cX9_deal 19 = .ok (.bipush 10, 2) := by decide +kernel
theorem dX9_deal_21 : decode cX9_deal 21 = .ok (.isub, 1) := by decide +kernel
theorem dX9_deal_22 : decode cX9_deal 22 = .ok (.invokevirtual 178, 3) := by decide +kernel
theorem dX9_deal_25 : decode cX9_deal 25 = .ok (.ifCond .ne 5, 3) := by decide +kernel
theorem dX9_deal_28 : decode cX9_deal 28 = .ok (.iconst (-1), 1) := by decide +kernel
theorem dX9_deal_29 : decode cX9_deal 29 = .ok (.ireturn, 1) := by decide +kernel
theorem dX9_deal_30 : decode cX9_deal 30 = .ok (.aload_n 0, 1) := by decide +kernel
theorem dX9_deal_31 : decode cX9_deal 31 = .ok (.iload_n 1, 1) := by decide +kernel
theorem dX9_deal_32 : decode cX9_deal 32 = .ok (.invokevirtual 248, 3) := by decide +kernel
theorem dX9_deal_35 : decode cX9_deal 35 = .ok (.istore_n 3, 1) := by decide +kernel
theorem dX9_deal_36 : decode cX9_deal 36 = .ok (.iload_n 2, 1) := by decide +kernel
theorem dX9_deal_37 : decode cX9_deal 37 = .ok (.ifCond .ne 7, 3) := by decide +kernel
theorem dX9_deal_40 : decode cX9_deal 40 = .ok (.iload_n 3, 1) := by decide +kernel
theorem dX9_deal_41 : decode cX9_deal 41 = .ok (.goto 28, 3) := by decide +kernel
theorem dX9_deal_44 : decode cX9_deal 44 = .ok (.iload_n 2, 1) := by decide +kernel
theorem dX9_deal_45 : decode cX9_deal 45 = .ok (.iconst 1, 1) := by decide +kernel
theorem dX9_deal_46 : decode cX9_deal 46 = .ok (.if_icmp .ne 14, 3) := by decide +kernel
theorem dX9_deal_49 : decode cX9_deal 49 = .ok (.aload_n 0, 1) := by decide +kernel
theorem dX9_deal_50 : decode cX9_deal 50 = .ok (.getfield 7, 3) := by decide +kernel
theorem dX9_deal_53 : decode cX9_deal 53 = .ok (.iconst 0, 1) := by decide +kernel
theorem dX9_deal_54 : decode cX9_deal 54 = .ok (.iaload, 1) := by decide +kernel
theorem dX9_deal_55 : decode cX9_deal 55 = .ok (.iload_n 3, 1) := by decide +kernel
theorem dX9_deal_56 : decode cX9_deal 56 = .ok (.isub, 1) := by decide +kernel
theorem dX9_deal_57 : decode cX9_deal 57 = .ok (.goto 12, 3) := by decide +kernel
theorem dX9_deal_60 : decode cX9_deal 60 = .ok (.aload_n 0, 1) := by decide +kernel
theorem dX9_deal_61 : decode cX9_deal 61 = .ok (.getfield 26, 3) := by decide +kernel
theorem dX9_deal_64 : decode cX9_deal 64 = .ok (.iload_n 2, 1) := by decide +kernel
theorem dX9_deal_65 : decode cX9_deal 65 = .ok (.bipush 10, 2) := by decide +kernel
theorem dX9_deal_67 : decode cX9_deal 67 = .ok (.isub, 1) := by decide +kernel
theorem dX9_deal_68 : decode cX9_deal 68 = .ok (.iaload, 1) := by decide +kernel
theorem dX9_deal_69 : decode cX9_deal 69 = .ok (.ireturn, 1) := by decide +kernel
theorem dX9_dresses_0 : decode cX9_dresses 0 = .ok (.iconst 0, 1) := by decide +kernel
theorem dX9_dresses_1 : decode cX9_dresses 1 = .ok (.istore_n 2, 1) := by decide +kernel
theorem dX9_dresses_2 : decode cX9_dresses 2 = .ok (.iload_n 2, 1) := by decide +kernel
theorem dX9_dresses_3 : decode cX9_dresses 3 = .ok (.aload_n 0, 1) := by decide +kernel
theorem dX9_dresses_4 : decode cX9_dresses 4 = .ok (.getfield 7, 3) := by decide +kernel
theorem dX9_dresses_7 : decode cX9_dresses 7 = .ok (.iconst 0, 1) := by decide +kernel
theorem dX9_dresses_8 : decode cX9_dresses 8 = .ok (.iaload, 1) := by decide +kernel
theorem dX9_dresses_9 : decode cX9_dresses 9 = .ok (.if_icmp .ge 15, 3) := by decide +kernel
theorem dX9_dresses_12 : decode cX9_dresses 12 = .ok (.aload_n 0, 1) := by decide +kernel
theorem dX9_dresses_13 : decode cX9_dresses 13 = .ok (.iload_n 2, 1) := by decide +kernel
theorem dX9_dresses_14 : decode cX9_dresses 14 = .ok (.iload_n 1, 1) := by decide +kernel
theorem dX9_dresses_15 : decode cX9_dresses 15 = .ok (.invokevirtual 209, 3) := by decide +kernel
theorem dX9_dresses_18 : decode cX9_dresses 18 = .ok (.iinc 2 1, 3) := by decide +kernel
theorem dX9_dresses_21 : decode cX9_dresses 21 = .ok (.goto (-19), 3) := by decide +kernel
theorem dX9_dresses_24 : decode cX9_dresses 24 = .ok (.aload_n 0, 1) := by decide +kernel
theorem dX9_dresses_25 : decode cX9_dresses 25 = .ok (.iload_n 1, 1) := by decide +kernel
theorem dX9_dresses_26 : decode cX9_dresses 26 = .ok (.invokevirtual 248, 3) := by decide +kernel
theorem dX9_dresses_29 : decode cX9_dresses 29 = .ok (.istore_n 2, 1) := by decide +kernel
theorem dX9_dresses_30 : decode cX9_dresses 30 = .ok (.iconst 0, 1) := by decide +kernel
theorem dX9_dresses_31 : decode cX9_dresses 31 = .ok (.istore_n 3, 1) := by decide +kernel
theorem dX9_dresses_32 : decode cX9_dresses 32 = .ok (.iload_n 3, 1) := by decide +kernel
theorem dX9_dresses_33 : decode cX9_dresses 33 = .ok (.aload_n 0, 1) := by decide +kernel
theorem dX9_dresses_34 : decode cX9_dresses 34 = .ok (.getfield 7, 3) := by decide +kernel
theorem dX9_dresses_37 : decode cX9_dresses 37 = .ok (.iconst 0, 1) := by decide +kernel
theorem dX9_dresses_38 : decode cX9_dresses 38 = .ok (.iaload, 1) := by decide +kernel
theorem dX9_dresses_39 : decode cX9_dresses 39 = .ok (.if_icmp .ge 31, 3) := by decide +kernel
theorem dX9_dresses_42 : decode cX9_dresses 42 = .ok (.aload_n 0, 1) := by decide +kernel
theorem dX9_dresses_43 : decode cX9_dresses 43 = .ok (.getfield 26, 3) := by decide +kernel
theorem dX9_dresses_46 : decode cX9_dresses 46 = .ok (.iload_n 3, 1) := by decide +kernel
theorem dX9_dresses_47 : decode cX9_dresses 47 = .ok (.iaload, 1) := by decide +kernel
theorem dX9_dresses_48 : decode cX9_dresses 48 = .ok (.bipush (-4), 2) := by decide +kernel
theorem dX9_dresses_50 : decode cX9_dresses 50 = .ok (.if_icmp .eq 14, 3) := by decide +kernel
theorem dX9_dresses_53 : decode cX9_dresses 53 = .ok (.aload_n 0, 1) := by decide +kernel
theorem dX9_dresses_54 : decode cX9_dresses 54 = .ok (.iload_n 3, 1) := by decide +kernel
theorem dX9_dresses_55 : decode cX9_dresses 55 = .ok (.aload_n 0, 1) := by decide +kernel
theorem dX9_dresses_56 : decode cX9_dresses 56 = .ok (.getfield 26, 3) := by decide +kernel
theorem dX9_dresses_59 : decode cX9_dresses 59 = .ok (.iload_n 3, 1) := by decide +kernel
theorem dX9_dresses_60 : decode cX9_dresses 60 = .ok (.iaload, 1) := by decide +kernel
theorem dX9_dresses_61 : decode cX9_dresses 61 = .ok (.invokevirtual 213, 3) := by decide +kernel
theorem dX9_dresses_64 : decode cX9_dresses 64 = .ok (.iinc 3 1, 3) := by decide +kernel
theorem dX9_dresses_67 : decode cX9_dresses 67 = .ok (.goto (-35), 3) := by decide +kernel
theorem dX9_dresses_70 : decode cX9_dresses 70 = .ok (.aload_n 0, 1) := by decide +kernel
theorem dX9_dresses_71 : decode cX9_dresses 71 = .ok (.getfield 7, 3) := by decide +kernel
theorem dX9_dresses_74 : decode cX9_dresses 74 = .ok (.iconst 0, 1) := by decide +kernel
theorem dX9_dresses_75 : decode cX9_dresses 75 = .ok (.iaload, 1) := by decide +kernel
theorem dX9_dresses_76 : decode cX9_dresses 76 = .ok (.iload_n 2, 1) := by decide +kernel
theorem dX9_dresses_77 : decode cX9_dresses 77 = .ok (.isub, 1) := by decide +kernel
theorem dX9_dresses_78 : decode cX9_dresses 78 = .ok (.ireturn, 1) := by decide +kernel
theorem dX9_dress_0 : decode cX9_dress 0 = .ok (.iload_n 1, 1) := by decide +kernel
theorem dX9_dress_1 : decode cX9_dress 1 = .ok (.invokestatic 216, 3) := by decide +kernel
theorem dX9_dress_4 : decode cX9_dress 4 = .ok (.ifCond .eq 11, 3) := by decide +kernel
theorem dX9_dress_7 : decode cX9_dress 7 = .ok (.aload_n 0, 1) := by decide +kernel
theorem dX9_dress_8 : decode cX9_dress 8 = .ok (.iload_n 1, 1) := by decide +kernel
theorem dX9_dress_9 : decode cX9_dress 9 = .ok (.invokevirtual 251, 3) := by decide +kernel
theorem dX9_dress_12 : decode cX9_dress 12 = .ok (.goto 4, 3) := by decide +kernel
theorem dX9_dress_15 : decode cX9_dress 15 = .ok (.iconst (-1), 1) := by decide +kernel
theorem dX9_dress_16 : decode cX9_dress 16 = .ok (.ireturn, 1) := by decide +kernel
theorem dX9_spare_0 : decode cX9_spare 0 = .ok (.iload_n 1, 1) := by decide +kernel
theorem dX9_spare_1 : decode cX9_spare 1 = .ok (.invokestatic 216, 3) := by decide +kernel
theorem dX9_spare_4 : decode cX9_spare 4 = .ok (.ifCond .ne 5, 3) := by decide +kernel
theorem dX9_spare_7 : decode cX9_spare 7 = .ok (.iconst (-1), 1) := by decide +kernel
theorem dX9_spare_8 : decode cX9_spare 8 = .ok (.ireturn, 1) := by decide +kernel
theorem dX9_spare_9 : decode cX9_spare 9 = .ok (.aload_n 0, 1) := by decide +kernel
theorem dX9_spare_10 : decode cX9_spare 10 = .ok (.iload_n 1, 1) := by decide +kernel
theorem dX9_spare_11 : decode cX9_spare 11 = .ok (.invokevirtual 248, 3) := by decide +kernel
theorem dX9_spare_14 : decode cX9_spare 14 = .ok (.pop, 1) := by decide +kernel
theorem dX9_spare_15 : decode cX9_spare 15 = .ok (.iconst 0, 1) := by decide +kernel
theorem dX9_spare_16 : decode cX9_spare 16 = .ok (.istore_n 2, 1) := by decide +kernel
theorem dX9_spare_17 : decode cX9_spare 17 = .ok (.iconst 0, 1) := by decide +kernel
theorem dX9_spare_18 : decode cX9_spare 18 = .ok (.istore_n 3, 1) := by decide +kernel
theorem dX9_spare_19 : decode cX9_spare 19 = .ok (.iload_n 3, 1) := by decide +kernel
theorem dX9_spare_20 : decode cX9_spare 20 = .ok (.aload_n 0, 1) := by decide +kernel
theorem dX9_spare_21 : decode cX9_spare 21 = .ok (.getfield 7, 3) := by decide +kernel
theorem dX9_spare_24 : decode cX9_spare 24 = .ok (.bipush 41, 2) := by decide +kernel
theorem dX9_spare_26 : decode cX9_spare 26 = .ok (.iaload, 1) := by decide +kernel
theorem dX9_spare_27 : decode cX9_spare 27 = .ok (.if_icmp .ge 51, 3) := by decide +kernel
theorem dX9_spare_30 : decode cX9_spare 30 = .ok (.iload_n 2, 1) := by decide +kernel
theorem dX9_spare_31 : decode cX9_spare 31 = .ok (.aload_n 0, 1) := by decide +kernel
theorem dX9_spare_32 : decode cX9_spare 32 = .ok (.iload_n 3, 1) := by decide +kernel
theorem dX9_spare_33 : decode cX9_spare 33 = .ok (.iconst 0, 1) := by decide +kernel
theorem dX9_spare_34 : decode cX9_spare 34 = .ok (.invokevirtual 172, 3) := by decide +kernel
theorem dX9_spare_37 : decode cX9_spare 37 = .ok (.iload_n 1, 1) := by decide +kernel
theorem dX9_spare_38 : decode cX9_spare 38 = .ok (.if_icmp .ne 26, 3) := by decide +kernel
theorem dX9_spare_41 : decode cX9_spare 41 = .ok (.aload_n 0, 1) := by decide +kernel
theorem dX9_spare_42 : decode cX9_spare 42 = .ok (.iload_n 3, 1) := by decide +kernel
theorem dX9_spare_43 : decode cX9_spare 43 = .ok (.invokevirtual 254, 3) := by decide +kernel
theorem dX9_spare_46 : decode cX9_spare 46 = .ok (.ifCond .ne 18, 3) := by decide +kernel
theorem dX9_spare_49 : decode cX9_spare 49 = .ok (.aload_n 0, 1) := by decide +kernel
theorem dX9_spare_50 : decode cX9_spare 50 = .ok (.getfield 29, 3) := by decide +kernel
theorem dX9_spare_53 : decode cX9_spare 53 = .ok (.iload_n 3, 1) := by decide +kernel
theorem dX9_spare_54 : decode cX9_spare 54 = .ok (.iaload, 1) := by decide +kernel
theorem dX9_spare_55 : decode cX9_spare 55 = .ok (.bipush (-4), 2) := by decide +kernel
theorem dX9_spare_57 : decode cX9_spare 57 = .ok (.if_icmp .ne 7, 3) := by decide +kernel
theorem dX9_spare_60 : decode cX9_spare 60 = .ok (.iconst 1, 1) := by decide +kernel
theorem dX9_spare_61 : decode cX9_spare 61 = .ok (.goto 4, 3) := by decide +kernel
theorem dX9_spare_64 : decode cX9_spare 64 = .ok (.iconst 0, 1) := by decide +kernel
theorem dX9_spare_65 : decode cX9_spare 65 = .ok (.invokestatic 219, 3) := by decide +kernel
theorem dX9_spare_68 : decode cX9_spare 68 = .ok (.iload_n 3, 1) := by decide +kernel
theorem dX9_spare_69 : decode cX9_spare 69 = .ok (.ishl, 1) := by decide +kernel
theorem dX9_spare_70 : decode cX9_spare 70 = .ok (.ior, 1) := by decide +kernel
theorem dX9_spare_71 : decode cX9_spare 71 = .ok (.istore_n 2, 1) := by decide +kernel
theorem dX9_spare_72 : decode cX9_spare 72 = .ok (.iinc 3 1, 3) := by decide +kernel
theorem dX9_spare_75 : decode cX9_spare 75 = .ok (.goto (-56), 3) := by decide +kernel
theorem dX9_spare_78 : decode cX9_spare 78 = .ok (.iload_n 2, 1) := by decide +kernel
theorem dX9_spare_79 : decode cX9_spare 79 = .ok (.ireturn, 1) := by decide +kernel
theorem dX9_winters_0 : decode cX9_winters 0 = .ok (.iconst 0, 1) := by decide +kernel
theorem dX9_winters_1 : decode cX9_winters 1 = .ok (.istore_n 1, 1) := by decide +kernel
theorem dX9_winters_2 : decode cX9_winters 2 = .ok (.iconst 0, 1) := by decide +kernel
theorem dX9_winters_3 : decode cX9_winters 3 = .ok (.istore_n 2, 1) := by decide +kernel
theorem dX9_winters_4 : decode cX9_winters 4 = .ok (.iload_n 2, 1) := by decide +kernel
theorem dX9_winters_5 : decode cX9_winters 5 = .ok (.aload_n 0, 1) := by decide +kernel
theorem dX9_winters_6 : decode cX9_winters 6 = .ok (.getfield 7, 3) := by decide +kernel
theorem dX9_winters_9 : decode cX9_winters 9 = .ok (.iconst 0, 1) := by decide +kernel
theorem dX9_winters_10 : decode cX9_winters 10 = .ok (.iaload, 1) := by decide +kernel
theorem dX9_winters_11 : decode cX9_winters 11 = .ok (.if_icmp .ge 74, 3) := by decide +kernel
theorem dX9_winters_14 : decode cX9_winters 14 = .ok (.iconst 0, 1) := by decide +kernel
theorem dX9_winters_15 : decode cX9_winters 15 = .ok (.istore_n 3, 1) := by decide +kernel
theorem dX9_winters_16 : decode cX9_winters 16 = .ok (.iload_n 3, 1) := by decide +kernel
theorem dX9_winters_17 : decode cX9_winters 17 = .ok (.iconst 2, 1) := by decide +kernel
theorem dX9_winters_18 : decode cX9_winters 18 = .ok (.if_icmp .ge 61, 3) := by decide +kernel
theorem dX9_winters_21 : decode cX9_winters 21 = .ok (.aload_n 0, 1) := by decide +kernel
theorem dX9_winters_22 : decode cX9_winters 22 = .ok (.iload_n 2, 1) := by decide +kernel
theorem dX9_winters_23 : decode cX9_winters 23 = .ok (.iload_n 3, 1) := by decide +kernel
theorem dX9_winters_24 : decode cX9_winters 24 = .ok (.invokevirtual 175, 3) := by decide +kernel
theorem dX9_winters_27 : decode cX9_winters 27 = .ok (.istore 4, 2) := by decide +kernel
theorem dX9_winters_29 : decode cX9_winters 29 = .ok (.iload 4, 2) := by decide +kernel
theorem dX9_winters_31 : decode cX9_winters 31 = .ok (.bipush (-4), 2) := by decide +kernel
theorem dX9_winters_33 : decode cX9_winters 33 = .ok (.if_icmp .eq 40, 3) := by decide +kernel
theorem dX9_winters_36 : decode cX9_winters 36 = .ok (.aload_n 0, 1) := by decide +kernel
theorem dX9_winters_37 : decode cX9_winters 37 = .ok (.getfield 7, 3) := by decide +kernel
theorem dX9_winters_40 : decode cX9_winters 40 = .ok (.bipush 42, 2) := by decide +kernel
theorem dX9_winters_42 : decode cX9_winters 42 = .ok (.bipush 7, 2) := by decide +kernel
theorem dX9_winters_44 : decode cX9_winters 44 = .ok (.iload 4, 2) := by decide +kernel
theorem dX9_winters_46 : decode cX9_winters 46 = .ok (.imul, 1) := by decide +kernel
theorem dX9_winters_47 : decode cX9_winters 47 = .ok (.iadd, 1) := by decide +kernel
theorem dX9_winters_48 : decode cX9_winters 48 = .ok (.iconst 4, 1) := by decide +kernel
theorem dX9_winters_49 : decode cX9_winters 49 = .ok (.iadd, 1) := by decide +kernel
theorem dX9_winters_50 : decode cX9_winters 50 = .ok (.dup2, 1) := by decide +kernel
theorem dX9_winters_51 : decode cX9_winters 51 = .ok (.iaload, 1) := by decide +kernel
theorem dX9_winters_52 : decode cX9_winters 52 = .ok (.iconst 1, 1) := by decide +kernel
theorem dX9_winters_53 : decode cX9_winters 53 = .ok (.iadd, 1) := by decide +kernel
theorem dX9_winters_54 : decode cX9_winters 54 = .ok (.iastore, 1) := by decide +kernel
theorem dX9_winters_55 : decode cX9_winters 55 = .ok (.aload_n 0, 1) := by decide +kernel
theorem dX9_winters_56 : decode cX9_winters 56 = .ok (.iload 4, 2) := by decide +kernel
theorem dX9_winters_58 : decode cX9_winters 58 = .ok (.invokevirtual 254, 3) := by decide +kernel
theorem dX9_winters_61 : decode cX9_winters 61 = .ok (.ifCond .eq 12, 3) := by decide +kernel
theorem dX9_winters_64 : decode cX9_winters 64 = .ok (.aload_n 0, 1) := by decide +kernel
theorem dX9_winters_65 : decode cX9_winters 65 = .ok (.iload_n 2, 1) := by decide +kernel
theorem dX9_winters_66 : decode cX9_winters 66 = .ok (.iload_n 3, 1) := by decide +kernel
theorem dX9_winters_67 : decode cX9_winters 67 = .ok (.invokevirtual 209, 3) := by decide +kernel
theorem dX9_winters_70 : decode cX9_winters 70 = .ok (.iinc 1 1, 3) := by decide +kernel
theorem dX9_winters_73 : decode cX9_winters 73 = .ok (.iinc 3 1, 3) := by decide +kernel
theorem dX9_winters_76 : decode cX9_winters 76 = .ok (.goto (-60), 3) := by decide +kernel
theorem dX9_winters_79 : decode cX9_winters 79 = .ok (.iinc 2 1, 3) := by decide +kernel
theorem dX9_winters_82 : decode cX9_winters 82 = .ok (.goto (-78), 3) := by decide +kernel
theorem dX9_winters_85 : decode cX9_winters 85 = .ok (.iload_n 1, 1) := by decide +kernel
theorem dX9_winters_86 : decode cX9_winters 86 = .ok (.ireturn, 1) := by decide +kernel
theorem dX9_winter_0 : decode cX9_winter 0 = .ok (.aload_n 0, 1) := by decide +kernel
theorem dX9_winter_1 : decode cX9_winter 1 = .ok (.invokevirtual 257, 3) := by decide +kernel
theorem dX9_winter_4 : decode cX9_winter 4 = .ok (.ireturn, 1) := by decide +kernel
theorem dX9_grows_0 : decode cX9_grows 0 = .ok (.aload_n 0, 1) := by decide +kernel
theorem dX9_grows_1 : decode cX9_grows 1 = .ok (.getfield 7, 3) := by decide +kernel
theorem dX9_grows_4 : decode cX9_grows 4 = .ok (.iconst 1, 1) := by decide +kernel
theorem dX9_grows_5 : decode cX9_grows 5 = .ok (.iconst 5, 1) := by decide +kernel
theorem dX9_grows_6 : decode cX9_grows 6 = .ok (.iload_n 1, 1) := by decide +kernel
theorem dX9_grows_7 : decode cX9_grows 7 = .ok (.imul, 1) := by decide +kernel
theorem dX9_grows_8 : decode cX9_grows 8 = .ok (.iadd, 1) := by decide +kernel
theorem dX9_grows_9 : decode cX9_grows 9 = .ok (.iaload, 1) := by decide +kernel
theorem dX9_grows_10 : decode cX9_grows 10 = .ok (.aload_n 0, 1) := by decide +kernel
theorem dX9_grows_11 : decode cX9_grows 11 = .ok (.getfield 7, 3) := by decide +kernel
theorem dX9_grows_14 : decode cX9_grows 14 = .ok (.iconst 1, 1) := by decide +kernel
theorem dX9_grows_15 : decode cX9_grows 15 = .ok (.iconst 5, 1) := by decide +kernel
theorem dX9_grows_16 : decode cX9_grows 16 = .ok (.iload_n 1, 1) := by decide +kernel
theorem dX9_grows_17 : decode cX9_grows 17 = .ok (.imul, 1) := by decide +kernel
theorem dX9_grows_18 : decode cX9_grows 18 = .ok (.iadd, 1) := by decide +kernel
theorem dX9_grows_19 : decode cX9_grows 19 = .ok (.iload_n 2, 1) := by decide +kernel
theorem dX9_grows_20 : decode cX9_grows 20 = .ok (.ifCond .eq 7, 3) := by decide +kernel
theorem dX9_grows_23 : decode cX9_grows 23 = .ok (.iconst 2, 1) := by decide +kernel
theorem dX9_grows_24 : decode cX9_grows 24 = .ok (.goto 4, 3) := by decide +kernel
theorem dX9_grows_27 : decode cX9_grows 27 = .ok (.iconst 1, 1) := by decide +kernel
theorem dX9_grows_28 : decode cX9_grows 28 = .ok (.iadd, 1) := by decide +kernel
theorem dX9_grows_29 : decode cX9_grows 29 = .ok (.iaload, 1) := by decide +kernel
theorem dX9_grows_30 : decode cX9_grows 30 = .ok (.iadd, 1) := by decide +kernel
theorem dX9_grows_31 : decode cX9_grows 31 = .ok (.istore_n 3, 1) := by decide +kernel
theorem dX9_grows_32 : decode cX9_grows 32 = .ok (.aload_n 0, 1) := by decide +kernel
theorem dX9_grows_33 : decode cX9_grows 33 = .ok (.getfield 7, 3) := by decide +kernel
theorem dX9_grows_36 : decode cX9_grows 36 = .ok (.iconst 1, 1) := by decide +kernel
theorem dX9_grows_37 : decode cX9_grows 37 = .ok (.iconst 5, 1) := by decide +kernel
theorem dX9_grows_38 : decode cX9_grows 38 = .ok (.iload_n 1, 1) := by decide +kernel
theorem dX9_grows_39 : decode cX9_grows 39 = .ok (.imul, 1) := by decide +kernel
theorem dX9_grows_40 : decode cX9_grows 40 = .ok (.iadd, 1) := by decide +kernel
theorem dX9_grows_41 : decode cX9_grows 41 = .ok (.iload_n 3, 1) := by decide +kernel
theorem dX9_grows_42 : decode cX9_grows 42 = .ok (.bipush 40, 2) := by decide +kernel
theorem dX9_grows_44 : decode cX9_grows 44 = .ok (.if_icmp .le 8, 3) := by decide +kernel
theorem dX9_grows_47 : decode cX9_grows 47 = .ok (.bipush 40, 2) := by decide +kernel
theorem dX9_grows_49 : decode cX9_grows 49 = .ok (.goto 4, 3) := by decide +kernel
theorem dX9_grows_52 : decode cX9_grows 52 = .ok (.iload_n 3, 1) := by decide +kernel
theorem dX9_grows_53 : decode cX9_grows 53 = .ok (.iastore, 1) := by decide +kernel
theorem dX9_grows_54 : decode cX9_grows 54 = .ok (.return_, 1) := by decide +kernel
theorem dX9_springs_0 : decode cX9_springs 0 = .ok (.iconst 0, 1) := by decide +kernel
theorem dX9_springs_1 : decode cX9_springs 1 = .ok (.istore_n 2, 1) := by decide +kernel
theorem dX9_springs_2 : decode cX9_springs 2 = .ok (.iconst 0, 1) := by decide +kernel
theorem dX9_springs_3 : decode cX9_springs 3 = .ok (.istore_n 3, 1) := by decide +kernel
theorem dX9_springs_4 : decode cX9_springs 4 = .ok (.iload_n 3, 1) := by decide +kernel
theorem dX9_springs_5 : decode cX9_springs 5 = .ok (.aload_n 0, 1) := by decide +kernel
theorem dX9_springs_6 : decode cX9_springs 6 = .ok (.getfield 7, 3) := by decide +kernel
theorem dX9_springs_9 : decode cX9_springs 9 = .ok (.iconst 0, 1) := by decide +kernel
theorem dX9_springs_10 : decode cX9_springs 10 = .ok (.iaload, 1) := by decide +kernel
theorem dX9_springs_11 : decode cX9_springs 11 = .ok (.if_icmp .ge 67, 3) := by decide +kernel
theorem dX9_springs_14 : decode cX9_springs 14 = .ok (.aload_n 0, 1) := by decide +kernel
theorem dX9_springs_15 : decode cX9_springs 15 = .ok (.iload_n 3, 1) := by decide +kernel
theorem dX9_springs_16 : decode cX9_springs 16 = .ok (.iload_n 1, 1) := by decide +kernel
theorem dX9_springs_17 : decode cX9_springs 17 = .ok (.invokevirtual 260, 3) := by decide +kernel
theorem dX9_springs_20 : decode cX9_springs 20 = .ok (.iconst 0, 1) := by decide +kernel
theorem dX9_springs_21 : decode cX9_springs 21 = .ok (.istore 4, 2) := by decide +kernel
theorem dX9_springs_23 : decode cX9_springs 23 = .ok (.iload 4, 2) := by decide +kernel
theorem dX9_springs_25 : decode cX9_springs 25 = .ok (.iconst 2, 1) := by decide +kernel
theorem dX9_springs_26 : decode cX9_springs 26 = .ok (.if_icmp .ge 46, 3) := by decide +kernel
theorem dX9_springs_29 : decode cX9_springs 29 = .ok (.aload_n 0, 1) := by decide +kernel
theorem dX9_springs_30 : decode cX9_springs 30 = .ok (.iload_n 3, 1) := by decide +kernel
theorem dX9_springs_31 : decode cX9_springs 31 = .ok (.iload 4, 2) := by decide +kernel
theorem dX9_springs_33 : decode cX9_springs 33 = .ok (.invokevirtual 175, 3) := by decide +kernel
theorem dX9_springs_36 : decode cX9_springs 36 = .ok (.istore 5, 2) := by decide +kernel
theorem dX9_springs_38 : decode cX9_springs 38 = .ok (.iload 5, 2) := by decide +kernel
theorem dX9_springs_40 : decode cX9_springs 40 = .ok (.bipush (-4), 2) := by decide +kernel
theorem dX9_springs_42 : decode cX9_springs 42 = .ok (.if_icmp .eq 24, 3) := by decide +kernel
theorem dX9_springs_45 : decode cX9_springs 45 = .ok (.aload_n 0, 1) := by decide +kernel
theorem dX9_springs_46 : decode cX9_springs 46 = .ok (.iload_n 3, 1) := by decide +kernel
theorem dX9_springs_47 : decode cX9_springs 47 = .ok (.iload 5, 2) := by decide +kernel
theorem dX9_springs_49 : decode cX9_springs 49 = .ok (.invokevirtual 206, 3) := by decide +kernel
theorem dX9_springs_52 : decode cX9_springs 52 = .ok (.iconst 1, 1) := by decide +kernel
theorem dX9_springs_53 : decode cX9_springs 53 = .ok (.if_icmp .eq 13, 3) := by decide +kernel
theorem dX9_springs_56 : decode cX9_springs 56 = .ok (.aload_n 0, 1) := by decide +kernel
theorem dX9_springs_57 : decode cX9_springs 57 = .ok (.iload_n 3, 1) := by decide +kernel
theorem dX9_springs_58 : decode cX9_springs 58 = .ok (.iload 4, 2) := by decide +kernel
theorem dX9_springs_60 : decode cX9_springs 60 = .ok (.invokevirtual 209, 3) := by decide +kernel
theorem dX9_springs_63 : decode cX9_springs 63 = .ok (.iinc 2 1, 3) := by decide +kernel
theorem dX9_springs_66 : decode cX9_springs 66 = .ok (.iinc 4 1, 3) := by decide +kernel
theorem dX9_springs_69 : decode cX9_springs 69 = .ok (.goto (-46), 3) := by decide +kernel
theorem dX9_springs_72 : decode cX9_springs 72 = .ok (.iinc 3 1, 3) := by decide +kernel
theorem dX9_springs_75 : decode cX9_springs 75 = .ok (.goto (-71), 3) := by decide +kernel
theorem dX9_springs_78 : decode cX9_springs 78 = .ok (.iload_n 2, 1) := by decide +kernel
theorem dX9_springs_79 : decode cX9_springs 79 = .ok (.ireturn, 1) := by decide +kernel
theorem dX9_spring_0 : decode cX9_spring 0 = .ok (.aload_n 0, 1) := by decide +kernel
theorem dX9_spring_1 : decode cX9_spring 1 = .ok (.iload_n 1, 1) := by decide +kernel
theorem dX9_spring_2 : decode cX9_spring 2 = .ok (.invokevirtual 264, 3) := by decide +kernel
theorem dX9_spring_5 : decode cX9_spring 5 = .ok (.ireturn, 1) := by decide +kernel
theorem dX9_copies_0 : decode cX9_copies 0 = .ok (.iconst 0, 1) := by decide +kernel
theorem dX9_copies_1 : decode cX9_copies 1 = .ok (.istore_n 3, 1) := by decide +kernel
theorem dX9_copies_2 : decode cX9_copies 2 = .ok (.iload_n 3, 1) := by decide +kernel
theorem dX9_copies_3 : decode cX9_copies 3 = .ok (.sipush 199, 3) := by decide +kernel
theorem dX9_copies_6 : decode cX9_copies 6 = .ok (.if_icmp .ge 25, 3) := by decide +kernel
theorem dX9_copies_9 : decode cX9_copies 9 = .ok (.aload_n 0, 1) := by decide +kernel
theorem dX9_copies_10 : decode cX9_copies 10 = .ok (.getfield 7, 3) := by decide +kernel
theorem dX9_copies_13 : decode cX9_copies 13 = .ok (.iload_n 1, 1) := by decide +kernel
theorem dX9_copies_14 : decode cX9_copies 14 = .ok (.iload_n 3, 1) := by decide +kernel
theorem dX9_copies_15 : decode cX9_copies 15 = .ok (.iadd, 1) := by decide +kernel
theorem dX9_copies_16 : decode cX9_copies 16 = .ok (.aload_n 0, 1) := by decide +kernel
theorem dX9_copies_17 : decode cX9_copies 17 = .ok (.getfield 7, 3) := by decide +kernel
theorem dX9_copies_20 : decode cX9_copies 20 = .ok (.iload_n 2, 1) := by decide +kernel
theorem dX9_copies_21 : decode cX9_copies 21 = .ok (.iload_n 3, 1) := by decide +kernel
theorem dX9_copies_22 : decode cX9_copies 22 = .ok (.iadd, 1) := by decide +kernel
theorem dX9_copies_23 : decode cX9_copies 23 = .ok (.iaload, 1) := by decide +kernel
theorem dX9_copies_24 : decode cX9_copies 24 = .ok (.iastore, 1) := by decide +kernel
theorem dX9_copies_25 : decode cX9_copies 25 = .ok (.iinc 3 1, 3) := by decide +kernel
theorem dX9_copies_28 : decode cX9_copies 28 = .ok (.goto (-26), 3) := by decide +kernel
theorem dX9_copies_31 : decode cX9_copies 31 = .ok (.return_, 1) := by decide +kernel
theorem dX9_aheadBy_0 : decode cX9_aheadBy 0 = .ok (.aload_n 0, 1) := by decide +kernel
theorem dX9_aheadBy_1 : decode cX9_aheadBy 1 = .ok (.sipush 597, 3) := by decide +kernel
theorem dX9_aheadBy_4 : decode cX9_aheadBy 4 = .ok (.iconst 0, 1) := by decide +kernel
theorem dX9_aheadBy_5 : decode cX9_aheadBy 5 = .ok (.invokevirtual 267, 3) := by decide +kernel
theorem dX9_aheadBy_8 : decode cX9_aheadBy 8 = .ok (.iconst 0, 1) := by decide +kernel
theorem dX9_aheadBy_9 : decode cX9_aheadBy 9 = .ok (.istore 4, 2) := by decide +kernel
theorem dX9_aheadBy_11 : decode cX9_aheadBy 11 = .ok (.iconst 0, 1) := by decide +kernel
theorem dX9_aheadBy_12 : decode cX9_aheadBy 12 = .ok (.istore 5, 2) := by decide +kernel
theorem dX9_aheadBy_14 : decode cX9_aheadBy 14 = .ok (.iload 5, 2) := by decide +kernel
theorem dX9_aheadBy_16 : decode cX9_aheadBy 16 = .ok (.iload_n 2, 1) := by decide +kernel
theorem dX9_aheadBy_17 : decode cX9_aheadBy 17 = .ok (.if_icmp .ge 44, 3) := by decide +kernel
theorem dX9_aheadBy_20 : decode cX9_aheadBy 20 = .ok (.aload_n 0, 1) := by decide +kernel
theorem dX9_aheadBy_21 : decode cX9_aheadBy 21 = .ok (.getfield 44, 3) := by decide +kernel
theorem dX9_aheadBy_24 : decode cX9_aheadBy 24 = .ok (.iload 5, 2) := by decide +kernel
theorem dX9_aheadBy_26 : decode cX9_aheadBy 26 = .ok (.aload_n 0, 1) := by decide +kernel
theorem dX9_aheadBy_27 : decode cX9_aheadBy 27 = .ok (.iload_n 1, 1) := by decide +kernel
theorem dX9_aheadBy_28 : decode cX9_aheadBy 28 = .ok (.invokevirtual 251, 3) := by decide +kernel
theorem dX9_aheadBy_31 : decode cX9_aheadBy 31 = .ok (.iastore, 1) := by decide +kernel
theorem dX9_aheadBy_32 : decode cX9_aheadBy 32 = .ok (.iload 4, 2) := by decide +kernel
theorem dX9_aheadBy_34 : decode cX9_aheadBy 34 = .ok (.aload_n 0, 1) := by decide +kernel
theorem dX9_aheadBy_35 : decode cX9_aheadBy 35 = .ok (.getfield 44, 3) := by decide +kernel
theorem dX9_aheadBy_38 : decode cX9_aheadBy 38 = .ok (.iload 5, 2) := by decide +kernel
theorem dX9_aheadBy_40 : decode cX9_aheadBy 40 = .ok (.iaload, 1) := by decide +kernel
theorem dX9_aheadBy_41 : decode cX9_aheadBy 41 = .ok (.iadd, 1) := by decide +kernel
theorem dX9_aheadBy_42 : decode cX9_aheadBy 42 = .ok (.istore 4, 2) := by decide +kernel
theorem dX9_aheadBy_44 : decode cX9_aheadBy 44 = .ok (.aload_n 0, 1) := by decide +kernel
theorem dX9_aheadBy_45 : decode cX9_aheadBy 45 = .ok (.invokevirtual 257, 3) := by decide +kernel
theorem dX9_aheadBy_48 : decode cX9_aheadBy 48 = .ok (.pop, 1) := by decide +kernel
theorem dX9_aheadBy_49 : decode cX9_aheadBy 49 = .ok (.aload_n 0, 1) := by decide +kernel
theorem dX9_aheadBy_50 : decode cX9_aheadBy 50 = .ok (.iload_n 3, 1) := by decide +kernel
theorem dX9_aheadBy_51 : decode cX9_aheadBy 51 = .ok (.invokevirtual 264, 3) := by decide +kernel
theorem dX9_aheadBy_54 : decode cX9_aheadBy 54 = .ok (.pop, 1) := by decide +kernel
theorem dX9_aheadBy_55 : decode cX9_aheadBy 55 = .ok (.iinc 5 1, 3) := by decide +kernel
theorem dX9_aheadBy_58 : decode cX9_aheadBy 58 = .ok (.goto (-44), 3) := by decide +kernel
theorem dX9_aheadBy_61 : decode cX9_aheadBy 61 = .ok (.aload_n 0, 1) := by decide +kernel
theorem dX9_aheadBy_62 : decode cX9_aheadBy 62 = .ok (.iconst 0, 1) := by decide +kernel
theorem dX9_aheadBy_63 : decode cX9_aheadBy 63 = .ok (.sipush 597, 3) := by decide +kernel
theorem dX9_aheadBy_66 : decode cX9_aheadBy 66 = .ok (.invokevirtual 267, 3) := by decide +kernel
theorem dX9_aheadBy_69 : decode cX9_aheadBy 69 = .ok (.iload 4, 2) := by decide +kernel
theorem dX9_aheadBy_71 : decode cX9_aheadBy 71 = .ok (.ireturn, 1) := by decide +kernel
theorem dX9_areYears_0 : decode cX9_areYears 0 = .ok (.iload_n 0, 1) := by decide +kernel
theorem dX9_areYears_1 : decode cX9_areYears 1 = .ok (.i2l, 1) := by decide +kernel
theorem dX9_areYears_2 : decode cX9_areYears 2 = .ok (.lconst 1, 1) := by decide +kernel
theorem dX9_areYears_3 : decode cX9_areYears 3 = .ok (.ldc2_w 196, 3) := by decide +kernel
theorem dX9_areYears_6 : decode cX9_areYears 6 = .ok (.invokestatic 93, 3) := by decide +kernel
theorem dX9_areYears_9 : decode cX9_areYears 9 = .ok (.ireturn, 1) := by decide +kernel
theorem dX9_ahead_0 : decode cX9_ahead 0 = .ok (.iload_n 1, 1) := by decide +kernel
theorem dX9_ahead_1 : decode cX9_ahead 1 = .ok (.invokestatic 216, 3) := by decide +kernel
theorem dX9_ahead_4 : decode cX9_ahead 4 = .ok (.ifCond .eq 32, 3) := by decide +kernel
theorem dX9_ahead_7 : decode cX9_ahead 7 = .ok (.iload_n 2, 1) := by decide +kernel
theorem dX9_ahead_8 : decode cX9_ahead 8 = .ok (.invokestatic 270, 3) := by decide +kernel
theorem dX9_ahead_11 : decode cX9_ahead 11 = .ok (.ifCond .eq 25, 3) := by decide +kernel
theorem dX9_ahead_14 : decode cX9_ahead 14 = .ok (.iload 4, 2) := by decide +kernel
theorem dX9_ahead_16 : decode cX9_ahead 16 = .ok (.ifCond .eq 22, 3) := by decide +kernel
theorem dX9_ahead_19 : decode cX9_ahead 19 = .ok (.iload 4, 2) := by decide +kernel
theorem dX9_ahead_21 : decode cX9_ahead 21 = .ok (.i2l, 1) := by decide +kernel
theorem dX9_ahead_22 : decode cX9_ahead 22 = .ok (.ldc2_w 184, 3) := by decide +kernel
theorem dX9_ahead_25 : decode cX9_ahead 25 = .ok (.bipush 9, 2) := by decide +kernel
theorem dX9_ahead_27 : decode cX9_ahead 27 = .ok (.iload_n 2, 1) := by decide +kernel
theorem dX9_ahead_28 : decode cX9_ahead 28 = .ok (.iadd, 1) := by decide +kernel
theorem dX9_ahead_29 : decode cX9_ahead 29 = .ok (.i2l, 1) := by decide +kernel
theorem dX9_ahead_30 : decode cX9_ahead 30 = .ok (.invokestatic 93, 3) := by decide +kernel
theorem dX9_ahead_33 : decode cX9_ahead 33 = .ok (.ifCond .ne 5, 3) := by decide +kernel
theorem dX9_ahead_36 : decode cX9_ahead 36 = .ok (.iconst (-1), 1) := by decide +kernel
theorem dX9_ahead_37 : decode cX9_ahead 37 = .ok (.ireturn, 1) := by decide +kernel
theorem dX9_ahead_38 : decode cX9_ahead 38 = .ok (.aload_n 0, 1) := by decide +kernel
theorem dX9_ahead_39 : decode cX9_ahead 39 = .ok (.iload_n 1, 1) := by decide +kernel
theorem dX9_ahead_40 : decode cX9_ahead 40 = .ok (.iload_n 2, 1) := by decide +kernel
theorem dX9_ahead_41 : decode cX9_ahead 41 = .ok (.iload_n 3, 1) := by decide +kernel
theorem dX9_ahead_42 : decode cX9_ahead 42 = .ok (.invokevirtual 273, 3) := by decide +kernel
theorem dX9_ahead_45 : decode cX9_ahead 45 = .ok (.istore 5, 2) := by decide +kernel
theorem dX9_ahead_47 : decode cX9_ahead 47 = .ok (.iload 4, 2) := by decide +kernel
theorem dX9_ahead_49 : decode cX9_ahead 49 = .ok (.ifCond .ne 8, 3) := by decide +kernel
theorem dX9_ahead_52 : decode cX9_ahead 52 = .ok (.iload 5, 2) := by decide +kernel
theorem dX9_ahead_54 : decode cX9_ahead 54 = .ok (.goto 13, 3) := by decide +kernel
theorem dX9_ahead_57 : decode cX9_ahead 57 = .ok (.aload_n 0, 1) := by decide +kernel
theorem dX9_ahead_58 : decode cX9_ahead 58 = .ok (.getfield 44, 3) := by decide +kernel
theorem dX9_ahead_61 : decode cX9_ahead 61 = .ok (.iload 4, 2) := by decide +kernel
theorem dX9_ahead_63 : decode cX9_ahead 63 = .ok (.bipush 10, 2) := by decide +kernel
theorem dX9_ahead_65 : decode cX9_ahead 65 = .ok (.isub, 1) := by decide +kernel
theorem dX9_ahead_66 : decode cX9_ahead 66 = .ok (.iaload, 1) := by decide +kernel
theorem dX9_ahead_67 : decode cX9_ahead 67 = .ok (.ireturn, 1) := by decide +kernel
theorem dX9_strong_0 : decode cX9_strong 0 = .ok (.iload_n 1, 1) := by decide +kernel
theorem dX9_strong_1 : decode cX9_strong 1 = .ok (.invokestatic 216, 3) := by decide +kernel
theorem dX9_strong_4 : decode cX9_strong 4 = .ok (.ifCond .eq 10, 3) := by decide +kernel
theorem dX9_strong_7 : decode cX9_strong 7 = .ok (.iload_n 2, 1) := by decide +kernel
theorem dX9_strong_8 : decode cX9_strong 8 = .ok (.invokestatic 270, 3) := by decide +kernel
theorem dX9_strong_11 : decode cX9_strong 11 = .ok (.ifCond .ne 5, 3) := by decide +kernel
theorem dX9_strong_14 : decode cX9_strong 14 = .ok (.iconst (-1), 1) := by decide +kernel
theorem dX9_strong_15 : decode cX9_strong 15 = .ok (.ireturn, 1) := by decide +kernel
theorem dX9_strong_16 : decode cX9_strong 16 = .ok (.iconst 0, 1) := by decide +kernel
theorem dX9_strong_17 : decode cX9_strong 17 = .ok (.istore 4, 2) := by decide +kernel
theorem dX9_strong_19 : decode cX9_strong 19 = .ok (.iload 4, 2) := by decide +kernel
theorem dX9_strong_21 : decode cX9_strong 21 = .ok (.aload_n 0, 1) := by decide +kernel
theorem dX9_strong_22 : decode cX9_strong 22 = .ok (.getfield 7, 3) := by decide +kernel
theorem dX9_strong_25 : decode cX9_strong 25 = .ok (.bipush 41, 2) := by decide +kernel
theorem dX9_strong_27 : decode cX9_strong 27 = .ok (.iaload, 1) := by decide +kernel
theorem dX9_strong_28 : decode cX9_strong 28 = .ok (.if_icmp .ge 23, 3) := by decide +kernel
theorem dX9_strong_31 : decode cX9_strong 31 = .ok (.aload_n 0, 1) := by decide +kernel
theorem dX9_strong_32 : decode cX9_strong 32 = .ok (.getfield 47, 3) := by decide +kernel
theorem dX9_strong_35 : decode cX9_strong 35 = .ok (.iload 4, 2) := by decide +kernel
theorem dX9_strong_37 : decode cX9_strong 37 = .ok (.aload_n 0, 1) := by decide +kernel
theorem dX9_strong_38 : decode cX9_strong 38 = .ok (.iload 4, 2) := by decide +kernel
theorem dX9_strong_40 : decode cX9_strong 40 = .ok (.iconst 3, 1) := by decide +kernel
theorem dX9_strong_41 : decode cX9_strong 41 = .ok (.invokevirtual 172, 3) := by decide +kernel
theorem dX9_strong_44 : decode cX9_strong 44 = .ok (.iastore, 1) := by decide +kernel
theorem dX9_strong_45 : decode cX9_strong 45 = .ok (.iinc 4 1, 3) := by decide +kernel
theorem dX9_strong_48 : decode cX9_strong 48 = .ok (.goto (-29), 3) := by decide +kernel
theorem dX9_strong_51 : decode cX9_strong 51 = .ok (.bipush (-4), 2) := by decide +kernel
theorem dX9_strong_53 : decode cX9_strong 53 = .ok (.istore 4, 2) := by decide +kernel
theorem dX9_strong_55 : decode cX9_strong 55 = .ok (.iconst 1, 1) := by decide +kernel
theorem dX9_strong_56 : decode cX9_strong 56 = .ok (.istore 5, 2) := by decide +kernel
theorem dX9_strong_58 : decode cX9_strong 58 = .ok (.iload 5, 2) := by decide +kernel
theorem dX9_strong_60 : decode cX9_strong 60 = .ok (.bipush 10, 2) := by decide +kernel
theorem dX9_strong_62 : decode cX9_strong 62 = .ok (.if_icmp .ge 106, 3) := by decide +kernel
theorem dX9_strong_65 : decode cX9_strong 65 = .ok (.iload 4, 2) := by decide +kernel
theorem dX9_strong_67 : decode cX9_strong 67 = .ok (.bipush (-4), 2) := by decide +kernel
theorem dX9_strong_69 : decode cX9_strong 69 = .ok (.if_icmp .ne 99, 3) := by decide +kernel
theorem dX9_strong_72 : decode cX9_strong 72 = .ok (.iconst 0, 1) := by decide +kernel
theorem dX9_strong_73 : decode cX9_strong 73 = .ok (.istore 6, 2) := by decide +kernel
theorem dX9_strong_75 : decode cX9_strong 75 = .ok (.iload 6, 2) := by decide +kernel
theorem dX9_strong_77 : decode cX9_strong 77 = .ok (.aload_n 0, 1) := by decide +kernel
theorem dX9_strong_78 : decode cX9_strong 78 = .ok (.getfield 7, 3) := by decide +kernel
theorem dX9_strong_81 : decode cX9_strong 81 = .ok (.bipush 41, 2) := by decide +kernel
theorem dX9_strong_83 : decode cX9_strong 83 = .ok (.iaload, 1) := by decide +kernel
theorem dX9_strong_84 : decode cX9_strong 84 = .ok (.if_icmp .ge 59, 3) := by decide +kernel
theorem dX9_strong_87 : decode cX9_strong 87 = .ok (.aload_n 0, 1) := by decide +kernel
theorem dX9_strong_88 : decode cX9_strong 88 = .ok (.getfield 7, 3) := by decide +kernel
theorem dX9_strong_91 : decode cX9_strong 91 = .ok (.bipush 42, 2) := by decide +kernel
theorem dX9_strong_93 : decode cX9_strong 93 = .ok (.bipush 7, 2) := by decide +kernel
theorem dX9_strong_95 : decode cX9_strong 95 = .ok (.iload 6, 2) := by decide +kernel
theorem dX9_strong_97 : decode cX9_strong 97 = .ok (.imul, 1) := by decide +kernel
theorem dX9_strong_98 : decode cX9_strong 98 = .ok (.iadd, 1) := by decide +kernel
theorem dX9_strong_99 : decode cX9_strong 99 = .ok (.iconst 3, 1) := by decide +kernel
theorem dX9_strong_100 : decode cX9_strong 100 = .ok (.iadd, 1) := by decide +kernel
theorem dX9_strong_101 : decode cX9_strong 101 = .ok (.aload_n 0, 1) := by decide +kernel
theorem dX9_strong_102 : decode cX9_strong 102 = .ok (.iload 6, 2) := by decide +kernel
theorem dX9_strong_104 : decode cX9_strong 104 = .ok (.iconst 0, 1) := by decide +kernel
theorem dX9_strong_105 : decode cX9_strong 105 = .ok (.invokevirtual 172, 3) := by decide +kernel
theorem dX9_strong_108 : decode cX9_strong 108 = .ok (.iload_n 1, 1) := by decide +kernel
theorem dX9_strong_109 : decode cX9_strong 109 = .ok (.if_icmp .ne 20, 3) := by decide +kernel
theorem dX9_strong_112 : decode cX9_strong 112 = .ok (.aload_n 0, 1) := by decide +kernel
theorem dX9_strong_113 : decode cX9_strong 113 = .ok (.getfield 47, 3) := by decide +kernel
theorem dX9_strong_116 : decode cX9_strong 116 = .ok (.iload 6, 2) := by decide +kernel
theorem dX9_strong_118 : decode cX9_strong 118 = .ok (.iaload, 1) := by decide +kernel
theorem dX9_strong_119 : decode cX9_strong 119 = .ok (.iload 5, 2) := by decide +kernel
theorem dX9_strong_121 : decode cX9_strong 121 = .ok (.if_icmp .ge 8, 3) := by decide +kernel
theorem dX9_strong_124 : decode cX9_strong 124 = .ok (.iload 5, 2) := by decide +kernel
theorem dX9_strong_126 : decode cX9_strong 126 = .ok (.goto 10, 3) := by decide +kernel
theorem dX9_strong_129 : decode cX9_strong 129 = .ok (.aload_n 0, 1) := by decide +kernel
theorem dX9_strong_130 : decode cX9_strong 130 = .ok (.getfield 47, 3) := by decide +kernel
theorem dX9_strong_133 : decode cX9_strong 133 = .ok (.iload 6, 2) := by decide +kernel
theorem dX9_strong_135 : decode cX9_strong 135 = .ok (.iaload, 1) := by decide +kernel
theorem dX9_strong_136 : decode cX9_strong 136 = .ok (.iastore, 1) := by decide +kernel
theorem dX9_strong_137 : decode cX9_strong 137 = .ok (.iinc 6 1, 3) := by decide +kernel
theorem dX9_strong_140 : decode cX9_strong 140 = .ok (.goto (-65), 3) := by decide +kernel
theorem dX9_strong_143 : decode cX9_strong 143 = .ok (.aload_n 0, 1) := by decide +kernel
theorem dX9_strong_144 : decode cX9_strong 144 = .ok (.iload_n 1, 1) := by decide +kernel
theorem dX9_strong_145 : decode cX9_strong 145 = .ok (.iload_n 2, 1) := by decide +kernel
theorem dX9_strong_146 : decode cX9_strong 146 = .ok (.iload_n 3, 1) := by decide +kernel
theorem dX9_strong_147 : decode cX9_strong 147 = .ok (.invokevirtual 273, 3) := by decide +kernel
theorem dX9_strong_150 : decode cX9_strong 150 = .ok (.ifCond .ne 8, 3) := by decide +kernel
theorem dX9_strong_153 : decode cX9_strong 153 = .ok (.iload 5, 2) := by decide +kernel
theorem dX9_strong_155 : decode cX9_strong 155 = .ok (.goto 5, 3) := by decide +kernel
theorem dX9_strong_158 : decode cX9_strong 158 = .ok (.iload 4, 2) := by decide +kernel
theorem dX9_strong_160 : decode cX9_strong 160 = .ok (.istore 4, 2) := by decide +kernel
theorem dX9_strong_162 : decode cX9_strong 162 = .ok (.iinc 5 1, 3) := by decide +kernel
theorem dX9_strong_165 : decode cX9_strong 165 = .ok (.goto (-107), 3) := by decide +kernel
theorem dX9_strong_168 : decode cX9_strong 168 = .ok (.iconst 0, 1) := by decide +kernel
theorem dX9_strong_169 : decode cX9_strong 169 = .ok (.istore 5, 2) := by decide +kernel
theorem dX9_strong_171 : decode cX9_strong 171 = .ok (.iload 5, 2) := by decide +kernel
theorem dX9_strong_173 : decode cX9_strong 173 = .ok (.aload_n 0, 1) := by decide +kernel
theorem dX9_strong_174 : decode cX9_strong 174 = .ok (.getfield 7, 3) := by decide +kernel
theorem dX9_strong_177 : decode cX9_strong 177 = .ok (.bipush 41, 2) := by decide +kernel
theorem dX9_strong_179 : decode cX9_strong 179 = .ok (.iaload, 1) := by decide +kernel
theorem dX9_strong_180 : decode cX9_strong 180 = .ok (.if_icmp .ge 31, 3) := by decide +kernel
theorem dX9_strong_183 : decode cX9_strong 183 = .ok (.aload_n 0, 1) := by decide +kernel
theorem dX9_strong_184 : decode cX9_strong 184 = .ok (.getfield 7, 3) := by decide +kernel
theorem dX9_strong_187 : decode cX9_strong 187 = .ok (.bipush 42, 2) := by decide +kernel
theorem dX9_strong_189 : decode cX9_strong 189 = .ok (.bipush 7, 2) := by decide +kernel
theorem dX9_strong_191 : decode cX9_strong 191 = .ok (.iload 5, 2) := by decide +kernel
theorem dX9_strong_193 : decode cX9_strong 193 = .ok (.imul, 1) := by decide +kernel
theorem dX9_strong_194 : decode cX9_strong 194 = .ok (.iadd, 1) := by decide +kernel
theorem dX9_strong_195 : decode cX9_strong 195 = .ok (.iconst 3, 1) := by decide +kernel
theorem dX9_strong_196 : decode cX9_strong 196 = .ok (.iadd, 1) := by decide +kernel
theorem dX9_strong_197 : decode cX9_strong 197 = .ok (.aload_n 0, 1) := by decide +kernel
theorem dX9_strong_198 : decode cX9_strong 198 = .ok (.getfield 47, 3) := by decide +kernel
theorem dX9_strong_201 : decode cX9_strong 201 = .ok (.iload 5, 2) := by decide +kernel
theorem dX9_strong_203 : decode cX9_strong 203 = .ok (.iaload, 1) := by decide +kernel
theorem dX9_strong_204 : decode cX9_strong 204 = .ok (.iastore, 1) := by decide +kernel
theorem dX9_strong_205 : decode cX9_strong 205 = .ok (.iinc 5 1, 3) := by decide +kernel
theorem dX9_strong_208 : decode cX9_strong 208 = .ok (.goto (-37), 3) := by decide +kernel
theorem dX9_strong_211 : decode cX9_strong 211 = .ok (.iload 4, 2) := by decide +kernel
theorem dX9_strong_213 : decode cX9_strong 213 = .ok (.ireturn, 1) := by decide +kernel
theorem dX9_cut_0 : decode cX9_cut 0 = .ok (.aload_n 0, 1) := by decide +kernel
theorem dX9_cut_1 : decode cX9_cut 1 = .ok (.iload_n 1, 1) := by decide +kernel
theorem dX9_cut_2 : decode cX9_cut 2 = .ok (.invokevirtual 188, 3) := by decide +kernel
theorem dX9_cut_5 : decode cX9_cut 5 = .ok (.ifCond .eq 21, 3) := by decide +kernel
theorem dX9_cut_8 : decode cX9_cut 8 = .ok (.iload_n 2, 1) := by decide +kernel
theorem dX9_cut_9 : decode cX9_cut 9 = .ok (.i2l, 1) := by decide +kernel
theorem dX9_cut_10 : decode cX9_cut 10 = .ok (.lconst 1, 1) := by decide +kernel
theorem dX9_cut_11 : decode cX9_cut 11 = .ok (.aload_n 0, 1) := by decide +kernel
theorem dX9_cut_12 : decode cX9_cut 12 = .ok (.iload_n 1, 1) := by decide +kernel
theorem dX9_cut_13 : decode cX9_cut 13 = .ok (.iconst 2, 1) := by decide +kernel
theorem dX9_cut_14 : decode cX9_cut 14 = .ok (.invokevirtual 172, 3) := by decide +kernel
theorem dX9_cut_17 : decode cX9_cut 17 = .ok (.iconst 1, 1) := by decide +kernel
theorem dX9_cut_18 : decode cX9_cut 18 = .ok (.isub, 1) := by decide +kernel
theorem dX9_cut_19 : decode cX9_cut 19 = .ok (.i2l, 1) := by decide +kernel
theorem dX9_cut_20 : decode cX9_cut 20 = .ok (.invokestatic 93, 3) := by decide +kernel
theorem dX9_cut_23 : decode cX9_cut 23 = .ok (.ifCond .ne 5, 3) := by decide +kernel
theorem dX9_cut_26 : decode cX9_cut 26 = .ok (.iconst (-1), 1) := by decide +kernel
theorem dX9_cut_27 : decode cX9_cut 27 = .ok (.ireturn, 1) := by decide +kernel
theorem dX9_cut_28 : decode cX9_cut 28 = .ok (.aload_n 0, 1) := by decide +kernel
theorem dX9_cut_29 : decode cX9_cut 29 = .ok (.iload_n 1, 1) := by decide +kernel
theorem dX9_cut_30 : decode cX9_cut 30 = .ok (.invokevirtual 193, 3) := by decide +kernel
theorem dX9_cut_33 : decode cX9_cut 33 = .ok (.bipush (-4), 2) := by decide +kernel
theorem dX9_cut_35 : decode cX9_cut 35 = .ok (.if_icmp .eq 6, 3) := by decide +kernel
theorem dX9_cut_38 : decode cX9_cut 38 = .ok (.bipush (-2), 2) := by decide +kernel
theorem dX9_cut_40 : decode cX9_cut 40 = .ok (.ireturn, 1) := by decide +kernel
theorem dX9_cut_41 : decode cX9_cut 41 = .ok (.aload_n 0, 1) := by decide +kernel
theorem dX9_cut_42 : decode cX9_cut 42 = .ok (.iload_n 1, 1) := by decide +kernel
theorem dX9_cut_43 : decode cX9_cut 43 = .ok (.iconst 2, 1) := by decide +kernel
theorem dX9_cut_44 : decode cX9_cut 44 = .ok (.invokevirtual 172, 3) := by decide +kernel
theorem dX9_cut_47 : decode cX9_cut 47 = .ok (.istore_n 3, 1) := by decide +kernel
theorem dX9_cut_48 : decode cX9_cut 48 = .ok (.aload_n 0, 1) := by decide +kernel
theorem dX9_cut_49 : decode cX9_cut 49 = .ok (.getfield 7, 3) := by decide +kernel
theorem dX9_cut_52 : decode cX9_cut 52 = .ok (.bipush 42, 2) := by decide +kernel
theorem dX9_cut_54 : decode cX9_cut 54 = .ok (.bipush 7, 2) := by decide +kernel
theorem dX9_cut_56 : decode cX9_cut 56 = .ok (.iload_n 1, 1) := by decide +kernel
theorem dX9_cut_57 : decode cX9_cut 57 = .ok (.imul, 1) := by decide +kernel
theorem dX9_cut_58 : decode cX9_cut 58 = .ok (.iadd, 1) := by decide +kernel
theorem dX9_cut_59 : decode cX9_cut 59 = .ok (.iconst 2, 1) := by decide +kernel
theorem dX9_cut_60 : decode cX9_cut 60 = .ok (.iadd, 1) := by decide +kernel
theorem dX9_cut_61 : decode cX9_cut 61 = .ok (.iload_n 2, 1) := by decide +kernel
theorem dX9_cut_62 : decode cX9_cut 62 = .ok (.iastore, 1) := by decide +kernel
theorem dX9_cut_63 : decode cX9_cut 63 = .ok (.iload_n 3, 1) := by decide +kernel
theorem dX9_cut_64 : decode cX9_cut 64 = .ok (.ireturn, 1) := by decide +kernel
theorem dX9_findCut_0 : decode cX9_findCut 0 = .ok (.aload_n 0, 1) := by decide +kernel
theorem dX9_findCut_1 : decode cX9_findCut 1 = .ok (.iload_n 1, 1) := by decide +kernel
theorem dX9_findCut_2 : decode cX9_findCut 2 = .ok (.iconst 2, 1) := by decide +kernel
theorem dX9_findCut_3 : decode cX9_findCut 3 = .ok (.invokevirtual 172, 3) := by decide +kernel
theorem dX9_findCut_6 : decode cX9_findCut 6 = .ok (.istore 5, 2) := by decide +kernel
theorem dX9_findCut_8 : decode cX9_findCut 8 = .ok (.aload_n 0, 1) := by decide +kernel
theorem dX9_findCut_9 : decode cX9_findCut 9 = .ok (.bipush (-4), 2) := by decide +kernel
theorem dX9_findCut_11 : decode cX9_findCut 11 = .ok (.putfield 277, 3) := by decide +kernel
theorem dX9_findCut_14 : decode cX9_findCut 14 = .ok (.aload_n 0, 1) := by decide +kernel
theorem dX9_findCut_15 : decode cX9_findCut 15 = .ok (.iload 4, 2) := by decide +kernel
theorem dX9_findCut_17 : decode cX9_findCut 17 = .ok (.putfield 280, 3) := by decide +kernel
theorem dX9_findCut_20 : decode cX9_findCut 20 = .ok (.iload 5, 2) := by decide +kernel
theorem dX9_findCut_22 : decode cX9_findCut 22 = .ok (.iconst 1, 1) := by decide +kernel
theorem dX9_findCut_23 : decode cX9_findCut 23 = .ok (.isub, 1) := by decide +kernel
theorem dX9_findCut_24 : decode cX9_findCut 24 = .ok (.istore 6, 2) := by decide +kernel
theorem dX9_findCut_26 : decode cX9_findCut 26 = .ok (.iload 6, 2) := by decide +kernel
theorem dX9_findCut_28 : decode cX9_findCut 28 = .ok (.ifCond .le 83, 3) := by decide +kernel
theorem dX9_findCut_31 : decode cX9_findCut 31 = .ok (.aload_n 0, 1) := by decide +kernel
theorem dX9_findCut_32 : decode cX9_findCut 32 = .ok (.getfield 7, 3) := by decide +kernel
theorem dX9_findCut_35 : decode cX9_findCut 35 = .ok (.bipush 42, 2) := by decide +kernel
theorem dX9_findCut_37 : decode cX9_findCut 37 = .ok (.bipush 7, 2) := by decide +kernel
theorem dX9_findCut_39 : decode cX9_findCut 39 = .ok (.iload_n 1, 1) := by decide +kernel
theorem dX9_findCut_40 : decode cX9_findCut 40 = .ok (.imul, 1) := by decide +kernel
theorem dX9_findCut_41 : decode cX9_findCut 41 = .ok (.iadd, 1) := by decide +kernel
theorem dX9_findCut_42 : decode cX9_findCut 42 = .ok (.iconst 2, 1) := by decide +kernel
theorem dX9_findCut_43 : decode cX9_findCut 43 = .ok (.iadd, 1) := by decide +kernel
theorem dX9_findCut_44 : decode cX9_findCut 44 = .ok (.iload 6, 2) := by decide +kernel
theorem dX9_findCut_46 : decode cX9_findCut 46 = .ok (.iastore, 1) := by decide +kernel
theorem dX9_findCut_47 : decode cX9_findCut 47 = .ok (.aload_n 0, 1) := by decide +kernel
theorem dX9_findCut_48 : decode cX9_findCut 48 = .ok (.aload_n 0, 1) := by decide +kernel
theorem dX9_findCut_49 : decode cX9_findCut 49 = .ok (.iload_n 1, 1) := by decide +kernel
theorem dX9_findCut_50 : decode cX9_findCut 50 = .ok (.iconst 0, 1) := by decide +kernel
theorem dX9_findCut_51 : decode cX9_findCut 51 = .ok (.invokevirtual 172, 3) := by decide +kernel
theorem dX9_findCut_54 : decode cX9_findCut 54 = .ok (.iload_n 2, 1) := by decide +kernel
theorem dX9_findCut_55 : decode cX9_findCut 55 = .ok (.iload_n 3, 1) := by decide +kernel
theorem dX9_findCut_56 : decode cX9_findCut 56 = .ok (.invokevirtual 273, 3) := by decide +kernel
theorem dX9_findCut_59 : decode cX9_findCut 59 = .ok (.istore 7, 2) := by decide +kernel
theorem dX9_findCut_61 : decode cX9_findCut 61 = .ok (.aload_n 0, 1) := by decide +kernel
theorem dX9_findCut_62 : decode cX9_findCut 62 = .ok (.iload 7, 2) := by decide +kernel
theorem dX9_findCut_64 : decode cX9_findCut 64 = .ok (.aload_n 0, 1) := by decide +kernel
theorem dX9_findCut_65 : decode cX9_findCut 65 = .ok (.getfield 280, 3) := by decide +kernel
theorem dX9_findCut_68 : decode cX9_findCut 68 = .ok (.if_icmp .ge 8, 3) := by decide +kernel
theorem dX9_findCut_71 : decode cX9_findCut 71 = .ok (.iload 6, 2) := by decide +kernel
theorem dX9_findCut_73 : decode cX9_findCut 73 = .ok (.goto 7, 3) := by decide +kernel
theorem dX9_findCut_76 : decode cX9_findCut 76 = .ok (.aload_n 0, 1) := by decide +kernel
theorem dX9_findCut_77 : decode cX9_findCut 77 = .ok (.getfield 277, 3) := by decide +kernel
theorem dX9_findCut_80 : decode cX9_findCut 80 = .ok (.putfield 277, 3) := by decide +kernel
theorem dX9_findCut_83 : decode cX9_findCut 83 = .ok (.aload_n 0, 1) := by decide +kernel
theorem dX9_findCut_84 : decode cX9_findCut 84 = .ok (.iload 7, 2) := by decide +kernel
theorem dX9_findCut_86 : decode cX9_findCut 86 = .ok (.aload_n 0, 1) := by decide +kernel
theorem dX9_findCut_87 : decode cX9_findCut 87 = .ok (.getfield 280, 3) := by decide +kernel
theorem dX9_findCut_90 : decode cX9_findCut 90 = .ok (.if_icmp .ge 8, 3) := by decide +kernel
theorem dX9_findCut_93 : decode cX9_findCut 93 = .ok (.iload 7, 2) := by decide +kernel
theorem dX9_findCut_95 : decode cX9_findCut 95 = .ok (.goto 7, 3) := by decide +kernel
theorem dX9_findCut_98 : decode cX9_findCut 98 = .ok (.aload_n 0, 1) := by decide +kernel
theorem dX9_findCut_99 : decode cX9_findCut 99 = .ok (.getfield 280, 3) := by decide +kernel
theorem dX9_findCut_102 : decode cX9_findCut 102 = .ok (.putfield 280, 3) := by decide +kernel
theorem dX9_findCut_105 : decode cX9_findCut 105 = .ok (.iinc 6 (-1), 3) := by decide +kernel
theorem dX9_findCut_108 : decode cX9_findCut 108 = .ok (.goto (-82), 3) := by decide +kernel
theorem dX9_findCut_111 : decode cX9_findCut 111 = .ok (.aload_n 0, 1) := by decide +kernel
theorem dX9_findCut_112 : decode cX9_findCut 112 = .ok (.getfield 7, 3) := by decide +kernel
theorem dX9_findCut_115 : decode cX9_findCut 115 = .ok (.bipush 42, 2) := by decide +kernel
theorem dX9_findCut_117 : decode cX9_findCut 117 = .ok (.bipush 7, 2) := by decide +kernel
theorem dX9_findCut_119 : decode cX9_findCut 119 = .ok (.iload_n 1, 1) := by decide +kernel
theorem dX9_findCut_120 : decode cX9_findCut 120 = .ok (.imul, 1) := by decide +kernel
theorem dX9_findCut_121 : decode cX9_findCut 121 = .ok (.iadd, 1) := by decide +kernel
theorem dX9_findCut_122 : decode cX9_findCut 122 = .ok (.iconst 2, 1) := by decide +kernel
theorem dX9_findCut_123 : decode cX9_findCut 123 = .ok (.iadd, 1) := by decide +kernel
theorem dX9_findCut_124 : decode cX9_findCut 124 = .ok (.iload 5, 2) := by decide +kernel
theorem dX9_findCut_126 : decode cX9_findCut 126 = .ok (.iastore, 1) := by decide +kernel
theorem dX9_findCut_127 : decode cX9_findCut 127 = .ok (.return_, 1) := by decide +kernel
theorem dX9_pays_0 : decode cX9_pays 0 = .ok (.aload_n 0, 1) := by decide +kernel
theorem dX9_pays_1 : decode cX9_pays 1 = .ok (.iload_n 1, 1) := by decide +kernel
theorem dX9_pays_2 : decode cX9_pays 2 = .ok (.invokevirtual 188, 3) := by decide +kernel
theorem dX9_pays_5 : decode cX9_pays 5 = .ok (.ifCond .eq 21, 3) := by decide +kernel
theorem dX9_pays_8 : decode cX9_pays 8 = .ok (.iload_n 2, 1) := by decide +kernel
theorem dX9_pays_9 : decode cX9_pays 9 = .ok (.invokestatic 270, 3) := by decide +kernel
theorem dX9_pays_12 : decode cX9_pays 12 = .ok (.ifCond .eq 14, 3) := by decide +kernel
theorem dX9_pays_15 : decode cX9_pays 15 = .ok (.iload 4, 2) := by decide +kernel
theorem dX9_pays_17 : decode cX9_pays 17 = .ok (.i2l, 1) := by decide +kernel
theorem dX9_pays_18 : decode cX9_pays 18 = .ok (.lconst 0, 1) := by decide +kernel
theorem dX9_pays_19 : decode cX9_pays 19 = .ok (.lconst 1, 1) := by decide +kernel
theorem dX9_pays_20 : decode cX9_pays 20 = .ok (.invokestatic 93, 3) := by decide +kernel
theorem dX9_pays_23 : decode cX9_pays 23 = .ok (.ifCond .ne 5, 3) := by decide +kernel
theorem dX9_pays_26 : decode cX9_pays 26 = .ok (.iconst (-1), 1) := by decide +kernel
theorem dX9_pays_27 : decode cX9_pays 27 = .ok (.ireturn, 1) := by decide +kernel
theorem dX9_pays_28 : decode cX9_pays 28 = .ok (.aload_n 0, 1) := by decide +kernel
theorem dX9_pays_29 : decode cX9_pays 29 = .ok (.iload_n 1, 1) := by decide +kernel
theorem dX9_pays_30 : decode cX9_pays 30 = .ok (.invokevirtual 193, 3) := by decide +kernel
theorem dX9_pays_33 : decode cX9_pays 33 = .ok (.bipush (-4), 2) := by decide +kernel
theorem dX9_pays_35 : decode cX9_pays 35 = .ok (.if_icmp .eq 6, 3) := by decide +kernel
theorem dX9_pays_38 : decode cX9_pays 38 = .ok (.bipush (-2), 2) := by decide +kernel
theorem dX9_pays_40 : decode cX9_pays 40 = .ok (.ireturn, 1) := by decide +kernel
theorem dX9_pays_41 : decode cX9_pays 41 = .ok (.aload_n 0, 1) := by decide +kernel
theorem dX9_pays_42 : decode cX9_pays 42 = .ok (.iload_n 1, 1) := by decide +kernel
theorem dX9_pays_43 : decode cX9_pays 43 = .ok (.iload_n 2, 1) := by decide +kernel
theorem dX9_pays_44 : decode cX9_pays 44 = .ok (.iload_n 3, 1) := by decide +kernel
theorem dX9_pays_45 : decode cX9_pays 45 = .ok (.aload_n 0, 1) := by decide +kernel
theorem dX9_pays_46 : decode cX9_pays 46 = .ok (.aload_n 0, 1) := by decide +kernel
theorem dX9_pays_47 : decode cX9_pays 47 = .ok (.iload_n 1, 1) := by decide +kernel
theorem dX9_pays_48 : decode cX9_pays 48 = .ok (.iconst 0, 1) := by decide +kernel
theorem dX9_pays_49 : decode cX9_pays 49 = .ok (.invokevirtual 172, 3) := by decide +kernel
theorem dX9_pays_52 : decode cX9_pays 52 = .ok (.iload_n 2, 1) := by decide +kernel
theorem dX9_pays_53 : decode cX9_pays 53 = .ok (.iload_n 3, 1) := by decide +kernel
theorem dX9_pays_54 : decode cX9_pays 54 = .ok (.invokevirtual 273, 3) := by decide +kernel
theorem dX9_pays_57 : decode cX9_pays 57 = .ok (.invokevirtual 283, 3) := by decide +kernel
theorem dX9_pays_60 : decode cX9_pays 60 = .ok (.aload_n 0, 1) := by decide +kernel
theorem dX9_pays_61 : decode cX9_pays 61 = .ok (.getfield 277, 3) := by decide +kernel
theorem dX9_pays_64 : decode cX9_pays 64 = .ok (.bipush (-4), 2) := by decide +kernel
theorem dX9_pays_66 : decode cX9_pays 66 = .ok (.if_icmp .ne 8, 3) := by decide +kernel
theorem dX9_pays_69 : decode cX9_pays 69 = .ok (.bipush (-4), 2) := by decide +kernel
theorem dX9_pays_71 : decode cX9_pays 71 = .ok (.goto 19, 3) := by decide +kernel
theorem dX9_pays_74 : decode cX9_pays 74 = .ok (.iload 4, 2) := by decide +kernel
theorem dX9_pays_76 : decode cX9_pays 76 = .ok (.ifCond .ne 10, 3) := by decide +kernel
theorem dX9_pays_79 : decode cX9_pays 79 = .ok (.aload_n 0, 1) := by decide +kernel
theorem dX9_pays_80 : decode cX9_pays 80 = .ok (.getfield 277, 3) := by decide +kernel
theorem dX9_pays_83 : decode cX9_pays 83 = .ok (.goto 7, 3) := by decide +kernel
theorem dX9_pays_86 : decode cX9_pays 86 = .ok (.aload_n 0, 1) := by decide +kernel
theorem dX9_pays_87 : decode cX9_pays 87 = .ok (.getfield 280, 3) := by decide +kernel
theorem dX9_pays_90 : decode cX9_pays 90 = .ok (.ireturn, 1) := by decide +kernel
theorem dX9_best_0 : decode cX9_best 0 = .ok (.iload_n 1, 1) := by decide +kernel
theorem dX9_best_1 : decode cX9_best 1 = .ok (.invokestatic 216, 3) := by decide +kernel
theorem dX9_best_4 : decode cX9_best 4 = .ok (.ifCond .eq 21, 3) := by decide +kernel
theorem dX9_best_7 : decode cX9_best 7 = .ok (.iload_n 2, 1) := by decide +kernel
theorem dX9_best_8 : decode cX9_best 8 = .ok (.invokestatic 270, 3) := by decide +kernel
theorem dX9_best_11 : decode cX9_best 11 = .ok (.ifCond .eq 14, 3) := by decide +kernel
theorem dX9_best_14 : decode cX9_best 14 = .ok (.iload 4, 2) := by decide +kernel
theorem dX9_best_16 : decode cX9_best 16 = .ok (.i2l, 1) := by decide +kernel
theorem dX9_best_17 : decode cX9_best 17 = .ok (.lconst 0, 1) := by decide +kernel
theorem dX9_best_18 : decode cX9_best 18 = .ok (.lconst 1, 1) := by decide +kernel
theorem dX9_best_19 : decode cX9_best 19 = .ok (.invokestatic 93, 3) := by decide +kernel
theorem dX9_best_22 : decode cX9_best 22 = .ok (.ifCond .ne 5, 3) := by decide +kernel
theorem dX9_best_25 : decode cX9_best 25 = .ok (.iconst (-1), 1) := by decide +kernel
theorem dX9_best_26 : decode cX9_best 26 = .ok (.ireturn, 1) := by decide +kernel
theorem dX9_best_27 : decode cX9_best 27 = .ok (.aload_n 0, 1) := by decide +kernel
theorem dX9_best_28 : decode cX9_best 28 = .ok (.iload_n 1, 1) := by decide +kernel
theorem dX9_best_29 : decode cX9_best 29 = .ok (.iload_n 2, 1) := by decide +kernel
theorem dX9_best_30 : decode cX9_best 30 = .ok (.iload_n 3, 1) := by decide +kernel
theorem dX9_best_31 : decode cX9_best 31 = .ok (.invokevirtual 273, 3) := by decide +kernel
theorem dX9_best_34 : decode cX9_best 34 = .ok (.istore 5, 2) := by decide +kernel
theorem dX9_best_36 : decode cX9_best 36 = .ok (.bipush (-4), 2) := by decide +kernel
theorem dX9_best_38 : decode cX9_best 38 = .ok (.istore 6, 2) := by decide +kernel
theorem dX9_best_40 : decode cX9_best 40 = .ok (.iconst 0, 1) := by decide +kernel
theorem dX9_best_41 : decode cX9_best 41 = .ok (.istore 7, 2) := by decide +kernel
theorem dX9_best_43 : decode cX9_best 43 = .ok (.iload 7, 2) := by decide +kernel
theorem dX9_best_45 : decode cX9_best 45 = .ok (.aload_n 0, 1) := by decide +kernel
theorem dX9_best_46 : decode cX9_best 46 = .ok (.getfield 7, 3) := by decide +kernel
theorem dX9_best_49 : decode cX9_best 49 = .ok (.bipush 41, 2) := by decide +kernel
theorem dX9_best_51 : decode cX9_best 51 = .ok (.iaload, 1) := by decide +kernel
theorem dX9_best_52 : decode cX9_best 52 = .ok (.if_icmp .ge 73, 3) := by decide +kernel
theorem dX9_best_55 : decode cX9_best 55 = .ok (.aload_n 0, 1) := by decide +kernel
theorem dX9_best_56 : decode cX9_best 56 = .ok (.iload 7, 2) := by decide +kernel
theorem dX9_best_58 : decode cX9_best 58 = .ok (.iconst 0, 1) := by decide +kernel
theorem dX9_best_59 : decode cX9_best 59 = .ok (.invokevirtual 172, 3) := by decide +kernel
theorem dX9_best_62 : decode cX9_best 62 = .ok (.iload_n 1, 1) := by decide +kernel
theorem dX9_best_63 : decode cX9_best 63 = .ok (.if_icmp .ne 56, 3) := by decide +kernel
theorem dX9_best_66 : decode cX9_best 66 = .ok (.aload_n 0, 1) := by decide +kernel
theorem dX9_best_67 : decode cX9_best 67 = .ok (.iload 7, 2) := by decide +kernel
theorem dX9_best_69 : decode cX9_best 69 = .ok (.invokevirtual 193, 3) := by decide +kernel
theorem dX9_best_72 : decode cX9_best 72 = .ok (.bipush (-4), 2) := by decide +kernel
theorem dX9_best_74 : decode cX9_best 74 = .ok (.if_icmp .ne 45, 3) := by decide +kernel
theorem dX9_best_77 : decode cX9_best 77 = .ok (.aload_n 0, 1) := by decide +kernel
theorem dX9_best_78 : decode cX9_best 78 = .ok (.iload 7, 2) := by decide +kernel
theorem dX9_best_80 : decode cX9_best 80 = .ok (.iload_n 2, 1) := by decide +kernel
theorem dX9_best_81 : decode cX9_best 81 = .ok (.iload_n 3, 1) := by decide +kernel
theorem dX9_best_82 : decode cX9_best 82 = .ok (.iload 5, 2) := by decide +kernel
theorem dX9_best_84 : decode cX9_best 84 = .ok (.invokevirtual 283, 3) := by decide +kernel
theorem dX9_best_87 : decode cX9_best 87 = .ok (.aload_n 0, 1) := by decide +kernel
theorem dX9_best_88 : decode cX9_best 88 = .ok (.getfield 277, 3) := by decide +kernel
theorem dX9_best_91 : decode cX9_best 91 = .ok (.bipush (-4), 2) := by decide +kernel
theorem dX9_best_93 : decode cX9_best 93 = .ok (.if_icmp .ne 8, 3) := by decide +kernel
theorem dX9_best_96 : decode cX9_best 96 = .ok (.iload 6, 2) := by decide +kernel
theorem dX9_best_98 : decode cX9_best 98 = .ok (.goto 13, 3) := by decide +kernel
theorem dX9_best_101 : decode cX9_best 101 = .ok (.bipush 100, 2) := by decide +kernel
theorem dX9_best_103 : decode cX9_best 103 = .ok (.iload 7, 2) := by decide +kernel
theorem dX9_best_105 : decode cX9_best 105 = .ok (.imul, 1) := by decide +kernel
theorem dX9_best_106 : decode cX9_best 106 = .ok (.aload_n 0, 1) := by decide +kernel
theorem dX9_best_107 : decode cX9_best 107 = .ok (.getfield 277, 3) := by decide +kernel
theorem dX9_best_110 : decode cX9_best 110 = .ok (.iadd, 1) := by decide +kernel
theorem dX9_best_111 : decode cX9_best 111 = .ok (.istore 6, 2) := by decide +kernel
theorem dX9_best_113 : decode cX9_best 113 = .ok (.aload_n 0, 1) := by decide +kernel
theorem dX9_best_114 : decode cX9_best 114 = .ok (.getfield 280, 3) := by decide +kernel
theorem dX9_best_117 : decode cX9_best 117 = .ok (.istore 5, 2) := by decide +kernel
theorem dX9_best_119 : decode cX9_best 119 = .ok (.iinc 7 1, 3) := by decide +kernel
theorem dX9_best_122 : decode cX9_best 122 = .ok (.goto (-79), 3) := by decide +kernel
theorem dX9_best_125 : decode cX9_best 125 = .ok (.iload 6, 2) := by decide +kernel
theorem dX9_best_127 : decode cX9_best 127 = .ok (.bipush (-4), 2) := by decide +kernel
theorem dX9_best_129 : decode cX9_best 129 = .ok (.if_icmp .ne 8, 3) := by decide +kernel
theorem dX9_best_132 : decode cX9_best 132 = .ok (.bipush (-4), 2) := by decide +kernel
theorem dX9_best_134 : decode cX9_best 134 = .ok (.goto 15, 3) := by decide +kernel
theorem dX9_best_137 : decode cX9_best 137 = .ok (.iload 4, 2) := by decide +kernel
theorem dX9_best_139 : decode cX9_best 139 = .ok (.ifCond .ne 8, 3) := by decide +kernel
theorem dX9_best_142 : decode cX9_best 142 = .ok (.iload 6, 2) := by decide +kernel
theorem dX9_best_144 : decode cX9_best 144 = .ok (.goto 5, 3) := by decide +kernel
theorem dX9_best_147 : decode cX9_best 147 = .ok (.iload 5, 2) := by decide +kernel
theorem dX9_best_149 : decode cX9_best 149 = .ok (.ireturn, 1) := by decide +kernel
theorem dX9_sews_0 : decode cX9_sews 0 = .ok (.bipush 42, 2) := by decide +kernel
theorem dX9_sews_2 : decode cX9_sews 2 = .ok (.bipush 7, 2) := by decide +kernel
theorem dX9_sews_4 : decode cX9_sews 4 = .ok (.aload_n 0, 1) := by decide +kernel
theorem dX9_sews_5 : decode cX9_sews 5 = .ok (.getfield 7, 3) := by decide +kernel
theorem dX9_sews_8 : decode cX9_sews 8 = .ok (.bipush 41, 2) := by decide +kernel
theorem dX9_sews_10 : decode cX9_sews 10 = .ok (.iaload, 1) := by decide +kernel
theorem dX9_sews_11 : decode cX9_sews 11 = .ok (.imul, 1) := by decide +kernel
theorem dX9_sews_12 : decode cX9_sews 12 = .ok (.iadd, 1) := by decide +kernel
theorem dX9_sews_13 : decode cX9_sews 13 = .ok (.istore 4, 2) := by decide +kernel
theorem dX9_sews_15 : decode cX9_sews 15 = .ok (.aload_n 0, 1) := by decide +kernel
theorem dX9_sews_16 : decode cX9_sews 16 = .ok (.getfield 7, 3) := by decide +kernel
theorem dX9_sews_19 : decode cX9_sews 19 = .ok (.iload 4, 2) := by decide +kernel
theorem dX9_sews_21 : decode cX9_sews 21 = .ok (.iconst 0, 1) := by decide +kernel
theorem dX9_sews_22 : decode cX9_sews 22 = .ok (.iadd, 1) := by decide +kernel
theorem dX9_sews_23 : decode cX9_sews 23 = .ok (.iload_n 1, 1) := by decide +kernel
theorem dX9_sews_24 : decode cX9_sews 24 = .ok (.iastore, 1) := by decide +kernel
theorem dX9_sews_25 : decode cX9_sews 25 = .ok (.aload_n 0, 1) := by decide +kernel
theorem dX9_sews_26 : decode cX9_sews 26 = .ok (.getfield 7, 3) := by decide +kernel
theorem dX9_sews_29 : decode cX9_sews 29 = .ok (.iload 4, 2) := by decide +kernel
theorem dX9_sews_31 : decode cX9_sews 31 = .ok (.iconst 1, 1) := by decide +kernel
theorem dX9_sews_32 : decode cX9_sews 32 = .ok (.iadd, 1) := by decide +kernel
theorem dX9_sews_33 : decode cX9_sews 33 = .ok (.iconst 0, 1) := by decide +kernel
theorem dX9_sews_34 : decode cX9_sews 34 = .ok (.iastore, 1) := by decide +kernel
theorem dX9_sews_35 : decode cX9_sews 35 = .ok (.aload_n 0, 1) := by decide +kernel
theorem dX9_sews_36 : decode cX9_sews 36 = .ok (.getfield 7, 3) := by decide +kernel
theorem dX9_sews_39 : decode cX9_sews 39 = .ok (.iload 4, 2) := by decide +kernel
theorem dX9_sews_41 : decode cX9_sews 41 = .ok (.iconst 2, 1) := by decide +kernel
theorem dX9_sews_42 : decode cX9_sews 42 = .ok (.iadd, 1) := by decide +kernel
theorem dX9_sews_43 : decode cX9_sews 43 = .ok (.iload_n 2, 1) := by decide +kernel
theorem dX9_sews_44 : decode cX9_sews 44 = .ok (.iastore, 1) := by decide +kernel
theorem dX9_sews_45 : decode cX9_sews 45 = .ok (.aload_n 0, 1) := by decide +kernel
theorem dX9_sews_46 : decode cX9_sews 46 = .ok (.getfield 7, 3) := by decide +kernel
theorem dX9_sews_49 : decode cX9_sews 49 = .ok (.iload 4, 2) := by decide +kernel
theorem dX9_sews_51 : decode cX9_sews 51 = .ok (.iconst 3, 1) := by decide +kernel
theorem dX9_sews_52 : decode cX9_sews 52 = .ok (.iadd, 1) := by decide +kernel
theorem dX9_sews_53 : decode cX9_sews 53 = .ok (.iload_n 3, 1) := by decide +kernel
theorem dX9_sews_54 : decode cX9_sews 54 = .ok (.iastore, 1) := by decide +kernel
theorem dX9_sews_55 : decode cX9_sews 55 = .ok (.aload_n 0, 1) := by decide +kernel
theorem dX9_sews_56 : decode cX9_sews 56 = .ok (.getfield 7, 3) := by decide +kernel
theorem dX9_sews_59 : decode cX9_sews 59 = .ok (.iload 4, 2) := by decide +kernel
theorem dX9_sews_61 : decode cX9_sews 61 = .ok (.iconst 4, 1) := by decide +kernel
theorem dX9_sews_62 : decode cX9_sews 62 = .ok (.iadd, 1) := by decide +kernel
theorem dX9_sews_63 : decode cX9_sews 63 = .ok (.iconst 0, 1) := by decide +kernel
theorem dX9_sews_64 : decode cX9_sews 64 = .ok (.iastore, 1) := by decide +kernel
theorem dX9_sews_65 : decode cX9_sews 65 = .ok (.aload_n 0, 1) := by decide +kernel
theorem dX9_sews_66 : decode cX9_sews 66 = .ok (.getfield 7, 3) := by decide +kernel
theorem dX9_sews_69 : decode cX9_sews 69 = .ok (.iload 4, 2) := by decide +kernel
theorem dX9_sews_71 : decode cX9_sews 71 = .ok (.iconst 5, 1) := by decide +kernel
theorem dX9_sews_72 : decode cX9_sews 72 = .ok (.iadd, 1) := by decide +kernel
theorem dX9_sews_73 : decode cX9_sews 73 = .ok (.iconst 0, 1) := by decide +kernel
theorem dX9_sews_74 : decode cX9_sews 74 = .ok (.iastore, 1) := by decide +kernel
theorem dX9_sews_75 : decode cX9_sews 75 = .ok (.aload_n 0, 1) := by decide +kernel
theorem dX9_sews_76 : decode cX9_sews 76 = .ok (.getfield 7, 3) := by decide +kernel
theorem dX9_sews_79 : decode cX9_sews 79 = .ok (.iload 4, 2) := by decide +kernel
theorem dX9_sews_81 : decode cX9_sews 81 = .ok (.bipush 6, 2) := by decide +kernel
theorem dX9_sews_83 : decode cX9_sews 83 = .ok (.iadd, 1) := by decide +kernel
theorem dX9_sews_84 : decode cX9_sews 84 = .ok (.bipush (-4), 2) := by decide +kernel
theorem dX9_sews_86 : decode cX9_sews 86 = .ok (.iastore, 1) := by decide +kernel
theorem dX9_sews_87 : decode cX9_sews 87 = .ok (.iconst 0, 1) := by decide +kernel
theorem dX9_sews_88 : decode cX9_sews 88 = .ok (.istore 5, 2) := by decide +kernel
theorem dX9_sews_90 : decode cX9_sews 90 = .ok (.iload 5, 2) := by decide +kernel
theorem dX9_sews_92 : decode cX9_sews 92 = .ok (.bipush 8, 2) := by decide +kernel
theorem dX9_sews_94 : decode cX9_sews 94 = .ok (.if_icmp .ge 31, 3) := by decide +kernel
theorem dX9_sews_97 : decode cX9_sews 97 = .ok (.aload_n 0, 1) := by decide +kernel
theorem dX9_sews_98 : decode cX9_sews 98 = .ok (.getfield 7, 3) := by decide +kernel
theorem dX9_sews_101 : decode cX9_sews 101 = .ok (.bipush 119, 2) := by decide +kernel
theorem dX9_sews_103 : decode cX9_sews 103 = .ok (.bipush 10, 2) := by decide +kernel
theorem dX9_sews_105 : decode cX9_sews 105 = .ok (.iload 5, 2) := by decide +kernel
theorem dX9_sews_107 : decode cX9_sews 107 = .ok (.imul, 1) := by decide +kernel
theorem dX9_sews_108 : decode cX9_sews 108 = .ok (.iadd, 1) := by decide +kernel
theorem dX9_sews_109 : decode cX9_sews 109 = .ok (.aload_n 0, 1) := by decide +kernel
theorem dX9_sews_110 : decode cX9_sews 110 = .ok (.getfield 7, 3) := by decide +kernel
theorem dX9_sews_113 : decode cX9_sews 113 = .ok (.bipush 41, 2) := by decide +kernel
theorem dX9_sews_115 : decode cX9_sews 115 = .ok (.iaload, 1) := by decide +kernel
theorem dX9_sews_116 : decode cX9_sews 116 = .ok (.iadd, 1) := by decide +kernel
theorem dX9_sews_117 : decode cX9_sews 117 = .ok (.iconst 0, 1) := by decide +kernel
theorem dX9_sews_118 : decode cX9_sews 118 = .ok (.iastore, 1) := by decide +kernel
theorem dX9_sews_119 : decode cX9_sews 119 = .ok (.iinc 5 1, 3) := by decide +kernel
theorem dX9_sews_122 : decode cX9_sews 122 = .ok (.goto (-32), 3) := by decide +kernel
theorem dX9_sews_125 : decode cX9_sews 125 = .ok (.aload_n 0, 1) := by decide +kernel
theorem dX9_sews_126 : decode cX9_sews 126 = .ok (.getfield 7, 3) := by decide +kernel
theorem dX9_sews_129 : decode cX9_sews 129 = .ok (.bipush 41, 2) := by decide +kernel
theorem dX9_sews_131 : decode cX9_sews 131 = .ok (.dup2, 1) := by decide +kernel
theorem dX9_sews_132 : decode cX9_sews 132 = .ok (.iaload, 1) := by decide +kernel
theorem dX9_sews_133 : decode cX9_sews 133 = .ok (.iconst 1, 1) := by decide +kernel
theorem dX9_sews_134 : decode cX9_sews 134 = .ok (.iadd, 1) := by decide +kernel
theorem dX9_sews_135 : decode cX9_sews 135 = .ok (.iastore, 1) := by decide +kernel
theorem dX9_sews_136 : decode cX9_sews 136 = .ok (.return_, 1) := by decide +kernel
theorem dX9_sew_0 : decode cX9_sew 0 = .ok (.iload_n 1, 1) := by decide +kernel
theorem dX9_sew_1 : decode cX9_sew 1 = .ok (.invokestatic 216, 3) := by decide +kernel
theorem dX9_sew_4 : decode cX9_sew 4 = .ok (.ifCond .eq 15, 3) := by decide +kernel
theorem dX9_sew_7 : decode cX9_sew 7 = .ok (.iload_n 2, 1) := by decide +kernel
theorem dX9_sew_8 : decode cX9_sew 8 = .ok (.i2l, 1) := by decide +kernel
theorem dX9_sew_9 : decode cX9_sew 9 = .ok (.lconst 1, 1) := by decide +kernel
theorem dX9_sew_10 : decode cX9_sew 10 = .ok (.ldc2_w 287, 3) := by decide +kernel
theorem dX9_sew_13 : decode cX9_sew 13 = .ok (.invokestatic 93, 3) := by decide +kernel
theorem dX9_sew_16 : decode cX9_sew 16 = .ok (.ifCond .ne 5, 3) := by decide +kernel
theorem dX9_sew_19 : decode cX9_sew 19 = .ok (.iconst (-1), 1) := by decide +kernel
theorem dX9_sew_20 : decode cX9_sew 20 = .ok (.ireturn, 1) := by decide +kernel
theorem dX9_sew_21 : decode cX9_sew 21 = .ok (.aload_n 0, 1) := by decide +kernel
theorem dX9_sew_22 : decode cX9_sew 22 = .ok (.getfield 7, 3) := by decide +kernel
theorem dX9_sew_25 : decode cX9_sew 25 = .ok (.bipush 41, 2) := by decide +kernel
theorem dX9_sew_27 : decode cX9_sew 27 = .ok (.iaload, 1) := by decide +kernel
theorem dX9_sew_28 : decode cX9_sew 28 = .ok (.bipush 10, 2) := by decide +kernel
theorem dX9_sew_30 : decode cX9_sew 30 = .ok (.if_icmp .ne 6, 3) := by decide +kernel
theorem dX9_sew_33 : decode cX9_sew 33 = .ok (.bipush (-3), 2) := by decide +kernel
theorem dX9_sew_35 : decode cX9_sew 35 = .ok (.ireturn, 1) := by decide +kernel
theorem dX9_sew_36 : decode cX9_sew 36 = .ok (.aload_n 0, 1) := by decide +kernel
theorem dX9_sew_37 : decode cX9_sew 37 = .ok (.iload_n 1, 1) := by decide +kernel
theorem dX9_sew_38 : decode cX9_sew 38 = .ok (.iload_n 2, 1) := by decide +kernel
theorem dX9_sew_39 : decode cX9_sew 39 = .ok (.iconst 3, 1) := by decide +kernel
theorem dX9_sew_40 : decode cX9_sew 40 = .ok (.invokevirtual 289, 3) := by decide +kernel
theorem dX9_sew_43 : decode cX9_sew 43 = .ok (.aload_n 0, 1) := by decide +kernel
theorem dX9_sew_44 : decode cX9_sew 44 = .ok (.getfield 7, 3) := by decide +kernel
theorem dX9_sew_47 : decode cX9_sew 47 = .ok (.bipush 41, 2) := by decide +kernel
theorem dX9_sew_49 : decode cX9_sew 49 = .ok (.iaload, 1) := by decide +kernel
theorem dX9_sew_50 : decode cX9_sew 50 = .ok (.iconst 1, 1) := by decide +kernel
theorem dX9_sew_51 : decode cX9_sew 51 = .ok (.isub, 1) := by decide +kernel
theorem dX9_sew_52 : decode cX9_sew 52 = .ok (.ireturn, 1) := by decide +kernel
theorem dX9_wish_0 : decode cX9_wish 0 = .ok (.iload_n 1, 1) := by decide +kernel
theorem dX9_wish_1 : decode cX9_wish 1 = .ok (.invokestatic 216, 3) := by decide +kernel
theorem dX9_wish_4 : decode cX9_wish 4 = .ok (.ifCond .eq 21, 3) := by decide +kernel
theorem dX9_wish_7 : decode cX9_wish 7 = .ok (.iload_n 2, 1) := by decide +kernel
theorem dX9_wish_8 : decode cX9_wish 8 = .ok (.invokestatic 270, 3) := by decide +kernel
theorem dX9_wish_11 : decode cX9_wish 11 = .ok (.ifCond .eq 14, 3) := by decide +kernel
theorem dX9_wish_14 : decode cX9_wish 14 = .ok (.iload 4, 2) := by decide +kernel
theorem dX9_wish_16 : decode cX9_wish 16 = .ok (.i2l, 1) := by decide +kernel
theorem dX9_wish_17 : decode cX9_wish 17 = .ok (.lconst 0, 1) := by decide +kernel
theorem dX9_wish_18 : decode cX9_wish 18 = .ok (.lconst 1, 1) := by decide +kernel
theorem dX9_wish_19 : decode cX9_wish 19 = .ok (.invokestatic 93, 3) := by decide +kernel
theorem dX9_wish_22 : decode cX9_wish 22 = .ok (.ifCond .ne 5, 3) := by decide +kernel
theorem dX9_wish_25 : decode cX9_wish 25 = .ok (.iconst (-1), 1) := by decide +kernel
theorem dX9_wish_26 : decode cX9_wish 26 = .ok (.ireturn, 1) := by decide +kernel
theorem dX9_wish_27 : decode cX9_wish 27 = .ok (.aload_n 0, 1) := by decide +kernel
theorem dX9_wish_28 : decode cX9_wish 28 = .ok (.getfield 7, 3) := by decide +kernel
theorem dX9_wish_31 : decode cX9_wish 31 = .ok (.bipush 41, 2) := by decide +kernel
theorem dX9_wish_33 : decode cX9_wish 33 = .ok (.iaload, 1) := by decide +kernel
theorem dX9_wish_34 : decode cX9_wish 34 = .ok (.bipush 10, 2) := by decide +kernel
theorem dX9_wish_36 : decode cX9_wish 36 = .ok (.if_icmp .ne 6, 3) := by decide +kernel
theorem dX9_wish_39 : decode cX9_wish 39 = .ok (.bipush (-3), 2) := by decide +kernel
theorem dX9_wish_41 : decode cX9_wish 41 = .ok (.ireturn, 1) := by decide +kernel
theorem dX9_wish_42 : decode cX9_wish 42 = .ok (.bipush (-4), 2) := by decide +kernel
theorem dX9_wish_44 : decode cX9_wish 44 = .ok (.istore 5, 2) := by decide +kernel
theorem dX9_wish_46 : decode cX9_wish 46 = .ok (.ldc_w 293, 3) := by decide +kernel
theorem dX9_wish_49 : decode cX9_wish 49 = .ok (.istore 6, 2) := by decide +kernel
theorem dX9_wish_51 : decode cX9_wish 51 = .ok (.iconst 1, 1) := by decide +kernel
theorem dX9_wish_52 : decode cX9_wish 52 = .ok (.istore 7, 2) := by decide +kernel
theorem dX9_wish_54 : decode cX9_wish 54 = .ok (.iload 7, 2) := by decide +kernel
theorem dX9_wish_56 : decode cX9_wish 56 = .ok (.bipush 40, 2) := by decide +kernel
theorem dX9_wish_58 : decode cX9_wish 58 = .ok (.if_icmp .gt 70, 3) := by decide +kernel
theorem dX9_wish_61 : decode cX9_wish 61 = .ok (.aload_n 0, 1) := by decide +kernel
theorem dX9_wish_62 : decode cX9_wish 62 = .ok (.iload_n 1, 1) := by decide +kernel
theorem dX9_wish_63 : decode cX9_wish 63 = .ok (.iload 7, 2) := by decide +kernel
theorem dX9_wish_65 : decode cX9_wish 65 = .ok (.bipush 9, 2) := by decide +kernel
theorem dX9_wish_67 : decode cX9_wish 67 = .ok (.invokevirtual 289, 3) := by decide +kernel
theorem dX9_wish_70 : decode cX9_wish 70 = .ok (.aload_n 0, 1) := by decide +kernel
theorem dX9_wish_71 : decode cX9_wish 71 = .ok (.iload_n 1, 1) := by decide +kernel
theorem dX9_wish_72 : decode cX9_wish 72 = .ok (.iload_n 2, 1) := by decide +kernel
theorem dX9_wish_73 : decode cX9_wish 73 = .ok (.iload_n 3, 1) := by decide +kernel
theorem dX9_wish_74 : decode cX9_wish 74 = .ok (.invokevirtual 273, 3) := by decide +kernel
theorem dX9_wish_77 : decode cX9_wish 77 = .ok (.istore 8, 2) := by decide +kernel
theorem dX9_wish_79 : decode cX9_wish 79 = .ok (.aload_n 0, 1) := by decide +kernel
theorem dX9_wish_80 : decode cX9_wish 80 = .ok (.getfield 7, 3) := by decide +kernel
theorem dX9_wish_83 : decode cX9_wish 83 = .ok (.bipush 41, 2) := by decide +kernel
theorem dX9_wish_85 : decode cX9_wish 85 = .ok (.dup2, 1) := by decide +kernel
theorem dX9_wish_86 : decode cX9_wish 86 = .ok (.iaload, 1) := by decide +kernel
theorem dX9_wish_87 : decode cX9_wish 87 = .ok (.iconst 1, 1) := by decide +kernel
theorem dX9_wish_88 : decode cX9_wish 88 = .ok (.isub, 1) := by decide +kernel
theorem dX9_wish_89 : decode cX9_wish 89 = .ok (.iastore, 1) := by decide +kernel
theorem dX9_wish_90 : decode cX9_wish 90 = .ok (.iload 8, 2) := by decide +kernel
theorem dX9_wish_92 : decode cX9_wish 92 = .ok (.iload 6, 2) := by decide +kernel
theorem dX9_wish_94 : decode cX9_wish 94 = .ok (.if_icmp .ge 8, 3) := by decide +kernel
theorem dX9_wish_97 : decode cX9_wish 97 = .ok (.iload 7, 2) := by decide +kernel
theorem dX9_wish_99 : decode cX9_wish 99 = .ok (.goto 5, 3) := by decide +kernel
theorem dX9_wish_102 : decode cX9_wish 102 = .ok (.iload 5, 2) := by decide +kernel
theorem dX9_wish_104 : decode cX9_wish 104 = .ok (.istore 5, 2) := by decide +kernel
theorem dX9_wish_106 : decode cX9_wish 106 = .ok (.iload 8, 2) := by decide +kernel
theorem dX9_wish_108 : decode cX9_wish 108 = .ok (.iload 6, 2) := by decide +kernel
theorem dX9_wish_110 : decode cX9_wish 110 = .ok (.if_icmp .ge 8, 3) := by decide +kernel
theorem dX9_wish_113 : decode cX9_wish 113 = .ok (.iload 8, 2) := by decide +kernel
theorem dX9_wish_115 : decode cX9_wish 115 = .ok (.goto 5, 3) := by decide +kernel
theorem dX9_wish_118 : decode cX9_wish 118 = .ok (.iload 6, 2) := by decide +kernel
theorem dX9_wish_120 : decode cX9_wish 120 = .ok (.istore 6, 2) := by decide +kernel
theorem dX9_wish_122 : decode cX9_wish 122 = .ok (.iinc 7 1, 3) := by decide +kernel
theorem dX9_wish_125 : decode cX9_wish 125 = .ok (.goto (-71), 3) := by decide +kernel
theorem dX9_wish_128 : decode cX9_wish 128 = .ok (.iload 4, 2) := by decide +kernel
theorem dX9_wish_130 : decode cX9_wish 130 = .ok (.ifCond .ne 8, 3) := by decide +kernel
theorem dX9_wish_133 : decode cX9_wish 133 = .ok (.iload 5, 2) := by decide +kernel
theorem dX9_wish_135 : decode cX9_wish 135 = .ok (.goto 5, 3) := by decide +kernel
theorem dX9_wish_138 : decode cX9_wish 138 = .ok (.iload 6, 2) := by decide +kernel
theorem dX9_wish_140 : decode cX9_wish 140 = .ok (.ireturn, 1) := by decide +kernel
theorem dX9_likes_0 : decode cX9_likes 0 = .ok (.aload_n 0, 1) := by decide +kernel
theorem dX9_likes_1 : decode cX9_likes 1 = .ok (.getfield 7, 3) := by decide +kernel
theorem dX9_likes_4 : decode cX9_likes 4 = .ok (.bipush 119, 2) := by decide +kernel
theorem dX9_likes_6 : decode cX9_likes 6 = .ok (.bipush 10, 2) := by decide +kernel
theorem dX9_likes_8 : decode cX9_likes 8 = .ok (.iload_n 1, 1) := by decide +kernel
theorem dX9_likes_9 : decode cX9_likes 9 = .ok (.imul, 1) := by decide +kernel
theorem dX9_likes_10 : decode cX9_likes 10 = .ok (.iadd, 1) := by decide +kernel
theorem dX9_likes_11 : decode cX9_likes 11 = .ok (.iload_n 2, 1) := by decide +kernel
theorem dX9_likes_12 : decode cX9_likes 12 = .ok (.iadd, 1) := by decide +kernel
theorem dX9_likes_13 : decode cX9_likes 13 = .ok (.iaload, 1) := by decide +kernel
theorem dX9_likes_14 : decode cX9_likes 14 = .ok (.ireturn, 1) := by decide +kernel
theorem dX9_isSwap_0 : decode cX9_isSwap 0 = .ok (.aload_n 0, 1) := by decide +kernel
theorem dX9_isSwap_1 : decode cX9_isSwap 1 = .ok (.iload_n 2, 1) := by decide +kernel
theorem dX9_isSwap_2 : decode cX9_isSwap 2 = .ok (.iload_n 1, 1) := by decide +kernel
theorem dX9_isSwap_3 : decode cX9_isSwap 3 = .ok (.invokevirtual 175, 3) := by decide +kernel
theorem dX9_isSwap_6 : decode cX9_isSwap 6 = .ok (.istore 4, 2) := by decide +kernel
theorem dX9_isSwap_8 : decode cX9_isSwap 8 = .ok (.aload_n 0, 1) := by decide +kernel
theorem dX9_isSwap_9 : decode cX9_isSwap 9 = .ok (.iload_n 3, 1) := by decide +kernel
theorem dX9_isSwap_10 : decode cX9_isSwap 10 = .ok (.iload_n 1, 1) := by decide +kernel
theorem dX9_isSwap_11 : decode cX9_isSwap 11 = .ok (.invokevirtual 175, 3) := by decide +kernel
theorem dX9_isSwap_14 : decode cX9_isSwap 14 = .ok (.istore 5, 2) := by decide +kernel
theorem dX9_isSwap_16 : decode cX9_isSwap 16 = .ok (.iload 4, 2) := by decide +kernel
theorem dX9_isSwap_18 : decode cX9_isSwap 18 = .ok (.bipush (-4), 2) := by decide +kernel
theorem dX9_isSwap_20 : decode cX9_isSwap 20 = .ok (.if_icmp .eq 32, 3) := by decide +kernel
theorem dX9_isSwap_23 : decode cX9_isSwap 23 = .ok (.iload 5, 2) := by decide +kernel
theorem dX9_isSwap_25 : decode cX9_isSwap 25 = .ok (.bipush (-4), 2) := by decide +kernel
theorem dX9_isSwap_27 : decode cX9_isSwap 27 = .ok (.if_icmp .eq 25, 3) := by decide +kernel
theorem dX9_isSwap_30 : decode cX9_isSwap 30 = .ok (.aload_n 0, 1) := by decide +kernel
theorem dX9_isSwap_31 : decode cX9_isSwap 31 = .ok (.iload_n 2, 1) := by decide +kernel
theorem dX9_isSwap_32 : decode cX9_isSwap 32 = .ok (.iload 5, 2) := by decide +kernel
theorem dX9_isSwap_34 : decode cX9_isSwap 34 = .ok (.invokevirtual 206, 3) := by decide +kernel
theorem dX9_isSwap_37 : decode cX9_isSwap 37 = .ok (.iconst 1, 1) := by decide +kernel
theorem dX9_isSwap_38 : decode cX9_isSwap 38 = .ok (.if_icmp .ne 14, 3) := by decide +kernel
theorem dX9_isSwap_41 : decode cX9_isSwap 41 = .ok (.aload_n 0, 1) := by decide +kernel
theorem dX9_isSwap_42 : decode cX9_isSwap 42 = .ok (.iload_n 3, 1) := by decide +kernel
theorem dX9_isSwap_43 : decode cX9_isSwap 43 = .ok (.iload 4, 2) := by decide +kernel
theorem dX9_isSwap_45 : decode cX9_isSwap 45 = .ok (.invokevirtual 206, 3) := by decide +kernel
theorem dX9_isSwap_48 : decode cX9_isSwap 48 = .ok (.iconst 1, 1) := by decide +kernel
theorem dX9_isSwap_49 : decode cX9_isSwap 49 = .ok (.if_icmp .eq 5, 3) := by decide +kernel
theorem dX9_isSwap_52 : decode cX9_isSwap 52 = .ok (.iconst 0, 1) := by decide +kernel
theorem dX9_isSwap_53 : decode cX9_isSwap 53 = .ok (.ireturn, 1) := by decide +kernel
theorem dX9_isSwap_54 : decode cX9_isSwap 54 = .ok (.aload_n 0, 1) := by decide +kernel
theorem dX9_isSwap_55 : decode cX9_isSwap 55 = .ok (.iload_n 2, 1) := by decide +kernel
theorem dX9_isSwap_56 : decode cX9_isSwap 56 = .ok (.iload 5, 2) := by decide +kernel
theorem dX9_isSwap_58 : decode cX9_isSwap 58 = .ok (.invokevirtual 294, 3) := by decide +kernel
theorem dX9_isSwap_61 : decode cX9_isSwap 61 = .ok (.aload_n 0, 1) := by decide +kernel
theorem dX9_isSwap_62 : decode cX9_isSwap 62 = .ok (.iload_n 2, 1) := by decide +kernel
theorem dX9_isSwap_63 : decode cX9_isSwap 63 = .ok (.iload 4, 2) := by decide +kernel
theorem dX9_isSwap_65 : decode cX9_isSwap 65 = .ok (.invokevirtual 294, 3) := by decide +kernel
theorem dX9_isSwap_68 : decode cX9_isSwap 68 = .ok (.if_icmp .le 24, 3) := by decide +kernel
theorem dX9_isSwap_71 : decode cX9_isSwap 71 = .ok (.aload_n 0, 1) := by decide +kernel
theorem dX9_isSwap_72 : decode cX9_isSwap 72 = .ok (.iload_n 3, 1) := by decide +kernel
theorem dX9_isSwap_73 : decode cX9_isSwap 73 = .ok (.iload 4, 2) := by decide +kernel
theorem dX9_isSwap_75 : decode cX9_isSwap 75 = .ok (.invokevirtual 294, 3) := by decide +kernel
theorem dX9_isSwap_78 : decode cX9_isSwap 78 = .ok (.aload_n 0, 1) := by decide +kernel
theorem dX9_isSwap_79 : decode cX9_isSwap 79 = .ok (.iload_n 3, 1) := by decide +kernel
theorem dX9_isSwap_80 : decode cX9_isSwap 80 = .ok (.iload 5, 2) := by decide +kernel
theorem dX9_isSwap_82 : decode cX9_isSwap 82 = .ok (.invokevirtual 294, 3) := by decide +kernel
theorem dX9_isSwap_85 : decode cX9_isSwap 85 = .ok (.if_icmp .le 7, 3) := by decide +kernel
theorem dX9_isSwap_88 : decode cX9_isSwap 88 = .ok (.iconst 1, 1) := by decide +kernel
theorem dX9_isSwap_89 : decode cX9_isSwap 89 = .ok (.goto 4, 3) := by decide +kernel
theorem dX9_isSwap_92 : decode cX9_isSwap 92 = .ok (.iconst 0, 1) := by decide +kernel
theorem dX9_isSwap_93 : decode cX9_isSwap 93 = .ok (.ireturn, 1) := by decide +kernel
theorem dX9_firstSwap_0 : decode cX9_firstSwap 0 = .ok (.iconst 0, 1) := by decide +kernel
theorem dX9_firstSwap_1 : decode cX9_firstSwap 1 = .ok (.istore_n 1, 1) := by decide +kernel
theorem dX9_firstSwap_2 : decode cX9_firstSwap 2 = .ok (.iload_n 1, 1) := by decide +kernel
theorem dX9_firstSwap_3 : decode cX9_firstSwap 3 = .ok (.iconst 2, 1) := by decide +kernel
theorem dX9_firstSwap_4 : decode cX9_firstSwap 4 = .ok (.if_icmp .ge 69, 3) := by decide +kernel
theorem dX9_firstSwap_7 : decode cX9_firstSwap 7 = .ok (.iconst 0, 1) := by decide +kernel
theorem dX9_firstSwap_8 : decode cX9_firstSwap 8 = .ok (.istore_n 2, 1) := by decide +kernel
theorem dX9_firstSwap_9 : decode cX9_firstSwap 9 = .ok (.iload_n 2, 1) := by decide +kernel
theorem dX9_firstSwap_10 : decode cX9_firstSwap 10 = .ok (.aload_n 0, 1) := by decide +kernel
theorem dX9_firstSwap_11 : decode cX9_firstSwap 11 = .ok (.getfield 7, 3) := by decide +kernel
theorem dX9_firstSwap_14 : decode cX9_firstSwap 14 = .ok (.iconst 0, 1) := by decide +kernel
theorem dX9_firstSwap_15 : decode cX9_firstSwap 15 = .ok (.iaload, 1) := by decide +kernel
theorem dX9_firstSwap_16 : decode cX9_firstSwap 16 = .ok (.if_icmp .ge 51, 3) := by decide +kernel
theorem dX9_firstSwap_19 : decode cX9_firstSwap 19 = .ok (.iload_n 2, 1) := by decide +kernel
theorem dX9_firstSwap_20 : decode cX9_firstSwap 20 = .ok (.iconst 1, 1) := by decide +kernel
theorem dX9_firstSwap_21 : decode cX9_firstSwap 21 = .ok (.iadd, 1) := by decide +kernel
theorem dX9_firstSwap_22 : decode cX9_firstSwap 22 = .ok (.istore_n 3, 1) := by decide +kernel
theorem dX9_firstSwap_23 : decode cX9_firstSwap 23 = .ok (.iload_n 3, 1) := by decide +kernel
theorem dX9_firstSwap_24 : decode cX9_firstSwap 24 = .ok (.aload_n 0, 1) := by decide +kernel
theorem dX9_firstSwap_25 : decode cX9_firstSwap 25 = .ok (.getfield 7, 3) := by decide +kernel
theorem dX9_firstSwap_28 : decode cX9_firstSwap 28 = .ok (.iconst 0, 1) := by decide +kernel
theorem dX9_firstSwap_29 : decode cX9_firstSwap 29 = .ok (.iaload, 1) := by decide +kernel
theorem dX9_firstSwap_30 : decode cX9_firstSwap 30 = .ok (.if_icmp .ge 31, 3) := by decide +kernel
theorem dX9_firstSwap_33 : decode cX9_firstSwap 33 = .ok (.aload_n 0, 1) := by decide +kernel
theorem dX9_firstSwap_34 : decode cX9_firstSwap 34 = .ok (.iload_n 1, 1) := by decide +kernel
theorem dX9_firstSwap_35 : decode cX9_firstSwap 35 = .ok (.iload_n 2, 1) := by decide +kernel
theorem dX9_firstSwap_36 : decode cX9_firstSwap 36 = .ok (.iload_n 3, 1) := by decide +kernel
theorem dX9_firstSwap_37 : decode cX9_firstSwap 37 = .ok (.invokevirtual 297, 3) := by decide +kernel
theorem dX9_firstSwap_40 : decode cX9_firstSwap 40 = .ok (.ifCond .eq 15, 3) := by decide +kernel
theorem dX9_firstSwap_43 : decode cX9_firstSwap 43 = .ok (.bipush 100, 2) := by decide +kernel
theorem dX9_firstSwap_45 : decode cX9_firstSwap 45 = .ok (.iload_n 1, 1) := by decide +kernel
theorem dX9_firstSwap_46 : decode cX9_firstSwap 46 = .ok (.imul, 1) := by decide +kernel
theorem dX9_firstSwap_47 : decode cX9_firstSwap 47 = .ok (.bipush 10, 2) := by decide +kernel
theorem dX9_firstSwap_49 : decode cX9_firstSwap 49 = .ok (.iload_n 2, 1) := by decide +kernel
theorem dX9_firstSwap_50 : decode cX9_firstSwap 50 = .ok (.imul, 1) := by decide +kernel
theorem dX9_firstSwap_51 : decode cX9_firstSwap 51 = .ok (.iadd, 1) := by decide +kernel
theorem dX9_firstSwap_52 : decode cX9_firstSwap 52 = .ok (.iload_n 3, 1) := by decide +kernel
theorem dX9_firstSwap_53 : decode cX9_firstSwap 53 = .ok (.iadd, 1) := by decide +kernel
theorem dX9_firstSwap_54 : decode cX9_firstSwap 54 = .ok (.ireturn, 1) := by decide +kernel
theorem dX9_firstSwap_55 : decode cX9_firstSwap 55 = .ok (.iinc 3 1, 3) := by decide +kernel
theorem dX9_firstSwap_58 : decode cX9_firstSwap 58 = .ok (.goto (-35), 3) := by decide +kernel
theorem dX9_firstSwap_61 : decode cX9_firstSwap 61 = .ok (.iinc 2 1, 3) := by decide +kernel
theorem dX9_firstSwap_64 : decode cX9_firstSwap 64 = .ok (.goto (-55), 3) := by decide +kernel
theorem dX9_firstSwap_67 : decode cX9_firstSwap 67 = .ok (.iinc 1 1, 3) := by decide +kernel
theorem dX9_firstSwap_70 : decode cX9_firstSwap 70 = .ok (.goto (-68), 3) := by decide +kernel
theorem dX9_firstSwap_73 : decode cX9_firstSwap 73 = .ok (.bipush (-4), 2) := by decide +kernel
theorem dX9_firstSwap_75 : decode cX9_firstSwap 75 = .ok (.ireturn, 1) := by decide +kernel
theorem dX9_swap_0 : decode cX9_swap 0 = .ok (.aload_n 0, 1) := by decide +kernel
theorem dX9_swap_1 : decode cX9_swap 1 = .ok (.invokevirtual 300, 3) := by decide +kernel
theorem dX9_swap_4 : decode cX9_swap 4 = .ok (.ireturn, 1) := by decide +kernel
theorem dX9_settle_0 : decode cX9_settle 0 = .ok (.iconst 0, 1) := by decide +kernel
theorem dX9_settle_1 : decode cX9_settle 1 = .ok (.istore_n 1, 1) := by decide +kernel
theorem dX9_settle_2 : decode cX9_settle 2 = .ok (.aload_n 0, 1) := by decide +kernel
theorem dX9_settle_3 : decode cX9_settle 3 = .ok (.invokevirtual 300, 3) := by decide +kernel
theorem dX9_settle_6 : decode cX9_settle 6 = .ok (.istore_n 2, 1) := by decide +kernel
theorem dX9_settle_7 : decode cX9_settle 7 = .ok (.iload_n 2, 1) := by decide +kernel
theorem dX9_settle_8 : decode cX9_settle 8 = .ok (.bipush (-4), 2) := by decide +kernel
theorem dX9_settle_10 : decode cX9_settle 10 = .ok (.if_icmp .eq 80, 3) := by decide +kernel
theorem dX9_settle_13 : decode cX9_settle 13 = .ok (.iconst 1, 1) := by decide +kernel
theorem dX9_settle_14 : decode cX9_settle 14 = .ok (.iconst 5, 1) := by decide +kernel
theorem dX9_settle_15 : decode cX9_settle 15 = .ok (.iload_n 2, 1) := by decide +kernel
theorem dX9_settle_16 : decode cX9_settle 16 = .ok (.bipush 10, 2) := by decide +kernel
theorem dX9_settle_18 : decode cX9_settle 18 = .ok (.idiv, 1) := by decide +kernel
theorem dX9_settle_19 : decode cX9_settle 19 = .ok (.bipush 10, 2) := by decide +kernel
theorem dX9_settle_21 : decode cX9_settle 21 = .ok (.irem, 1) := by decide +kernel
theorem dX9_settle_22 : decode cX9_settle 22 = .ok (.imul, 1) := by decide +kernel
theorem dX9_settle_23 : decode cX9_settle 23 = .ok (.iadd, 1) := by decide +kernel
theorem dX9_settle_24 : decode cX9_settle 24 = .ok (.iconst 3, 1) := by decide +kernel
theorem dX9_settle_25 : decode cX9_settle 25 = .ok (.iadd, 1) := by decide +kernel
theorem dX9_settle_26 : decode cX9_settle 26 = .ok (.iload_n 2, 1) := by decide +kernel
theorem dX9_settle_27 : decode cX9_settle 27 = .ok (.bipush 100, 2) := by decide +kernel
theorem dX9_settle_29 : decode cX9_settle 29 = .ok (.idiv, 1) := by decide +kernel
theorem dX9_settle_30 : decode cX9_settle 30 = .ok (.iadd, 1) := by decide +kernel
theorem dX9_settle_31 : decode cX9_settle 31 = .ok (.istore_n 3, 1) := by decide +kernel
theorem dX9_settle_32 : decode cX9_settle 32 = .ok (.iconst 1, 1) := by decide +kernel
theorem dX9_settle_33 : decode cX9_settle 33 = .ok (.iconst 5, 1) := by decide +kernel
theorem dX9_settle_34 : decode cX9_settle 34 = .ok (.iload_n 2, 1) := by decide +kernel
theorem dX9_settle_35 : decode cX9_settle 35 = .ok (.bipush 10, 2) := by decide +kernel
theorem dX9_settle_37 : decode cX9_settle 37 = .ok (.irem, 1) := by decide +kernel
theorem dX9_settle_38 : decode cX9_settle 38 = .ok (.imul, 1) := by decide +kernel
theorem dX9_settle_39 : decode cX9_settle 39 = .ok (.iadd, 1) := by decide +kernel
theorem dX9_settle_40 : decode cX9_settle 40 = .ok (.iconst 3, 1) := by decide +kernel
theorem dX9_settle_41 : decode cX9_settle 41 = .ok (.iadd, 1) := by decide +kernel
theorem dX9_settle_42 : decode cX9_settle 42 = .ok (.iload_n 2, 1) := by decide +kernel
theorem dX9_settle_43 : decode cX9_settle 43 = .ok (.bipush 100, 2) := by decide +kernel
theorem dX9_settle_45 : decode cX9_settle 45 = .ok (.idiv, 1) := by decide +kernel
theorem dX9_settle_46 : decode cX9_settle 46 = .ok (.iadd, 1) := by decide +kernel
theorem dX9_settle_47 : decode cX9_settle 47 = .ok (.istore 4, 2) := by decide +kernel
theorem dX9_settle_49 : decode cX9_settle 49 = .ok (.aload_n 0, 1) := by decide +kernel
theorem dX9_settle_50 : decode cX9_settle 50 = .ok (.getfield 7, 3) := by decide +kernel
theorem dX9_settle_53 : decode cX9_settle 53 = .ok (.iload_n 3, 1) := by decide +kernel
theorem dX9_settle_54 : decode cX9_settle 54 = .ok (.iaload, 1) := by decide +kernel
theorem dX9_settle_55 : decode cX9_settle 55 = .ok (.istore 5, 2) := by decide +kernel
theorem dX9_settle_57 : decode cX9_settle 57 = .ok (.aload_n 0, 1) := by decide +kernel
theorem dX9_settle_58 : decode cX9_settle 58 = .ok (.getfield 7, 3) := by decide +kernel
theorem dX9_settle_61 : decode cX9_settle 61 = .ok (.iload_n 3, 1) := by decide +kernel
theorem dX9_settle_62 : decode cX9_settle 62 = .ok (.aload_n 0, 1) := by decide +kernel
theorem dX9_settle_63 : decode cX9_settle 63 = .ok (.getfield 7, 3) := by decide +kernel
theorem dX9_settle_66 : decode cX9_settle 66 = .ok (.iload 4, 2) := by decide +kernel
theorem dX9_settle_68 : decode cX9_settle 68 = .ok (.iaload, 1) := by decide +kernel
theorem dX9_settle_69 : decode cX9_settle 69 = .ok (.iastore, 1) := by decide +kernel
theorem dX9_settle_70 : decode cX9_settle 70 = .ok (.aload_n 0, 1) := by decide +kernel
theorem dX9_settle_71 : decode cX9_settle 71 = .ok (.getfield 7, 3) := by decide +kernel
theorem dX9_settle_74 : decode cX9_settle 74 = .ok (.iload 4, 2) := by decide +kernel
theorem dX9_settle_76 : decode cX9_settle 76 = .ok (.iload 5, 2) := by decide +kernel
theorem dX9_settle_78 : decode cX9_settle 78 = .ok (.iastore, 1) := by decide +kernel
theorem dX9_settle_79 : decode cX9_settle 79 = .ok (.iinc 1 1, 3) := by decide +kernel
theorem dX9_settle_82 : decode cX9_settle 82 = .ok (.aload_n 0, 1) := by decide +kernel
theorem dX9_settle_83 : decode cX9_settle 83 = .ok (.invokevirtual 300, 3) := by decide +kernel
theorem dX9_settle_86 : decode cX9_settle 86 = .ok (.istore_n 2, 1) := by decide +kernel
theorem dX9_settle_87 : decode cX9_settle 87 = .ok (.goto (-80), 3) := by decide +kernel
theorem dX9_settle_90 : decode cX9_settle 90 = .ok (.iload_n 1, 1) := by decide +kernel
theorem dX9_settle_91 : decode cX9_settle 91 = .ok (.ireturn, 1) := by decide +kernel
theorem dX9_odds_0 : decode cX9_odds 0 = .ok (.iload_n 1, 1) := by decide +kernel
theorem dX9_odds_1 : decode cX9_odds 1 = .ok (.invokestatic 216, 3) := by decide +kernel
theorem dX9_odds_4 : decode cX9_odds 4 = .ok (.ifCond .eq 13, 3) := by decide +kernel
theorem dX9_odds_7 : decode cX9_odds 7 = .ok (.iload_n 2, 1) := by decide +kernel
theorem dX9_odds_8 : decode cX9_odds 8 = .ok (.i2l, 1) := by decide +kernel
theorem dX9_odds_9 : decode cX9_odds 9 = .ok (.lconst 0, 1) := by decide +kernel
theorem dX9_odds_10 : decode cX9_odds 10 = .ok (.lconst 1, 1) := by decide +kernel
theorem dX9_odds_11 : decode cX9_odds 11 = .ok (.invokestatic 93, 3) := by decide +kernel
theorem dX9_odds_14 : decode cX9_odds 14 = .ok (.ifCond .ne 7, 3) := by decide +kernel
theorem dX9_odds_17 : decode cX9_odds 17 = .ok (.ldc2_w 303, 3) := by decide +kernel
theorem dX9_odds_20 : decode cX9_odds 20 = .ok (.lreturn, 1) := by decide +kernel
theorem dX9_odds_21 : decode cX9_odds 21 = .ok (.aload_n 0, 1) := by decide +kernel
theorem dX9_odds_22 : decode cX9_odds 22 = .ok (.getfield 7, 3) := by decide +kernel
theorem dX9_odds_25 : decode cX9_odds 25 = .ok (.iconst 0, 1) := by decide +kernel
theorem dX9_odds_26 : decode cX9_odds 26 = .ok (.iaload, 1) := by decide +kernel
theorem dX9_odds_27 : decode cX9_odds 27 = .ok (.istore_n 3, 1) := by decide +kernel
theorem dX9_odds_28 : decode cX9_odds 28 = .ok (.lconst 0, 1) := by decide +kernel
theorem dX9_odds_29 : decode cX9_odds 29 = .ok (.lstore 4, 2) := by decide +kernel
theorem dX9_odds_31 : decode cX9_odds 31 = .ok (.lconst 1, 1) := by decide +kernel
theorem dX9_odds_32 : decode cX9_odds 32 = .ok (.iload_n 3, 1) := by decide +kernel
theorem dX9_odds_33 : decode cX9_odds 33 = .ok (.lshl, 1) := by decide +kernel
theorem dX9_odds_34 : decode cX9_odds 34 = .ok (.lstore 6, 2) := by decide +kernel
theorem dX9_odds_36 : decode cX9_odds 36 = .ok (.aload_n 0, 1) := by decide +kernel
theorem dX9_odds_37 : decode cX9_odds 37 = .ok (.sipush 597, 3) := by decide +kernel
theorem dX9_odds_40 : decode cX9_odds 40 = .ok (.iconst 0, 1) := by decide +kernel
theorem dX9_odds_41 : decode cX9_odds 41 = .ok (.invokevirtual 267, 3) := by decide +kernel
theorem dX9_odds_44 : decode cX9_odds 44 = .ok (.iconst 0, 1) := by decide +kernel
theorem dX9_odds_45 : decode cX9_odds 45 = .ok (.istore 8, 2) := by decide +kernel
theorem dX9_odds_47 : decode cX9_odds 47 = .ok (.iload 8, 2) := by decide +kernel
theorem dX9_odds_49 : decode cX9_odds 49 = .ok (.iconst 1, 1) := by decide +kernel
theorem dX9_odds_50 : decode cX9_odds 50 = .ok (.iload_n 3, 1) := by decide +kernel
theorem dX9_odds_51 : decode cX9_odds 51 = .ok (.ishl, 1) := by decide +kernel
theorem dX9_odds_52 : decode cX9_odds 52 = .ok (.if_icmp .ge 97, 3) := by decide +kernel
theorem dX9_odds_55 : decode cX9_odds 55 = .ok (.iconst 0, 1) := by decide +kernel
theorem dX9_odds_56 : decode cX9_odds 56 = .ok (.istore 9, 2) := by decide +kernel
theorem dX9_odds_58 : decode cX9_odds 58 = .ok (.iload 9, 2) := by decide +kernel
theorem dX9_odds_60 : decode cX9_odds 60 = .ok (.iload_n 3, 1) := by decide +kernel
theorem dX9_odds_61 : decode cX9_odds 61 = .ok (.if_icmp .ge 55, 3) := by decide +kernel
theorem dX9_odds_64 : decode cX9_odds 64 = .ok (.aload_n 0, 1) := by decide +kernel
theorem dX9_odds_65 : decode cX9_odds 65 = .ok (.getfield 7, 3) := by decide +kernel
theorem dX9_odds_68 : decode cX9_odds 68 = .ok (.iconst 1, 1) := by decide +kernel
theorem dX9_odds_69 : decode cX9_odds 69 = .ok (.iconst 5, 1) := by decide +kernel
theorem dX9_odds_70 : decode cX9_odds 70 = .ok (.iload 9, 2) := by decide +kernel
theorem dX9_odds_72 : decode cX9_odds 72 = .ok (.imul, 1) := by decide +kernel
theorem dX9_odds_73 : decode cX9_odds 73 = .ok (.iadd, 1) := by decide +kernel
theorem dX9_odds_74 : decode cX9_odds 74 = .ok (.aload_n 0, 1) := by decide +kernel
theorem dX9_odds_75 : decode cX9_odds 75 = .ok (.getfield 7, 3) := by decide +kernel
theorem dX9_odds_78 : decode cX9_odds 78 = .ok (.sipush 598, 3) := by decide +kernel
theorem dX9_odds_81 : decode cX9_odds 81 = .ok (.iconst 5, 1) := by decide +kernel
theorem dX9_odds_82 : decode cX9_odds 82 = .ok (.iload 9, 2) := by decide +kernel
theorem dX9_odds_84 : decode cX9_odds 84 = .ok (.imul, 1) := by decide +kernel
theorem dX9_odds_85 : decode cX9_odds 85 = .ok (.iadd, 1) := by decide +kernel
theorem dX9_odds_86 : decode cX9_odds 86 = .ok (.iaload, 1) := by decide +kernel
theorem dX9_odds_87 : decode cX9_odds 87 = .ok (.iastore, 1) := by decide +kernel
theorem dX9_odds_88 : decode cX9_odds 88 = .ok (.aload_n 0, 1) := by decide +kernel
theorem dX9_odds_89 : decode cX9_odds 89 = .ok (.iload 9, 2) := by decide +kernel
theorem dX9_odds_91 : decode cX9_odds 91 = .ok (.iload 8, 2) := by decide +kernel
theorem dX9_odds_93 : decode cX9_odds 93 = .ok (.iload 9, 2) := by decide +kernel
theorem dX9_odds_95 : decode cX9_odds 95 = .ok (.ishr, 1) := by decide +kernel
theorem dX9_odds_96 : decode cX9_odds 96 = .ok (.iconst 1, 1) := by decide +kernel
theorem dX9_odds_97 : decode cX9_odds 97 = .ok (.iand, 1) := by decide +kernel
theorem dX9_odds_98 : decode cX9_odds 98 = .ok (.iconst 1, 1) := by decide +kernel
theorem dX9_odds_99 : decode cX9_odds 99 = .ok (.if_icmp .ne 7, 3) := by decide +kernel
theorem dX9_odds_102 : decode cX9_odds 102 = .ok (.iconst 1, 1) := by decide +kernel
theorem dX9_odds_103 : decode cX9_odds 103 = .ok (.goto 4, 3) := by decide +kernel
theorem dX9_odds_106 : decode cX9_odds 106 = .ok (.iconst 0, 1) := by decide +kernel
theorem dX9_odds_107 : decode cX9_odds 107 = .ok (.invokevirtual 260, 3) := by decide +kernel
theorem dX9_odds_110 : decode cX9_odds 110 = .ok (.iinc 9 1, 3) := by decide +kernel
theorem dX9_odds_113 : decode cX9_odds 113 = .ok (.goto (-55), 3) := by decide +kernel
theorem dX9_odds_116 : decode cX9_odds 116 = .ok (.aload_n 0, 1) := by decide +kernel
theorem dX9_odds_117 : decode cX9_odds 117 = .ok (.iload_n 1, 1) := by decide +kernel
theorem dX9_odds_118 : decode cX9_odds 118 = .ok (.invokevirtual 238, 3) := by decide +kernel
theorem dX9_odds_121 : decode cX9_odds 121 = .ok (.lload 4, 2) := by decide +kernel
theorem dX9_odds_123 : decode cX9_odds 123 = .ok (.aload_n 0, 1) := by decide +kernel
theorem dX9_odds_124 : decode cX9_odds 124 = .ok (.invokevirtual 241, 3) := by decide +kernel
theorem dX9_odds_127 : decode cX9_odds 127 = .ok (.iload_n 3, 1) := by decide +kernel
theorem dX9_odds_128 : decode cX9_odds 128 = .ok (.if_icmp .ne 7, 3) := by decide +kernel
theorem dX9_odds_131 : decode cX9_odds 131 = .ok (.iconst 1, 1) := by decide +kernel
theorem dX9_odds_132 : decode cX9_odds 132 = .ok (.goto 4, 3) := by decide +kernel
theorem dX9_odds_135 : decode cX9_odds 135 = .ok (.iconst 0, 1) := by decide +kernel
theorem dX9_odds_136 : decode cX9_odds 136 = .ok (.invokestatic 219, 3) := by decide +kernel
theorem dX9_odds_139 : decode cX9_odds 139 = .ok (.i2l, 1) := by decide +kernel
theorem dX9_odds_140 : decode cX9_odds 140 = .ok (.ladd, 1) := by decide +kernel
theorem dX9_odds_141 : decode cX9_odds 141 = .ok (.lstore 4, 2) := by decide +kernel
theorem dX9_odds_143 : decode cX9_odds 143 = .ok (.iinc 8 1, 3) := by decide +kernel
theorem dX9_odds_146 : decode cX9_odds 146 = .ok (.goto (-99), 3) := by decide +kernel
theorem dX9_odds_149 : decode cX9_odds 149 = .ok (.aload_n 0, 1) := by decide +kernel
theorem dX9_odds_150 : decode cX9_odds 150 = .ok (.iconst 0, 1) := by decide +kernel
theorem dX9_odds_151 : decode cX9_odds 151 = .ok (.sipush 597, 3) := by decide +kernel
theorem dX9_odds_154 : decode cX9_odds 154 = .ok (.invokevirtual 267, 3) := by decide +kernel
theorem dX9_odds_157 : decode cX9_odds 157 = .ok (.lload 4, 2) := by decide +kernel
theorem dX9_odds_159 : decode cX9_odds 159 = .ok (.lconst 0, 1) := by decide +kernel
theorem dX9_odds_160 : decode cX9_odds 160 = .ok (.lcmp, 1) := by decide +kernel
theorem dX9_odds_161 : decode cX9_odds 161 = .ok (.ifCond .le 44, 3) := by decide +kernel
theorem dX9_odds_164 : decode cX9_odds 164 = .ok (.lload 4, 2) := by decide +kernel
theorem dX9_odds_166 : decode cX9_odds 166 = .ok (.ldc2_w 182, 3) := by decide +kernel
theorem dX9_odds_169 : decode cX9_odds 169 = .ok (.lrem, 1) := by decide +kernel
theorem dX9_odds_170 : decode cX9_odds 170 = .ok (.lconst 0, 1) := by decide +kernel
theorem dX9_odds_171 : decode cX9_odds 171 = .ok (.lcmp, 1) := by decide +kernel
theorem dX9_odds_172 : decode cX9_odds 172 = .ok (.ifCond .ne 33, 3) := by decide +kernel
theorem dX9_odds_175 : decode cX9_odds 175 = .ok (.lload 6, 2) := by decide +kernel
theorem dX9_odds_177 : decode cX9_odds 177 = .ok (.ldc2_w 182, 3) := by decide +kernel
theorem dX9_odds_180 : decode cX9_odds 180 = .ok (.lrem, 1) := by decide +kernel
theorem dX9_odds_181 : decode cX9_odds 181 = .ok (.lconst 0, 1) := by decide +kernel
theorem dX9_odds_182 : decode cX9_odds 182 = .ok (.lcmp, 1) := by decide +kernel
theorem dX9_odds_183 : decode cX9_odds 183 = .ok (.ifCond .ne 22, 3) := by decide +kernel
theorem dX9_odds_186 : decode cX9_odds 186 = .ok (.lload 4, 2) := by decide +kernel
theorem dX9_odds_188 : decode cX9_odds 188 = .ok (.ldc2_w 182, 3) := by decide +kernel
theorem dX9_odds_191 : decode cX9_odds 191 = .ok (.ldiv, 1) := by decide +kernel
theorem dX9_odds_192 : decode cX9_odds 192 = .ok (.lstore 4, 2) := by decide +kernel
theorem dX9_odds_194 : decode cX9_odds 194 = .ok (.lload 6, 2) := by decide +kernel
theorem dX9_odds_196 : decode cX9_odds 196 = .ok (.ldc2_w 182, 3) := by decide +kernel
theorem dX9_odds_199 : decode cX9_odds 199 = .ok (.ldiv, 1) := by decide +kernel
theorem dX9_odds_200 : decode cX9_odds 200 = .ok (.lstore 6, 2) := by decide +kernel
theorem dX9_odds_202 : decode cX9_odds 202 = .ok (.goto (-45), 3) := by decide +kernel
theorem dX9_odds_205 : decode cX9_odds 205 = .ok (.iload_n 2, 1) := by decide +kernel
theorem dX9_odds_206 : decode cX9_odds 206 = .ok (.ifCond .ne 8, 3) := by decide +kernel
theorem dX9_odds_209 : decode cX9_odds 209 = .ok (.lload 4, 2) := by decide +kernel
theorem dX9_odds_211 : decode cX9_odds 211 = .ok (.goto 16, 3) := by decide +kernel
theorem dX9_odds_214 : decode cX9_odds 214 = .ok (.lload 4, 2) := by decide +kernel
theorem dX9_odds_216 : decode cX9_odds 216 = .ok (.lconst 0, 1) := by decide +kernel
theorem dX9_odds_217 : decode cX9_odds 217 = .ok (.lcmp, 1) := by decide +kernel
theorem dX9_odds_218 : decode cX9_odds 218 = .ok (.ifCond .ne 7, 3) := by decide +kernel
theorem dX9_odds_221 : decode cX9_odds 221 = .ok (.lconst 1, 1) := by decide +kernel
theorem dX9_odds_222 : decode cX9_odds 222 = .ok (.goto 5, 3) := by decide +kernel
theorem dX9_odds_225 : decode cX9_odds 225 = .ok (.lload 6, 2) := by decide +kernel
theorem dX9_odds_227 : decode cX9_odds 227 = .ok (.lreturn, 1) := by decide +kernel
theorem dX9_mark_0 : decode cX9_mark 0 = .ok (.iload_n 1, 1) := by decide +kernel
theorem dX9_mark_1 : decode cX9_mark 1 = .ok (.i2l, 1) := by decide +kernel
theorem dX9_mark_2 : decode cX9_mark 2 = .ok (.lconst 1, 1) := by decide +kernel
theorem dX9_mark_3 : decode cX9_mark 3 = .ok (.ldc2_w 287, 3) := by decide +kernel
theorem dX9_mark_6 : decode cX9_mark 6 = .ok (.invokestatic 93, 3) := by decide +kernel
theorem dX9_mark_9 : decode cX9_mark 9 = .ok (.ifCond .ne 5, 3) := by decide +kernel
theorem dX9_mark_12 : decode cX9_mark 12 = .ok (.iconst (-1), 1) := by decide +kernel
theorem dX9_mark_13 : decode cX9_mark 13 = .ok (.ireturn, 1) := by decide +kernel
theorem dX9_mark_14 : decode cX9_mark 14 = .ok (.aload_n 0, 1) := by decide +kernel
theorem dX9_mark_15 : decode cX9_mark 15 = .ok (.getfield 7, 3) := by decide +kernel
theorem dX9_mark_18 : decode cX9_mark 18 = .ok (.bipush 112, 2) := by decide +kernel
theorem dX9_mark_20 : decode cX9_mark 20 = .ok (.iaload, 1) := by decide +kernel
theorem dX9_mark_21 : decode cX9_mark 21 = .ok (.bipush 6, 2) := by decide +kernel
theorem dX9_mark_23 : decode cX9_mark 23 = .ok (.if_icmp .ne 6, 3) := by decide +kernel
theorem dX9_mark_26 : decode cX9_mark 26 = .ok (.bipush (-3), 2) := by decide +kernel
theorem dX9_mark_28 : decode cX9_mark 28 = .ok (.ireturn, 1) := by decide +kernel
theorem dX9_mark_29 : decode cX9_mark 29 = .ok (.aload_n 0, 1) := by decide +kernel
theorem dX9_mark_30 : decode cX9_mark 30 = .ok (.getfield 7, 3) := by decide +kernel
theorem dX9_mark_33 : decode cX9_mark 33 = .ok (.bipush 113, 2) := by decide +kernel
theorem dX9_mark_35 : decode cX9_mark 35 = .ok (.aload_n 0, 1) := by decide +kernel
theorem dX9_mark_36 : decode cX9_mark 36 = .ok (.getfield 7, 3) := by decide +kernel
theorem dX9_mark_39 : decode cX9_mark 39 = .ok (.bipush 112, 2) := by decide +kernel
theorem dX9_mark_41 : decode cX9_mark 41 = .ok (.iaload, 1) := by decide +kernel
theorem dX9_mark_42 : decode cX9_mark 42 = .ok (.iadd, 1) := by decide +kernel
theorem dX9_mark_43 : decode cX9_mark 43 = .ok (.iload_n 1, 1) := by decide +kernel
theorem dX9_mark_44 : decode cX9_mark 44 = .ok (.iastore, 1) := by decide +kernel
theorem dX9_mark_45 : decode cX9_mark 45 = .ok (.aload_n 0, 1) := by decide +kernel
theorem dX9_mark_46 : decode cX9_mark 46 = .ok (.getfield 7, 3) := by decide +kernel
theorem dX9_mark_49 : decode cX9_mark 49 = .ok (.bipush 112, 2) := by decide +kernel
theorem dX9_mark_51 : decode cX9_mark 51 = .ok (.dup2, 1) := by decide +kernel
theorem dX9_mark_52 : decode cX9_mark 52 = .ok (.iaload, 1) := by decide +kernel
theorem dX9_mark_53 : decode cX9_mark 53 = .ok (.iconst 1, 1) := by decide +kernel
theorem dX9_mark_54 : decode cX9_mark 54 = .ok (.iadd, 1) := by decide +kernel
theorem dX9_mark_55 : decode cX9_mark 55 = .ok (.iastore, 1) := by decide +kernel
theorem dX9_mark_56 : decode cX9_mark 56 = .ok (.aload_n 0, 1) := by decide +kernel
theorem dX9_mark_57 : decode cX9_mark 57 = .ok (.getfield 7, 3) := by decide +kernel
theorem dX9_mark_60 : decode cX9_mark 60 = .ok (.bipush 112, 2) := by decide +kernel
theorem dX9_mark_62 : decode cX9_mark 62 = .ok (.iaload, 1) := by decide +kernel
theorem dX9_mark_63 : decode cX9_mark 63 = .ok (.ireturn, 1) := by decide +kernel
theorem dX9_unmark_0 : decode cX9_unmark 0 = .ok (.iload_n 1, 1) := by decide +kernel
theorem dX9_unmark_1 : decode cX9_unmark 1 = .ok (.i2l, 1) := by decide +kernel
theorem dX9_unmark_2 : decode cX9_unmark 2 = .ok (.lconst 0, 1) := by decide +kernel
theorem dX9_unmark_3 : decode cX9_unmark 3 = .ok (.aload_n 0, 1) := by decide +kernel
theorem dX9_unmark_4 : decode cX9_unmark 4 = .ok (.getfield 7, 3) := by decide +kernel
theorem dX9_unmark_7 : decode cX9_unmark 7 = .ok (.bipush 112, 2) := by decide +kernel
theorem dX9_unmark_9 : decode cX9_unmark 9 = .ok (.iaload, 1) := by decide +kernel
theorem dX9_unmark_10 : decode cX9_unmark 10 = .ok (.i2l, 1) := by decide +kernel
theorem dX9_unmark_11 : decode cX9_unmark 11 = .ok (.invokestatic 93, 3) := by decide +kernel
theorem dX9_unmark_14 : decode cX9_unmark 14 = .ok (.ifCond .ne 5, 3) := by decide +kernel
theorem dX9_unmark_17 : decode cX9_unmark 17 = .ok (.iconst (-1), 1) := by decide +kernel
theorem dX9_unmark_18 : decode cX9_unmark 18 = .ok (.ireturn, 1) := by decide +kernel
theorem dX9_unmark_19 : decode cX9_unmark 19 = .ok (.aload_n 0, 1) := by decide +kernel
theorem dX9_unmark_20 : decode cX9_unmark 20 = .ok (.getfield 7, 3) := by decide +kernel
theorem dX9_unmark_23 : decode cX9_unmark 23 = .ok (.bipush 112, 2) := by decide +kernel
theorem dX9_unmark_25 : decode cX9_unmark 25 = .ok (.iaload, 1) := by decide +kernel
theorem dX9_unmark_26 : decode cX9_unmark 26 = .ok (.istore_n 2, 1) := by decide +kernel
theorem dX9_unmark_27 : decode cX9_unmark 27 = .ok (.aload_n 0, 1) := by decide +kernel
theorem dX9_unmark_28 : decode cX9_unmark 28 = .ok (.getfield 7, 3) := by decide +kernel
theorem dX9_unmark_31 : decode cX9_unmark 31 = .ok (.bipush 112, 2) := by decide +kernel
theorem dX9_unmark_33 : decode cX9_unmark 33 = .ok (.iload_n 1, 1) := by decide +kernel
theorem dX9_unmark_34 : decode cX9_unmark 34 = .ok (.iastore, 1) := by decide +kernel
theorem dX9_unmark_35 : decode cX9_unmark 35 = .ok (.iload_n 2, 1) := by decide +kernel
theorem dX9_unmark_36 : decode cX9_unmark 36 = .ok (.ireturn, 1) := by decide +kernel
theorem dX9_canMark_0 : decode cX9_canMark 0 = .ok (.aload_n 0, 1) := by decide +kernel
theorem dX9_canMark_1 : decode cX9_canMark 1 = .ok (.getfield 7, 3) := by decide +kernel
theorem dX9_canMark_4 : decode cX9_canMark 4 = .ok (.iconst 1, 1) := by decide +kernel
theorem dX9_canMark_5 : decode cX9_canMark 5 = .ok (.iconst 5, 1) := by decide +kernel
theorem dX9_canMark_6 : decode cX9_canMark 6 = .ok (.iload_n 2, 1) := by decide +kernel
theorem dX9_canMark_7 : decode cX9_canMark 7 = .ok (.imul, 1) := by decide +kernel
theorem dX9_canMark_8 : decode cX9_canMark 8 = .ok (.iadd, 1) := by decide +kernel
theorem dX9_canMark_9 : decode cX9_canMark 9 = .ok (.iaload, 1) := by decide +kernel
theorem dX9_canMark_10 : decode cX9_canMark 10 = .ok (.iload_n 1, 1) := by decide +kernel
theorem dX9_canMark_11 : decode cX9_canMark 11 = .ok (.aload_n 0, 1) := by decide +kernel
theorem dX9_canMark_12 : decode cX9_canMark 12 = .ok (.getfield 7, 3) := by decide +kernel
theorem dX9_canMark_15 : decode cX9_canMark 15 = .ok (.iconst 1, 1) := by decide +kernel
theorem dX9_canMark_16 : decode cX9_canMark 16 = .ok (.iconst 5, 1) := by decide +kernel
theorem dX9_canMark_17 : decode cX9_canMark 17 = .ok (.iload_n 2, 1) := by decide +kernel
theorem dX9_canMark_18 : decode cX9_canMark 18 = .ok (.imul, 1) := by decide +kernel
theorem dX9_canMark_19 : decode cX9_canMark 19 = .ok (.iadd, 1) := by decide +kernel
theorem dX9_canMark_20 : decode cX9_canMark 20 = .ok (.iconst 1, 1) := by decide +kernel
theorem dX9_canMark_21 : decode cX9_canMark 21 = .ok (.iadd, 1) := by decide +kernel
theorem dX9_canMark_22 : decode cX9_canMark 22 = .ok (.iaload, 1) := by decide +kernel
theorem dX9_canMark_23 : decode cX9_canMark 23 = .ok (.imul, 1) := by decide +kernel
theorem dX9_canMark_24 : decode cX9_canMark 24 = .ok (.iadd, 1) := by decide +kernel
theorem dX9_canMark_25 : decode cX9_canMark 25 = .ok (.istore_n 3, 1) := by decide +kernel
theorem dX9_canMark_26 : decode cX9_canMark 26 = .ok (.iload_n 3, 1) := by decide +kernel
theorem dX9_canMark_27 : decode cX9_canMark 27 = .ok (.bipush 40, 2) := by decide +kernel
theorem dX9_canMark_29 : decode cX9_canMark 29 = .ok (.if_icmp .le 8, 3) := by decide +kernel
theorem dX9_canMark_32 : decode cX9_canMark 32 = .ok (.bipush 40, 2) := by decide +kernel
theorem dX9_canMark_34 : decode cX9_canMark 34 = .ok (.goto 4, 3) := by decide +kernel
theorem dX9_canMark_37 : decode cX9_canMark 37 = .ok (.iload_n 3, 1) := by decide +kernel
theorem dX9_canMark_38 : decode cX9_canMark 38 = .ok (.istore_n 3, 1) := by decide +kernel
theorem dX9_canMark_39 : decode cX9_canMark 39 = .ok (.aload_n 0, 1) := by decide +kernel
theorem dX9_canMark_40 : decode cX9_canMark 40 = .ok (.getfield 7, 3) := by decide +kernel
theorem dX9_canMark_43 : decode cX9_canMark 43 = .ok (.bipush 113, 2) := by decide +kernel
theorem dX9_canMark_45 : decode cX9_canMark 45 = .ok (.iload_n 1, 1) := by decide +kernel
theorem dX9_canMark_46 : decode cX9_canMark 46 = .ok (.iadd, 1) := by decide +kernel
theorem dX9_canMark_47 : decode cX9_canMark 47 = .ok (.iaload, 1) := by decide +kernel
theorem dX9_canMark_48 : decode cX9_canMark 48 = .ok (.i2l, 1) := by decide +kernel
theorem dX9_canMark_49 : decode cX9_canMark 49 = .ok (.iload_n 3, 1) := by decide +kernel
theorem dX9_canMark_50 : decode cX9_canMark 50 = .ok (.i2l, 1) := by decide +kernel
theorem dX9_canMark_51 : decode cX9_canMark 51 = .ok (.iload_n 3, 1) := by decide +kernel
theorem dX9_canMark_52 : decode cX9_canMark 52 = .ok (.aload_n 0, 1) := by decide +kernel
theorem dX9_canMark_53 : decode cX9_canMark 53 = .ok (.getfield 85, 3) := by decide +kernel
theorem dX9_canMark_56 : decode cX9_canMark 56 = .ok (.iadd, 1) := by decide +kernel
theorem dX9_canMark_57 : decode cX9_canMark 57 = .ok (.i2l, 1) := by decide +kernel
theorem dX9_canMark_58 : decode cX9_canMark 58 = .ok (.invokestatic 93, 3) := by decide +kernel
theorem dX9_canMark_61 : decode cX9_canMark 61 = .ok (.ireturn, 1) := by decide +kernel
theorem dX9_takesRow_0 : decode cX9_takesRow 0 = .ok (.iconst 0, 1) := by decide +kernel
theorem dX9_takesRow_1 : decode cX9_takesRow 1 = .ok (.istore_n 2, 1) := by decide +kernel
theorem dX9_takesRow_2 : decode cX9_takesRow 2 = .ok (.iload_n 2, 1) := by decide +kernel
theorem dX9_takesRow_3 : decode cX9_takesRow 3 = .ok (.iload_n 1, 1) := by decide +kernel
theorem dX9_takesRow_4 : decode cX9_takesRow 4 = .ok (.if_icmp .ge 37, 3) := by decide +kernel
theorem dX9_takesRow_7 : decode cX9_takesRow 7 = .ok (.aload_n 0, 1) := by decide +kernel
theorem dX9_takesRow_8 : decode cX9_takesRow 8 = .ok (.getfield 53, 3) := by decide +kernel
theorem dX9_takesRow_11 : decode cX9_takesRow 11 = .ok (.iload_n 2, 1) := by decide +kernel
theorem dX9_takesRow_12 : decode cX9_takesRow 12 = .ok (.aload_n 0, 1) := by decide +kernel
theorem dX9_takesRow_13 : decode cX9_takesRow 13 = .ok (.getfield 305, 3) := by decide +kernel
theorem dX9_takesRow_16 : decode cX9_takesRow 16 = .ok (.ifCond .ne 12, 3) := by decide +kernel
theorem dX9_takesRow_19 : decode cX9_takesRow 19 = .ok (.aload_n 0, 1) := by decide +kernel
theorem dX9_takesRow_20 : decode cX9_takesRow 20 = .ok (.getfield 50, 3) := by decide +kernel
theorem dX9_takesRow_23 : decode cX9_takesRow 23 = .ok (.iload_n 2, 1) := by decide +kernel
theorem dX9_takesRow_24 : decode cX9_takesRow 24 = .ok (.iaload, 1) := by decide +kernel
theorem dX9_takesRow_25 : decode cX9_takesRow 25 = .ok (.goto 9, 3) := by decide +kernel
theorem dX9_takesRow_28 : decode cX9_takesRow 28 = .ok (.aload_n 0, 1) := by decide +kernel
theorem dX9_takesRow_29 : decode cX9_takesRow 29 = .ok (.getfield 53, 3) := by decide +kernel
theorem dX9_takesRow_32 : decode cX9_takesRow 32 = .ok (.iload_n 2, 1) := by decide +kernel
theorem dX9_takesRow_33 : decode cX9_takesRow 33 = .ok (.iaload, 1) := by decide +kernel
theorem dX9_takesRow_34 : decode cX9_takesRow 34 = .ok (.iastore, 1) := by decide +kernel
theorem dX9_takesRow_35 : decode cX9_takesRow 35 = .ok (.iinc 2 1, 3) := by decide +kernel
theorem dX9_takesRow_38 : decode cX9_takesRow 38 = .ok (.goto (-36), 3) := by decide +kernel
theorem dX9_takesRow_41 : decode cX9_takesRow 41 = .ok (.aload_n 0, 1) := by decide +kernel
theorem dX9_takesRow_42 : decode cX9_takesRow 42 = .ok (.dup, 1) := by decide +kernel
theorem dX9_takesRow_43 : decode cX9_takesRow 43 = .ok (.getfield 305, 3) := by decide +kernel
theorem dX9_takesRow_46 : decode cX9_takesRow 46 = .ok (.iconst 1, 1) := by decide +kernel
theorem dX9_takesRow_47 : decode cX9_takesRow 47 = .ok (.iadd, 1) := by decide +kernel
theorem dX9_takesRow_48 : decode cX9_takesRow 48 = .ok (.putfield 305, 3) := by decide +kernel
theorem dX9_takesRow_51 : decode cX9_takesRow 51 = .ok (.aload_n 0, 1) := by decide +kernel
theorem dX9_takesRow_52 : decode cX9_takesRow 52 = .ok (.dup, 1) := by decide +kernel
theorem dX9_takesRow_53 : decode cX9_takesRow 53 = .ok (.getfield 308, 3) := by decide +kernel
theorem dX9_takesRow_56 : decode cX9_takesRow 56 = .ok (.iload_n 1, 1) := by decide +kernel
theorem dX9_takesRow_57 : decode cX9_takesRow 57 = .ok (.ifCond .ne 7, 3) := by decide +kernel
theorem dX9_takesRow_60 : decode cX9_takesRow 60 = .ok (.iconst 0, 1) := by decide +kernel
theorem dX9_takesRow_61 : decode cX9_takesRow 61 = .ok (.goto 11, 3) := by decide +kernel
theorem dX9_takesRow_64 : decode cX9_takesRow 64 = .ok (.iconst 1, 1) := by decide +kernel
theorem dX9_takesRow_65 : decode cX9_takesRow 65 = .ok (.aload_n 0, 1) := by decide +kernel
theorem dX9_takesRow_66 : decode cX9_takesRow 66 = .ok (.getfield 50, 3) := by decide +kernel
theorem dX9_takesRow_69 : decode cX9_takesRow 69 = .ok (.iconst 0, 1) := by decide +kernel
theorem dX9_takesRow_70 : decode cX9_takesRow 70 = .ok (.iaload, 1) := by decide +kernel
theorem dX9_takesRow_71 : decode cX9_takesRow 71 = .ok (.ishl, 1) := by decide +kernel
theorem dX9_takesRow_72 : decode cX9_takesRow 72 = .ok (.ior, 1) := by decide +kernel
theorem dX9_takesRow_73 : decode cX9_takesRow 73 = .ok (.putfield 308, 3) := by decide +kernel
theorem dX9_takesRow_76 : decode cX9_takesRow 76 = .ok (.aload_n 0, 1) := by decide +kernel
theorem dX9_takesRow_77 : decode cX9_takesRow 77 = .ok (.dup, 1) := by decide +kernel
theorem dX9_takesRow_78 : decode cX9_takesRow 78 = .ok (.getfield 311, 3) := by decide +kernel
theorem dX9_takesRow_81 : decode cX9_takesRow 81 = .ok (.iload_n 1, 1) := by decide +kernel
theorem dX9_takesRow_82 : decode cX9_takesRow 82 = .ok (.ifCond .ne 7, 3) := by decide +kernel
theorem dX9_takesRow_85 : decode cX9_takesRow 85 = .ok (.iconst 0, 1) := by decide +kernel
theorem dX9_takesRow_86 : decode cX9_takesRow 86 = .ok (.goto 13, 3) := by decide +kernel
theorem dX9_takesRow_89 : decode cX9_takesRow 89 = .ok (.iconst 1, 1) := by decide +kernel
theorem dX9_takesRow_90 : decode cX9_takesRow 90 = .ok (.aload_n 0, 1) := by decide +kernel
theorem dX9_takesRow_91 : decode cX9_takesRow 91 = .ok (.getfield 50, 3) := by decide +kernel
theorem dX9_takesRow_94 : decode cX9_takesRow 94 = .ok (.iload_n 1, 1) := by decide +kernel
theorem dX9_takesRow_95 : decode cX9_takesRow 95 = .ok (.iconst 1, 1) := by decide +kernel
theorem dX9_takesRow_96 : decode cX9_takesRow 96 = .ok (.isub, 1) := by decide +kernel
theorem dX9_takesRow_97 : decode cX9_takesRow 97 = .ok (.iaload, 1) := by decide +kernel
theorem dX9_takesRow_98 : decode cX9_takesRow 98 = .ok (.ishl, 1) := by decide +kernel
theorem dX9_takesRow_99 : decode cX9_takesRow 99 = .ok (.ior, 1) := by decide +kernel
theorem dX9_takesRow_100 : decode cX9_takesRow 100 = .ok (.putfield 311, 3) := by decide +kernel
theorem dX9_takesRow_103 : decode cX9_takesRow 103 = .ok (.return_, 1) := by decide +kernel
theorem dX9_findRows_0 : decode cX9_findRows 0 = .ok (.aload_n 0, 1) := by decide +kernel
theorem dX9_findRows_1 : decode cX9_findRows 1 = .ok (.getfield 7, 3) := by decide +kernel
theorem dX9_findRows_4 : decode cX9_findRows 4 = .ok (.bipush 112, 2) := by decide +kernel
theorem dX9_findRows_6 : decode cX9_findRows 6 = .ok (.iaload, 1) := by decide +kernel
theorem dX9_findRows_7 : decode cX9_findRows 7 = .ok (.istore_n 1, 1) := by decide +kernel
theorem dX9_findRows_8 : decode cX9_findRows 8 = .ok (.aload_n 0, 1) := by decide +kernel
theorem dX9_findRows_9 : decode cX9_findRows 9 = .ok (.iconst 0, 1) := by decide +kernel
theorem dX9_findRows_10 : decode cX9_findRows 10 = .ok (.putfield 305, 3) := by decide +kernel
theorem dX9_findRows_13 : decode cX9_findRows 13 = .ok (.aload_n 0, 1) := by decide +kernel
theorem dX9_findRows_14 : decode cX9_findRows 14 = .ok (.iconst 0, 1) := by decide +kernel
theorem dX9_findRows_15 : decode cX9_findRows 15 = .ok (.putfield 308, 3) := by decide +kernel
theorem dX9_findRows_18 : decode cX9_findRows 18 = .ok (.aload_n 0, 1) := by decide +kernel
theorem dX9_findRows_19 : decode cX9_findRows 19 = .ok (.iconst 0, 1) := by decide +kernel
theorem dX9_findRows_20 : decode cX9_findRows 20 = .ok (.putfield 311, 3) := by decide +kernel
theorem dX9_findRows_23 : decode cX9_findRows 23 = .ok (.iload_n 1, 1) := by decide +kernel
theorem dX9_findRows_24 : decode cX9_findRows 24 = .ok (.ifCond .ne 9, 3) := by decide +kernel
theorem dX9_findRows_27 : decode cX9_findRows 27 = .ok (.aload_n 0, 1) := by decide +kernel
theorem dX9_findRows_28 : decode cX9_findRows 28 = .ok (.iconst 0, 1) := by decide +kernel
theorem dX9_findRows_29 : decode cX9_findRows 29 = .ok (.invokevirtual 314, 3) := by decide +kernel
theorem dX9_findRows_32 : decode cX9_findRows 32 = .ok (.return_, 1) := by decide +kernel
theorem dX9_findRows_33 : decode cX9_findRows 33 = .ok (.iconst 0, 1) := by decide +kernel
theorem dX9_findRows_34 : decode cX9_findRows 34 = .ok (.istore_n 2, 1) := by decide +kernel
theorem dX9_findRows_35 : decode cX9_findRows 35 = .ok (.iconst 0, 1) := by decide +kernel
theorem dX9_findRows_36 : decode cX9_findRows 36 = .ok (.istore_n 3, 1) := by decide +kernel
theorem dX9_findRows_37 : decode cX9_findRows 37 = .ok (.iconst 0, 1) := by decide +kernel
theorem dX9_findRows_38 : decode cX9_findRows 38 = .ok (.istore 4, 2) := by decide +kernel
theorem dX9_findRows_40 : decode cX9_findRows 40 = .ok (.iload_n 2, 1) := by decide +kernel
theorem dX9_findRows_41 : decode cX9_findRows 41 = .ok (.ifCond .lt 127, 3) := by decide +kernel
theorem dX9_findRows_44 : decode cX9_findRows 44 = .ok (.iload 4, 2) := by decide +kernel
theorem dX9_findRows_46 : decode cX9_findRows 46 = .ok (.aload_n 0, 1) := by decide +kernel
theorem dX9_findRows_47 : decode cX9_findRows 47 = .ok (.getfield 7, 3) := by decide +kernel
theorem dX9_findRows_50 : decode cX9_findRows 50 = .ok (.iconst 0, 1) := by decide +kernel
theorem dX9_findRows_51 : decode cX9_findRows 51 = .ok (.iaload, 1) := by decide +kernel
theorem dX9_findRows_52 : decode cX9_findRows 52 = .ok (.if_icmp .ne 48, 3) := by decide +kernel
theorem dX9_findRows_55 : decode cX9_findRows 55 = .ok (.iinc 2 (-1), 3) := by decide +kernel
theorem dX9_findRows_58 : decode cX9_findRows 58 = .ok (.iload_n 2, 1) := by decide +kernel
theorem dX9_findRows_59 : decode cX9_findRows 59 = .ok (.ifCond .ge 7, 3) := by decide +kernel
theorem dX9_findRows_62 : decode cX9_findRows 62 = .ok (.iconst 0, 1) := by decide +kernel
theorem dX9_findRows_63 : decode cX9_findRows 63 = .ok (.goto 11, 3) := by decide +kernel
theorem dX9_findRows_66 : decode cX9_findRows 66 = .ok (.aload_n 0, 1) := by decide +kernel
theorem dX9_findRows_67 : decode cX9_findRows 67 = .ok (.getfield 50, 3) := by decide +kernel
theorem dX9_findRows_70 : decode cX9_findRows 70 = .ok (.iload_n 2, 1) := by decide +kernel
theorem dX9_findRows_71 : decode cX9_findRows 71 = .ok (.iaload, 1) := by decide +kernel
theorem dX9_findRows_72 : decode cX9_findRows 72 = .ok (.iconst 1, 1) := by decide +kernel
theorem dX9_findRows_73 : decode cX9_findRows 73 = .ok (.iadd, 1) := by decide +kernel
theorem dX9_findRows_74 : decode cX9_findRows 74 = .ok (.istore 4, 2) := by decide +kernel
theorem dX9_findRows_76 : decode cX9_findRows 76 = .ok (.iload_n 2, 1) := by decide +kernel
theorem dX9_findRows_77 : decode cX9_findRows 77 = .ok (.ifCond .ge 7, 3) := by decide +kernel
theorem dX9_findRows_80 : decode cX9_findRows 80 = .ok (.iconst 0, 1) := by decide +kernel
theorem dX9_findRows_81 : decode cX9_findRows 81 = .ok (.goto 15, 3) := by decide +kernel
theorem dX9_findRows_84 : decode cX9_findRows 84 = .ok (.iload_n 3, 1) := by decide +kernel
theorem dX9_findRows_85 : decode cX9_findRows 85 = .ok (.iconst 1, 1) := by decide +kernel
theorem dX9_findRows_86 : decode cX9_findRows 86 = .ok (.aload_n 0, 1) := by decide +kernel
theorem dX9_findRows_87 : decode cX9_findRows 87 = .ok (.getfield 50, 3) := by decide +kernel
theorem dX9_findRows_90 : decode cX9_findRows 90 = .ok (.iload_n 2, 1) := by decide +kernel
theorem dX9_findRows_91 : decode cX9_findRows 91 = .ok (.iaload, 1) := by decide +kernel
theorem dX9_findRows_92 : decode cX9_findRows 92 = .ok (.ishl, 1) := by decide +kernel
theorem dX9_findRows_93 : decode cX9_findRows 93 = .ok (.iconst (-1), 1) := by decide +kernel
theorem dX9_findRows_94 : decode cX9_findRows 94 = .ok (.ixor, 1) := by decide +kernel
theorem dX9_findRows_95 : decode cX9_findRows 95 = .ok (.iand, 1) := by decide +kernel
theorem dX9_findRows_96 : decode cX9_findRows 96 = .ok (.istore_n 3, 1) := by decide +kernel
theorem dX9_findRows_97 : decode cX9_findRows 97 = .ok (.goto (-57), 3) := by decide +kernel
theorem dX9_findRows_100 : decode cX9_findRows 100 = .ok (.iload_n 3, 1) := by decide +kernel
theorem dX9_findRows_101 : decode cX9_findRows 101 = .ok (.iload 4, 2) := by decide +kernel
theorem dX9_findRows_103 : decode cX9_findRows 103 = .ok (.ishr, 1) := by decide +kernel
theorem dX9_findRows_104 : decode cX9_findRows 104 = .ok (.iconst 1, 1) := by decide +kernel
theorem dX9_findRows_105 : decode cX9_findRows 105 = .ok (.iand, 1) := by decide +kernel
theorem dX9_findRows_106 : decode cX9_findRows 106 = .ok (.iconst 1, 1) := by decide +kernel
theorem dX9_findRows_107 : decode cX9_findRows 107 = .ok (.if_icmp .eq 13, 3) := by decide +kernel
theorem dX9_findRows_110 : decode cX9_findRows 110 = .ok (.aload_n 0, 1) := by decide +kernel
theorem dX9_findRows_111 : decode cX9_findRows 111 = .ok (.iload_n 2, 1) := by decide +kernel
theorem dX9_findRows_112 : decode cX9_findRows 112 = .ok (.iload 4, 2) := by decide +kernel
theorem dX9_findRows_114 : decode cX9_findRows 114 = .ok (.invokevirtual 317, 3) := by decide +kernel
theorem dX9_findRows_117 : decode cX9_findRows 117 = .ok (.ifCond .ne 9, 3) := by decide +kernel
theorem dX9_findRows_120 : decode cX9_findRows 120 = .ok (.iinc 4 1, 3) := by decide +kernel
theorem dX9_findRows_123 : decode cX9_findRows 123 = .ok (.goto (-83), 3) := by decide +kernel
theorem dX9_findRows_126 : decode cX9_findRows 126 = .ok (.aload_n 0, 1) := by decide +kernel
theorem dX9_findRows_127 : decode cX9_findRows 127 = .ok (.getfield 50, 3) := by decide +kernel
theorem dX9_findRows_130 : decode cX9_findRows 130 = .ok (.iload_n 2, 1) := by decide +kernel
theorem dX9_findRows_131 : decode cX9_findRows 131 = .ok (.iload 4, 2) := by decide +kernel
theorem dX9_findRows_133 : decode cX9_findRows 133 = .ok (.iastore, 1) := by decide +kernel
theorem dX9_findRows_134 : decode cX9_findRows 134 = .ok (.iload_n 2, 1) := by decide +kernel
theorem dX9_findRows_135 : decode cX9_findRows 135 = .ok (.iload_n 1, 1) := by decide +kernel
theorem dX9_findRows_136 : decode cX9_findRows 136 = .ok (.iconst 1, 1) := by decide +kernel
theorem dX9_findRows_137 : decode cX9_findRows 137 = .ok (.isub, 1) := by decide +kernel
theorem dX9_findRows_138 : decode cX9_findRows 138 = .ok (.if_icmp .ne 14, 3) := by decide +kernel
theorem dX9_findRows_141 : decode cX9_findRows 141 = .ok (.aload_n 0, 1) := by decide +kernel
theorem dX9_findRows_142 : decode cX9_findRows 142 = .ok (.iload_n 1, 1) := by decide +kernel
theorem dX9_findRows_143 : decode cX9_findRows 143 = .ok (.invokevirtual 314, 3) := by decide +kernel
theorem dX9_findRows_146 : decode cX9_findRows 146 = .ok (.iinc 4 1, 3) := by decide +kernel
theorem dX9_findRows_149 : decode cX9_findRows 149 = .ok (.goto (-109), 3) := by decide +kernel
theorem dX9_findRows_152 : decode cX9_findRows 152 = .ok (.iload_n 3, 1) := by decide +kernel
theorem dX9_findRows_153 : decode cX9_findRows 153 = .ok (.iconst 1, 1) := by decide +kernel
theorem dX9_findRows_154 : decode cX9_findRows 154 = .ok (.iload 4, 2) := by decide +kernel
theorem dX9_findRows_156 : decode cX9_findRows 156 = .ok (.ishl, 1) := by decide +kernel
theorem dX9_findRows_157 : decode cX9_findRows 157 = .ok (.ior, 1) := by decide +kernel
theorem dX9_findRows_158 : decode cX9_findRows 158 = .ok (.istore_n 3, 1) := by decide +kernel
theorem dX9_findRows_159 : decode cX9_findRows 159 = .ok (.iinc 2 1, 3) := by decide +kernel
theorem dX9_findRows_162 : decode cX9_findRows 162 = .ok (.iconst 0, 1) := by decide +kernel
theorem dX9_findRows_163 : decode cX9_findRows 163 = .ok (.istore 4, 2) := by decide +kernel
theorem dX9_findRows_165 : decode cX9_findRows 165 = .ok (.goto (-125), 3) := by decide +kernel
theorem dX9_findRows_168 : decode cX9_findRows 168 = .ok (.return_, 1) := by decide +kernel
theorem dX9_rows_0 : decode cX9_rows 0 = .ok (.iload_n 1, 1) := by decide +kernel
theorem dX9_rows_1 : decode cX9_rows 1 = .ok (.ifCond .eq 27, 3) := by decide +kernel
theorem dX9_rows_4 : decode cX9_rows 4 = .ok (.iload_n 1, 1) := by decide +kernel
theorem dX9_rows_5 : decode cX9_rows 5 = .ok (.i2l, 1) := by decide +kernel
theorem dX9_rows_6 : decode cX9_rows 6 = .ok (.ldc2_w 184, 3) := by decide +kernel
theorem dX9_rows_9 : decode cX9_rows 9 = .ok (.bipush 9, 2) := by decide +kernel
theorem dX9_rows_11 : decode cX9_rows 11 = .ok (.aload_n 0, 1) := by decide +kernel
theorem dX9_rows_12 : decode cX9_rows 12 = .ok (.getfield 7, 3) := by decide +kernel
theorem dX9_rows_15 : decode cX9_rows 15 = .ok (.bipush 112, 2) := by decide +kernel
theorem dX9_rows_17 : decode cX9_rows 17 = .ok (.iaload, 1) := by decide +kernel
theorem dX9_rows_18 : decode cX9_rows 18 = .ok (.iadd, 1) := by decide +kernel
theorem dX9_rows_19 : decode cX9_rows 19 = .ok (.i2l, 1) := by decide +kernel
theorem dX9_rows_20 : decode cX9_rows 20 = .ok (.invokestatic 93, 3) := by decide +kernel
theorem dX9_rows_23 : decode cX9_rows 23 = .ok (.ifCond .ne 5, 3) := by decide +kernel
theorem dX9_rows_26 : decode cX9_rows 26 = .ok (.iconst (-1), 1) := by decide +kernel
theorem dX9_rows_27 : decode cX9_rows 27 = .ok (.ireturn, 1) := by decide +kernel
theorem dX9_rows_28 : decode cX9_rows 28 = .ok (.aload_n 0, 1) := by decide +kernel
theorem dX9_rows_29 : decode cX9_rows 29 = .ok (.invokevirtual 320, 3) := by decide +kernel
theorem dX9_rows_32 : decode cX9_rows 32 = .ok (.iload_n 1, 1) := by decide +kernel
theorem dX9_rows_33 : decode cX9_rows 33 = .ok (.ifCond .ne 10, 3) := by decide +kernel
theorem dX9_rows_36 : decode cX9_rows 36 = .ok (.aload_n 0, 1) := by decide +kernel
theorem dX9_rows_37 : decode cX9_rows 37 = .ok (.getfield 305, 3) := by decide +kernel
theorem dX9_rows_40 : decode cX9_rows 40 = .ok (.goto 24, 3) := by decide +kernel
theorem dX9_rows_43 : decode cX9_rows 43 = .ok (.aload_n 0, 1) := by decide +kernel
theorem dX9_rows_44 : decode cX9_rows 44 = .ok (.getfield 305, 3) := by decide +kernel
theorem dX9_rows_47 : decode cX9_rows 47 = .ok (.ifCond .ne 8, 3) := by decide +kernel
theorem dX9_rows_50 : decode cX9_rows 50 = .ok (.bipush (-4), 2) := by decide +kernel
theorem dX9_rows_52 : decode cX9_rows 52 = .ok (.goto 12, 3) := by decide +kernel
theorem dX9_rows_55 : decode cX9_rows 55 = .ok (.aload_n 0, 1) := by decide +kernel
theorem dX9_rows_56 : decode cX9_rows 56 = .ok (.getfield 53, 3) := by decide +kernel
theorem dX9_rows_59 : decode cX9_rows 59 = .ok (.iload_n 1, 1) := by decide +kernel
theorem dX9_rows_60 : decode cX9_rows 60 = .ok (.bipush 10, 2) := by decide +kernel
theorem dX9_rows_62 : decode cX9_rows 62 = .ok (.isub, 1) := by decide +kernel
theorem dX9_rows_63 : decode cX9_rows 63 = .ok (.iaload, 1) := by decide +kernel
theorem dX9_rows_64 : decode cX9_rows 64 = .ok (.ireturn, 1) := by decide +kernel
theorem dX9_whose_0 : decode cX9_whose 0 = .ok (.iload_n 1, 1) := by decide +kernel
theorem dX9_whose_1 : decode cX9_whose 1 = .ok (.i2l, 1) := by decide +kernel
theorem dX9_whose_2 : decode cX9_whose 2 = .ok (.lconst 0, 1) := by decide +kernel
theorem dX9_whose_3 : decode cX9_whose 3 = .ok (.lconst 1, 1) := by decide +kernel
theorem dX9_whose_4 : decode cX9_whose 4 = .ok (.invokestatic 93, 3) := by decide +kernel
theorem dX9_whose_7 : decode cX9_whose 7 = .ok (.ifCond .ne 5, 3) := by decide +kernel
theorem dX9_whose_10 : decode cX9_whose 10 = .ok (.iconst (-1), 1) := by decide +kernel
theorem dX9_whose_11 : decode cX9_whose 11 = .ok (.ireturn, 1) := by decide +kernel
theorem dX9_whose_12 : decode cX9_whose 12 = .ok (.aload_n 0, 1) := by decide +kernel
theorem dX9_whose_13 : decode cX9_whose 13 = .ok (.getfield 7, 3) := by decide +kernel
theorem dX9_whose_16 : decode cX9_whose 16 = .ok (.bipush 112, 2) := by decide +kernel
theorem dX9_whose_18 : decode cX9_whose 18 = .ok (.iaload, 1) := by decide +kernel
theorem dX9_whose_19 : decode cX9_whose 19 = .ok (.ifCond .ne 6, 3) := by decide +kernel
theorem dX9_whose_22 : decode cX9_whose 22 = .ok (.bipush (-2), 2) := by decide +kernel
theorem dX9_whose_24 : decode cX9_whose 24 = .ok (.ireturn, 1) := by decide +kernel
theorem dX9_whose_25 : decode cX9_whose 25 = .ok (.aload_n 0, 1) := by decide +kernel
theorem dX9_whose_26 : decode cX9_whose 26 = .ok (.invokevirtual 320, 3) := by decide +kernel
theorem dX9_whose_29 : decode cX9_whose 29 = .ok (.iload_n 1, 1) := by decide +kernel
theorem dX9_whose_30 : decode cX9_whose 30 = .ok (.ifCond .ne 10, 3) := by decide +kernel
theorem dX9_whose_33 : decode cX9_whose 33 = .ok (.aload_n 0, 1) := by decide +kernel
theorem dX9_whose_34 : decode cX9_whose 34 = .ok (.getfield 308, 3) := by decide +kernel
theorem dX9_whose_37 : decode cX9_whose 37 = .ok (.goto 7, 3) := by decide +kernel
theorem dX9_whose_40 : decode cX9_whose 40 = .ok (.aload_n 0, 1) := by decide +kernel
theorem dX9_whose_41 : decode cX9_whose 41 = .ok (.getfield 311, 3) := by decide +kernel
theorem dX9_whose_44 : decode cX9_whose 44 = .ok (.ireturn, 1) := by decide +kernel
theorem dX9_findLeft_0 : decode cX9_findLeft 0 = .ok (.aload_n 0, 1) := by decide +kernel
theorem dX9_findLeft_1 : decode cX9_findLeft 1 = .ok (.sipush 597, 3) := by decide +kernel
theorem dX9_findLeft_4 : decode cX9_findLeft 4 = .ok (.iconst 0, 1) := by decide +kernel
theorem dX9_findLeft_5 : decode cX9_findLeft 5 = .ok (.invokevirtual 267, 3) := by decide +kernel
theorem dX9_findLeft_8 : decode cX9_findLeft 8 = .ok (.aload_n 0, 1) := by decide +kernel
theorem dX9_findLeft_9 : decode cX9_findLeft 9 = .ok (.iconst 0, 1) := by decide +kernel
theorem dX9_findLeft_10 : decode cX9_findLeft 10 = .ok (.sipush 199, 3) := by decide +kernel
theorem dX9_findLeft_13 : decode cX9_findLeft 13 = .ok (.iload_n 1, 1) := by decide +kernel
theorem dX9_findLeft_14 : decode cX9_findLeft 14 = .ok (.iconst 1, 1) := by decide +kernel
theorem dX9_findLeft_15 : decode cX9_findLeft 15 = .ok (.iadd, 1) := by decide +kernel
theorem dX9_findLeft_16 : decode cX9_findLeft 16 = .ok (.imul, 1) := by decide +kernel
theorem dX9_findLeft_17 : decode cX9_findLeft 17 = .ok (.invokevirtual 267, 3) := by decide +kernel
theorem dX9_findLeft_20 : decode cX9_findLeft 20 = .ok (.aload_n 0, 1) := by decide +kernel
theorem dX9_findLeft_21 : decode cX9_findLeft 21 = .ok (.iload_n 2, 1) := by decide +kernel
theorem dX9_findLeft_22 : decode cX9_findLeft 22 = .ok (.invokevirtual 248, 3) := by decide +kernel
theorem dX9_findLeft_25 : decode cX9_findLeft 25 = .ok (.pop, 1) := by decide +kernel
theorem dX9_findLeft_26 : decode cX9_findLeft 26 = .ok (.aload_n 0, 1) := by decide +kernel
theorem dX9_findLeft_27 : decode cX9_findLeft 27 = .ok (.iconst 0, 1) := by decide +kernel
theorem dX9_findLeft_28 : decode cX9_findLeft 28 = .ok (.putfield 323, 3) := by decide +kernel
theorem dX9_findLeft_31 : decode cX9_findLeft 31 = .ok (.iconst 0, 1) := by decide +kernel
theorem dX9_findLeft_32 : decode cX9_findLeft 32 = .ok (.istore_n 3, 1) := by decide +kernel
theorem dX9_findLeft_33 : decode cX9_findLeft 33 = .ok (.iload_n 3, 1) := by decide +kernel
theorem dX9_findLeft_34 : decode cX9_findLeft 34 = .ok (.aload_n 0, 1) := by decide +kernel
theorem dX9_findLeft_35 : decode cX9_findLeft 35 = .ok (.getfield 7, 3) := by decide +kernel
theorem dX9_findLeft_38 : decode cX9_findLeft 38 = .ok (.bipush 41, 2) := by decide +kernel
theorem dX9_findLeft_40 : decode cX9_findLeft 40 = .ok (.iaload, 1) := by decide +kernel
theorem dX9_findLeft_41 : decode cX9_findLeft 41 = .ok (.if_icmp .ge 67, 3) := by decide +kernel
theorem dX9_findLeft_44 : decode cX9_findLeft 44 = .ok (.aload_n 0, 1) := by decide +kernel
theorem dX9_findLeft_45 : decode cX9_findLeft 45 = .ok (.dup, 1) := by decide +kernel
theorem dX9_findLeft_46 : decode cX9_findLeft 46 = .ok (.getfield 323, 3) := by decide +kernel
theorem dX9_findLeft_49 : decode cX9_findLeft 49 = .ok (.aload_n 0, 1) := by decide +kernel
theorem dX9_findLeft_50 : decode cX9_findLeft 50 = .ok (.iload_n 3, 1) := by decide +kernel
theorem dX9_findLeft_51 : decode cX9_findLeft 51 = .ok (.iconst 0, 1) := by decide +kernel
theorem dX9_findLeft_52 : decode cX9_findLeft 52 = .ok (.invokevirtual 172, 3) := by decide +kernel
theorem dX9_findLeft_55 : decode cX9_findLeft 55 = .ok (.iload_n 2, 1) := by decide +kernel
theorem dX9_findLeft_56 : decode cX9_findLeft 56 = .ok (.if_icmp .ne 36, 3) := by decide +kernel
theorem dX9_findLeft_59 : decode cX9_findLeft 59 = .ok (.aload_n 0, 1) := by decide +kernel
theorem dX9_findLeft_60 : decode cX9_findLeft 60 = .ok (.iload_n 3, 1) := by decide +kernel
theorem dX9_findLeft_61 : decode cX9_findLeft 61 = .ok (.invokevirtual 254, 3) := by decide +kernel
theorem dX9_findLeft_64 : decode cX9_findLeft 64 = .ok (.ifCond .ne 28, 3) := by decide +kernel
theorem dX9_findLeft_67 : decode cX9_findLeft 67 = .ok (.aload_n 0, 1) := by decide +kernel
theorem dX9_findLeft_68 : decode cX9_findLeft 68 = .ok (.getfield 29, 3) := by decide +kernel
theorem dX9_findLeft_71 : decode cX9_findLeft 71 = .ok (.iload_n 3, 1) := by decide +kernel
theorem dX9_findLeft_72 : decode cX9_findLeft 72 = .ok (.iaload, 1) := by decide +kernel
theorem dX9_findLeft_73 : decode cX9_findLeft 73 = .ok (.bipush (-4), 2) := by decide +kernel
theorem dX9_findLeft_75 : decode cX9_findLeft 75 = .ok (.if_icmp .ne 17, 3) := by decide +kernel
theorem dX9_findLeft_78 : decode cX9_findLeft 78 = .ok (.aload_n 0, 1) := by decide +kernel
theorem dX9_findLeft_79 : decode cX9_findLeft 79 = .ok (.iload_n 3, 1) := by decide +kernel
theorem dX9_findLeft_80 : decode cX9_findLeft 80 = .ok (.iconst 1, 1) := by decide +kernel
theorem dX9_findLeft_81 : decode cX9_findLeft 81 = .ok (.invokevirtual 172, 3) := by decide +kernel
theorem dX9_findLeft_84 : decode cX9_findLeft 84 = .ok (.iconst 4, 1) := by decide +kernel
theorem dX9_findLeft_85 : decode cX9_findLeft 85 = .ok (.if_icmp .eq 7, 3) := by decide +kernel
theorem dX9_findLeft_88 : decode cX9_findLeft 88 = .ok (.iconst 1, 1) := by decide +kernel
theorem dX9_findLeft_89 : decode cX9_findLeft 89 = .ok (.goto 4, 3) := by decide +kernel
theorem dX9_findLeft_92 : decode cX9_findLeft 92 = .ok (.iconst 0, 1) := by decide +kernel
theorem dX9_findLeft_93 : decode cX9_findLeft 93 = .ok (.invokestatic 219, 3) := by decide +kernel
theorem dX9_findLeft_96 : decode cX9_findLeft 96 = .ok (.iload_n 3, 1) := by decide +kernel
theorem dX9_findLeft_97 : decode cX9_findLeft 97 = .ok (.ishl, 1) := by decide +kernel
theorem dX9_findLeft_98 : decode cX9_findLeft 98 = .ok (.ior, 1) := by decide +kernel
theorem dX9_findLeft_99 : decode cX9_findLeft 99 = .ok (.putfield 323, 3) := by decide +kernel
theorem dX9_findLeft_102 : decode cX9_findLeft 102 = .ok (.iinc 3 1, 3) := by decide +kernel
theorem dX9_findLeft_105 : decode cX9_findLeft 105 = .ok (.goto (-72), 3) := by decide +kernel
theorem dX9_findLeft_108 : decode cX9_findLeft 108 = .ok (.aload_n 0, 1) := by decide +kernel
theorem dX9_findLeft_109 : decode cX9_findLeft 109 = .ok (.iconst 0, 1) := by decide +kernel
theorem dX9_findLeft_110 : decode cX9_findLeft 110 = .ok (.sipush 597, 3) := by decide +kernel
theorem dX9_findLeft_113 : decode cX9_findLeft 113 = .ok (.invokevirtual 267, 3) := by decide +kernel
theorem dX9_findLeft_116 : decode cX9_findLeft 116 = .ok (.return_, 1) := by decide +kernel
theorem dX9_lend_0 : decode cX9_lend 0 = .ok (.iload_n 1, 1) := by decide +kernel
theorem dX9_lend_1 : decode cX9_lend 1 = .ok (.i2l, 1) := by decide +kernel
theorem dX9_lend_2 : decode cX9_lend 2 = .ok (.lconst 0, 1) := by decide +kernel
theorem dX9_lend_3 : decode cX9_lend 3 = .ok (.lconst 1, 1) := by decide +kernel
theorem dX9_lend_4 : decode cX9_lend 4 = .ok (.invokestatic 93, 3) := by decide +kernel
theorem dX9_lend_7 : decode cX9_lend 7 = .ok (.ifCond .eq 20, 3) := by decide +kernel
theorem dX9_lend_10 : decode cX9_lend 10 = .ok (.iload_n 2, 1) := by decide +kernel
theorem dX9_lend_11 : decode cX9_lend 11 = .ok (.invokestatic 216, 3) := by decide +kernel
theorem dX9_lend_14 : decode cX9_lend 14 = .ok (.ifCond .eq 13, 3) := by decide +kernel
theorem dX9_lend_17 : decode cX9_lend 17 = .ok (.iload_n 3, 1) := by decide +kernel
theorem dX9_lend_18 : decode cX9_lend 18 = .ok (.i2l, 1) := by decide +kernel
theorem dX9_lend_19 : decode cX9_lend 19 = .ok (.lconst 0, 1) := by decide +kernel
theorem dX9_lend_20 : decode cX9_lend 20 = .ok (.lconst 1, 1) := by decide +kernel
theorem dX9_lend_21 : decode cX9_lend 21 = .ok (.invokestatic 93, 3) := by decide +kernel
theorem dX9_lend_24 : decode cX9_lend 24 = .ok (.ifCond .ne 5, 3) := by decide +kernel
theorem dX9_lend_27 : decode cX9_lend 27 = .ok (.iconst (-1), 1) := by decide +kernel
theorem dX9_lend_28 : decode cX9_lend 28 = .ok (.ireturn, 1) := by decide +kernel
theorem dX9_lend_29 : decode cX9_lend 29 = .ok (.aload_n 0, 1) := by decide +kernel
theorem dX9_lend_30 : decode cX9_lend 30 = .ok (.getfield 13, 3) := by decide +kernel
theorem dX9_lend_33 : decode cX9_lend 33 = .ok (.iload_n 1, 1) := by decide +kernel
theorem dX9_lend_34 : decode cX9_lend 34 = .ok (.baload, 1) := by decide +kernel
theorem dX9_lend_35 : decode cX9_lend 35 = .ok (.ifCond .ne 6, 3) := by decide +kernel
theorem dX9_lend_38 : decode cX9_lend 38 = .ok (.bipush (-2), 2) := by decide +kernel
theorem dX9_lend_40 : decode cX9_lend 40 = .ok (.ireturn, 1) := by decide +kernel
theorem dX9_lend_41 : decode cX9_lend 41 = .ok (.aload_n 0, 1) := by decide +kernel
theorem dX9_lend_42 : decode cX9_lend 42 = .ok (.iload_n 1, 1) := by decide +kernel
theorem dX9_lend_43 : decode cX9_lend 43 = .ok (.iload_n 2, 1) := by decide +kernel
theorem dX9_lend_44 : decode cX9_lend 44 = .ok (.invokevirtual 326, 3) := by decide +kernel
theorem dX9_lend_47 : decode cX9_lend 47 = .ok (.aload_n 0, 1) := by decide +kernel
theorem dX9_lend_48 : decode cX9_lend 48 = .ok (.iload_n 2, 1) := by decide +kernel
theorem dX9_lend_49 : decode cX9_lend 49 = .ok (.invokevirtual 238, 3) := by decide +kernel
theorem dX9_lend_52 : decode cX9_lend 52 = .ok (.aload_n 0, 1) := by decide +kernel
theorem dX9_lend_53 : decode cX9_lend 53 = .ok (.invokevirtual 241, 3) := by decide +kernel
theorem dX9_lend_56 : decode cX9_lend 56 = .ok (.istore 4, 2) := by decide +kernel
theorem dX9_lend_58 : decode cX9_lend 58 = .ok (.iconst 0, 1) := by decide +kernel
theorem dX9_lend_59 : decode cX9_lend 59 = .ok (.istore 5, 2) := by decide +kernel
theorem dX9_lend_61 : decode cX9_lend 61 = .ok (.iload 5, 2) := by decide +kernel
theorem dX9_lend_63 : decode cX9_lend 63 = .ok (.aload_n 0, 1) := by decide +kernel
theorem dX9_lend_64 : decode cX9_lend 64 = .ok (.getfield 223, 3) := by decide +kernel
theorem dX9_lend_67 : decode cX9_lend 67 = .ok (.if_icmp .ge 102, 3) := by decide +kernel
theorem dX9_lend_70 : decode cX9_lend 70 = .ok (.iconst 0, 1) := by decide +kernel
theorem dX9_lend_71 : decode cX9_lend 71 = .ok (.istore 6, 2) := by decide +kernel
theorem dX9_lend_73 : decode cX9_lend 73 = .ok (.iload 6, 2) := by decide +kernel
theorem dX9_lend_75 : decode cX9_lend 75 = .ok (.bipush 10, 2) := by decide +kernel
theorem dX9_lend_77 : decode cX9_lend 77 = .ok (.if_icmp .ge 86, 3) := by decide +kernel
theorem dX9_lend_80 : decode cX9_lend 80 = .ok (.aload_n 0, 1) := by decide +kernel
theorem dX9_lend_81 : decode cX9_lend 81 = .ok (.getfield 323, 3) := by decide +kernel
theorem dX9_lend_84 : decode cX9_lend 84 = .ok (.iload 6, 2) := by decide +kernel
theorem dX9_lend_86 : decode cX9_lend 86 = .ok (.ishr, 1) := by decide +kernel
theorem dX9_lend_87 : decode cX9_lend 87 = .ok (.iconst 1, 1) := by decide +kernel
theorem dX9_lend_88 : decode cX9_lend 88 = .ok (.iand, 1) := by decide +kernel
theorem dX9_lend_89 : decode cX9_lend 89 = .ok (.iconst 1, 1) := by decide +kernel
theorem dX9_lend_90 : decode cX9_lend 90 = .ok (.if_icmp .ne 43, 3) := by decide +kernel
theorem dX9_lend_93 : decode cX9_lend 93 = .ok (.aload_n 0, 1) := by decide +kernel
theorem dX9_lend_94 : decode cX9_lend 94 = .ok (.sipush 199, 3) := by decide +kernel
theorem dX9_lend_97 : decode cX9_lend 97 = .ok (.iload_n 1, 1) := by decide +kernel
theorem dX9_lend_98 : decode cX9_lend 98 = .ok (.iconst 1, 1) := by decide +kernel
theorem dX9_lend_99 : decode cX9_lend 99 = .ok (.iadd, 1) := by decide +kernel
theorem dX9_lend_100 : decode cX9_lend 100 = .ok (.imul, 1) := by decide +kernel
theorem dX9_lend_101 : decode cX9_lend 101 = .ok (.bipush 42, 2) := by decide +kernel
theorem dX9_lend_103 : decode cX9_lend 103 = .ok (.iadd, 1) := by decide +kernel
theorem dX9_lend_104 : decode cX9_lend 104 = .ok (.bipush 7, 2) := by decide +kernel
theorem dX9_lend_106 : decode cX9_lend 106 = .ok (.iload 6, 2) := by decide +kernel
theorem dX9_lend_108 : decode cX9_lend 108 = .ok (.imul, 1) := by decide +kernel
theorem dX9_lend_109 : decode cX9_lend 109 = .ok (.iadd, 1) := by decide +kernel
theorem dX9_lend_110 : decode cX9_lend 110 = .ok (.iload 5, 2) := by decide +kernel
theorem dX9_lend_112 : decode cX9_lend 112 = .ok (.aload_n 0, 1) := by decide +kernel
theorem dX9_lend_113 : decode cX9_lend 113 = .ok (.getfield 7, 3) := by decide +kernel
theorem dX9_lend_116 : decode cX9_lend 116 = .ok (.iconst 1, 1) := by decide +kernel
theorem dX9_lend_117 : decode cX9_lend 117 = .ok (.iconst 5, 1) := by decide +kernel
theorem dX9_lend_118 : decode cX9_lend 118 = .ok (.iload 5, 2) := by decide +kernel
theorem dX9_lend_120 : decode cX9_lend 120 = .ok (.imul, 1) := by decide +kernel
theorem dX9_lend_121 : decode cX9_lend 121 = .ok (.iadd, 1) := by decide +kernel
theorem dX9_lend_122 : decode cX9_lend 122 = .ok (.iaload, 1) := by decide +kernel
theorem dX9_lend_123 : decode cX9_lend 123 = .ok (.invokevirtual 202, 3) := by decide +kernel
theorem dX9_lend_126 : decode cX9_lend 126 = .ok (.ifCond .le 7, 3) := by decide +kernel
theorem dX9_lend_129 : decode cX9_lend 129 = .ok (.iconst 1, 1) := by decide +kernel
theorem dX9_lend_130 : decode cX9_lend 130 = .ok (.goto 4, 3) := by decide +kernel
theorem dX9_lend_133 : decode cX9_lend 133 = .ok (.iconst 0, 1) := by decide +kernel
theorem dX9_lend_134 : decode cX9_lend 134 = .ok (.istore 7, 2) := by decide +kernel
theorem dX9_lend_136 : decode cX9_lend 136 = .ok (.aload_n 0, 1) := by decide +kernel
theorem dX9_lend_137 : decode cX9_lend 137 = .ok (.getfield 23, 3) := by decide +kernel
theorem dX9_lend_140 : decode cX9_lend 140 = .ok (.iload 5, 2) := by decide +kernel
theorem dX9_lend_142 : decode cX9_lend 142 = .ok (.dup2, 1) := by decide +kernel
theorem dX9_lend_143 : decode cX9_lend 143 = .ok (.iaload, 1) := by decide +kernel
theorem dX9_lend_144 : decode cX9_lend 144 = .ok (.iload 7, 2) := by decide +kernel
theorem dX9_lend_146 : decode cX9_lend 146 = .ok (.invokestatic 219, 3) := by decide +kernel
theorem dX9_lend_149 : decode cX9_lend 149 = .ok (.bipush 10, 2) := by decide +kernel
theorem dX9_lend_151 : decode cX9_lend 151 = .ok (.iload 6, 2) := by decide +kernel
theorem dX9_lend_153 : decode cX9_lend 153 = .ok (.iadd, 1) := by decide +kernel
theorem dX9_lend_154 : decode cX9_lend 154 = .ok (.ishl, 1) := by decide +kernel
theorem dX9_lend_155 : decode cX9_lend 155 = .ok (.ior, 1) := by decide +kernel
theorem dX9_lend_156 : decode cX9_lend 156 = .ok (.iastore, 1) := by decide +kernel
theorem dX9_lend_157 : decode cX9_lend 157 = .ok (.iinc 6 1, 3) := by decide +kernel
theorem dX9_lend_160 : decode cX9_lend 160 = .ok (.goto (-87), 3) := by decide +kernel
theorem dX9_lend_163 : decode cX9_lend 163 = .ok (.iinc 5 1, 3) := by decide +kernel
theorem dX9_lend_166 : decode cX9_lend 166 = .ok (.goto (-105), 3) := by decide +kernel
theorem dX9_lend_169 : decode cX9_lend 169 = .ok (.aload_n 0, 1) := by decide +kernel
theorem dX9_lend_170 : decode cX9_lend 170 = .ok (.invokevirtual 241, 3) := by decide +kernel
theorem dX9_lend_173 : decode cX9_lend 173 = .ok (.istore 5, 2) := by decide +kernel
theorem dX9_lend_175 : decode cX9_lend 175 = .ok (.iload_n 3, 1) := by decide +kernel
theorem dX9_lend_176 : decode cX9_lend 176 = .ok (.ifCond .ne 15, 3) := by decide +kernel
theorem dX9_lend_179 : decode cX9_lend 179 = .ok (.aload_n 0, 1) := by decide +kernel
theorem dX9_lend_180 : decode cX9_lend 180 = .ok (.getfield 7, 3) := by decide +kernel
theorem dX9_lend_183 : decode cX9_lend 183 = .ok (.iconst 0, 1) := by decide +kernel
theorem dX9_lend_184 : decode cX9_lend 184 = .ok (.iaload, 1) := by decide +kernel
theorem dX9_lend_185 : decode cX9_lend 185 = .ok (.iload 5, 2) := by decide +kernel
theorem dX9_lend_187 : decode cX9_lend 187 = .ok (.isub, 1) := by decide +kernel
theorem dX9_lend_188 : decode cX9_lend 188 = .ok (.goto 8, 3) := by decide +kernel
theorem dX9_lend_191 : decode cX9_lend 191 = .ok (.iload 5, 2) := by decide +kernel
theorem dX9_lend_193 : decode cX9_lend 193 = .ok (.iload 4, 2) := by decide +kernel
theorem dX9_lend_195 : decode cX9_lend 195 = .ok (.isub, 1) := by decide +kernel
theorem dX9_lend_196 : decode cX9_lend 196 = .ok (.ireturn, 1) := by decide +kernel
theorem dX9_keep_0 : decode cX9_keep 0 = .ok (.iload_n 1, 1) := by decide +kernel
theorem dX9_keep_1 : decode cX9_keep 1 = .ok (.i2l, 1) := by decide +kernel
theorem dX9_keep_2 : decode cX9_keep 2 = .ok (.lconst 0, 1) := by decide +kernel
theorem dX9_keep_3 : decode cX9_keep 3 = .ok (.lconst 1, 1) := by decide +kernel
theorem dX9_keep_4 : decode cX9_keep 4 = .ok (.invokestatic 93, 3) := by decide +kernel
theorem dX9_keep_7 : decode cX9_keep 7 = .ok (.ifCond .ne 5, 3) := by decide +kernel
theorem dX9_keep_10 : decode cX9_keep 10 = .ok (.iconst (-1), 1) := by decide +kernel
theorem dX9_keep_11 : decode cX9_keep 11 = .ok (.ireturn, 1) := by decide +kernel
theorem dX9_keep_12 : decode cX9_keep 12 = .ok (.aload_n 0, 1) := by decide +kernel
theorem dX9_keep_13 : decode cX9_keep 13 = .ok (.getfield 13, 3) := by decide +kernel
theorem dX9_keep_16 : decode cX9_keep 16 = .ok (.iload_n 1, 1) := by decide +kernel
theorem dX9_keep_17 : decode cX9_keep 17 = .ok (.baload, 1) := by decide +kernel
theorem dX9_keep_18 : decode cX9_keep 18 = .ok (.invokestatic 219, 3) := by decide +kernel
theorem dX9_keep_21 : decode cX9_keep 21 = .ok (.istore_n 2, 1) := by decide +kernel
theorem dX9_keep_22 : decode cX9_keep 22 = .ok (.aload_n 0, 1) := by decide +kernel
theorem dX9_keep_23 : decode cX9_keep 23 = .ok (.getfield 13, 3) := by decide +kernel
theorem dX9_keep_26 : decode cX9_keep 26 = .ok (.iload_n 1, 1) := by decide +kernel
theorem dX9_keep_27 : decode cX9_keep 27 = .ok (.iconst 1, 1) := by decide +kernel
theorem dX9_keep_28 : decode cX9_keep 28 = .ok (.bastore, 1) := by decide +kernel
theorem dX9_keep_29 : decode cX9_keep 29 = .ok (.aload_n 0, 1) := by decide +kernel
theorem dX9_keep_30 : decode cX9_keep 30 = .ok (.sipush 199, 3) := by decide +kernel
theorem dX9_keep_33 : decode cX9_keep 33 = .ok (.iload_n 1, 1) := by decide +kernel
theorem dX9_keep_34 : decode cX9_keep 34 = .ok (.iconst 1, 1) := by decide +kernel
theorem dX9_keep_35 : decode cX9_keep 35 = .ok (.iadd, 1) := by decide +kernel
theorem dX9_keep_36 : decode cX9_keep 36 = .ok (.imul, 1) := by decide +kernel
theorem dX9_keep_37 : decode cX9_keep 37 = .ok (.iconst 0, 1) := by decide +kernel
theorem dX9_keep_38 : decode cX9_keep 38 = .ok (.invokevirtual 267, 3) := by decide +kernel
theorem dX9_keep_41 : decode cX9_keep 41 = .ok (.iload_n 2, 1) := by decide +kernel
theorem dX9_keep_42 : decode cX9_keep 42 = .ok (.ireturn, 1) := by decide +kernel
theorem dX9_back_0 : decode cX9_back 0 = .ok (.iload_n 1, 1) := by decide +kernel
theorem dX9_back_1 : decode cX9_back 1 = .ok (.i2l, 1) := by decide +kernel
theorem dX9_back_2 : decode cX9_back 2 = .ok (.lconst 0, 1) := by decide +kernel
theorem dX9_back_3 : decode cX9_back 3 = .ok (.lconst 1, 1) := by decide +kernel
theorem dX9_back_4 : decode cX9_back 4 = .ok (.invokestatic 93, 3) := by decide +kernel
theorem dX9_back_7 : decode cX9_back 7 = .ok (.ifCond .ne 5, 3) := by decide +kernel
theorem dX9_back_10 : decode cX9_back 10 = .ok (.iconst (-1), 1) := by decide +kernel
theorem dX9_back_11 : decode cX9_back 11 = .ok (.ireturn, 1) := by decide +kernel
theorem dX9_back_12 : decode cX9_back 12 = .ok (.aload_n 0, 1) := by decide +kernel
theorem dX9_back_13 : decode cX9_back 13 = .ok (.getfield 13, 3) := by decide +kernel
theorem dX9_back_16 : decode cX9_back 16 = .ok (.iload_n 1, 1) := by decide +kernel
theorem dX9_back_17 : decode cX9_back 17 = .ok (.baload, 1) := by decide +kernel
theorem dX9_back_18 : decode cX9_back 18 = .ok (.ifCond .ne 6, 3) := by decide +kernel
theorem dX9_back_21 : decode cX9_back 21 = .ok (.bipush (-2), 2) := by decide +kernel
theorem dX9_back_23 : decode cX9_back 23 = .ok (.ireturn, 1) := by decide +kernel
theorem dX9_back_24 : decode cX9_back 24 = .ok (.aload_n 0, 1) := by decide +kernel
theorem dX9_back_25 : decode cX9_back 25 = .ok (.iconst 0, 1) := by decide +kernel
theorem dX9_back_26 : decode cX9_back 26 = .ok (.sipush 199, 3) := by decide +kernel
theorem dX9_back_29 : decode cX9_back 29 = .ok (.iload_n 1, 1) := by decide +kernel
theorem dX9_back_30 : decode cX9_back 30 = .ok (.iconst 1, 1) := by decide +kernel
theorem dX9_back_31 : decode cX9_back 31 = .ok (.iadd, 1) := by decide +kernel
theorem dX9_back_32 : decode cX9_back 32 = .ok (.imul, 1) := by decide +kernel
theorem dX9_back_33 : decode cX9_back 33 = .ok (.invokevirtual 267, 3) := by decide +kernel
theorem dX9_back_36 : decode cX9_back 36 = .ok (.aload_n 0, 1) := by decide +kernel
theorem dX9_back_37 : decode cX9_back 37 = .ok (.getfield 7, 3) := by decide +kernel
theorem dX9_back_40 : decode cX9_back 40 = .ok (.bipush 41, 2) := by decide +kernel
theorem dX9_back_42 : decode cX9_back 42 = .ok (.iaload, 1) := by decide +kernel
theorem dX9_back_43 : decode cX9_back 43 = .ok (.ireturn, 1) := by decide +kernel
theorem dX9_isSheet_0 : decode cX9_isSheet 0 = .ok (.iload_n 0, 1) := by decide +kernel
theorem dX9_isSheet_1 : decode cX9_isSheet 1 = .ok (.i2l, 1) := by decide +kernel
theorem dX9_isSheet_2 : decode cX9_isSheet 2 = .ok (.lconst 0, 1) := by decide +kernel
theorem dX9_isSheet_3 : decode cX9_isSheet 3 = .ok (.ldc2_w 200, 3) := by decide +kernel
theorem dX9_isSheet_6 : decode cX9_isSheet 6 = .ok (.invokestatic 93, 3) := by decide +kernel
theorem dX9_isSheet_9 : decode cX9_isSheet 9 = .ok (.ifCond .eq 19, 3) := by decide +kernel
theorem dX9_isSheet_12 : decode cX9_isSheet 12 = .ok (.iload_n 1, 1) := by decide +kernel
theorem dX9_isSheet_13 : decode cX9_isSheet 13 = .ok (.i2l, 1) := by decide +kernel
theorem dX9_isSheet_14 : decode cX9_isSheet 14 = .ok (.lconst 0, 1) := by decide +kernel
theorem dX9_isSheet_15 : decode cX9_isSheet 15 = .ok (.ldc2_w 182, 3) := by decide +kernel
theorem dX9_isSheet_18 : decode cX9_isSheet 18 = .ok (.invokestatic 93, 3) := by decide +kernel
theorem dX9_isSheet_21 : decode cX9_isSheet 21 = .ok (.ifCond .eq 7, 3) := by decide +kernel
theorem dX9_isSheet_24 : decode cX9_isSheet 24 = .ok (.iconst 1, 1) := by decide +kernel
theorem dX9_isSheet_25 : decode cX9_isSheet 25 = .ok (.goto 4, 3) := by decide +kernel
theorem dX9_isSheet_28 : decode cX9_isSheet 28 = .ok (.iconst 0, 1) := by decide +kernel
theorem dX9_isSheet_29 : decode cX9_isSheet 29 = .ok (.ireturn, 1) := by decide +kernel
theorem dX9_sheet_0 : decode cX9_sheet 0 = .ok (.iload_n 1, 1) := by decide +kernel
theorem dX9_sheet_1 : decode cX9_sheet 1 = .ok (.iload_n 2, 1) := by decide +kernel
theorem dX9_sheet_2 : decode cX9_sheet 2 = .ok (.invokestatic 329, 3) := by decide +kernel
theorem dX9_sheet_5 : decode cX9_sheet 5 = .ok (.ifCond .eq 9, 3) := by decide +kernel
theorem dX9_sheet_8 : decode cX9_sheet 8 = .ok (.iload_n 3, 1) := by decide +kernel
theorem dX9_sheet_9 : decode cX9_sheet 9 = .ok (.bipush 40, 2) := by decide +kernel
theorem dX9_sheet_11 : decode cX9_sheet 11 = .ok (.if_icmp .le 5, 3) := by decide +kernel
theorem dX9_sheet_14 : decode cX9_sheet 14 = .ok (.iconst (-1), 1) := by decide +kernel
theorem dX9_sheet_15 : decode cX9_sheet 15 = .ok (.ireturn, 1) := by decide +kernel
theorem dX9_sheet_16 : decode cX9_sheet 16 = .ok (.iload_n 3, 1) := by decide +kernel
theorem dX9_sheet_17 : decode cX9_sheet 17 = .ok (.ifCond .ge 6, 3) := by decide +kernel
theorem dX9_sheet_20 : decode cX9_sheet 20 = .ok (.bipush (-14), 2) := by decide +kernel
theorem dX9_sheet_22 : decode cX9_sheet 22 = .ok (.ireturn, 1) := by decide +kernel
theorem dX9_sheet_23 : decode cX9_sheet 23 = .ok (.aload_n 0, 1) := by decide +kernel
theorem dX9_sheet_24 : decode cX9_sheet 24 = .ok (.getfield 56, 3) := by decide +kernel
theorem dX9_sheet_27 : decode cX9_sheet 27 = .ok (.iload_n 1, 1) := by decide +kernel
theorem dX9_sheet_28 : decode cX9_sheet 28 = .ok (.iload_n 2, 1) := by decide +kernel
theorem dX9_sheet_29 : decode cX9_sheet 29 = .ok (.iastore, 1) := by decide +kernel
theorem dX9_sheet_30 : decode cX9_sheet 30 = .ok (.aload_n 0, 1) := by decide +kernel
theorem dX9_sheet_31 : decode cX9_sheet 31 = .ok (.getfield 59, 3) := by decide +kernel
theorem dX9_sheet_34 : decode cX9_sheet 34 = .ok (.iload_n 1, 1) := by decide +kernel
theorem dX9_sheet_35 : decode cX9_sheet 35 = .ok (.iload_n 3, 1) := by decide +kernel
theorem dX9_sheet_36 : decode cX9_sheet 36 = .ok (.iastore, 1) := by decide +kernel
theorem dX9_sheet_37 : decode cX9_sheet 37 = .ok (.iconst 0, 1) := by decide +kernel
theorem dX9_sheet_38 : decode cX9_sheet 38 = .ok (.istore 4, 2) := by decide +kernel
theorem dX9_sheet_40 : decode cX9_sheet 40 = .ok (.iload 4, 2) := by decide +kernel
theorem dX9_sheet_42 : decode cX9_sheet 42 = .ok (.bipush 40, 2) := by decide +kernel
theorem dX9_sheet_44 : decode cX9_sheet 44 = .ok (.if_icmp .ge 22, 3) := by decide +kernel
theorem dX9_sheet_47 : decode cX9_sheet 47 = .ok (.aload_n 0, 1) := by decide +kernel
theorem dX9_sheet_48 : decode cX9_sheet 48 = .ok (.getfield 62, 3) := by decide +kernel
theorem dX9_sheet_51 : decode cX9_sheet 51 = .ok (.bipush 40, 2) := by decide +kernel
theorem dX9_sheet_53 : decode cX9_sheet 53 = .ok (.iload_n 1, 1) := by decide +kernel
theorem dX9_sheet_54 : decode cX9_sheet 54 = .ok (.imul, 1) := by decide +kernel
theorem dX9_sheet_55 : decode cX9_sheet 55 = .ok (.iload 4, 2) := by decide +kernel
theorem dX9_sheet_57 : decode cX9_sheet 57 = .ok (.iadd, 1) := by decide +kernel
theorem dX9_sheet_58 : decode cX9_sheet 58 = .ok (.iconst 0, 1) := by decide +kernel
theorem dX9_sheet_59 : decode cX9_sheet 59 = .ok (.iastore, 1) := by decide +kernel
theorem dX9_sheet_60 : decode cX9_sheet 60 = .ok (.iinc 4 1, 3) := by decide +kernel
theorem dX9_sheet_63 : decode cX9_sheet 63 = .ok (.goto (-23), 3) := by decide +kernel
theorem dX9_sheet_66 : decode cX9_sheet 66 = .ok (.iconst 1, 1) := by decide +kernel
theorem dX9_sheet_67 : decode cX9_sheet 67 = .ok (.ireturn, 1) := by decide +kernel
theorem dX9_lay_0 : decode cX9_lay 0 = .ok (.iload_n 1, 1) := by decide +kernel
theorem dX9_lay_1 : decode cX9_lay 1 = .ok (.iconst 0, 1) := by decide +kernel
theorem dX9_lay_2 : decode cX9_lay 2 = .ok (.invokestatic 329, 3) := by decide +kernel
theorem dX9_lay_5 : decode cX9_lay 5 = .ok (.ifCond .ne 5, 3) := by decide +kernel
theorem dX9_lay_8 : decode cX9_lay 8 = .ok (.iconst (-1), 1) := by decide +kernel
theorem dX9_lay_9 : decode cX9_lay 9 = .ok (.ireturn, 1) := by decide +kernel
theorem dX9_lay_10 : decode cX9_lay 10 = .ok (.aload_n 0, 1) := by decide +kernel
theorem dX9_lay_11 : decode cX9_lay 11 = .ok (.getfield 56, 3) := by decide +kernel
theorem dX9_lay_14 : decode cX9_lay 14 = .ok (.iload_n 1, 1) := by decide +kernel
theorem dX9_lay_15 : decode cX9_lay 15 = .ok (.iaload, 1) := by decide +kernel
theorem dX9_lay_16 : decode cX9_lay 16 = .ok (.bipush (-4), 2) := by decide +kernel
theorem dX9_lay_18 : decode cX9_lay 18 = .ok (.if_icmp .ne 6, 3) := by decide +kernel
theorem dX9_lay_21 : decode cX9_lay 21 = .ok (.bipush (-11), 2) := by decide +kernel
theorem dX9_lay_23 : decode cX9_lay 23 = .ok (.ireturn, 1) := by decide +kernel
theorem dX9_lay_24 : decode cX9_lay 24 = .ok (.iload_n 2, 1) := by decide +kernel
theorem dX9_lay_25 : decode cX9_lay 25 = .ok (.i2l, 1) := by decide +kernel
theorem dX9_lay_26 : decode cX9_lay 26 = .ok (.lconst 0, 1) := by decide +kernel
theorem dX9_lay_27 : decode cX9_lay 27 = .ok (.aload_n 0, 1) := by decide +kernel
theorem dX9_lay_28 : decode cX9_lay 28 = .ok (.getfield 59, 3) := by decide +kernel
theorem dX9_lay_31 : decode cX9_lay 31 = .ok (.iload_n 1, 1) := by decide +kernel
theorem dX9_lay_32 : decode cX9_lay 32 = .ok (.iaload, 1) := by decide +kernel
theorem dX9_lay_33 : decode cX9_lay 33 = .ok (.iconst 1, 1) := by decide +kernel
theorem dX9_lay_34 : decode cX9_lay 34 = .ok (.isub, 1) := by decide +kernel
theorem dX9_lay_35 : decode cX9_lay 35 = .ok (.i2l, 1) := by decide +kernel
theorem dX9_lay_36 : decode cX9_lay 36 = .ok (.invokestatic 93, 3) := by decide +kernel
theorem dX9_lay_39 : decode cX9_lay 39 = .ok (.ifCond .ne 6, 3) := by decide +kernel
theorem dX9_lay_42 : decode cX9_lay 42 = .ok (.bipush (-12), 2) := by decide +kernel
theorem dX9_lay_44 : decode cX9_lay 44 = .ok (.ireturn, 1) := by decide +kernel
theorem dX9_lay_45 : decode cX9_lay 45 = .ok (.aload_n 0, 1) := by decide +kernel
theorem dX9_lay_46 : decode cX9_lay 46 = .ok (.getfield 62, 3) := by decide +kernel
theorem dX9_lay_49 : decode cX9_lay 49 = .ok (.bipush 40, 2) := by decide +kernel
theorem dX9_lay_51 : decode cX9_lay 51 = .ok (.iload_n 1, 1) := by decide +kernel
theorem dX9_lay_52 : decode cX9_lay 52 = .ok (.imul, 1) := by decide +kernel
theorem dX9_lay_53 : decode cX9_lay 53 = .ok (.iload_n 2, 1) := by decide +kernel
theorem dX9_lay_54 : decode cX9_lay 54 = .ok (.iadd, 1) := by decide +kernel
theorem dX9_lay_55 : decode cX9_lay 55 = .ok (.aload_n 0, 1) := by decide +kernel
theorem dX9_lay_56 : decode cX9_lay 56 = .ok (.getfield 56, 3) := by decide +kernel
theorem dX9_lay_59 : decode cX9_lay 59 = .ok (.iload_n 1, 1) := by decide +kernel
theorem dX9_lay_60 : decode cX9_lay 60 = .ok (.iaload, 1) := by decide +kernel
theorem dX9_lay_61 : decode cX9_lay 61 = .ok (.ifCond .ne 8, 3) := by decide +kernel
theorem dX9_lay_64 : decode cX9_lay 64 = .ok (.iload_n 3, 1) := by decide +kernel
theorem dX9_lay_65 : decode cX9_lay 65 = .ok (.i2b, 1) := by decide +kernel
theorem dX9_lay_66 : decode cX9_lay 66 = .ok (.goto 19, 3) := by decide +kernel
theorem dX9_lay_69 : decode cX9_lay 69 = .ok (.aload_n 0, 1) := by decide +kernel
theorem dX9_lay_70 : decode cX9_lay 70 = .ok (.getfield 56, 3) := by decide +kernel
theorem dX9_lay_73 : decode cX9_lay 73 = .ok (.iload_n 1, 1) := by decide +kernel
theorem dX9_lay_74 : decode cX9_lay 74 = .ok (.iaload, 1) := by decide +kernel
theorem dX9_lay_75 : decode cX9_lay 75 = .ok (.iconst 1, 1) := by decide +kernel
theorem dX9_lay_76 : decode cX9_lay 76 = .ok (.if_icmp .ne 8, 3) := by decide +kernel
theorem dX9_lay_79 : decode cX9_lay 79 = .ok (.iload_n 3, 1) := by decide +kernel
theorem dX9_lay_80 : decode cX9_lay 80 = .ok (.i2s, 1) := by decide +kernel
theorem dX9_lay_81 : decode cX9_lay 81 = .ok (.goto 4, 3) := by decide +kernel
theorem dX9_lay_84 : decode cX9_lay 84 = .ok (.iload_n 3, 1) := by decide +kernel
theorem dX9_lay_85 : decode cX9_lay 85 = .ok (.iastore, 1) := by decide +kernel
theorem dX9_lay_86 : decode cX9_lay 86 = .ok (.iconst 1, 1) := by decide +kernel
theorem dX9_lay_87 : decode cX9_lay 87 = .ok (.ireturn, 1) := by decide +kernel
theorem dX9_read_0 : decode cX9_read 0 = .ok (.iload_n 1, 1) := by decide +kernel
theorem dX9_read_1 : decode cX9_read 1 = .ok (.iload_n 2, 1) := by decide +kernel
theorem dX9_read_2 : decode cX9_read 2 = .ok (.invokestatic 329, 3) := by decide +kernel
theorem dX9_read_5 : decode cX9_read 5 = .ok (.ifCond .eq 16, 3) := by decide +kernel
theorem dX9_read_8 : decode cX9_read 8 = .ok (.iload 4, 2) := by decide +kernel
theorem dX9_read_10 : decode cX9_read 10 = .ok (.i2l, 1) := by decide +kernel
theorem dX9_read_11 : decode cX9_read 11 = .ok (.lconst 0, 1) := by decide +kernel
theorem dX9_read_12 : decode cX9_read 12 = .ok (.ldc2_w 184, 3) := by decide +kernel
theorem dX9_read_15 : decode cX9_read 15 = .ok (.invokestatic 93, 3) := by decide +kernel
theorem dX9_read_18 : decode cX9_read 18 = .ok (.ifCond .ne 5, 3) := by decide +kernel
theorem dX9_read_21 : decode cX9_read 21 = .ok (.iconst (-1), 1) := by decide +kernel
theorem dX9_read_22 : decode cX9_read 22 = .ok (.ireturn, 1) := by decide +kernel
theorem dX9_read_23 : decode cX9_read 23 = .ok (.aload_n 0, 1) := by decide +kernel
theorem dX9_read_24 : decode cX9_read 24 = .ok (.getfield 7, 3) := by decide +kernel
theorem dX9_read_27 : decode cX9_read 27 = .ok (.bipush 41, 2) := by decide +kernel
theorem dX9_read_29 : decode cX9_read 29 = .ok (.iaload, 1) := by decide +kernel
theorem dX9_read_30 : decode cX9_read 30 = .ok (.istore 5, 2) := by decide +kernel
theorem dX9_read_32 : decode cX9_read 32 = .ok (.iconst 0, 1) := by decide +kernel
theorem dX9_read_33 : decode cX9_read 33 = .ok (.istore 6, 2) := by decide +kernel
theorem dX9_read_35 : decode cX9_read 35 = .ok (.iconst 0, 1) := by decide +kernel
theorem dX9_read_36 : decode cX9_read 36 = .ok (.istore 7, 2) := by decide +kernel
theorem dX9_read_38 : decode cX9_read 38 = .ok (.iconst 0, 1) := by decide +kernel
theorem dX9_read_39 : decode cX9_read 39 = .ok (.istore 8, 2) := by decide +kernel
theorem dX9_read_41 : decode cX9_read 41 = .ok (.iload 8, 2) := by decide +kernel
theorem dX9_read_43 : decode cX9_read 43 = .ok (.iload 4, 2) := by decide +kernel
theorem dX9_read_45 : decode cX9_read 45 = .ok (.if_icmp .ge 163, 3) := by decide +kernel
theorem dX9_read_48 : decode cX9_read 48 = .ok (.iload 6, 2) := by decide +kernel
theorem dX9_read_50 : decode cX9_read 50 = .ok (.ifCond .ne 158, 3) := by decide +kernel
theorem dX9_read_53 : decode cX9_read 53 = .ok (.iconst 0, 1) := by decide +kernel
theorem dX9_read_54 : decode cX9_read 54 = .ok (.istore 9, 2) := by decide +kernel
theorem dX9_read_56 : decode cX9_read 56 = .ok (.iload 9, 2) := by decide +kernel
theorem dX9_read_58 : decode cX9_read 58 = .ok (.iconst 2, 1) := by decide +kernel
theorem dX9_read_59 : decode cX9_read 59 = .ok (.if_icmp .ge 84, 3) := by decide +kernel
theorem dX9_read_62 : decode cX9_read 62 = .ok (.iload 6, 2) := by decide +kernel
theorem dX9_read_64 : decode cX9_read 64 = .ok (.ifCond .ne 79, 3) := by decide +kernel
theorem dX9_read_67 : decode cX9_read 67 = .ok (.iload_n 3, 1) := by decide +kernel
theorem dX9_read_68 : decode cX9_read 68 = .ok (.i2l, 1) := by decide +kernel
theorem dX9_read_69 : decode cX9_read 69 = .ok (.iconst 2, 1) := by decide +kernel
theorem dX9_read_70 : decode cX9_read 70 = .ok (.iload 8, 2) := by decide +kernel
theorem dX9_read_72 : decode cX9_read 72 = .ok (.imul, 1) := by decide +kernel
theorem dX9_read_73 : decode cX9_read 73 = .ok (.i2l, 1) := by decide +kernel
theorem dX9_read_74 : decode cX9_read 74 = .ok (.ladd, 1) := by decide +kernel
theorem dX9_read_75 : decode cX9_read 75 = .ok (.iload 9, 2) := by decide +kernel
theorem dX9_read_77 : decode cX9_read 77 = .ok (.i2l, 1) := by decide +kernel
theorem dX9_read_78 : decode cX9_read 78 = .ok (.ladd, 1) := by decide +kernel
theorem dX9_read_79 : decode cX9_read 79 = .ok (.lstore 10, 2) := by decide +kernel
theorem dX9_read_81 : decode cX9_read 81 = .ok (.aload_n 0, 1) := by decide +kernel
theorem dX9_read_82 : decode cX9_read 82 = .ok (.getfield 56, 3) := by decide +kernel
theorem dX9_read_85 : decode cX9_read 85 = .ok (.iload_n 1, 1) := by decide +kernel
theorem dX9_read_86 : decode cX9_read 86 = .ok (.iaload, 1) := by decide +kernel
theorem dX9_read_87 : decode cX9_read 87 = .ok (.bipush (-4), 2) := by decide +kernel
theorem dX9_read_89 : decode cX9_read 89 = .ok (.if_icmp .ne 7, 3) := by decide +kernel
theorem dX9_read_92 : decode cX9_read 92 = .ok (.iconst 1, 1) := by decide +kernel
theorem dX9_read_93 : decode cX9_read 93 = .ok (.goto 42, 3) := by decide +kernel
theorem dX9_read_96 : decode cX9_read 96 = .ok (.aload_n 0, 1) := by decide +kernel
theorem dX9_read_97 : decode cX9_read 97 = .ok (.getfield 56, 3) := by decide +kernel
theorem dX9_read_100 : decode cX9_read 100 = .ok (.iload_n 1, 1) := by decide +kernel
theorem dX9_read_101 : decode cX9_read 101 = .ok (.iaload, 1) := by decide +kernel
theorem dX9_read_102 : decode cX9_read 102 = .ok (.iload_n 2, 1) := by decide +kernel
theorem dX9_read_103 : decode cX9_read 103 = .ok (.if_icmp .eq 7, 3) := by decide +kernel
theorem dX9_read_106 : decode cX9_read 106 = .ok (.iconst 3, 1) := by decide +kernel
theorem dX9_read_107 : decode cX9_read 107 = .ok (.goto 28, 3) := by decide +kernel
theorem dX9_read_110 : decode cX9_read 110 = .ok (.lload 10, 2) := by decide +kernel
theorem dX9_read_112 : decode cX9_read 112 = .ok (.lconst 0, 1) := by decide +kernel
theorem dX9_read_113 : decode cX9_read 113 = .ok (.lcmp, 1) := by decide +kernel
theorem dX9_read_114 : decode cX9_read 114 = .ok (.ifCond .lt 16, 3) := by decide +kernel
theorem dX9_read_117 : decode cX9_read 117 = .ok (.lload 10, 2) := by decide +kernel
theorem dX9_read_119 : decode cX9_read 119 = .ok (.aload_n 0, 1) := by decide +kernel
theorem dX9_read_120 : decode cX9_read 120 = .ok (.getfield 59, 3) := by decide +kernel
theorem dX9_read_123 : decode cX9_read 123 = .ok (.iload_n 1, 1) := by decide +kernel
theorem dX9_read_124 : decode cX9_read 124 = .ok (.iaload, 1) := by decide +kernel
theorem dX9_read_125 : decode cX9_read 125 = .ok (.i2l, 1) := by decide +kernel
theorem dX9_read_126 : decode cX9_read 126 = .ok (.lcmp, 1) := by decide +kernel
theorem dX9_read_127 : decode cX9_read 127 = .ok (.ifCond .lt 7, 3) := by decide +kernel
theorem dX9_read_130 : decode cX9_read 130 = .ok (.iconst 2, 1) := by decide +kernel
theorem dX9_read_131 : decode cX9_read 131 = .ok (.goto 4, 3) := by decide +kernel
theorem dX9_read_134 : decode cX9_read 134 = .ok (.iconst 0, 1) := by decide +kernel
theorem dX9_read_135 : decode cX9_read 135 = .ok (.istore 6, 2) := by decide +kernel
theorem dX9_read_137 : decode cX9_read 137 = .ok (.iinc 9 1, 3) := by decide +kernel
theorem dX9_read_140 : decode cX9_read 140 = .ok (.goto (-84), 3) := by decide +kernel
theorem dX9_read_143 : decode cX9_read 143 = .ok (.iload 6, 2) := by decide +kernel
theorem dX9_read_145 : decode cX9_read 145 = .ok (.ifCond .ne 57, 3) := by decide +kernel
theorem dX9_read_148 : decode cX9_read 148 = .ok (.bipush 40, 2) := by decide +kernel
theorem dX9_read_150 : decode cX9_read 150 = .ok (.iload_n 1, 1) := by decide +kernel
theorem dX9_read_151 : decode cX9_read 151 = .ok (.imul, 1) := by decide +kernel
theorem dX9_read_152 : decode cX9_read 152 = .ok (.iload_n 3, 1) := by decide +kernel
theorem dX9_read_153 : decode cX9_read 153 = .ok (.iadd, 1) := by decide +kernel
theorem dX9_read_154 : decode cX9_read 154 = .ok (.iconst 2, 1) := by decide +kernel
theorem dX9_read_155 : decode cX9_read 155 = .ok (.iload 8, 2) := by decide +kernel
theorem dX9_read_157 : decode cX9_read 157 = .ok (.imul, 1) := by decide +kernel
theorem dX9_read_158 : decode cX9_read 158 = .ok (.iadd, 1) := by decide +kernel
theorem dX9_read_159 : decode cX9_read 159 = .ok (.istore 9, 2) := by decide +kernel
theorem dX9_read_161 : decode cX9_read 161 = .ok (.aload_n 0, 1) := by decide +kernel
theorem dX9_read_162 : decode cX9_read 162 = .ok (.aload_n 0, 1) := by decide +kernel
theorem dX9_read_163 : decode cX9_read 163 = .ok (.getfield 62, 3) := by decide +kernel
theorem dX9_read_166 : decode cX9_read 166 = .ok (.iload 9, 2) := by decide +kernel
theorem dX9_read_168 : decode cX9_read 168 = .ok (.iaload, 1) := by decide +kernel
theorem dX9_read_169 : decode cX9_read 169 = .ok (.aload_n 0, 1) := by decide +kernel
theorem dX9_read_170 : decode cX9_read 170 = .ok (.getfield 62, 3) := by decide +kernel
theorem dX9_read_173 : decode cX9_read 173 = .ok (.iload 9, 2) := by decide +kernel
theorem dX9_read_175 : decode cX9_read 175 = .ok (.iconst 1, 1) := by decide +kernel
theorem dX9_read_176 : decode cX9_read 176 = .ok (.iadd, 1) := by decide +kernel
theorem dX9_read_177 : decode cX9_read 177 = .ok (.iaload, 1) := by decide +kernel
theorem dX9_read_178 : decode cX9_read 178 = .ok (.invokevirtual 332, 3) := by decide +kernel
theorem dX9_read_181 : decode cX9_read 181 = .ok (.ifCond .ge 18, 3) := by decide +kernel
theorem dX9_read_184 : decode cX9_read 184 = .ok (.aload_n 0, 1) := by decide +kernel
theorem dX9_read_185 : decode cX9_read 185 = .ok (.getfield 7, 3) := by decide +kernel
theorem dX9_read_188 : decode cX9_read 188 = .ok (.bipush 41, 2) := by decide +kernel
theorem dX9_read_190 : decode cX9_read 190 = .ok (.iload 5, 2) := by decide +kernel
theorem dX9_read_192 : decode cX9_read 192 = .ok (.iastore, 1) := by decide +kernel
theorem dX9_read_193 : decode cX9_read 193 = .ok (.bipush (-20), 2) := by decide +kernel
theorem dX9_read_195 : decode cX9_read 195 = .ok (.iload 8, 2) := by decide +kernel
theorem dX9_read_197 : decode cX9_read 197 = .ok (.isub, 1) := by decide +kernel
theorem dX9_read_198 : decode cX9_read 198 = .ok (.ireturn, 1) := by decide +kernel
theorem dX9_read_199 : decode cX9_read 199 = .ok (.iinc 7 1, 3) := by decide +kernel
theorem dX9_read_202 : decode cX9_read 202 = .ok (.iinc 8 1, 3) := by decide +kernel
theorem dX9_read_205 : decode cX9_read 205 = .ok (.goto (-164), 3) := by decide +kernel
theorem dX9_read_208 : decode cX9_read 208 = .ok (.aload_n 0, 1) := by decide +kernel
theorem dX9_read_209 : decode cX9_read 209 = .ok (.iload 6, 2) := by decide +kernel
theorem dX9_read_211 : decode cX9_read 211 = .ok (.putfield 335, 3) := by decide +kernel
theorem dX9_read_214 : decode cX9_read 214 = .ok (.iload 7, 2) := by decide +kernel
theorem dX9_read_216 : decode cX9_read 216 = .ok (.ireturn, 1) := by decide +kernel
theorem dX9_torn_0 : decode cX9_torn 0 = .ok (.aload_n 0, 1) := by decide +kernel
theorem dX9_torn_1 : decode cX9_torn 1 = .ok (.getfield 335, 3) := by decide +kernel
theorem dX9_torn_4 : decode cX9_torn 4 = .ok (.ireturn, 1) := by decide +kernel
theorem dX9_count_0 : decode cX9_count 0 = .ok (.iconst 0, 1) := by decide +kernel
theorem dX9_count_1 : decode cX9_count 1 = .ok (.istore_n 2, 1) := by decide +kernel
theorem dX9_count_2 : decode cX9_count 2 = .ok (.iconst 0, 1) := by decide +kernel
theorem dX9_count_3 : decode cX9_count 3 = .ok (.istore_n 3, 1) := by decide +kernel
theorem dX9_count_4 : decode cX9_count 4 = .ok (.iload_n 3, 1) := by decide +kernel
theorem dX9_count_5 : decode cX9_count 5 = .ok (.aload_n 0, 1) := by decide +kernel
theorem dX9_count_6 : decode cX9_count 6 = .ok (.getfield 7, 3) := by decide +kernel
theorem dX9_count_9 : decode cX9_count 9 = .ok (.bipush 41, 2) := by decide +kernel
theorem dX9_count_11 : decode cX9_count 11 = .ok (.iaload, 1) := by decide +kernel
theorem dX9_count_12 : decode cX9_count 12 = .ok (.if_icmp .ge 20, 3) := by decide +kernel
theorem dX9_count_15 : decode cX9_count 15 = .ok (.iload_n 2, 1) := by decide +kernel
theorem dX9_count_16 : decode cX9_count 16 = .ok (.aload_n 0, 1) := by decide +kernel
theorem dX9_count_17 : decode cX9_count 17 = .ok (.iload_n 3, 1) := by decide +kernel
theorem dX9_count_18 : decode cX9_count 18 = .ok (.invokevirtual 254, 3) := by decide +kernel
theorem dX9_count_21 : decode cX9_count 21 = .ok (.invokestatic 219, 3) := by decide +kernel
theorem dX9_count_24 : decode cX9_count 24 = .ok (.iadd, 1) := by decide +kernel
theorem dX9_count_25 : decode cX9_count 25 = .ok (.istore_n 2, 1) := by decide +kernel
theorem dX9_count_26 : decode cX9_count 26 = .ok (.iinc 3 1, 3) := by decide +kernel
theorem dX9_count_29 : decode cX9_count 29 = .ok (.goto (-25), 3) := by decide +kernel
theorem dX9_count_32 : decode cX9_count 32 = .ok (.iload_n 1, 1) := by decide +kernel
theorem dX9_count_33 : decode cX9_count 33 = .ok (.tableswitch 125 0 7 #[47, 54, 62, 70, 72, 92, 97, 120], 47) := by decide +kernel
theorem dX9_count_80 : decode cX9_count 80 = .ok (.aload_n 0, 1) := by decide +kernel
theorem dX9_count_81 : decode cX9_count 81 = .ok (.getfield 7, 3) := by decide +kernel
theorem dX9_count_84 : decode cX9_count 84 = .ok (.iconst 0, 1) := by decide +kernel
theorem dX9_count_85 : decode cX9_count 85 = .ok (.iaload, 1) := by decide +kernel
theorem dX9_count_86 : decode cX9_count 86 = .ok (.ireturn, 1) := by decide +kernel
theorem dX9_count_87 : decode cX9_count 87 = .ok (.aload_n 0, 1) := by decide +kernel
theorem dX9_count_88 : decode cX9_count 88 = .ok (.getfield 7, 3) := by decide +kernel
theorem dX9_count_91 : decode cX9_count 91 = .ok (.bipush 41, 2) := by decide +kernel
theorem dX9_count_93 : decode cX9_count 93 = .ok (.iaload, 1) := by decide +kernel
theorem dX9_count_94 : decode cX9_count 94 = .ok (.ireturn, 1) := by decide +kernel
theorem dX9_count_95 : decode cX9_count 95 = .ok (.aload_n 0, 1) := by decide +kernel
theorem dX9_count_96 : decode cX9_count 96 = .ok (.getfield 7, 3) := by decide +kernel
theorem dX9_count_99 : decode cX9_count 99 = .ok (.bipush 112, 2) := by decide +kernel
theorem dX9_count_101 : decode cX9_count 101 = .ok (.iaload, 1) := by decide +kernel
theorem dX9_count_102 : decode cX9_count 102 = .ok (.ireturn, 1) := by decide +kernel
theorem dX9_count_103 : decode cX9_count 103 = .ok (.iload_n 2, 1) := by decide +kernel
theorem dX9_count_104 : decode cX9_count 104 = .ok (.ireturn, 1) := by decide +kernel
theorem dX9_count_105 : decode cX9_count 105 = .ok (.aload_n 0, 1) := by decide +kernel
theorem dX9_count_106 : decode cX9_count 106 = .ok (.getfield 13, 3) := by decide +kernel
theorem dX9_count_109 : decode cX9_count 109 = .ok (.iconst 0, 1) := by decide +kernel
theorem dX9_count_110 : decode cX9_count 110 = .ok (.baload, 1) := by decide +kernel
theorem dX9_count_111 : decode cX9_count 111 = .ok (.invokestatic 219, 3) := by decide +kernel
theorem dX9_count_114 : decode cX9_count 114 = .ok (.aload_n 0, 1) := by decide +kernel
theorem dX9_count_115 : decode cX9_count 115 = .ok (.getfield 13, 3) := by decide +kernel
theorem dX9_count_118 : decode cX9_count 118 = .ok (.iconst 1, 1) := by decide +kernel
theorem dX9_count_119 : decode cX9_count 119 = .ok (.baload, 1) := by decide +kernel
theorem dX9_count_120 : decode cX9_count 120 = .ok (.invokestatic 219, 3) := by decide +kernel
theorem dX9_count_123 : decode cX9_count 123 = .ok (.iadd, 1) := by decide +kernel
theorem dX9_count_124 : decode cX9_count 124 = .ok (.ireturn, 1) := by decide +kernel
theorem dX9_count_125 : decode cX9_count 125 = .ok (.aload_n 0, 1) := by decide +kernel
theorem dX9_count_126 : decode cX9_count 126 = .ok (.getfield 88, 3) := by decide +kernel
theorem dX9_count_129 : decode cX9_count 129 = .ok (.ireturn, 1) := by decide +kernel
theorem dX9_count_130 : decode cX9_count 130 = .ok (.aload_n 0, 1) := by decide +kernel
theorem dX9_count_131 : decode cX9_count 131 = .ok (.getfield 56, 3) := by decide +kernel
theorem dX9_count_134 : decode cX9_count 134 = .ok (.iconst 0, 1) := by decide +kernel
theorem dX9_count_135 : decode cX9_count 135 = .ok (.iaload, 1) := by decide +kernel
theorem dX9_count_136 : decode cX9_count 136 = .ok (.bipush (-4), 2) := by decide +kernel
theorem dX9_count_138 : decode cX9_count 138 = .ok (.if_icmp .ne 8, 3) := by decide +kernel
theorem dX9_count_141 : decode cX9_count 141 = .ok (.bipush (-4), 2) := by decide +kernel
theorem dX9_count_143 : decode cX9_count 143 = .ok (.goto 9, 3) := by decide +kernel
theorem dX9_count_146 : decode cX9_count 146 = .ok (.aload_n 0, 1) := by decide +kernel
theorem dX9_count_147 : decode cX9_count 147 = .ok (.getfield 59, 3) := by decide +kernel
theorem dX9_count_150 : decode cX9_count 150 = .ok (.iconst 0, 1) := by decide +kernel
theorem dX9_count_151 : decode cX9_count 151 = .ok (.iaload, 1) := by decide +kernel
theorem dX9_count_152 : decode cX9_count 152 = .ok (.ireturn, 1) := by decide +kernel
theorem dX9_count_153 : decode cX9_count 153 = .ok (.aload_n 0, 1) := by decide +kernel
theorem dX9_count_154 : decode cX9_count 154 = .ok (.getfield 85, 3) := by decide +kernel
theorem dX9_count_157 : decode cX9_count 157 = .ok (.ireturn, 1) := by decide +kernel
theorem dX9_count_158 : decode cX9_count 158 = .ok (.iconst (-1), 1) := by decide +kernel
theorem dX9_count_159 : decode cX9_count 159 = .ok (.ireturn, 1) := by decide +kernel
theorem dJ6_bitCount_0f7a4_0 : decode cJ6_bitCount_0f7a4 0 = .ok (.iload_n 0, 1) := by decide +kernel
theorem dJ6_bitCount_0f7a4_1 : decode cJ6_bitCount_0f7a4 1 = .ok (.iload_n 0, 1) := by decide +kernel
theorem dJ6_bitCount_0f7a4_2 : decode cJ6_bitCount_0f7a4 2 = .ok (.iconst 1, 1) := by decide +kernel
theorem dJ6_bitCount_0f7a4_3 : decode cJ6_bitCount_0f7a4 3 = .ok (.iushr, 1) := by decide +kernel
theorem dJ6_bitCount_0f7a4_4 : decode cJ6_bitCount_0f7a4 4 = .ok (.ldc_w 265, 3) := by decide +kernel
theorem dJ6_bitCount_0f7a4_7 : decode cJ6_bitCount_0f7a4 7 = .ok (.iand, 1) := by decide +kernel
theorem dJ6_bitCount_0f7a4_8 : decode cJ6_bitCount_0f7a4 8 = .ok (.isub, 1) := by decide +kernel
theorem dJ6_bitCount_0f7a4_9 : decode cJ6_bitCount_0f7a4 9 = .ok (.istore_n 0, 1) := by decide +kernel
theorem dJ6_bitCount_0f7a4_10 : decode cJ6_bitCount_0f7a4 10 = .ok (.iload_n 0, 1) := by decide +kernel
theorem dJ6_bitCount_0f7a4_11 : decode cJ6_bitCount_0f7a4 11 = .ok (.ldc_w 266, 3) := by decide +kernel
theorem dJ6_bitCount_0f7a4_14 : decode cJ6_bitCount_0f7a4 14 = .ok (.iand, 1) := by decide +kernel
theorem dJ6_bitCount_0f7a4_15 : decode cJ6_bitCount_0f7a4 15 = .ok (.iload_n 0, 1) := by decide +kernel
theorem dJ6_bitCount_0f7a4_16 : decode cJ6_bitCount_0f7a4 16 = .ok (.iconst 2, 1) := by decide +kernel
theorem dJ6_bitCount_0f7a4_17 : decode cJ6_bitCount_0f7a4 17 = .ok (.iushr, 1) := by decide +kernel
theorem dJ6_bitCount_0f7a4_18 : decode cJ6_bitCount_0f7a4 18 = .ok (.ldc_w 266, 3) := by decide +kernel
theorem dJ6_bitCount_0f7a4_21 : decode cJ6_bitCount_0f7a4 21 = .ok (.iand, 1) := by decide +kernel
theorem dJ6_bitCount_0f7a4_22 : decode cJ6_bitCount_0f7a4 22 = .ok (.iadd, 1) := by decide +kernel
theorem dJ6_bitCount_0f7a4_23 : decode cJ6_bitCount_0f7a4 23 = .ok (.istore_n 0, 1) := by decide +kernel
theorem dJ6_bitCount_0f7a4_24 : decode cJ6_bitCount_0f7a4 24 = .ok (.iload_n 0, 1) := by decide +kernel
theorem dJ6_bitCount_0f7a4_25 : decode cJ6_bitCount_0f7a4 25 = .ok (.iload_n 0, 1) := by decide +kernel
theorem dJ6_bitCount_0f7a4_26 : decode cJ6_bitCount_0f7a4 26 = .ok (.iconst 4, 1) := by decide +kernel
theorem dJ6_bitCount_0f7a4_27 : decode cJ6_bitCount_0f7a4 27 = .ok (.iushr, 1) := by decide +kernel
theorem dJ6_bitCount_0f7a4_28 : decode cJ6_bitCount_0f7a4 28 = .ok (.iadd, 1) := by decide +kernel
theorem dJ6_bitCount_0f7a4_29 : decode cJ6_bitCount_0f7a4 29 = .ok (.ldc_w 267, 3) := by decide +kernel
theorem dJ6_bitCount_0f7a4_32 : decode cJ6_bitCount_0f7a4 32 = .ok (.iand, 1) := by decide +kernel
theorem dJ6_bitCount_0f7a4_33 : decode cJ6_bitCount_0f7a4 33 = .ok (.istore_n 0, 1) := by decide +kernel
theorem dJ6_bitCount_0f7a4_34 : decode cJ6_bitCount_0f7a4 34 = .ok (.iload_n 0, 1) := by decide +kernel
theorem dJ6_bitCount_0f7a4_35 : decode cJ6_bitCount_0f7a4 35 = .ok (.iload_n 0, 1) := by decide +kernel
theorem dJ6_bitCount_0f7a4_36 : decode cJ6_bitCount_0f7a4 36 = .ok (.bipush 8, 2) := by decide +kernel
theorem dJ6_bitCount_0f7a4_38 : decode cJ6_bitCount_0f7a4 38 = .ok (.iushr, 1) := by decide +kernel
theorem dJ6_bitCount_0f7a4_39 : decode cJ6_bitCount_0f7a4 39 = .ok (.iadd, 1) := by decide +kernel
theorem dJ6_bitCount_0f7a4_40 : decode cJ6_bitCount_0f7a4 40 = .ok (.istore_n 0, 1) := by decide +kernel
theorem dJ6_bitCount_0f7a4_41 : decode cJ6_bitCount_0f7a4 41 = .ok (.iload_n 0, 1) := by decide +kernel
theorem dJ6_bitCount_0f7a4_42 : decode cJ6_bitCount_0f7a4 42 = .ok (.iload_n 0, 1) := by decide +kernel
theorem dJ6_bitCount_0f7a4_43 : decode cJ6_bitCount_0f7a4 43 = .ok (.bipush 16, 2) := by decide +kernel
theorem dJ6_bitCount_0f7a4_45 : decode cJ6_bitCount_0f7a4 45 = .ok (.iushr, 1) := by decide +kernel
theorem dJ6_bitCount_0f7a4_46 : decode cJ6_bitCount_0f7a4 46 = .ok (.iadd, 1) := by decide +kernel
theorem dJ6_bitCount_0f7a4_47 : decode cJ6_bitCount_0f7a4 47 = .ok (.istore_n 0, 1) := by decide +kernel
theorem dJ6_bitCount_0f7a4_48 : decode cJ6_bitCount_0f7a4 48 = .ok (.iload_n 0, 1) := by decide +kernel
theorem dJ6_bitCount_0f7a4_49 : decode cJ6_bitCount_0f7a4 49 = .ok (.bipush 63, 2) := by decide +kernel
theorem dJ6_bitCount_0f7a4_51 : decode cJ6_bitCount_0f7a4 51 = .ok (.iand, 1) := by decide +kernel
theorem dJ6_bitCount_0f7a4_52 : decode cJ6_bitCount_0f7a4 52 = .ok (.ireturn, 1) := by decide +kernel
theorem dJ9_max_7cf53_0 : decode cJ9_max_7cf53 0 = .ok (.iload_n 0, 1) := by decide +kernel
theorem dJ9_max_7cf53_1 : decode cJ9_max_7cf53 1 = .ok (.iload_n 1, 1) := by decide +kernel
theorem dJ9_max_7cf53_2 : decode cJ9_max_7cf53 2 = .ok (.if_icmp .lt 7, 3) := by decide +kernel
theorem dJ9_max_7cf53_5 : decode cJ9_max_7cf53 5 = .ok (.iload_n 0, 1) := by decide +kernel
theorem dJ9_max_7cf53_6 : decode cJ9_max_7cf53 6 = .ok (.goto 4, 3) := by decide +kernel
theorem dJ9_max_7cf53_9 : decode cJ9_max_7cf53 9 = .ok (.iload_n 1, 1) := by decide +kernel
theorem dJ9_max_7cf53_10 : decode cJ9_max_7cf53 10 = .ok (.ireturn, 1) := by decide +kernel
theorem dJ9_min_7cf53_0 : decode cJ9_min_7cf53 0 = .ok (.iload_n 0, 1) := by decide +kernel
theorem dJ9_min_7cf53_1 : decode cJ9_min_7cf53 1 = .ok (.iload_n 1, 1) := by decide +kernel
theorem dJ9_min_7cf53_2 : decode cJ9_min_7cf53 2 = .ok (.if_icmp .gt 7, 3) := by decide +kernel
theorem dJ9_min_7cf53_5 : decode cJ9_min_7cf53 5 = .ok (.iload_n 0, 1) := by decide +kernel
theorem dJ9_min_7cf53_6 : decode cJ9_min_7cf53 6 = .ok (.goto 4, 3) := by decide +kernel
theorem dJ9_min_7cf53_9 : decode cJ9_min_7cf53 9 = .ok (.iload_n 1, 1) := by decide +kernel
theorem dJ9_min_7cf53_10 : decode cJ9_min_7cf53 10 = .ok (.ireturn, 1) := by decide +kernel
theorem dJ0_length_8abf5_0 : decode cJ0_length_8abf5 0 = .ok (.aload_n 0, 1) := by decide +kernel
theorem dJ0_length_8abf5_1 : decode cJ0_length_8abf5 1 = .ok (.getfield 9, 3) := by decide +kernel
theorem dJ0_length_8abf5_4 : decode cJ0_length_8abf5 4 = .ok (.arraylength, 1) := by decide +kernel
theorem dJ0_length_8abf5_5 : decode cJ0_length_8abf5 5 = .ok (.aload_n 0, 1) := by decide +kernel
theorem dJ0_length_8abf5_6 : decode cJ0_length_8abf5 6 = .ok (.invokevirtual 335, 3) := by decide +kernel
theorem dJ0_length_8abf5_9 : decode cJ0_length_8abf5 9 = .ok (.ishr, 1) := by decide +kernel
theorem dJ0_length_8abf5_10 : decode cJ0_length_8abf5 10 = .ok (.ireturn, 1) := by decide +kernel
theorem dJ0_charAt_5068e_0 : decode cJ0_charAt_5068e 0 = .ok (.aload_n 0, 1) := by decide +kernel
theorem dJ0_charAt_5068e_1 : decode cJ0_charAt_5068e 1 = .ok (.invokevirtual 492, 3) := by decide +kernel
theorem dJ0_charAt_5068e_4 : decode cJ0_charAt_5068e 4 = .ok (.ifCond .eq 12, 3) := by decide +kernel
theorem dJ0_charAt_5068e_7 : decode cJ0_charAt_5068e 7 = .ok (.aload_n 0, 1) := by decide +kernel
theorem dJ0_charAt_5068e_8 : decode cJ0_charAt_5068e 8 = .ok (.getfield 9, 3) := by decide +kernel
theorem dJ0_charAt_5068e_11 : decode cJ0_charAt_5068e 11 = .ok (.iload_n 1, 1) := by decide +kernel
theorem dJ0_charAt_5068e_12 : decode cJ0_charAt_5068e 12 = .ok (.invokestatic 495, 3) := by decide +kernel
theorem dJ0_charAt_5068e_15 : decode cJ0_charAt_5068e 15 = .ok (.ireturn, 1) := by decide +kernel
theorem dJ0_charAt_5068e_16 : decode cJ0_charAt_5068e 16 = .ok (.aload_n 0, 1) := by decide +kernel
theorem dJ0_charAt_5068e_17 : decode cJ0_charAt_5068e 17 = .ok (.getfield 9, 3) := by decide +kernel
theorem dJ0_charAt_5068e_20 : decode cJ0_charAt_5068e 20 = .ok (.iload_n 1, 1) := by decide +kernel
theorem dJ0_charAt_5068e_21 : decode cJ0_charAt_5068e 21 = .ok (.invokestatic 498, 3) := by decide +kernel
theorem dJ0_charAt_5068e_24 : decode cJ0_charAt_5068e 24 = .ok (.ireturn, 1) := by decide +kernel
theorem dJ0_coder_7d493_0 : decode cJ0_coder_7d493 0 = .ok (.getstatic 38, 3) := by decide +kernel
theorem dJ0_coder_7d493_3 : decode cJ0_coder_7d493 3 = .ok (.ifCond .eq 10, 3) := by decide +kernel
theorem dJ0_coder_7d493_6 : decode cJ0_coder_7d493 6 = .ok (.aload_n 0, 1) := by decide +kernel
theorem dJ0_coder_7d493_7 : decode cJ0_coder_7d493 7 = .ok (.getfield 15, 3) := by decide +kernel
theorem dJ0_coder_7d493_10 : decode cJ0_coder_7d493 10 = .ok (.goto 4, 3) := by decide +kernel
theorem dJ0_coder_7d493_13 : decode cJ0_coder_7d493 13 = .ok (.iconst 1, 1) := by decide +kernel
theorem dJ0_coder_7d493_14 : decode cJ0_coder_7d493 14 = .ok (.ireturn, 1) := by decide +kernel
theorem dJ0_isLatin1_aae02_0 : decode cJ0_isLatin1_aae02 0 = .ok (.getstatic 38, 3) := by decide +kernel
theorem dJ0_isLatin1_aae02_3 : decode cJ0_isLatin1_aae02 3 = .ok (.ifCond .eq 14, 3) := by decide +kernel
theorem dJ0_isLatin1_aae02_6 : decode cJ0_isLatin1_aae02 6 = .ok (.aload_n 0, 1) := by decide +kernel
theorem dJ0_isLatin1_aae02_7 : decode cJ0_isLatin1_aae02 7 = .ok (.getfield 15, 3) := by decide +kernel
theorem dJ0_isLatin1_aae02_10 : decode cJ0_isLatin1_aae02 10 = .ok (.ifCond .ne 7, 3) := by decide +kernel
theorem dJ0_isLatin1_aae02_13 : decode cJ0_isLatin1_aae02 13 = .ok (.iconst 1, 1) := by decide +kernel
theorem dJ0_isLatin1_aae02_14 : decode cJ0_isLatin1_aae02 14 = .ok (.goto 4, 3) := by decide +kernel
theorem dJ0_isLatin1_aae02_17 : decode cJ0_isLatin1_aae02 17 = .ok (.iconst 0, 1) := by decide +kernel
theorem dJ0_isLatin1_aae02_18 : decode cJ0_isLatin1_aae02 18 = .ok (.ireturn, 1) := by decide +kernel
theorem dJ0_checkIndex_df160_0 : decode cJ0_checkIndex_df160 0 = .ok (.iload_n 0, 1) := by decide +kernel
theorem dJ0_checkIndex_df160_1 : decode cJ0_checkIndex_df160 1 = .ok (.iload_n 1, 1) := by decide +kernel
theorem dJ0_checkIndex_df160_2 : decode cJ0_checkIndex_df160 2 = .ok (.getstatic 1053, 3) := by decide +kernel
theorem dJ0_checkIndex_df160_5 : decode cJ0_checkIndex_df160 5 = .ok (.invokestatic 1059, 3) := by decide +kernel
theorem dJ0_checkIndex_df160_8 : decode cJ0_checkIndex_df160 8 = .ok (.pop, 1) := by decide +kernel
theorem dJ0_checkIndex_df160_9 : decode cJ0_checkIndex_df160 9 = .ok (.return_, 1) := by decide +kernel
theorem dJ1_charAt_3b067_0 : decode cJ1_charAt_3b067 0 = .ok (.iload_n 1, 1) := by decide +kernel
theorem dJ1_charAt_3b067_1 : decode cJ1_charAt_3b067 1 = .ok (.aload_n 0, 1) := by decide +kernel
theorem dJ1_charAt_3b067_2 : decode cJ1_charAt_3b067 2 = .ok (.arraylength, 1) := by decide +kernel
theorem dJ1_charAt_3b067_3 : decode cJ1_charAt_3b067 3 = .ok (.invokestatic 9, 3) := by decide +kernel
theorem dJ1_charAt_3b067_6 : decode cJ1_charAt_3b067 6 = .ok (.aload_n 0, 1) := by decide +kernel
theorem dJ1_charAt_3b067_7 : decode cJ1_charAt_3b067 7 = .ok (.iload_n 1, 1) := by decide +kernel
theorem dJ1_charAt_3b067_8 : decode cJ1_charAt_3b067 8 = .ok (.baload, 1) := by decide +kernel
theorem dJ1_charAt_3b067_9 : decode cJ1_charAt_3b067 9 = .ok (.sipush 255, 3) := by decide +kernel
theorem dJ1_charAt_3b067_12 : decode cJ1_charAt_3b067 12 = .ok (.iand, 1) := by decide +kernel
theorem dJ1_charAt_3b067_13 : decode cJ1_charAt_3b067 13 = .ok (.i2c, 1) := by decide +kernel
theorem dJ1_charAt_3b067_14 : decode cJ1_charAt_3b067 14 = .ok (.ireturn, 1) := by decide +kernel
theorem dJ2_getChar_3b067_0 : decode cJ2_getChar_3b067 0 = .ok (.getstatic 44, 3) := by decide +kernel
theorem dJ2_getChar_3b067_3 : decode cJ2_getChar_3b067 3 = .ok (.ifCond .ne 25, 3) := by decide +kernel
theorem dJ2_getChar_3b067_6 : decode cJ2_getChar_3b067 6 = .ok (.iload_n 1, 1) := by decide +kernel
theorem dJ2_getChar_3b067_7 : decode cJ2_getChar_3b067 7 = .ok (.ifCond .lt 11, 3) := by decide +kernel
theorem dJ2_getChar_3b067_10 : decode cJ2_getChar_3b067 10 = .ok (.iload_n 1, 1) := by decide +kernel
theorem dJ2_getChar_3b067_11 : decode cJ2_getChar_3b067 11 = .ok (.aload_n 0, 1) := by decide +kernel
theorem dJ2_getChar_3b067_12 : decode cJ2_getChar_3b067 12 = .ok (.invokestatic 48, 3) := by decide +kernel
theorem dJ2_getChar_3b067_15 : decode cJ2_getChar_3b067 15 = .ok (.if_icmp .lt 13, 3) := by decide +kernel
theorem dJ2_getChar_3b067_18 : decode cJ2_getChar_3b067 18 = .ok (.new 52, 3) := by decide +kernel
theorem dJ2_getChar_3b067_21 : decode cJ2_getChar_3b067 21 = .ok (.dup, 1) := by decide +kernel
theorem dJ2_getChar_3b067_22 : decode cJ2_getChar_3b067 22 = .ok (.ldc 54, 2) := by decide +kernel
theorem dJ2_getChar_3b067_24 : decode cJ2_getChar_3b067 24 = .ok (.invokespecial 56, 3) := by decide +kernel
theorem dJ2_getChar_3b067_27 : decode cJ2_getChar_3b067 27 = .ok (.athrow, 1) := by decide +kernel
theorem dJ2_getChar_3b067_28 : decode cJ2_getChar_3b067 28 = .ok (.iload_n 1, 1) := by decide +kernel
theorem dJ2_getChar_3b067_29 : decode cJ2_getChar_3b067 29 = .ok (.iconst 1, 1) := by decide +kernel
theorem dJ2_getChar_3b067_30 : decode cJ2_getChar_3b067 30 = .ok (.ishl, 1) := by decide +kernel
theorem dJ2_getChar_3b067_31 : decode cJ2_getChar_3b067 31 = .ok (.istore_n 1, 1) := by decide +kernel
theorem dJ2_getChar_3b067_32 : decode cJ2_getChar_3b067 32 = .ok (.aload_n 0, 1) := by decide +kernel
theorem dJ2_getChar_3b067_33 : decode cJ2_getChar_3b067 33 = .ok (.iload_n 1, 1) := by decide +kernel
theorem dJ2_getChar_3b067_34 : decode cJ2_getChar_3b067 34 = .ok (.iinc 1 1, 3) := by decide +kernel
theorem dJ2_getChar_3b067_37 : decode cJ2_getChar_3b067 37 = .ok (.baload, 1) := by decide +kernel
theorem dJ2_getChar_3b067_38 : decode cJ2_getChar_3b067 38 = .ok (.sipush 255, 3) := by decide +kernel
theorem dJ2_getChar_3b067_41 : decode cJ2_getChar_3b067 41 = .ok (.iand, 1) := by decide +kernel
theorem dJ2_getChar_3b067_42 : decode cJ2_getChar_3b067 42 = .ok (.getstatic 59, 3) := by decide +kernel
theorem dJ2_getChar_3b067_45 : decode cJ2_getChar_3b067 45 = .ok (.ishl, 1) := by decide +kernel
theorem dJ2_getChar_3b067_46 : decode cJ2_getChar_3b067 46 = .ok (.aload_n 0, 1) := by decide +kernel
theorem dJ2_getChar_3b067_47 : decode cJ2_getChar_3b067 47 = .ok (.iload_n 1, 1) := by decide +kernel
theorem dJ2_getChar_3b067_48 : decode cJ2_getChar_3b067 48 = .ok (.baload, 1) := by decide +kernel
theorem dJ2_getChar_3b067_49 : decode cJ2_getChar_3b067 49 = .ok (.sipush 255, 3) := by decide +kernel
theorem dJ2_getChar_3b067_52 : decode cJ2_getChar_3b067 52 = .ok (.iand, 1) := by decide +kernel
theorem dJ2_getChar_3b067_53 : decode cJ2_getChar_3b067 53 = .ok (.getstatic 63, 3) := by decide +kernel
theorem dJ2_getChar_3b067_56 : decode cJ2_getChar_3b067 56 = .ok (.ishl, 1) := by decide +kernel
theorem dJ2_getChar_3b067_57 : decode cJ2_getChar_3b067 57 = .ok (.ior, 1) := by decide +kernel
end
section
theorem dJ2_getChar_3b067_58 : decode cJ2_getChar_3b067 58 = .ok (.i2c, 1) := by decide +kernel
theorem dJ2_getChar_3b067_59 : decode cJ2_getChar_3b067 59 = .ok (.ireturn, 1) := by decide +kernel
theorem dJ2_length_9d52b_0 : decode cJ2_length_9d52b 0 = .ok (.aload_n 0, 1) := by decide +kernel
theorem dJ2_length_9d52b_1 : decode cJ2_length_9d52b 1 = .ok (.arraylength, 1) := by decide +kernel
theorem dJ2_length_9d52b_2 : decode cJ2_length_9d52b 2 = .ok (.iconst 1, 1) := by decide +kernel
theorem dJ2_length_9d52b_3 : decode cJ2_length_9d52b 3 = .ok (.ishr, 1) := by decide +kernel
theorem dJ2_length_9d52b_4 : decode cJ2_length_9d52b 4 = .ok (.ireturn, 1) := by decide +kernel
theorem dJ2_charAt_3b067_0 : decode cJ2_charAt_3b067 0 = .ok (.iload_n 1, 1) := by decide +kernel
theorem dJ2_charAt_3b067_1 : decode cJ2_charAt_3b067 1 = .ok (.aload_n 0, 1) := by decide +kernel
theorem dJ2_charAt_3b067_2 : decode cJ2_charAt_3b067 2 = .ok (.invokestatic 67, 3) := by decide +kernel
theorem dJ2_charAt_3b067_5 : decode cJ2_charAt_3b067 5 = .ok (.aload_n 0, 1) := by decide +kernel
theorem dJ2_charAt_3b067_6 : decode cJ2_charAt_3b067 6 = .ok (.iload_n 1, 1) := by decide +kernel
theorem dJ2_charAt_3b067_7 : decode cJ2_charAt_3b067 7 = .ok (.invokestatic 71, 3) := by decide +kernel
theorem dJ2_charAt_3b067_10 : decode cJ2_charAt_3b067 10 = .ok (.ireturn, 1) := by decide +kernel
theorem dJ2_checkIndex_2214a_0 : decode cJ2_checkIndex_2214a 0 = .ok (.iload_n 0, 1) := by decide +kernel
theorem dJ2_checkIndex_2214a_1 : decode cJ2_checkIndex_2214a 1 = .ok (.aload_n 1, 1) := by decide +kernel
theorem dJ2_checkIndex_2214a_2 : decode cJ2_checkIndex_2214a 2 = .ok (.invokestatic 48, 3) := by decide +kernel
theorem dJ2_checkIndex_2214a_5 : decode cJ2_checkIndex_2214a 5 = .ok (.invokestatic 414, 3) := by decide +kernel
theorem dJ2_checkIndex_2214a_8 : decode cJ2_checkIndex_2214a 8 = .ok (.return_, 1) := by decide +kernel
theorem dJ7_fill_53178_0 : decode cJ7_fill_53178 0 = .ok (.iconst 0, 1) := by decide +kernel
theorem dJ7_fill_53178_1 : decode cJ7_fill_53178 1 = .ok (.istore_n 2, 1) := by decide +kernel
theorem dJ7_fill_53178_2 : decode cJ7_fill_53178 2 = .ok (.aload_n 0, 1) := by decide +kernel
theorem dJ7_fill_53178_3 : decode cJ7_fill_53178 3 = .ok (.arraylength, 1) := by decide +kernel
theorem dJ7_fill_53178_4 : decode cJ7_fill_53178 4 = .ok (.istore_n 3, 1) := by decide +kernel
theorem dJ7_fill_53178_5 : decode cJ7_fill_53178 5 = .ok (.iload_n 2, 1) := by decide +kernel
theorem dJ7_fill_53178_6 : decode cJ7_fill_53178 6 = .ok (.iload_n 3, 1) := by decide +kernel
theorem dJ7_fill_53178_7 : decode cJ7_fill_53178 7 = .ok (.if_icmp .ge 13, 3) := by decide +kernel
theorem dJ7_fill_53178_10 : decode cJ7_fill_53178 10 = .ok (.aload_n 0, 1) := by decide +kernel
theorem dJ7_fill_53178_11 : decode cJ7_fill_53178 11 = .ok (.iload_n 2, 1) := by decide +kernel
theorem dJ7_fill_53178_12 : decode cJ7_fill_53178 12 = .ok (.iload_n 1, 1) := by decide +kernel
theorem dJ7_fill_53178_13 : decode cJ7_fill_53178 13 = .ok (.iastore, 1) := by decide +kernel
theorem dJ7_fill_53178_14 : decode cJ7_fill_53178 14 = .ok (.iinc 2 1, 3) := by decide +kernel
theorem dJ7_fill_53178_17 : decode cJ7_fill_53178 17 = .ok (.goto (-12), 3) := by decide +kernel
theorem dJ7_fill_53178_20 : decode cJ7_fill_53178 20 = .ok (.return_, 1) := by decide +kernel
theorem dJ3_checkIndex_8e157_0 : decode cJ3_checkIndex_8e157 0 = .ok (.iload_n 0, 1) := by decide +kernel
theorem dJ3_checkIndex_8e157_1 : decode cJ3_checkIndex_8e157 1 = .ok (.ifCond .lt 8, 3) := by decide +kernel
theorem dJ3_checkIndex_8e157_4 : decode cJ3_checkIndex_8e157 4 = .ok (.iload_n 0, 1) := by decide +kernel
theorem dJ3_checkIndex_8e157_5 : decode cJ3_checkIndex_8e157 5 = .ok (.iload_n 1, 1) := by decide +kernel
theorem dJ3_checkIndex_8e157_6 : decode cJ3_checkIndex_8e157 6 = .ok (.if_icmp .lt 10, 3) := by decide +kernel
theorem dJ3_checkIndex_8e157_9 : decode cJ3_checkIndex_8e157 9 = .ok (.aload_n 2, 1) := by decide +kernel
theorem dJ3_checkIndex_8e157_10 : decode cJ3_checkIndex_8e157 10 = .ok (.iload_n 0, 1) := by decide +kernel
theorem dJ3_checkIndex_8e157_11 : decode cJ3_checkIndex_8e157 11 = .ok (.iload_n 1, 1) := by decide +kernel
theorem dJ3_checkIndex_8e157_12 : decode cJ3_checkIndex_8e157 12 = .ok (.invokestatic 95, 3) := by decide +kernel
theorem dJ3_checkIndex_8e157_15 : decode cJ3_checkIndex_8e157 15 = .ok (.athrow, 1) := by decide +kernel
theorem dJ3_checkIndex_8e157_16 : decode cJ3_checkIndex_8e157 16 = .ok (.iload_n 0, 1) := by decide +kernel
theorem dJ3_checkIndex_8e157_17 : decode cJ3_checkIndex_8e157 17 = .ok (.ireturn, 1) := by decide +kernel
end
section
-- numbers: the machine's ints as whole numbers
abbrev in32 (x : Int) : Prop := -2147483648 ≤ x ∧ x ≤ 2147483647
abbrev in64 (x : Int) : Prop := -9223372036854775808 ≤ x ∧ x ≤ 9223372036854775807
def w32 (x : Int) : Int := (Int32.ofInt x).toInt
def w64 (x : Int) : Int := (Int64.ofInt x).toInt
theorem toInt_in (a : Int32) : in32 a.toInt := by
  have h1 := a.le_toInt
  have h2 := a.toInt_lt
  unfold in32
  omega
theorem toInt_in64 (a : Int64) : in64 a.toInt := by
  have h1 := a.le_toInt
  have h2 := a.toInt_lt
  unfold in64
  omega
theorem w32_in (x : Int) : in32 (w32 x) := toInt_in _
theorem w64_in (x : Int) : in64 (w64 x) := toInt_in64 _
theorem o32 {x : Int} (h : in32 x) : (Int32.ofInt x).toInt = x := by
  unfold in32 at h
  exact Int32.toInt_ofInt_of_le (by omega) (by omega)
theorem o64 {x : Int} (h : in64 x) : (Int64.ofInt x).toInt = x := by
  unfold in64 at h
  exact Int64.toInt_ofInt_of_le (by omega) (by omega)
theorem w32_id {x : Int} (h : in32 x) : w32 x = x := o32 h
theorem w64_id {x : Int} (h : in64 x) : w64 x = x := o64 h
theorem of_w32 (x : Int) : Int32.ofInt (w32 x) = Int32.ofInt x := Int32.ofInt_toInt _
theorem of_w64 (x : Int) : Int64.ofInt (w64 x) = Int64.ofInt x := Int64.ofInt_toInt _
theorem lt32 {x y : Int} (hx : in32 x) (hy : in32 y) : Int32.ofInt x < Int32.ofInt y ↔ x < y := by
  rw [Int32.lt_iff_toInt_lt, o32 hx, o32 hy]
theorem le32 {x y : Int} (hx : in32 x) (hy : in32 y) : Int32.ofInt x ≤ Int32.ofInt y ↔ x ≤ y := by
  rw [Int32.le_iff_toInt_le, o32 hx, o32 hy]
theorem eq32 {x y : Int} (hx : in32 x) (hy : in32 y) : Int32.ofInt x = Int32.ofInt y ↔ x = y := by
  rw [← Int32.toInt_inj, o32 hx, o32 hy]
theorem lt64 {x y : Int} (hx : in64 x) (hy : in64 y) : Int64.ofInt x < Int64.ofInt y ↔ x < y := by
  rw [Int64.lt_iff_toInt_lt, o64 hx, o64 hy]
theorem eq64 {x y : Int} (hx : in64 x) (hy : in64 y) : Int64.ofInt x = Int64.ofInt y ↔ x = y := by
  rw [← Int64.toInt_inj, o64 hx, o64 hy]
-- operations
def jand (x y : Int) : Int := (Int32.ofInt x &&& Int32.ofInt y).toInt
def jor (x y : Int) : Int := (Int32.ofInt x ||| Int32.ofInt y).toInt
def jxor (x y : Int) : Int := (Int32.ofInt x ^^^ Int32.ofInt y).toInt
def jshl (x y : Int) : Int := (Int32.ofInt x <<< (Int32.ofInt y &&& 31)).toInt
def jshr (x y : Int) : Int := (Int32.ofInt x >>> (Int32.ofInt y &&& 31)).toInt
def jushr (x y : Int) : Int := (((Int32.ofInt x).toUInt32 >>> ((Int32.ofInt y).toUInt32 &&& Int32.toUInt32 31)).toInt32).toInt
def ji2b (x : Int) : Int := ((Int32.ofInt x).toInt8.toInt32).toInt
def ji2s (x : Int) : Int := ((Int32.ofInt x).toInt16.toInt32).toInt
def jland (x y : Int) : Int := (Int64.ofInt x &&& Int64.ofInt y).toInt
def jlor (x y : Int) : Int := (Int64.ofInt x ||| Int64.ofInt y).toInt
def jlshl (x y : Int) : Int := (Int64.ofInt x <<< ((Int32.ofInt y).toInt64 &&& 63)).toInt
def jlshr (x y : Int) : Int := (Int64.ofInt x >>> ((Int32.ofInt y).toInt64 &&& 63)).toInt
def lcmpv (x y : Int) : Int := if x > y then 1 else if x = y then 0 else -1
theorem div32 {x y : Int} (hx : 0 ≤ x) (hy : 0 < y) (ix : in32 x) (iy : in32 y) : Int32.ofInt x / Int32.ofInt y = Int32.ofInt (x / y) := by
  have h : (Int32.ofInt y) ≠ -1 := by
    intro h
    have h2 := congrArg Int32.toInt h
    rw [o32 iy] at h2
    have h3 : (-1 : Int32).toInt = -1 := by decide
    omega
  apply Int32.toInt_inj.mp
  have hd : in32 (x / y) := by
    have h1 := Int.ediv_nonneg hx (Int.le_of_lt hy)
    have h2 := Int.ediv_le_self y hx
    unfold in32 at *
    omega
  rw [Int32.toInt_div_of_ne_right _ _ h, o32 ix, o32 iy, o32 hd, Int.tdiv_eq_ediv_of_nonneg hx]
theorem div64 {x y : Int} (hx : 0 ≤ x) (hy : 0 < y) (ix : in64 x) (iy : in64 y) : Int64.ofInt x / Int64.ofInt y = Int64.ofInt (x / y) := by
  have h : (Int64.ofInt y) ≠ -1 := by
    intro h
    have h2 := congrArg Int64.toInt h
    rw [o64 iy] at h2
    have h3 : (-1 : Int64).toInt = -1 := by decide
    omega
  apply Int64.toInt_inj.mp
  have hd : in64 (x / y) := by
    have h1 := Int.ediv_nonneg hx (Int.le_of_lt hy)
    have h2 := Int.ediv_le_self y hx
    unfold in64 at *
    omega
  rw [Int64.toInt_div_of_ne_right _ _ h, o64 ix, o64 iy, o64 hd, Int.tdiv_eq_ediv_of_nonneg hx]
theorem rem32 {x y : Int} (hx : 0 ≤ x) (hy : 0 < y) (ix : in32 x) (iy : in32 y) : Int32.ofInt x - Int32.ofInt x / Int32.ofInt y * Int32.ofInt y = Int32.ofInt (x % y) := by
  rw [div32 hx hy ix iy, ← Int32.ofInt_mul, ← Int32.ofInt_sub, Int.emod_def, Int.mul_comm]
theorem rem64 {x y : Int} (hx : 0 ≤ x) (hy : 0 < y) (ix : in64 x) (iy : in64 y) : Int64.ofInt x - Int64.ofInt x / Int64.ofInt y * Int64.ofInt y = Int64.ofInt (x % y) := by
  rw [div64 hx hy ix iy, ← Int64.ofInt_mul, ← Int64.ofInt_sub, Int.emod_def, Int.mul_comm]
theorem cl32 {x : Int} (h : in32 x) : (Int32.ofInt x).toNatClampNeg = x.toNat := by
  unfold in32 at h
  exact Int32.toNatClampNeg_ofInt_of_le (by omega) (by omega)
theorem in32_0 : in32 0 := by unfold in32; omega
theorem in32_of {x : Int} (h1 : -2147483648 ≤ x) (h2 : x ≤ 2147483647) : in32 x := ⟨h1, h2⟩
theorem lcmpv_lt {x y : Int} : lcmpv x y < 0 ↔ x < y := by unfold lcmpv; split <;> (try split) <;> omega
theorem lcmpv_gt {x y : Int} : 0 < lcmpv x y ↔ y < x := by unfold lcmpv; split <;> (try split) <;> omega
theorem lcmpv_eq {x y : Int} : lcmpv x y = 0 ↔ x = y := by unfold lcmpv; split <;> (try split) <;> omega
theorem lcmpv_in (x y : Int) : in32 (lcmpv x y) := by unfold lcmpv in32; split <;> (try split) <;> omega
theorem lgcmp {x y : Int} (hx : in64 x) (hy : in64 y) : lg_cmp (Int64.ofInt x) (Int64.ofInt y) = Int32.ofInt (lcmpv x y) := by
  unfold lg_cmp lcmpv
  by_cases h : x > y
  · rw [if_pos h, if_pos ((lt64 hy hx).mpr h)]; rfl
  · rw [if_neg h, if_neg (fun q => h ((lt64 hy hx).mp q))]
    by_cases h2 : x = y
    · rw [if_pos h2, if_pos ((eq64 hx hy).mpr h2)]; rfl
    · rw [if_neg h2, if_neg (fun q => h2 ((eq64 hx hy).mp q))]; rfl
end
section
-- the world: cells by number, what each holds as whole numbers
abbrev AV : Type := Int ⊕ (Int ⊕ Int)
abbrev vi (x : Int) : AV := .inl x
abbrev vl (x : Int) : AV := .inr (.inl x)
abbrev vr (x : Int) : AV := .inr (.inr x)
/-- base, addresses of what is not ours, class numbers and slots, array classes, the heap at the law's start -/
abbrev GT : Type := Nat × (Int → Nat) × va_G × (Nat → ClassId) × Heap
abbrev VT : Type := Int → Int → Int
def shp : List (Nat × Nat) := [(99, 0), (8, 16), (5, 2), (10, 400), (7, 7), (13, 8), (15, 10), (11, 80), (11, 6), (0, 3), (0, 3), (0, 3), (0, 3), (0, 3), (0, 3), (0, 3), (0, 3), (6, 8), (6, 8), (6, 8), (6, 8), (6, 8), (6, 8), (6, 8), (6, 8), (6, 8), (6, 8), (7, 7), (13, 8), (15, 10), (11, 80), (11, 6), (0, 3), (0, 3), (0, 3), (0, 3), (0, 3), (0, 3), (0, 3), (0, 3), (6, 8), (6, 8), (6, 8), (6, 8), (6, 8), (6, 8), (6, 8), (6, 8), (6, 8), (6, 8), (3, 12), (16, 2), (12, 2), (14, 4), (1, 8), (11, 8), (11, 8), (11, 20), (11, 20), (11, 8), (2, 5), (11, 6), (11, 256), (11, 256), (11, 4), (7, 7), (13, 8), (15, 10), (11, 80), (11, 6), (0, 3), (0, 3), (0, 3), (0, 3), (0, 3), (0, 3), (0, 3), (0, 3), (6, 8), (6, 8), (6, 8), (6, 8), (6, 8), (6, 8), (6, 8), (6, 8), (6, 8), (6, 8), (7, 7), (13, 8), (15, 10), (11, 80), (11, 6), (0, 3), (0, 3), (0, 3), (0, 3), (0, 3), (0, 3), (0, 3), (0, 3), (6, 8), (6, 8), (6, 8), (6, 8), (6, 8), (6, 8), (6, 8), (6, 8), (6, 8), (6, 8), (4, 3), (11, 40), (4, 3), (11, 40), (4, 3), (11, 40), (4, 3), (11, 40), (9, 38), (11, 796), (12, 2), (11, 199), (11, 400), (11, 8), (11, 8), (11, 20), (11, 20), (11, 8), (11, 8), (11, 20), (11, 4), (11, 10), (11, 7), (11, 6), (11, 4), (11, 4), (11, 160)]
def fldR : List (List Bool) := [[false, false, false], [true, true, true, true, true, false, false, false], [true, true, true, false, false], [true, true, false, false, false, false, false, false, false, false, false, false], [true, false, false], [true, false], [false, false, false, false, false, false, false, false], [true, true, true, true, false, false, false], [true, true, true, true, true, true, true, true, true, true, false, false, false, false, false, false], [true, true, false, true, false, false, false, false, true, false, false, false, false, false, false, false, false, true, true, true, true, true, true, true, true, true, false, false, true, true, false, false, false, false, true, true, true, false]]
def refT : List (List Int) := [[], [2, 4, 27, 50, 51, 52, 53, 54, 60, 64], [3], [], [5, 6, 7, 8], [9, 10, 11, 12, 13, 14, 15, 16], [17, 18, 19, 20, 21, 22, 23, 24, 25, 26], [], [], [], [], [], [], [], [], [], [], [], [], [], [], [], [], [], [], [], [], [28, 29, 30, 31], [32, 33, 34, 35, 36, 37, 38, 39], [40, 41, 42, 43, 44, 45, 46, 47, 48, 49], [], [], [], [], [], [], [], [], [], [], [], [], [], [], [], [], [], [], [], [], [2, 27], [65, 88], [], [111, 113, 115, 117], [55, 56, 57, 58, 59], [], [], [], [], [], [61, 62, 63], [], [], [], [], [66, 67, 68, 69], [70, 71, 72, 73, 74, 75, 76, 77], [78, 79, 80, 81, 82, 83, 84, 85, 86, 87], [], [], [], [], [], [], [], [], [], [], [], [], [], [], [], [], [], [], [], [], [89, 90, 91, 92], [93, 94, 95, 96, 97, 98, 99, 100], [101, 102, 103, 104, 105, 106, 107, 108, 109, 110], [], [], [], [], [], [], [], [], [], [], [], [], [], [], [], [], [], [], [], [], [112], [], [114], [], [116], [], [118], [], [120, 121, 0, 122, 0, 0, 0, 0, 123, 0, 0, 0, 0, 0, 0, 0, 0, 124, 125, 126, 127, 128, 129, 130, 131, 132, 0, 0, 133, 134, 0, 0, 0, 0, 135, 136, 137], [], [], [], [], [], [], [], [], [], [], [], [], [], [], [], [], [], []]
def kd (r : Int) : Nat := (shp.getD r.toNat (99, 0)).1
def ln (r : Int) : Nat := (shp.getD r.toNat (99, 0)).2
def nfl (ci : Nat) : Nat := (fldR.getD ci []).length
def isR (ci k : Nat) : Bool := (fldR.getD ci []).getD k false
def adr (G : GT) (r : Int) : Nat := if 0 < r then G.1 + r.toNat else G.2.1 r
def conc (G : GT) : AV → Value
  | .inl x => .int (Int32.ofInt x)
  | .inr (.inl x) => .long (Int64.ofInt x)
  | .inr (.inr r) => .ref (adr G r)
def okv : AV → Prop
  | .inl x => in32 x
  | .inr (.inl x) => in64 x
  | .inr (.inr _) => True
def fldv (G : GT) (b : Bool) (x : Int) : Value := if b then (if x = 0 then .null else .ref (adr G x)) else .int (Int32.ofInt x)
def ofields (G : GT) (ci : Nat) (f : Int → Int) : List Value := (List.range (nfl ci)).map (fun k => fldv G (isR ci k) (f (k : Int)))
def rfo (G : GT) (x : Int) : Option Nat := if x = 0 then none else some (adr G x)
def acont (G : GT) (t : Nat) (f : Int → Int) : (Nat → Int32) ⊕ (Nat → Int64) ⊕ (Nat → UInt32) ⊕ (Nat → UInt64) ⊕ (Nat → Option Nat) :=
  if t < 3 then .inl (fun j => Int32.ofInt (f (j : Int))) else .inr (.inr (.inr (.inr (fun j => rfo G (f (j : Int))))))
def cellE (G : GT) (v : VT) (r : Int) : va_E :=
  if kd r < 10 then .inr (kd r, ofields G (kd r) (v r)) else .inl (G.2.2.2.1 (kd r - 10), ln r, acont G (kd r - 10) (v r))
def wl (G : GT) (n : Nat) (v : VT) : va_W := (List.range n).map (fun i => (G.1 + (i + 1), cellE G v ((i + 1 : Nat) : Int)))
/-- how many cells there are: 1000 says that all are there, and that what refers does so as it stays -/
def nc (n : Nat) : Nat := if n = 1000 then 137 else n
def wld (G : GT) (n : Nat) (v : VT) (H : Heap) : Prop :=
  H.size = G.1 + nc n + 1 ∧ va_P G.2.2.1 vwCl (wl G (nc n) v) H ∧ ∀ q : Nat, q ≤ G.1 → H[q]? = G.2.2.2.2[q]?
def Afr (G : GT) : Nat → Prop := fun q => G.1 < q
def tysG (G : GT) : List (ClassId × FieldType) := [(G.2.2.2.1 0, .byte), (G.2.2.2.1 1, .int), (G.2.2.2.1 2, .boolean), (G.2.2.2.1 3, .object RX0), (G.2.2.2.1 4, .object RX4), (G.2.2.2.1 5, .object RX6), (G.2.2.2.1 6, .object RX7)]
def upd2 (v : VT) (r i x : Int) : VT := fun a j => if a = r ∧ j = i then x else v a j
def rng (v : VT) : Prop := ∀ r i, in32 (v r i)
def isref (r i : Int) : Bool := if kd r < 10 then decide (0 ≤ i) && isR (kd r) i.toNat else decide (13 ≤ kd r) && decide (kd r ≤ 16) && decide (0 ≤ i) && decide (i < (ln r : Int))
def refval (r i : Int) : Int := (refT.getD r.toNat []).getD i.toNat 0
def lay (v : VT) : Prop := ∀ r i, isref r i = true → v r i = refval r i
def inv (n : Nat) (v : VT) : Prop := rng v ∧ (n = 1000 → lay v)
theorem rng_upd {v : VT} {r i x : Int} (h : rng v) (hx : in32 x) : rng (upd2 v r i x) := by
  intro a j
  unfold upd2
  split
  · exact hx
  · exact h a j
theorem upd2_same (v : VT) (r i x : Int) : upd2 v r i x r i = x := by simp [upd2]
theorem upd2_ne (v : VT) (r i x a j : Int) (h : a ≠ r ∨ j ≠ i) : upd2 v r i x a j = v a j := by
  unfold upd2
  rw [if_neg]
  rintro ⟨h1, h2⟩
  rcases h with h | h
  · exact h h1
  · exact h h2
theorem wl_length (G : GT) (n : Nat) (v : VT) : (wl G n v).length = n := by simp [wl]
theorem wl_at {G : GT} {n : Nat} {v : VT} {r : Int} (h1 : 0 < r) (h2 : r ≤ n) : (wl G n v)[r.toNat - 1]? = some (adr G r, cellE G v r) := by
  obtain ⟨k, rfl⟩ : ∃ k : Nat, r = ((k + 1 : Nat) : Int) := ⟨r.toNat - 1, by omega⟩
  have hk : k < n := by omega
  simp only [wl, List.getElem?_map, Int.toNat_natCast, Nat.add_sub_cancel]
  rw [List.getElem?_range hk]
  simp only [Option.map_some, adr]
  rw [if_pos h1, Int.toNat_natCast]
theorem wl_D {G : GT} {n : Nat} {v : VT} : va_D (Afr G) (wl G n v) := by
  have key : ∀ (k : Nat) (q : Nat × va_E), (wl G n v)[k]? = some q → q.1 = G.1 + (k + 1) := by
    intro k q h
    have hk : k < n := by
      have := (List.getElem?_eq_some_iff.mp h).1
      rwa [wl_length] at this
    simp only [wl, List.getElem?_map] at h
    rw [List.getElem?_range hk] at h
    cases h
    rfl
  refine ⟨fun i j p q hi hj hpq => ?_, fun k q hk => ?_⟩
  · have e1 := key i p hi
    have e2 := key j q hj
    omega
  · have e1 := key k q hk
    show G.1 < q.1
    omega
theorem wl_set {G : GT} {n : Nat} {v : VT} {r i x : Int} (h1 : 0 < r) (h2 : r ≤ n) : (wl G n v).set (r.toNat - 1) (adr G r, cellE G (upd2 v r i x) r) = wl G n (upd2 v r i x) := by
  obtain ⟨k, rfl⟩ : ∃ k : Nat, r = ((k + 1 : Nat) : Int) := ⟨r.toNat - 1, by omega⟩
  have hk : k < n := by omega
  apply List.ext_getElem?
  intro j
  have e0 : ((k + 1 : Nat) : Int).toNat - 1 = k := by omega
  rw [e0]
  by_cases hj : j = k
  · subst hj
    rw [List.getElem?_set_self (by rw [wl_length]; exact hk)]
    have := wl_at (G := G) (v := upd2 v ((j + 1 : Nat) : Int) i x) h1 h2
    rw [e0] at this
    exact this.symm
  · rw [List.getElem?_set_ne (Ne.symm hj)]
    simp only [wl, List.getElem?_map]
    by_cases hn : j < n
    · rw [List.getElem?_range hn]
      simp only [Option.map_some]
      have hne : ((j + 1 : Nat) : Int) ≠ ((k + 1 : Nat) : Int) := by omega
      have hf : upd2 v ((k + 1 : Nat) : Int) i x ((j + 1 : Nat) : Int) = v ((j + 1 : Nat) : Int) := by
        funext b
        exact upd2_ne _ _ _ _ _ _ (Or.inl hne)
      unfold cellE
      rw [hf]
    · rw [List.getElem?_eq_none (by simpa using hn)]
      rfl
theorem ofields_length (G : GT) (ci : Nat) (f : Int → Int) : (ofields G ci f).length = nfl ci := by simp [ofields]
theorem ofields_at (G : GT) (ci : Nat) (f : Int → Int) {k : Nat} (h : k < nfl ci) : (ofields G ci f)[k]? = some (fldv G (isR ci k) (f (k : Int))) := by
  simp only [ofields, List.getElem?_map]
  rw [List.getElem?_range h]
  rfl
theorem ofields_set {G : GT} {ci : Nat} {v : VT} {r x : Int} {k : Nat} (h : k < nfl ci) : (ofields G ci (v r)).set k (fldv G (isR ci k) x) = ofields G ci (upd2 v r (k : Int) x r) := by
  apply List.ext_getElem?
  intro j
  by_cases hj : j = k
  · subst hj
    rw [List.getElem?_set_self (by rw [ofields_length]; exact h), ofields_at _ _ _ h, upd2_same]
  · rw [List.getElem?_set_ne (Ne.symm hj)]
    by_cases hn : j < nfl ci
    · rw [ofields_at _ _ _ hn, ofields_at _ _ _ hn, upd2_ne _ _ _ _ _ _ (Or.inr (by omega))]
    · rw [List.getElem?_eq_none (by rw [ofields_length]; omega), List.getElem?_eq_none (by rw [ofields_length]; omega)]
theorem kd_bound {r : Int} (h : kd r < 99) : 0 < r ∧ r ≤ 137 := by
  unfold kd at h
  have h1 : r.toNat < shp.length := by
    apply Nat.lt_of_not_le
    intro h2
    rw [List.getD_eq_getElem?_getD, List.getElem?_eq_none h2] at h
    simp at h
  have h2 : shp.length = 138 := by decide +kernel
  have h3 : r.toNat ≠ 0 := by
    intro h3
    rw [h3] at h
    revert h
    decide +kernel
  omega
theorem lay_upd {v : VT} {r i x : Int} (h : lay v) (hi : isref r i = false) : lay (upd2 v r i x) := by
  intro a j ha
  unfold upd2
  rw [if_neg]
  · exact h a j ha
  · rintro ⟨rfl, rfl⟩
    rw [hi] at ha
    cases ha
theorem inv_upd {n : Nat} {v : VT} {r i x : Int} (h : inv n v) (hx : in32 x) (hi : n = 1000 → isref r i = false) : inv n (upd2 v r i x) := ⟨rng_upd h.1 hx, fun q => lay_upd (h.2 q) (hi q)⟩
theorem isref_fld {r : Int} {ci k : Nat} (hs : kd r = ci) (hci : ci < 10) (h : isR ci k = false) : isref r (k : Int) = false := by
  unfold isref
  rw [hs, if_pos hci, Int.toNat_natCast, h]
  simp
theorem isref_arr {r i : Int} {t : Nat} (hs : kd r = t) (h1 : 10 ≤ t) (h2 : t < 13) : isref r i = false := by
  unfold isref
  rw [hs, if_neg (by omega)]
  simp only [Bool.and_eq_false_iff, decide_eq_false_iff_not]
  omega
end
section
-- the judgement over the world, and a row an instruction
abbrev XT : Type := Program × Launch × Env × Room × State × MethodId × Array Value × List Frame × Method × Code × (State → Prop) × Nat
abbrev xp (X : XT) : Program := X.1
abbrev xl (X : XT) : Launch := X.2.1
abbrev xe (X : XT) : Env := X.2.2.1
abbrev xR (X : XT) : Room := X.2.2.2.1
abbrev xs (X : XT) : State := X.2.2.2.2.1
abbrev xm (X : XT) : MethodId := X.2.2.2.2.2.1
abbrev xa (X : XT) : Array Value := X.2.2.2.2.2.2.1
abbrev xb (X : XT) : List Frame := X.2.2.2.2.2.2.2.1
abbrev xme (X : XT) : Method := X.2.2.2.2.2.2.2.2.1
abbrev xc (X : XT) : Code := X.2.2.2.2.2.2.2.2.2.1
abbrev xQ (X : XT) : State → Prop := X.2.2.2.2.2.2.2.2.2.2.1
abbrev xn (X : XT) : Nat := X.2.2.2.2.2.2.2.2.2.2.2
def lvl (G : GT) : Nat → List (Option AV) → List (Nat × Value)
  | _, [] => []
  | i, none :: L => lvl G (i + 1) L
  | i, some a :: L => (i, conc G a) :: lvl G (i + 1) L
def E (X : XT) (G : GT) (cells slots n : Nat) (v : VT) (pc : Nat) (L : List (Option AV)) (S : List AV) : Prop :=
  inv n v → (∀ a, some a ∈ L → okv a) → (∀ a ∈ S, okv a) →
  ∀ (H : Heap) (locs : List Loc) (ls : Array Slot), wld G n v H → va_S (Afr G) (xs X).heap H locs → lv_has ls (xn X) (lvl G 0 L) →
    W (xp X) (xl X) (xe X) (xR X) (xs X) (xm X) (xa X) (xb X) (xme X) (xc X) H locs cells slots (xQ X) (F0 (xm X) pc ls (S.map (conc G)))
def isNest : Cond → Bool
  | .fieldLinkNest .. => true
  | .methodLinkNest .. => true
  | _ => false
def lw_good : List Cond := lw_tbl.filter goodWord
def lw_nest : List Cond := lw_tbl.filter isNest
theorem lw_good_in {w : Cond} (h : w ∈ lw_good) : w ∈ lw_tbl := (List.mem_filter.mp h).1
theorem in_good {w : Cond} (h : w ∈ lw_tbl) (hg : goodWord w = true) : w ∈ lw_good := List.mem_filter.mpr ⟨h, hg⟩
theorem in_nest {w : Cond} (h : w ∈ lw_tbl) (hg : isNest w = true) : w ∈ lw_nest := List.mem_filter.mpr ⟨h, hg⟩
/-- what the tables say beside the good words: links to nest mates, arrays of our classes -/
def EXT (_ : GT) (U : State) : Prop := (∀ w ∈ lw_nest, va_Nw w U) ∧ (va_AO RX0 U ∧ va_AO RX4 U ∧ va_AO RX6 U ∧ va_AO RX7 U)
theorem EXT.warm {G : GT} {s U : State} (hW : s.WarmedH U.vm) (h : EXT G s) : EXT G U := by
  refine ⟨fun w hw => ?_, h.2.1.moved hW.alike, h.2.2.1.moved hW.alike, h.2.2.2.1.moved hW.alike, h.2.2.2.2.moved hW.alike⟩
  have h1 := h.1 w hw
  have h2 := (List.mem_filter.mp hw).2
  cases w with
  | fieldLinkNest a b c d e f => exact va_Nw.warmF hW h1
  | methodLinkNest a b c d => exact va_Nw.warmM hW h1
  | _ => cases h2
theorem EXT.same {G : GT} {u U : State} (hv : u.vm = U.vm) (h : EXT G u) : EXT G U := by
  have hal : u.vm.Alike U.vm := by rw [hv]; exact Vm.Alike.refl _
  refine ⟨fun w hw => ?_, h.2.1.moved hal, h.2.2.1.moved hal, h.2.2.2.1.moved hal, h.2.2.2.2.moved hal⟩
  have h1 := h.1 w hw
  have h2 := (List.mem_filter.mp hw).2
  refine va_Nw.same ?_ hv h1
  cases w with
  | fieldLinkNest a b c d e f => rfl
  | methodLinkNest a b c d => rfl
  | _ => cases h2
/-- what stays through a method -/
def Cx (X : XT) (G : GT) (own : String) (cc : ByteArray) : Prop :=
  (xp X).tables.exec = Jvm.exec ∧ (xc X).code = cc ∧ (xc X).maxLocals = xn X ∧ (xs X).vm.findClass own = some (xm X).cls ∧ (∀ w ∈ lw_good, w.before (xa X) (xs X) = true) ∧ va_K G.2.2.1 vwCl (tysG G) (xs X) ∧ G.1 < (xs X).heap.size ∧ (xme X).locks = false ∧ EXT G (xs X)
theorem lvl_mem {G : GT} {a : AV} : ∀ {L : List (Option AV)} {i k : Nat}, L[k]? = some (some a) → (i + k, conc G a) ∈ lvl G i L
  | [], _, _, h => by simp at h
  | none :: L, i, 0, h => by simp at h
  | some b :: L, i, 0, h => by
    simp at h
    subst h
    simp [lvl]
  | none :: L, i, k + 1, h => by
    have h2 : L[k]? = some (some a) := by simpa using h
    have := lvl_mem (G := G) (i := i + 1) h2
    rw [show i + (k + 1) = i + 1 + k by omega]
    simpa [lvl] using this
  | some b :: L, i, k + 1, h => by
    have h2 : L[k]? = some (some a) := by simpa using h
    have := lvl_mem (G := G) (i := i + 1) h2
    rw [show i + (k + 1) = i + 1 + k by omega]
    simp only [lvl, List.mem_cons]
    exact Or.inr this
theorem lvl_of {G : GT} {q : Nat × Value} : ∀ {L : List (Option AV)} {i : Nat}, q ∈ lvl G i L → ∃ k a, q = (i + k, conc G a) ∧ L[k]? = some (some a)
  | [], i, h => by simp [lvl] at h
  | none :: L, i, h => by
    simp only [lvl] at h
    obtain ⟨k, a, h1, h2⟩ := lvl_of h
    exact ⟨k + 1, a, by rw [h1]; congr 1; omega, by simpa using h2⟩
  | some b :: L, i, h => by
    simp only [lvl, List.mem_cons] at h
    rcases h with h | h
    · exact ⟨0, b, by rw [h]; rfl, by simp⟩
    · obtain ⟨k, a, h1, h2⟩ := lvl_of h
      exact ⟨k + 1, a, by rw [h1]; congr 1; omega, by simpa using h2⟩
theorem lv_read {G : GT} {ls : Array Slot} {nL i : Nat} {L : List (Option AV)} {a : AV} (h : lv_has ls nL (lvl G 0 L)) (hi : L[i]? = some (some a)) : ls[i]? = some (.val (conc G a)) := by
  have h1 := h.2.2 _ (lvl_mem (G := G) (i := 0) hi)
  simpa using h1
def noLong (L : List (Option AV)) : Nat → Bool
  | 0 => true
  | j + 1 => match L[j]? with
    | some (some (.inr (.inl _))) => false
    | _ => true
theorem conc_cat {G : GT} {a : AV} : (conc G a).category = 2 ↔ ∃ x, a = vl x := by
  rcases a with x | x | x
  · simp [conc, Value.category]
  · simp [conc, Value.category]
  · simp [conc, Value.category]
theorem lvl_store {G : GT} {L : List (Option AV)} {i : Nat} {a : AV} (hn : noLong L i = true) : ∀ q ∈ lvl G 0 (L.set i (some a)), q ∈ (i, conc G a) :: (lvl G 0 L).filter (fun q => !(q.1 == i) && !(q.1 + 1 == i && q.2.category == 2)) := by
  intro q hq
  obtain ⟨k, b, h1, h2⟩ := lvl_of hq
  rw [Nat.zero_add] at h1
  subst h1
  by_cases hk : k = i
  · subst hk
    have hl : k < (L.set k (some a)).length := (List.getElem?_eq_some_iff.mp h2).1
    rw [List.length_set] at hl
    rw [List.getElem?_set_self hl] at h2
    cases h2
    exact List.mem_cons_self
  · rw [List.getElem?_set_ne (Ne.symm hk)] at h2
    refine List.mem_cons_of_mem _ (List.mem_filter.mpr ⟨by simpa using lvl_mem (G := G) (i := 0) h2, ?_⟩)
    simp only [Bool.and_eq_true, Bool.not_eq_true', beq_eq_false_iff_ne, ne_eq, hk, not_false_eq_true, true_and, Bool.and_eq_false_iff]
    by_cases hk1 : k + 1 = i
    · right
      subst hk1
      intro hc
      obtain ⟨x, rfl⟩ := conc_cat.mp hc
      simp only [noLong] at hn
      rw [h2] at hn
      simp at hn
    · exact Or.inl hk1
theorem lvl_storeL {G : GT} {L : List (Option AV)} {i : Nat} {x : Int} (hn : noLong L i = true) : ∀ q ∈ lvl G 0 ((L.set i (some (vl x))).set (i + 1) none), q ∈ (i, conc G (vl x)) :: (lvl G 0 L).filter (fun q => !(q.1 == i) && (!(q.1 == i + 1) && !(q.1 + 1 == i && q.2.category == 2))) := by
  intro q hq
  obtain ⟨k, b, h1, h2⟩ := lvl_of hq
  rw [Nat.zero_add] at h1
  subst h1
  by_cases hk : k = i + 1
  · subst hk
    have hl : i + 1 < ((L.set i (some (vl x))).set (i + 1) none).length := (List.getElem?_eq_some_iff.mp h2).1
    rw [List.length_set] at hl
    rw [List.getElem?_set_self hl] at h2
    cases h2
  · rw [List.getElem?_set_ne (Ne.symm hk)] at h2
    have h3 := lvl_store (G := G) (a := vl x) hn (k, conc G b) (by simpa using lvl_mem (G := G) (i := 0) h2)
    rcases List.mem_cons.mp h3 with h3 | h3
    · rw [h3]; exact List.mem_cons_self
    · obtain ⟨h4, h5⟩ := List.mem_filter.mp h3
      refine List.mem_cons_of_mem _ (List.mem_filter.mpr ⟨h4, ?_⟩)
      simp only [Bool.and_eq_true] at h5 ⊢
      exact ⟨h5.1, by simpa using hk, h5.2⟩
theorem lv_has_sub {ls : Array Slot} {nL : Nat} {l l' : List (Nat × Value)} (h : lv_has ls nL l) (hs : ∀ q ∈ l', q ∈ l) : lv_has ls nL l' := ⟨h.1, h.2.1, fun q hq => h.2.2 q (hs q hq)⟩
end
section
-- a row an instruction
theorem okc {a : AV} {S : List AV} (h : okv a) (hs : ∀ b ∈ S, okv b) : ∀ b ∈ a :: S, okv b := by
  intro b hb
  rcases List.mem_cons.mp hb with rfl | hb
  · exact h
  · exact hs b hb
theorem ok_h {a : AV} {S : List AV} (h : ∀ b ∈ a :: S, okv b) : okv a := h a List.mem_cons_self
theorem ok_t {a : AV} {S : List AV} (h : ∀ b ∈ a :: S, okv b) : ∀ b ∈ S, okv b := fun b hb => h b (List.mem_cons_of_mem _ hb)
theorem of8 {x : Int} (h1 : -128 ≤ x) (h2 : x ≤ 127) : (Int8.ofInt x).toInt32 = Int32.ofInt x := by
  rw [← Int32.ofInt_int8ToInt, Int8.toInt_ofInt_of_le (by omega) (by omega)]
theorem of16 {x : Int} (h1 : -32768 ≤ x) (h2 : x ≤ 32767) : (Int16.ofInt x).toInt32 = Int32.ofInt x := by
  rw [← Int32.ofInt_int16ToInt, Int16.toInt_ofInt_of_le (by omega) (by omega)]
theorem z32 {x : Int} (h : in32 x) : Int32.ofInt x = 0 ↔ x = 0 := eq32 (y := 0) h (by decide)
theorem zlt {x : Int} (h : in32 x) : Int32.ofInt x < 0 ↔ x < 0 := lt32 (y := 0) h (by decide)
theorem zle {x : Int} (h : in32 x) : Int32.ofInt x ≤ 0 ↔ x ≤ 0 := le32 (y := 0) h (by decide)
theorem zgt {x : Int} (h : in32 x) : 0 < Int32.ofInt x ↔ 0 < x := lt32 (x := 0) (by decide) h
theorem zge {x : Int} (h : in32 x) : 0 ≤ Int32.ofInt x ↔ 0 ≤ x := le32 (x := 0) (by decide) h
theorem z64 {x : Int} (h : in64 x) : Int64.ofInt x = 0 ↔ x = 0 := eq64 (y := 0) h (by decide)
theorem l32 {x : Int} (h : in32 x) : (Int32.ofInt x).toInt64 = Int64.ofInt x := by
  apply Int64.toInt_inj.mp
  rw [Int32.toInt_toInt64, o32 h, o64 (by omega)]
section INS
variable {X : XT} {G : GT} {own : String} {cc : ByteArray} {cells slots n : Nat} {v : VT} {pc tgt : Nat} {L : List (Option AV)} {S : List AV} {x y z : Int} {off : Int} {i : Nat}
/-- what is known of the numbers that the state holds -/
theorem E.rngk (k : inv n v → E X G cells slots n v pc L S) : E X G cells slots n v pc L S := fun h1 h2 h3 => k h1 h1 h2 h3
theorem E.loc (k : (∀ a, some a ∈ L → okv a) → E X G cells slots n v pc L S) : E X G cells slots n v pc L S := fun h1 h2 h3 => k h2 h1 h2 h3
theorem E.stk (k : (∀ a ∈ S, okv a) → E X G cells slots n v pc L S) : E X G cells slots n v pc L S := fun h1 h2 h3 => k h3 h1 h2 h3

theorem E.iconst (C : Cx X G own cc) (hd : decode cc pc = .ok (.iconst x, 1)) (hx : in32 x) (k : E X G cells slots n v (pc + 1) L (vi x :: S)) : E X G cells slots n v pc L S := by
  intro h1 h2 h3 H locs ls hw hS hl
  exact lv_iconst C.1 C.2.1 hd rfl (k h1 h2 (okc hx h3) H locs ls hw hS hl)

theorem E.bipush (C : Cx X G own cc) (hd : decode cc pc = .ok (.bipush x, 2)) (hx : -128 ≤ x ∧ x ≤ 127) (k : E X G cells slots n v (pc + 2) L (vi x :: S)) : E X G cells slots n v pc L S := by
  intro h1 h2 h3 H locs ls hw hS hl
  exact lv_bipush C.1 C.2.1 hd (of8 hx.1 hx.2) (k h1 h2 (okc (by show in32 x; omega) h3) H locs ls hw hS hl)

theorem E.sipush (C : Cx X G own cc) (hd : decode cc pc = .ok (.sipush x, 3)) (hx : -32768 ≤ x ∧ x ≤ 32767) (k : E X G cells slots n v (pc + 3) L (vi x :: S)) : E X G cells slots n v pc L S := by
  intro h1 h2 h3 H locs ls hw hS hl
  exact lv_sipush C.1 C.2.1 hd (of16 hx.1 hx.2) (k h1 h2 (okc (by show in32 x; omega) h3) H locs ls hw hS hl)

theorem E.ldc (C : Cx X G own cc) {index : Nat} {a : Int32} (hc : Cond.constant own index a ∈ lw_good) (hx : a.toInt = x) (hd : decode cc pc = .ok (.ldc index, 2)) (k : E X G cells slots n v (pc + 2) L (vi x :: S)) : E X G cells slots n v pc L S := by
  intro h1 h2 h3 H locs ls hw hS hl
  subst hx
  have k := k h1 h2 (okc (toInt_in a) h3) H locs ls hw hS hl
  simp only [List.map_cons, conc, Int32.ofInt_toInt] at k
  exact lv_ldc C.1 C.2.1 C.2.2.2.1 (C.2.2.2.2.1 _ hc) hd k

theorem E.ldc2 (C : Cx X G own cc) {index : Nat} {a : Int64} (hc : Cond.constantLong own index a ∈ lw_good) (hx : a.toInt = x) (hd : decode cc pc = .ok (.ldc2_w index, 3)) (k : E X G cells slots n v (pc + 3) L (vl x :: S)) : E X G cells slots n v pc L S := by
  intro h1 h2 h3 H locs ls hw hS hl
  subst hx
  have k := k h1 h2 (okc (toInt_in64 a) h3) H locs ls hw hS hl
  simp only [List.map_cons, conc, Int64.ofInt_toInt] at k
  exact lv_ldc2 C.1 C.2.1 C.2.2.2.1 (C.2.2.2.2.1 _ hc) hd k

theorem E.lconst (C : Cx X G own cc) {m : Fin 2} (hd : decode cc pc = .ok (.lconst m, 1)) (hx : ((m : Nat) : Int) = x) (k : E X G cells slots n v (pc + 1) L (vl x :: S)) : E X G cells slots n v pc L S := by
  intro h1 h2 h3 H locs ls hw hS hl
  have h4 := m.isLt
  exact lv_lconst C.1 C.2.1 hd (by rw [← hx]; exact Int64.ofInt_eq_ofNat.symm) (k h1 h2 (okc (by show in64 x; omega) h3) H locs ls hw hS hl)

theorem E.iload_n (C : Cx X G own cc) {m : Fin 4} (hd : decode cc pc = .ok (.iload_n m, 1)) (hi : (m : Nat) = i) (hL : L[i]? = some (some (vi x))) (k : E X G cells slots n v (pc + 1) L (vi x :: S)) : E X G cells slots n v pc L S := by
  intro h1 h2 h3 H locs ls hw hS hl
  exact lv_iload_n C.1 C.2.1 hd hi (lv_read hl hL) (k h1 h2 (okc (h2 _ (List.mem_of_getElem? hL)) h3) H locs ls hw hS hl)

theorem E.iload (C : Cx X G own cc) (hd : decode cc pc = .ok (.iload i, 2)) (hL : L[i]? = some (some (vi x))) (k : E X G cells slots n v (pc + 2) L (vi x :: S)) : E X G cells slots n v pc L S := by
  intro h1 h2 h3 H locs ls hw hS hl
  exact lv_iload C.1 C.2.1 hd (lv_read hl hL) (k h1 h2 (okc (h2 _ (List.mem_of_getElem? hL)) h3) H locs ls hw hS hl)

theorem E.lload_n (C : Cx X G own cc) {m : Fin 4} (hd : decode cc pc = .ok (.lload_n m, 1)) (hi : (m : Nat) = i) (hL : L[i]? = some (some (vl x))) (k : E X G cells slots n v (pc + 1) L (vl x :: S)) : E X G cells slots n v pc L S := by
  intro h1 h2 h3 H locs ls hw hS hl
  exact lv_lload_n C.1 C.2.1 hd hi (lv_read hl hL) (k h1 h2 (okc (h2 _ (List.mem_of_getElem? hL)) h3) H locs ls hw hS hl)

theorem E.lload (C : Cx X G own cc) (hd : decode cc pc = .ok (.lload i, 2)) (hL : L[i]? = some (some (vl x))) (k : E X G cells slots n v (pc + 2) L (vl x :: S)) : E X G cells slots n v pc L S := by
  intro h1 h2 h3 H locs ls hw hS hl
  exact lv_lload C.1 C.2.1 hd (lv_read hl hL) (k h1 h2 (okc (h2 _ (List.mem_of_getElem? hL)) h3) H locs ls hw hS hl)

theorem E.aload_n (C : Cx X G own cc) {m : Fin 4} (hd : decode cc pc = .ok (.aload_n m, 1)) (hi : (m : Nat) = i) (hL : L[i]? = some (some (vr x))) (k : E X G cells slots n v (pc + 1) L (vr x :: S)) : E X G cells slots n v pc L S := by
  intro h1 h2 h3 H locs ls hw hS hl
  exact lv_aload_n C.1 C.2.1 hd hi (lv_read hl hL) (k h1 h2 (okc trivial h3) H locs ls hw hS hl)

theorem E.aload (C : Cx X G own cc) (hd : decode cc pc = .ok (.aload i, 2)) (hL : L[i]? = some (some (vr x))) (k : E X G cells slots n v (pc + 2) L (vr x :: S)) : E X G cells slots n v pc L S := by
  intro h1 h2 h3 H locs ls hw hS hl
  exact lv_aload C.1 C.2.1 hd (lv_read hl hL) (k h1 h2 (okc trivial h3) H locs ls hw hS hl)

theorem ok_set {L : List (Option AV)} {i : Nat} {a : AV} (h : okv a) (h2 : ∀ b, some b ∈ L → okv b) : ∀ b, some b ∈ L.set i (some a) → okv b := by
  intro b hb
  rcases List.mem_or_eq_of_mem_set hb with hb | hb
  · exact h2 b hb
  · cases hb; exact h
theorem ok_setn {L : List (Option AV)} {i : Nat} (h2 : ∀ b, some b ∈ L → okv b) : ∀ b, some b ∈ L.set i none → okv b := by
  intro b hb
  rcases List.mem_or_eq_of_mem_set hb with hb | hb
  · exact h2 b hb
  · cases hb

theorem E.istore_n (C : Cx X G own cc) {m : Fin 4} (hd : decode cc pc = .ok (.istore_n m, 1)) (hi : (m : Nat) = i) (hn : i < xn X) (hg : noLong L i = true) (k : E X G cells slots n v (pc + 1) (L.set i (some (vi x))) S) : E X G cells slots n v pc L (vi x :: S) := by
  intro h1 h2 h3 H locs ls hw hS hl
  refine lv_istore_n C.1 C.2.1 hd hi hl hn rfl (fun ls2 hl2 => ?_)
  exact k h1 (ok_set (ok_h h3) h2) (ok_t h3) H locs ls2 hw hS (lv_has_sub hl2 (lvl_store hg))

theorem E.istore (C : Cx X G own cc)  (hd : decode cc pc = .ok (.istore i, 2)) (hn : i < xn X) (hg : noLong L i = true) (k : E X G cells slots n v (pc + 2) (L.set i (some (vi x))) S) : E X G cells slots n v pc L (vi x :: S) := by
  intro h1 h2 h3 H locs ls hw hS hl
  refine lv_istore C.1 C.2.1 hd hl hn rfl (fun ls2 hl2 => ?_)
  exact k h1 (ok_set (ok_h h3) h2) (ok_t h3) H locs ls2 hw hS (lv_has_sub hl2 (lvl_store hg))

theorem E.astore_n (C : Cx X G own cc) {m : Fin 4} (hd : decode cc pc = .ok (.astore_n m, 1)) (hi : (m : Nat) = i) (hn : i < xn X) (hg : noLong L i = true) (k : E X G cells slots n v (pc + 1) (L.set i (some (vr x))) S) : E X G cells slots n v pc L (vr x :: S) := by
  intro h1 h2 h3 H locs ls hw hS hl
  refine lv_astore_n C.1 C.2.1 hd hi hl hn rfl (fun ls2 hl2 => ?_)
  exact k h1 (ok_set trivial h2) (ok_t h3) H locs ls2 hw hS (lv_has_sub hl2 (lvl_store hg))

theorem E.astore (C : Cx X G own cc)  (hd : decode cc pc = .ok (.astore i, 2)) (hn : i < xn X) (hg : noLong L i = true) (k : E X G cells slots n v (pc + 2) (L.set i (some (vr x))) S) : E X G cells slots n v pc L (vr x :: S) := by
  intro h1 h2 h3 H locs ls hw hS hl
  refine lv_astore C.1 C.2.1 hd hl hn rfl (fun ls2 hl2 => ?_)
  exact k h1 (ok_set trivial h2) (ok_t h3) H locs ls2 hw hS (lv_has_sub hl2 (lvl_store hg))

theorem E.lstore (C : Cx X G own cc) (hd : decode cc pc = .ok (.lstore i, 2)) (hn : i + 1 < xn X) (hg : noLong L i = true) (k : E X G cells slots n v (pc + 2) ((L.set i (some (vl x))).set (i + 1) none) S) : E X G cells slots n v pc L (vl x :: S) := by
  intro h1 h2 h3 H locs ls hw hS hl
  refine lv_lstore C.1 C.2.1 hd hl hn rfl (fun ls2 hl2 => ?_)
  exact k h1 (ok_setn (ok_set (ok_h h3) h2)) (ok_t h3) H locs ls2 hw hS (lv_has_sub hl2 (lvl_storeL hg))

theorem E.iincW (C : Cx X G own cc) (hd : decode cc pc = .ok (.iinc i y, 3)) (hL : L[i]? = some (some (vi x))) (hn : i < xn X) (hg : noLong L i = true) (k : E X G cells slots n v (pc + 3) (L.set i (some (vi (w32 (x + y))))) S) : E X G cells slots n v pc L S := by
  intro h1 h2 h3 H locs ls hw hS hl
  obtain ⟨q, hq⟩ := List.getElem?_of_mem (lvl_mem (G := G) (i := 0) hL)
  rw [Nat.zero_add] at hq
  refine lv_iinc (v := Int32.ofInt (w32 (x + y))) C.1 C.2.1 hd hl hq (by rw [of_w32, Int32.ofInt_add]) hn rfl (fun ls2 hl2 => ?_)
  exact k h1 (ok_set (w32_in _) h2) h3 H locs ls2 hw hS (lv_has_sub hl2 (lvl_store hg))
theorem E.iinc (C : Cx X G own cc) (hd : decode cc pc = .ok (.iinc i y, 3)) (hL : L[i]? = some (some (vi x))) (hn : i < xn X) (hg : noLong L i = true) (hr : in32 (x + y)) (k : E X G cells slots n v (pc + 3) (L.set i (some (vi (x + y)))) S) : E X G cells slots n v pc L S := by
  refine E.iincW C hd hL hn hg ?_
  rw [w32_id hr]
  exact k
/-- a local that is not wanted any more -/
theorem E.drop (k : E X G cells slots n v pc (L.set i none) S) : E X G cells slots n v pc L S := by
  intro h1 h2 h3 H locs ls hw hS hl
  refine k h1 (ok_setn h2) h3 H locs ls hw hS (lv_has_sub hl (fun q hq => ?_))
  obtain ⟨j, a, e1, e2⟩ := lvl_of hq
  rw [Nat.zero_add] at e1
  subst e1
  by_cases hj : j = i
  · subst hj
    have hl2 : j < (L.set j none).length := (List.getElem?_eq_some_iff.mp e2).1
    rw [List.length_set] at hl2
    rw [List.getElem?_set_self hl2] at e2
    cases e2
  · rw [List.getElem?_set_ne (Ne.symm hj)] at e2
    simpa using lvl_mem (G := G) (i := 0) e2

theorem E.iaddW (C : Cx X G own cc) (hd : decode cc pc = .ok (.iadd, 1)) (k : E X G cells slots n v (pc + 1) L (vi (w32 (x + y)) :: S)) : E X G cells slots n v pc L (vi y :: vi x :: S) := by
  intro h1 h2 h3 H locs ls hw hS hl
  refine lv_iadd C.1 C.2.1 hd ?_
  have k := k h1 h2 (okc (w32_in _) (ok_t (ok_t h3))) H locs ls hw hS hl
  simp only [List.map_cons, conc, of_w32, Int32.ofInt_add] at k
  exact k

theorem E.iadd (C : Cx X G own cc) (hd : decode cc pc = .ok (.iadd, 1)) (hr : in32 (x + y)) (k : E X G cells slots n v (pc + 1) L (vi (x + y) :: S)) : E X G cells slots n v pc L (vi y :: vi x :: S) := by
  refine E.iaddW C hd ?_
  rw [w32_id hr]
  exact k

theorem E.isubW (C : Cx X G own cc) (hd : decode cc pc = .ok (.isub, 1)) (k : E X G cells slots n v (pc + 1) L (vi (w32 (x - y)) :: S)) : E X G cells slots n v pc L (vi y :: vi x :: S) := by
  intro h1 h2 h3 H locs ls hw hS hl
  refine lv_isub C.1 C.2.1 hd ?_
  have k := k h1 h2 (okc (w32_in _) (ok_t (ok_t h3))) H locs ls hw hS hl
  simp only [List.map_cons, conc, of_w32, Int32.ofInt_sub] at k
  exact k

theorem E.isub (C : Cx X G own cc) (hd : decode cc pc = .ok (.isub, 1)) (hr : in32 (x - y)) (k : E X G cells slots n v (pc + 1) L (vi (x - y) :: S)) : E X G cells slots n v pc L (vi y :: vi x :: S) := by
  refine E.isubW C hd ?_
  rw [w32_id hr]
  exact k

theorem E.imulW (C : Cx X G own cc) (hd : decode cc pc = .ok (.imul, 1)) (k : E X G cells slots n v (pc + 1) L (vi (w32 (x * y)) :: S)) : E X G cells slots n v pc L (vi y :: vi x :: S) := by
  intro h1 h2 h3 H locs ls hw hS hl
  refine lv_imul C.1 C.2.1 hd ?_
  have k := k h1 h2 (okc (w32_in _) (ok_t (ok_t h3))) H locs ls hw hS hl
  simp only [List.map_cons, conc, of_w32, Int32.ofInt_mul] at k
  exact k

theorem E.imul (C : Cx X G own cc) (hd : decode cc pc = .ok (.imul, 1)) (hr : in32 (x * y)) (k : E X G cells slots n v (pc + 1) L (vi (x * y) :: S)) : E X G cells slots n v pc L (vi y :: vi x :: S) := by
  refine E.imulW C hd ?_
  rw [w32_id hr]
  exact k

theorem E.idiv (C : Cx X G own cc) (hd : decode cc pc = .ok (.idiv, 1)) (h0 : 0 ≤ x) (hy : 0 < y) (k : E X G cells slots n v (pc + 1) L (vi (x / y) :: S)) : E X G cells slots n v pc L (vi y :: vi x :: S) := by
  intro h1 h2 h3 H locs ls hw hS hl
  have ix : in32 x := ok_h (ok_t h3)
  have iy : in32 y := ok_h h3
  refine lv_idiv C.1 C.2.1 hd (fun q => by have := (z32 iy).mp q; omega) ?_
  rw [div32 h0 hy ix iy]
  have i1 := Int.ediv_nonneg h0 (Int.le_of_lt hy)
  have i2 := Int.ediv_le_self y h0
  exact k h1 h2 (okc (by show in32 (x / y); omega) (ok_t (ok_t h3))) H locs ls hw hS hl

theorem E.irem (C : Cx X G own cc) (hd : decode cc pc = .ok (.irem, 1)) (h0 : 0 ≤ x) (hy : 0 < y) (k : E X G cells slots n v (pc + 1) L (vi (x % y) :: S)) : E X G cells slots n v pc L (vi y :: vi x :: S) := by
  intro h1 h2 h3 H locs ls hw hS hl
  have ix : in32 x := ok_h (ok_t h3)
  have iy : in32 y := ok_h h3
  refine lv_irem C.1 C.2.1 hd (fun q => by have := (z32 iy).mp q; omega) ?_
  rw [rem32 h0 hy ix iy]
  have i1 := Int.emod_nonneg x (by omega : y ≠ 0)
  have i2 := Int.emod_lt_of_pos x hy
  exact k h1 h2 (okc (by show in32 (x % y); omega) (ok_t (ok_t h3))) H locs ls hw hS hl

theorem E.iand (C : Cx X G own cc) (hd : decode cc pc = .ok (.iand, 1)) (k : E X G cells slots n v (pc + 1) L (vi (jand x y) :: S)) : E X G cells slots n v pc L (vi y :: vi x :: S) := by
  intro h1 h2 h3 H locs ls hw hS hl
  refine lv_iand C.1 C.2.1 hd ?_
  have k := k h1 h2 (okc (toInt_in _) (ok_t (ok_t h3))) H locs ls hw hS hl
  simp only [List.map_cons, conc, jand, Int32.ofInt_toInt] at k
  exact k

theorem E.ior (C : Cx X G own cc) (hd : decode cc pc = .ok (.ior, 1)) (k : E X G cells slots n v (pc + 1) L (vi (jor x y) :: S)) : E X G cells slots n v pc L (vi y :: vi x :: S) := by
  intro h1 h2 h3 H locs ls hw hS hl
  refine lv_ior C.1 C.2.1 hd ?_
  have k := k h1 h2 (okc (toInt_in _) (ok_t (ok_t h3))) H locs ls hw hS hl
  simp only [List.map_cons, conc, jor, Int32.ofInt_toInt] at k
  exact k

theorem E.ixor (C : Cx X G own cc) (hd : decode cc pc = .ok (.ixor, 1)) (k : E X G cells slots n v (pc + 1) L (vi (jxor x y) :: S)) : E X G cells slots n v pc L (vi y :: vi x :: S) := by
  intro h1 h2 h3 H locs ls hw hS hl
  refine lv_ixor C.1 C.2.1 hd ?_
  have k := k h1 h2 (okc (toInt_in _) (ok_t (ok_t h3))) H locs ls hw hS hl
  simp only [List.map_cons, conc, jxor, Int32.ofInt_toInt] at k
  exact k

theorem E.ishl (C : Cx X G own cc) (hd : decode cc pc = .ok (.ishl, 1)) (k : E X G cells slots n v (pc + 1) L (vi (jshl x y) :: S)) : E X G cells slots n v pc L (vi y :: vi x :: S) := by
  intro h1 h2 h3 H locs ls hw hS hl
  refine lv_ishl C.1 C.2.1 hd ?_
  have k := k h1 h2 (okc (toInt_in _) (ok_t (ok_t h3))) H locs ls hw hS hl
  simp only [List.map_cons, conc, jshl, Int32.ofInt_toInt] at k
  exact k

theorem E.ishr (C : Cx X G own cc) (hd : decode cc pc = .ok (.ishr, 1)) (k : E X G cells slots n v (pc + 1) L (vi (jshr x y) :: S)) : E X G cells slots n v pc L (vi y :: vi x :: S) := by
  intro h1 h2 h3 H locs ls hw hS hl
  refine lv_ishr C.1 C.2.1 hd ?_
  have k := k h1 h2 (okc (toInt_in _) (ok_t (ok_t h3))) H locs ls hw hS hl
  simp only [List.map_cons, conc, jshr, Int32.ofInt_toInt] at k
  exact k

theorem E.iushr (C : Cx X G own cc) (hd : decode cc pc = .ok (.iushr, 1)) (k : E X G cells slots n v (pc + 1) L (vi (jushr x y) :: S)) : E X G cells slots n v pc L (vi y :: vi x :: S) := by
  intro h1 h2 h3 H locs ls hw hS hl
  refine lv_iushr C.1 C.2.1 hd rfl ?_
  have k := k h1 h2 (okc (toInt_in _) (ok_t (ok_t h3))) H locs ls hw hS hl
  simp only [List.map_cons, conc, jushr, Int32.ofInt_toInt] at k
  exact k

theorem E.i2b (C : Cx X G own cc) (hd : decode cc pc = .ok (.i2b, 1)) (k : E X G cells slots n v (pc + 1) L (vi (ji2b x) :: S)) : E X G cells slots n v pc L (vi x :: S) := by
  intro h1 h2 h3 H locs ls hw hS hl
  refine lv_i2b C.1 C.2.1 hd rfl ?_
  have k := k h1 h2 (okc (toInt_in _) (ok_t h3)) H locs ls hw hS hl
  simp only [List.map_cons, conc, ji2b, Int32.ofInt_toInt] at k
  exact k

theorem E.i2s (C : Cx X G own cc) (hd : decode cc pc = .ok (.i2s, 1)) (k : E X G cells slots n v (pc + 1) L (vi (ji2s x) :: S)) : E X G cells slots n v pc L (vi x :: S) := by
  intro h1 h2 h3 H locs ls hw hS hl
  refine lv_i2s C.1 C.2.1 hd rfl ?_
  have k := k h1 h2 (okc (toInt_in _) (ok_t h3)) H locs ls hw hS hl
  simp only [List.map_cons, conc, ji2s, Int32.ofInt_toInt] at k
  exact k

theorem E.i2l (C : Cx X G own cc) (hd : decode cc pc = .ok (.i2l, 1)) (k : E X G cells slots n v (pc + 1) L (vl x :: S)) : E X G cells slots n v pc L (vi x :: S) := by
  intro h1 h2 h3 H locs ls hw hS hl
  have ix : in32 x := ok_h h3
  exact lv_i2l C.1 C.2.1 hd (l32 ix) (k h1 h2 (okc (by show in64 x; omega) (ok_t h3)) H locs ls hw hS hl)

theorem E.l2i (C : Cx X G own cc) (hd : decode cc pc = .ok (.l2i, 1)) (k : E X G cells slots n v (pc + 1) L (vi (w32 x) :: S)) : E X G cells slots n v pc L (vl x :: S) := by
  intro h1 h2 h3 H locs ls hw hS hl
  have ix : in64 x := ok_h h3
  refine lv_l2i C.1 C.2.1 hd ?_ (k h1 h2 (okc (w32_in x) (ok_t h3)) H locs ls hw hS hl)
  apply Int32.toInt_inj.mp
  rw [Int64.toInt_toInt32, o64 ix, of_w32, Int32.toInt_ofInt]

theorem E.laddW (C : Cx X G own cc) (hd : decode cc pc = .ok (.ladd, 1)) (k : E X G cells slots n v (pc + 1) L (vl (w64 (x + y)) :: S)) : E X G cells slots n v pc L (vl y :: vl x :: S) := by
  intro h1 h2 h3 H locs ls hw hS hl
  refine lv_ladd C.1 C.2.1 hd ?_
  have k := k h1 h2 (okc (w64_in _) (ok_t (ok_t h3))) H locs ls hw hS hl
  simp only [List.map_cons, conc, of_w64, Int64.ofInt_add] at k
  exact k

theorem E.ladd (C : Cx X G own cc) (hd : decode cc pc = .ok (.ladd, 1)) (hr : in64 (x + y)) (k : E X G cells slots n v (pc + 1) L (vl (x + y) :: S)) : E X G cells slots n v pc L (vl y :: vl x :: S) := by
  refine E.laddW C hd ?_
  rw [w64_id hr]
  exact k

theorem E.ldiv (C : Cx X G own cc) (hd : decode cc pc = .ok (.ldiv, 1)) (h0 : 0 ≤ x) (hy : 0 < y) (k : E X G cells slots n v (pc + 1) L (vl (x / y) :: S)) : E X G cells slots n v pc L (vl y :: vl x :: S) := by
  intro h1 h2 h3 H locs ls hw hS hl
  have ix : in64 x := ok_h (ok_t h3)
  have iy : in64 y := ok_h h3
  refine lv_ldiv C.1 C.2.1 hd (fun q => by have := (z64 iy).mp q; omega) ?_
  rw [div64 h0 hy ix iy]
  have i1 := Int.ediv_nonneg h0 (Int.le_of_lt hy)
  have i2 := Int.ediv_le_self y h0
  exact k h1 h2 (okc (by show in64 (x / y); omega) (ok_t (ok_t h3))) H locs ls hw hS hl

theorem E.lrem (C : Cx X G own cc) (hd : decode cc pc = .ok (.lrem, 1)) (h0 : 0 ≤ x) (hy : 0 < y) (k : E X G cells slots n v (pc + 1) L (vl (x % y) :: S)) : E X G cells slots n v pc L (vl y :: vl x :: S) := by
  intro h1 h2 h3 H locs ls hw hS hl
  have ix : in64 x := ok_h (ok_t h3)
  have iy : in64 y := ok_h h3
  refine lv_lrem C.1 C.2.1 hd (fun q => by have := (z64 iy).mp q; omega) ?_
  rw [rem64 h0 hy ix iy]
  have i1 := Int.emod_nonneg x (by omega : y ≠ 0)
  have i2 := Int.emod_lt_of_pos x hy
  exact k h1 h2 (okc (by show in64 (x % y); omega) (ok_t (ok_t h3))) H locs ls hw hS hl

theorem E.land (C : Cx X G own cc) (hd : decode cc pc = .ok (.land, 1)) (k : E X G cells slots n v (pc + 1) L (vl (jland x y) :: S)) : E X G cells slots n v pc L (vl y :: vl x :: S) := by
  intro h1 h2 h3 H locs ls hw hS hl
  refine lv_land C.1 C.2.1 hd ?_
  have k := k h1 h2 (okc (toInt_in64 _) (ok_t (ok_t h3))) H locs ls hw hS hl
  simp only [List.map_cons, conc, jland, Int64.ofInt_toInt] at k
  exact k

theorem E.lor (C : Cx X G own cc) (hd : decode cc pc = .ok (.lor, 1)) (k : E X G cells slots n v (pc + 1) L (vl (jlor x y) :: S)) : E X G cells slots n v pc L (vl y :: vl x :: S) := by
  intro h1 h2 h3 H locs ls hw hS hl
  refine lv_lor C.1 C.2.1 hd ?_
  have k := k h1 h2 (okc (toInt_in64 _) (ok_t (ok_t h3))) H locs ls hw hS hl
  simp only [List.map_cons, conc, jlor, Int64.ofInt_toInt] at k
  exact k

theorem E.lshl (C : Cx X G own cc) (hd : decode cc pc = .ok (.lshl, 1)) (k : E X G cells slots n v (pc + 1) L (vl (jlshl x y) :: S)) : E X G cells slots n v pc L (vi y :: vl x :: S) := by
  intro h1 h2 h3 H locs ls hw hS hl
  refine lv_lshl C.1 C.2.1 hd rfl ?_
  have k := k h1 h2 (okc (toInt_in64 _) (ok_t (ok_t h3))) H locs ls hw hS hl
  simp only [List.map_cons, conc, jlshl, Int64.ofInt_toInt] at k
  exact k

theorem E.lshr (C : Cx X G own cc) (hd : decode cc pc = .ok (.lshr, 1)) (k : E X G cells slots n v (pc + 1) L (vl (jlshr x y) :: S)) : E X G cells slots n v pc L (vi y :: vl x :: S) := by
  intro h1 h2 h3 H locs ls hw hS hl
  refine lv_lshr C.1 C.2.1 hd rfl ?_
  have k := k h1 h2 (okc (toInt_in64 _) (ok_t (ok_t h3))) H locs ls hw hS hl
  simp only [List.map_cons, conc, jlshr, Int64.ofInt_toInt] at k
  exact k

theorem E.lcmp (C : Cx X G own cc) (hd : decode cc pc = .ok (.lcmp, 1)) (k : E X G cells slots n v (pc + 1) L (vi (lcmpv x y) :: S)) : E X G cells slots n v pc L (vl y :: vl x :: S) := by
  intro h1 h2 h3 H locs ls hw hS hl
  have ix : in64 x := ok_h (ok_t h3)
  have iy : in64 y := ok_h h3
  refine W.lcmp C.1 C.2.1 hd ?_
  rw [lgcmp ix iy]
  exact k h1 h2 (okc (lcmpv_in x y) (ok_t (ok_t h3))) H locs ls hw hS hl

theorem cat1 {G : GT} {a : AV} (h : ∀ x, a ≠ vl x) : (conc G a).category = 1 := by
  rcases lv_cat (conc G a) with q | q
  · exact q
  · obtain ⟨x, hx⟩ := conc_cat.mp q
    exact absurd hx (h x)

theorem E.dupI (C : Cx X G own cc) (hd : decode cc pc = .ok (.dup, 1)) (k : E X G cells slots n v (pc + 1) L (vi x :: vi x :: S)) : E X G cells slots n v pc L (vi x :: S) := by
  intro h1 h2 h3 H locs ls hw hS hl
  refine lv_dup C.1 C.2.1 hd rfl ?_
  exact k h1 h2 (okc (ok_h h3) h3) H locs ls hw hS hl

theorem E.popI (C : Cx X G own cc) (hd : decode cc pc = .ok (.pop, 1)) (k : E X G cells slots n v (pc + 1) L S) : E X G cells slots n v pc L (vi x :: S) := by
  intro h1 h2 h3 H locs ls hw hS hl
  refine lv_pop C.1 C.2.1 hd rfl ?_
  exact k h1 h2 (ok_t h3) H locs ls hw hS hl

theorem E.dupR (C : Cx X G own cc) (hd : decode cc pc = .ok (.dup, 1)) (k : E X G cells slots n v (pc + 1) L (vr x :: vr x :: S)) : E X G cells slots n v pc L (vr x :: S) := by
  intro h1 h2 h3 H locs ls hw hS hl
  refine lv_dup C.1 C.2.1 hd rfl ?_
  exact k h1 h2 (okc (ok_h h3) h3) H locs ls hw hS hl

theorem E.popR (C : Cx X G own cc) (hd : decode cc pc = .ok (.pop, 1)) (k : E X G cells slots n v (pc + 1) L S) : E X G cells slots n v pc L (vr x :: S) := by
  intro h1 h2 h3 H locs ls hw hS hl
  refine lv_pop C.1 C.2.1 hd rfl ?_
  exact k h1 h2 (ok_t h3) H locs ls hw hS hl

theorem E.dup2 (C : Cx X G own cc) (hd : decode cc pc = .ok (.dup2, 1)) (k : E X G cells slots n v (pc + 1) L (vi y :: vr x :: vi y :: vr x :: S)) : E X G cells slots n v pc L (vi y :: vr x :: S) := by
  intro h1 h2 h3 H locs ls hw hS hl
  refine lv_dup2_11 C.1 C.2.1 hd rfl rfl ?_
  exact k h1 h2 (okc (ok_h h3) (okc trivial h3)) H locs ls hw hS hl

theorem E.goto (C : Cx X G own cc) (hd : decode cc pc = .ok (.goto off, 3)) (ht : (pc : Int) + off = (tgt : Int)) (k : E X G cells slots n v tgt L S) : E X G cells slots n v pc L S := by
  intro h1 h2 h3 H locs ls hw hS hl
  exact lv_goto C.1 C.2.1 hd ht (k h1 h2 h3 H locs ls hw hS hl)

theorem E.if_eq (C : Cx X G own cc) (hd : decode cc pc = .ok (.ifCond .eq off, 3)) (ht : (pc : Int) + off = (tgt : Int)) (k1 : x = 0 → E X G cells slots n v tgt L S) (k2 : ¬ x = 0 → E X G cells slots n v (pc + 3) L S) : E X G cells slots n v pc L (vi x :: S) := by
  intro h1 h2 h3 H locs ls hw hS hl
  have ix : in32 x := ok_h h3
  exact lv_if_eq C.1 C.2.1 hd ht (fun q => k1 ((z32 ix).mp q) h1 h2 (ok_t h3) H locs ls hw hS hl) (fun q => k2 (fun z => q ((z32 ix).mpr z)) h1 h2 (ok_t h3) H locs ls hw hS hl)

theorem E.if_ne (C : Cx X G own cc) (hd : decode cc pc = .ok (.ifCond .ne off, 3)) (ht : (pc : Int) + off = (tgt : Int)) (k1 : ¬ x = 0 → E X G cells slots n v tgt L S) (k2 : x = 0 → E X G cells slots n v (pc + 3) L S) : E X G cells slots n v pc L (vi x :: S) := by
  intro h1 h2 h3 H locs ls hw hS hl
  have ix : in32 x := ok_h h3
  exact lv_if_ne C.1 C.2.1 hd ht (fun q => k1 (fun z => q ((z32 ix).mpr z)) h1 h2 (ok_t h3) H locs ls hw hS hl) (fun q => k2 ((z32 ix).mp q) h1 h2 (ok_t h3) H locs ls hw hS hl)

theorem E.if_lt (C : Cx X G own cc) (hd : decode cc pc = .ok (.ifCond .lt off, 3)) (ht : (pc : Int) + off = (tgt : Int)) (k1 : x < 0 → E X G cells slots n v tgt L S) (k2 : ¬ x < 0 → E X G cells slots n v (pc + 3) L S) : E X G cells slots n v pc L (vi x :: S) := by
  intro h1 h2 h3 H locs ls hw hS hl
  have ix : in32 x := ok_h h3
  exact lv_if_lt C.1 C.2.1 hd ht (fun q => k1 ((zlt ix).mp q) h1 h2 (ok_t h3) H locs ls hw hS hl) (fun q => k2 (fun z => q ((zlt ix).mpr z)) h1 h2 (ok_t h3) H locs ls hw hS hl)

theorem E.if_ge (C : Cx X G own cc) (hd : decode cc pc = .ok (.ifCond .ge off, 3)) (ht : (pc : Int) + off = (tgt : Int)) (k1 : 0 ≤ x → E X G cells slots n v tgt L S) (k2 : ¬ 0 ≤ x → E X G cells slots n v (pc + 3) L S) : E X G cells slots n v pc L (vi x :: S) := by
  intro h1 h2 h3 H locs ls hw hS hl
  have ix : in32 x := ok_h h3
  exact lv_if_ge C.1 C.2.1 hd ht (fun q => k1 ((zge ix).mp q) h1 h2 (ok_t h3) H locs ls hw hS hl) (fun q => k2 (fun z => q ((zge ix).mpr z)) h1 h2 (ok_t h3) H locs ls hw hS hl)

theorem E.if_gt (C : Cx X G own cc) (hd : decode cc pc = .ok (.ifCond .gt off, 3)) (ht : (pc : Int) + off = (tgt : Int)) (k1 : 0 < x → E X G cells slots n v tgt L S) (k2 : ¬ 0 < x → E X G cells slots n v (pc + 3) L S) : E X G cells slots n v pc L (vi x :: S) := by
  intro h1 h2 h3 H locs ls hw hS hl
  have ix : in32 x := ok_h h3
  exact lv_if_gt C.1 C.2.1 hd ht (fun q => k1 ((zgt ix).mp q) h1 h2 (ok_t h3) H locs ls hw hS hl) (fun q => k2 (fun z => q ((zgt ix).mpr z)) h1 h2 (ok_t h3) H locs ls hw hS hl)

theorem E.if_le (C : Cx X G own cc) (hd : decode cc pc = .ok (.ifCond .le off, 3)) (ht : (pc : Int) + off = (tgt : Int)) (k1 : x ≤ 0 → E X G cells slots n v tgt L S) (k2 : ¬ x ≤ 0 → E X G cells slots n v (pc + 3) L S) : E X G cells slots n v pc L (vi x :: S) := by
  intro h1 h2 h3 H locs ls hw hS hl
  have ix : in32 x := ok_h h3
  exact lv_if_le C.1 C.2.1 hd ht (fun q => k1 ((zle ix).mp q) h1 h2 (ok_t h3) H locs ls hw hS hl) (fun q => k2 (fun z => q ((zle ix).mpr z)) h1 h2 (ok_t h3) H locs ls hw hS hl)

theorem E.icmp_eq (C : Cx X G own cc) (hd : decode cc pc = .ok (.if_icmp .eq off, 3)) (ht : (pc : Int) + off = (tgt : Int)) (k1 : x = y → E X G cells slots n v tgt L S) (k2 : ¬ x = y → E X G cells slots n v (pc + 3) L S) : E X G cells slots n v pc L (vi y :: vi x :: S) := by
  intro h1 h2 h3 H locs ls hw hS hl
  have ix : in32 x := ok_h (ok_t h3)
  have iy : in32 y := ok_h h3
  exact lv_icmp_eq C.1 C.2.1 hd ht (fun q => k1 ((eq32 ix iy).mp q) h1 h2 (ok_t (ok_t h3)) H locs ls hw hS hl) (fun q => k2 (fun z => q ((eq32 ix iy).mpr z)) h1 h2 (ok_t (ok_t h3)) H locs ls hw hS hl)

theorem E.icmp_ne (C : Cx X G own cc) (hd : decode cc pc = .ok (.if_icmp .ne off, 3)) (ht : (pc : Int) + off = (tgt : Int)) (k1 : ¬ x = y → E X G cells slots n v tgt L S) (k2 : x = y → E X G cells slots n v (pc + 3) L S) : E X G cells slots n v pc L (vi y :: vi x :: S) := by
  intro h1 h2 h3 H locs ls hw hS hl
  have ix : in32 x := ok_h (ok_t h3)
  have iy : in32 y := ok_h h3
  exact lv_icmp_ne C.1 C.2.1 hd ht (fun q => k1 (fun z => q ((eq32 ix iy).mpr z)) h1 h2 (ok_t (ok_t h3)) H locs ls hw hS hl) (fun q => k2 ((eq32 ix iy).mp q) h1 h2 (ok_t (ok_t h3)) H locs ls hw hS hl)

theorem E.icmp_lt (C : Cx X G own cc) (hd : decode cc pc = .ok (.if_icmp .lt off, 3)) (ht : (pc : Int) + off = (tgt : Int)) (k1 : x < y → E X G cells slots n v tgt L S) (k2 : ¬ x < y → E X G cells slots n v (pc + 3) L S) : E X G cells slots n v pc L (vi y :: vi x :: S) := by
  intro h1 h2 h3 H locs ls hw hS hl
  have ix : in32 x := ok_h (ok_t h3)
  have iy : in32 y := ok_h h3
  exact lv_icmp_lt C.1 C.2.1 hd ht (fun q => k1 ((lt32 ix iy).mp q) h1 h2 (ok_t (ok_t h3)) H locs ls hw hS hl) (fun q => k2 (fun z => q ((lt32 ix iy).mpr z)) h1 h2 (ok_t (ok_t h3)) H locs ls hw hS hl)

theorem E.icmp_ge (C : Cx X G own cc) (hd : decode cc pc = .ok (.if_icmp .ge off, 3)) (ht : (pc : Int) + off = (tgt : Int)) (k1 : y ≤ x → E X G cells slots n v tgt L S) (k2 : ¬ y ≤ x → E X G cells slots n v (pc + 3) L S) : E X G cells slots n v pc L (vi y :: vi x :: S) := by
  intro h1 h2 h3 H locs ls hw hS hl
  have ix : in32 x := ok_h (ok_t h3)
  have iy : in32 y := ok_h h3
  exact lv_icmp_ge C.1 C.2.1 hd ht (fun q => k1 ((le32 iy ix).mp q) h1 h2 (ok_t (ok_t h3)) H locs ls hw hS hl) (fun q => k2 (fun z => q ((le32 iy ix).mpr z)) h1 h2 (ok_t (ok_t h3)) H locs ls hw hS hl)

theorem E.icmp_gt (C : Cx X G own cc) (hd : decode cc pc = .ok (.if_icmp .gt off, 3)) (ht : (pc : Int) + off = (tgt : Int)) (k1 : y < x → E X G cells slots n v tgt L S) (k2 : ¬ y < x → E X G cells slots n v (pc + 3) L S) : E X G cells slots n v pc L (vi y :: vi x :: S) := by
  intro h1 h2 h3 H locs ls hw hS hl
  have ix : in32 x := ok_h (ok_t h3)
  have iy : in32 y := ok_h h3
  exact lv_icmp_gt C.1 C.2.1 hd ht (fun q => k1 ((lt32 iy ix).mp q) h1 h2 (ok_t (ok_t h3)) H locs ls hw hS hl) (fun q => k2 (fun z => q ((lt32 iy ix).mpr z)) h1 h2 (ok_t (ok_t h3)) H locs ls hw hS hl)

theorem E.icmp_le (C : Cx X G own cc) (hd : decode cc pc = .ok (.if_icmp .le off, 3)) (ht : (pc : Int) + off = (tgt : Int)) (k1 : x ≤ y → E X G cells slots n v tgt L S) (k2 : ¬ x ≤ y → E X G cells slots n v (pc + 3) L S) : E X G cells slots n v pc L (vi y :: vi x :: S) := by
  intro h1 h2 h3 H locs ls hw hS hl
  have ix : in32 x := ok_h (ok_t h3)
  have iy : in32 y := ok_h h3
  exact lv_icmp_le C.1 C.2.1 hd ht (fun q => k1 ((le32 ix iy).mp q) h1 h2 (ok_t (ok_t h3)) H locs ls hw hS hl) (fun q => k2 (fun z => q ((le32 ix iy).mpr z)) h1 h2 (ok_t (ok_t h3)) H locs ls hw hS hl)

theorem E.table (C : Cx X G own cc) {dflt lo hi : Int} {offs : Array Int} {len : Nat} (hd : decode cc pc = .ok (.tableswitch dflt lo hi offs, len)) (tg : Int → Nat)
    (h : ∀ j : Int, lo ≤ j → j ≤ hi → ∃ off, offs[(j - lo).toNat]? = some off ∧ (pc : Int) + off = (tg j : Int)) (ht : (pc : Int) + dflt = (tgt : Int))
    (k1 : lo ≤ x → x ≤ hi → E X G cells slots n v (tg x) L S) (k2 : x < lo ∨ hi < x → E X G cells slots n v tgt L S) : E X G cells slots n v pc L (vi x :: S) := by
  intro h1 h2 h3 H locs ls hw hS hl
  have ix : in32 x := ok_h h3
  by_cases hx : x < lo ∨ hi < x
  · exact lv_tableOut C.1 C.2.1 hd (by rw [o32 ix]; exact hx) ht (k2 hx h1 h2 (ok_t h3) H locs ls hw hS hl)
  · obtain ⟨off, e1, e2⟩ := h x (by omega) (by omega)
    exact lv_tableIn C.1 C.2.1 hd (by rw [o32 ix]; omega) (by rw [o32 ix]; omega) (by rw [o32 ix]; exact e1) e2 (k1 (by omega) (by omega) h1 h2 (ok_t h3) H locs ls hw hS hl)
theorem E.lookup (C : Cx X G own cc) {dflt : Int} {ps : Array (Int × Int)} {len : Nat} (hd : decode cc pc = .ok (.lookupswitch dflt ps, len)) (hp : (ps.toList.zip (ps.toList.drop 1)).all (fun (a, next) => a.1 < next.1) = true) (ho : Op.lookupswitch.offset ps.toList dflt x = off) (ht : (pc : Int) + off = (tgt : Int)) (k : E X G cells slots n v tgt L S) : E X G cells slots n v pc L (vi x :: S) := by
  intro h1 h2 h3 H locs ls hw hS hl
  have ix : in32 x := ok_h h3
  exact lv_lookup C.1 C.2.1 hd hp (by rw [o32 ix]; exact ho) ht (k h1 h2 (ok_t h3) H locs ls hw hS hl)
end INS
end
section
-- fields and arrays
section HEAP
variable {X : XT} {G : GT} {own : String} {cc : ByteArray} {cells slots n : Nat} {v : VT} {pc tgt : Nat} {L : List (Option AV)} {S : List AV} {x r i : Int} {index ci k : Nat}
theorem cellE_obj {G : GT} {v : VT} {r : Int} {ci : Nat} (h : kd r = ci) (hc : ci < 10) : cellE G v r = .inr (ci, ofields G ci (v r)) := by
  unfold cellE
  rw [h, if_pos hc]
theorem cellE_arr {G : GT} {v : VT} {r : Int} {t : Nat} (h : kd r = 10 + t) (ht : t < 3) : cellE G v r = .inl (G.2.2.2.1 t, ln r, .inl (fun j => Int32.ofInt (v r (j : Int)))) := by
  unfold cellE acont
  rw [h, if_neg (by omega), show 10 + t - 10 = t by omega, if_pos ht]
theorem cellE_arq {G : GT} {v : VT} {r : Int} {t : Nat} (h : kd r = 10 + t) (ht : 3 ≤ t) : cellE G v r = .inl (G.2.2.2.1 t, ln r, .inr (.inr (.inr (.inr (fun j => rfo G (v r (j : Int))))))) := by
  unfold cellE acont
  rw [h, if_neg (by omega), show 10 + t - 10 = t by omega, if_neg (by omega)]
theorem kd_pos {r : Int} {k : Nat} (h : kd r = k) (hk : k < 99) : 0 < r ∧ r ≤ 137 := kd_bound (by rw [h]; exact hk)
/-- a field, as the tables link it -/
def FA (own : String) (index ci k : Nat) : Prop := ∃ (Cn : String) (T : u_T) (N : Nat), (∀ w ∈ u_ws Cn T N, w ∈ lw_good) ∧ vwCl[ci]? = some (Cn, T, N) ∧ ci < 10 ∧ k < N ∧ k < nfl ci ∧
  (Cond.fieldLink own index (T k).1 (T k).2.1 (T k).2.2.1 ∈ lw_good ∨ ∃ host, Cond.fieldLinkNest own index (T k).1 (T k).2.1 (T k).2.2.1 host ∈ lw_nest)
theorem E.get0 (C : Cx X G own cc) (hF : FA own index ci k) (hd : decode cc pc = .ok (.getfield index, 3)) (hs : kd r = ci) (hr : r ≤ (nc n : Int)) {a : AV} (ha : fldv G (isR ci k) (v r (k : Int)) = conc G a) (hok : inv n v → okv a)
    (kk : E X G cells slots n v (pc + 3) L (a :: S)) : E X G cells slots n v pc L (vr r :: S) := by
  intro h1 h2 h3 H locs ls hw hS hl
  obtain ⟨Cn, T, N, hin, hc, hci, hk, hnk, hlink⟩ := hF
  have hp := kd_pos hs (by omega)
  have hat := wl_at (G := G) (n := nc n) (v := v) hp.1 hr
  rw [cellE_obj hs hci] at hat
  have kk := kk h1 h2 (okc (hok h1) (ok_t h3)) H locs ls hw hS hl
  rcases hlink with hlink | ⟨host, hlink⟩
  · exact va_get C.1 C.2.1 C.2.2.2.2.1 hin C.2.2.2.1 C.2.2.2.2.2.1 hw.2.1 _ hat hc k hk (C.2.2.2.2.1 _ hlink) (fun x h => h) ((ofields_at _ _ _ hnk).trans (congrArg some ha)) hd kk
  · exact va_getN C.1 C.2.1 C.2.2.2.2.1 hin C.2.2.2.1 C.2.2.2.2.2.1 hw.2.1 _ hat hc k hk (va_Nw.use rfl (C.2.2.2.2.2.2.2.2.1 _ hlink)) (fun x h => h) ((ofields_at _ _ _ hnk).trans (congrArg some ha)) hd kk
theorem E.getI (C : Cx X G own cc) (hF : FA own index ci k) (hI : isR ci k = false) (hd : decode cc pc = .ok (.getfield index, 3)) (hs : kd r = ci) (hr : r ≤ (nc n : Int)) (hv : v r (k : Int) = x)
    (kk : E X G cells slots n v (pc + 3) L (vi x :: S)) : E X G cells slots n v pc L (vr r :: S) :=
  E.get0 C hF hd hs hr (a := vi x) (by rw [hI, hv]; rfl) (fun h => by rw [← hv]; exact h.1 _ _) kk
theorem E.getR (C : Cx X G own cc) (hF : FA own index ci k) (hI : isR ci k = true) (hd : decode cc pc = .ok (.getfield index, 3)) (hs : kd r = ci) (hr : r ≤ (nc n : Int)) (hv : v r (k : Int) = x) (hx : 0 < x)
    (kk : E X G cells slots n v (pc + 3) L (vr x :: S)) : E X G cells slots n v pc L (vr r :: S) :=
  E.get0 C hF hd hs hr (a := vr x) (by rw [hI, hv]; show (if x = 0 then Value.null else .ref (adr G x)) = _; rw [if_neg (by omega)]; rfl) (fun _ => trivial) kk
theorem E.rngi (k : inv n v → E X G cells slots n v pc L S) : E X G cells slots n v pc L S := fun h1 h2 h3 => k h1 h1 h2 h3
theorem wld_old {G : GT} {H0 H H1 : Heap} {locs locs1 : List Loc} (hg : G.1 < H0.size) (h : va_S (Afr G) H0 H locs) (h1 : va_S (Afr G) H0 H1 locs1) : ∀ q : Nat, q ≤ G.1 → H1[q]? = H[q]? := fun q hq =>
  (h1.2.1 q (by omega) (by show ¬ G.1 < q; omega)).trans (h.2.1 q (by omega) (by show ¬ G.1 < q; omega)).symm
theorem adr_Afr {G : GT} {r : Int} (h : 0 < r) : Afr G (adr G r) := by
  show G.1 < adr G r
  unfold adr
  rw [if_pos h]
  omega
theorem wld_set {G : GT} {n : Nat} {v : VT} {H H1 : Heap} {H0 : Heap} {locs locs1 : List Loc} {r i x : Int} (h1 : 0 < r) (hr : r ≤ (nc n : Int)) (hw : wld G n v H) (hg : G.1 < H0.size) (hS : va_S (Afr G) H0 H locs) (hS1 : va_S (Afr G) H0 H1 locs1)
    (z : H1.size = H.size) (hat : va_at G.2.2.1 vwCl (adr G r, cellE G (upd2 v r i x) r) H1) (oq : ∀ q : Nat, q ≠ adr G r → H1[q]? = H[q]?) : wld G n (upd2 v r i x) H1 := by
  refine ⟨z.trans hw.1, ?_, fun q hq => (wld_old hg hS hS1 q hq).trans (hw.2.2 q hq)⟩
  have hP := hw.2.1.set wl_D (wl_at (G := G) (n := nc n) (v := v) h1 hr) hat oq
  rwa [wl_set h1 hr] at hP
/-- a field that is written -/
def FP (own : String) (index ci k : Nat) (ty : FieldType) (fin : Bool) : Prop := ∃ (Cn : String) (T : u_T) (N : Nat) (ty0 : Nat → FieldType), (∀ w ∈ u_ws Cn T N, w ∈ lw_good) ∧ vwCl[ci]? = some (Cn, T, N) ∧ ci < 10 ∧ k < N ∧ k < nfl ci ∧
  (Cond.fieldLink own index (T k).1 (T k).2.1 (T k).2.2.1 ∈ lw_good ∨ (fin = false ∧ ∃ host, Cond.fieldLinkNest own index (T k).1 (T k).2.1 (T k).2.2.1 host ∈ lw_nest)) ∧
  (∀ k, k < N → parseFieldDescriptor (T k).2.2.1 = some (ty0 k)) ∧ (∀ a, a < N → ∀ b, b < N → a ≠ b → (T a).2.1 ≠ (T b).2.1) ∧ (T k).2.2.2 = fin ∧ parseFieldDescriptor (T k).2.2.1 = some ty ∧ (fin = true → (T k).1 = own)
theorem E.put0 (C : Cx X G own cc) {ty : FieldType} {fin : Bool} (hF : FP own index ci k ty fin) (hi : fin = true → (xme X).name = "<init>") (hd : decode cc pc = .ok (.putfield index, 3)) (hs : kd r = ci) (hr : r ≤ (nc n : Int)) {a : AV} (ha : conc G a = fldv G (isR ci k) x) (hn : narrow ty (conc G a) = conc G a) (hfit : fits ty (conc G a) = true) (hx : okv a → in32 x) (hnr : n = 1000 → isR ci k = false)
    (kk : E X G cells slots n (upd2 v r (k : Int) x) (pc + 3) L S) : E X G cells slots n v pc L (a :: vr r :: S) := by
  intro h1 h2 h3 H locs ls hw hS hl
  obtain ⟨Cn, T, N, ty0, hin, hc, hci, hk, hnk, hlink, hty, hnm, hfin, hpd, hown⟩ := hF
  have hp := kd_pos hs (by omega)
  have hat := wl_at (G := G) (n := nc n) (v := v) hp.1 hr
  rw [cellE_obj hs hci] at hat
  have hts := C.2.2.2.2.1
  have hK := C.2.2.2.2.2.1
  have hP := hw.2.1
  have hD : va_D (Afr G) (wl G (nc n) v) := wl_D
  have hap := va_apart (own := own) hts hin ty0 hty hnm hK hc
  obtain ⟨r', e1, cell, q1, q2, q3, q4⟩ := hP _ _ hat
  have hr' : r' = (Cn, T, N) := Option.some.inj (e1.symm.trans hc)
  subst hr'
  obtain ⟨hSl, hfc, kC, hkC, hkind⟩ := hK.1 ci _ hc
  obtain ⟨cf, kf, fi, f, hif, hsl⟩ := hSl k hk
  have hlay := hts _ (hin _ (u_in_lay hk))
  unfold u_lay at hlay
  have hst := (u_facts hfc hkC (u_lays hts hin hk) hif).1
  have fin_ : ∀ (H' : Heap) (locs' : List Loc), va_S (Afr G) (xs X).heap H' locs' → H'[adr G r]? = some (cell.setSlot f.slot (conc G a)) → H'.size = H.size → (∀ q : Nat, q ≠ adr G r → H'[q]? = H[q]?) →
      W (xp X) (xl X) (xe X) (xR X) (xs X) (xm X) (xa X) (xb X) (xme X) (xc X) H' locs' cells slots (xQ X) (F0 (xm X) (pc + 3) ls (S.map (conc G))) := by
    intro H' locs' hS' g1 g2 g3
    refine kk (inv_upd h1 (hx (ok_h h3)) (fun q => isref_fld hs hci (hnr q))) h2 (ok_t (ok_t h3)) H' locs' ls (wld_set hp.1 hr hw C.2.2.2.2.2.2.1 hS hS' g2 ?_ g3) hS' hl
    rw [cellE_obj hs hci, ← ofields_set hnk, ← ha]
    rw [hsl] at g1
    exact ⟨_, hc, t_OB.to (V := updV (vp_V (ofields G ci (v r))) k (conc G a)) ⟨_, g1, q2, q3, t_set q4 hap hk _⟩ (fun j _ => vp_updV_set (by rw [ofields_length]; exact hnk) _ j)⟩
  have hslot : f.slot < cell.slots.size := by rw [hsl]; exact k2_hasslot (q4 k hk)
  cases hfb : fin with
  | false =>
    rw [if_neg (by rw [hfin, hfb]; decide)] at hlay
    have h6 := u_store hfc hkC hkind hlay hif hpd hn hfit
    rcases hlink with hlink | ⟨-, host, hlink⟩
    · exact W.putK C.1 C.2.1 (f := f) ⟨C.2.2.2.1, hts _ hlink, ⟨_, _, _, hif⟩, hst⟩ (by rw [q2]; exact h6) q1 q3 hslot rfl rfl hd fun H' g1 g2 g3 => fin_ H' _ (hS.put g2 g3 (adr_Afr hp.1)) g1 g2 g3
    · exact va_WputK C.1 C.2.1 (f := f) C.2.2.2.1 (va_Nw.use rfl (C.2.2.2.2.2.2.2.2.1 _ hlink)) hif hst (by rw [q2]; exact h6) q1 q3 hslot rfl rfl hd fun H' g1 g2 g3 => fin_ H' _ (hS.put g2 g3 (adr_Afr hp.1)) g1 g2 g3
  | true =>
    rw [if_pos (by rw [hfin, hfb])] at hlay
    rcases hlink with hlink | ⟨hz, -⟩
    · have hcf : (xm X).cls = cf := by
        obtain ⟨_, _, c', _, _, _, -, -, hf', -, -, -, hown2, -⟩ := Cond.laysFinal_spec hlay
        have e1 : c' = cf := by have := hif.symm.trans hf'; simp at this; exact this.1.symm
        rw [hown hfb] at hown2
        rw [← e1]; exact Option.some.inj (C.2.2.2.1.symm.trans hown2)
      have h6 := u_fits hfc hkC hkind (Or.inr hlay) hif hpd hn hfit
      exact W.putFinK C.1 C.2.1 C.2.2.2.1 (hts _ hlink) hif hst hcf (hi hfb) (by rw [q2]; exact h6) q1 q3 hslot rfl rfl hd fun H' g1 g2 g3 => fin_ H' _ (hS.put g2 g3 (adr_Afr hp.1)) g1 g2 g3
    · rw [hfb] at hz; cases hz
end HEAP
end
section
-- what is written to fields; arrays
section ARR
variable {X : XT} {G : GT} {own : String} {cc : ByteArray} {cells slots n : Nat} {v : VT} {pc tgt : Nat} {L : List (Option AV)} {S : List AV} {x r i : Int} {index ci k : Nat}
theorem E.putI (C : Cx X G own cc) (hF : FP own index ci k .int false) (hI : isR ci k = false) (hd : decode cc pc = .ok (.putfield index, 3)) (hs : kd r = ci) (hr : r ≤ (nc n : Int))
    (kk : E X G cells slots n (upd2 v r (k : Int) x) (pc + 3) L S) : E X G cells slots n v pc L (vi x :: vr r :: S) :=
  E.put0 C hF (fun h => by cases h) hd hs hr (x := x) (by rw [hI]; rfl) rfl rfl (fun h => h) (fun _ => hI) kk
theorem E.putZ (C : Cx X G own cc) (hF : FP own index ci k .boolean false) (hI : isR ci k = false) (hd : decode cc pc = .ok (.putfield index, 3)) (hs : kd r = ci) (hr : r ≤ (nc n : Int)) (hx : x = 0 ∨ x = 1)
    (kk : E X G cells slots n (upd2 v r (k : Int) x) (pc + 3) L S) : E X G cells slots n v pc L (vi x :: vr r :: S) :=
  E.put0 C hF (fun h => by cases h) hd hs hr (x := x) (by rw [hI]; rfl) (by rcases hx with rfl | rfl <;> rfl) (by rcases hx with rfl | rfl <;> rfl) (fun h => h) (fun _ => hI) kk
theorem E.putR (C : Cx X G own cc) {ty : FieldType} (hty : (∃ c, ty = .object c) ∨ ∃ t, ty = .array t) (hF : FP own index ci k ty true) (hI : isR ci k = true) (hi : (xme X).name = "<init>") (hd : decode cc pc = .ok (.putfield index, 3)) (hs : kd r = ci) (hr : r ≤ (nc n : Int)) (hx : 0 < x) (hx2 : in32 x) (hnn : n ≠ 1000)
    (kk : E X G cells slots n (upd2 v r (k : Int) x) (pc + 3) L S) : E X G cells slots n v pc L (vr x :: vr r :: S) :=
  E.put0 C hF (fun _ => hi) hd hs hr (x := x) (by rw [hI]; show Value.ref (adr G x) = (if x = 0 then Value.null else .ref (adr G x)); rw [if_neg (by omega)]) (by rcases hty with ⟨c, rfl⟩ | ⟨c, rfl⟩ <;> rfl) (by rcases hty with ⟨c, rfl⟩ | ⟨c, rfl⟩ <;> rfl) (fun _ => hx2) (fun q => absurd q hnn) kk
theorem jin_of {i : Int} {m : Nat} (h0 : 0 ≤ i) (h1 : i < (m : Int)) (hi : in32 i) : vp_in (Int32.ofInt i) m := by
  rintro (h | h)
  · have := (zlt hi).mp h
    omega
  · rw [cl32 hi] at h
    omega
theorem nat_back {i : Int} (h0 : 0 ≤ i) : ((i.toNat : Nat) : Int) = i := Int.toNat_of_nonneg h0
theorem E.iald (C : Cx X G own cc) (hd : decode cc pc = .ok (.iaload, 1)) (hs : kd r = 11) (hr : r ≤ (nc n : Int)) (h0 : 0 ≤ i) (h1 : i < (ln r : Int)) (hv : v r i = x)
    (kk : E X G cells slots n v (pc + 1) L (vi x :: S)) : E X G cells slots n v pc L (vi i :: vr r :: S) := by
  intro q1 q2 q3 H locs ls hw hS hl
  have ii : in32 i := ok_h q3
  have hat := wl_at (G := G) (n := nc n) (v := v) (kd_pos hs (by omega)).1 hr
  rw [cellE_arr (t := 1) hs (by decide)] at hat
  refine va_iald C.1 C.2.1 C.2.2.2.2.2.1 hw.2.1 _ 1 hat rfl (jin_of h0 h1 ii) hd ?_
  rw [cl32 ii, nat_back h0, hv]
  exact kk q1 q2 (okc (by show in32 x; rw [← hv]; exact q1.1 _ _) (ok_t (ok_t q3))) H locs ls hw hS hl
theorem E.bald (C : Cx X G own cc) (hd : decode cc pc = .ok (.baload, 1)) (hs : kd r = 10) (hr : r ≤ (nc n : Int)) (h0 : 0 ≤ i) (h1 : i < (ln r : Int)) (hv : v r i = x)
    (kk : E X G cells slots n v (pc + 1) L (vi x :: S)) : E X G cells slots n v pc L (vi i :: vr r :: S) := by
  intro q1 q2 q3 H locs ls hw hS hl
  have ii : in32 i := ok_h q3
  have hat := wl_at (G := G) (n := nc n) (v := v) (kd_pos hs (by omega)).1 hr
  rw [cellE_arr (t := 0) hs (by decide)] at hat
  refine va_bald C.1 C.2.1 C.2.2.2.2.2.1 hw.2.1 _ 0 hat rfl (jin_of h0 h1 ii) hd ?_
  rw [cl32 ii, nat_back h0, hv]
  exact kk q1 q2 (okc (by show in32 x; rw [← hv]; exact q1.1 _ _) (ok_t (ok_t q3))) H locs ls hw hS hl
theorem E.zald (C : Cx X G own cc) (hd : decode cc pc = .ok (.baload, 1)) (hs : kd r = 12) (hr : r ≤ (nc n : Int)) (h0 : 0 ≤ i) (h1 : i < (ln r : Int)) (hv : v r i = x)
    (kk : E X G cells slots n v (pc + 1) L (vi x :: S)) : E X G cells slots n v pc L (vi i :: vr r :: S) := by
  intro q1 q2 q3 H locs ls hw hS hl
  have ii : in32 i := ok_h q3
  have hat := wl_at (G := G) (n := nc n) (v := v) (kd_pos hs (by omega)).1 hr
  rw [cellE_arr (t := 2) hs (by decide)] at hat
  refine va_zald C.1 C.2.1 C.2.2.2.2.2.1 hw.2.1 _ 2 hat rfl (jin_of h0 h1 ii) hd ?_
  rw [cl32 ii, nat_back h0, hv]
  exact kk q1 q2 (okc (by show in32 x; rw [← hv]; exact q1.1 _ _) (ok_t (ok_t q3))) H locs ls hw hS hl
theorem E.aald (C : Cx X G own cc) {t : Nat} (ht : 3 ≤ t ∧ t ≤ 6) (hd : decode cc pc = .ok (.aaload, 1)) (hs : kd r = 10 + t) (hr : r ≤ (nc n : Int)) (h0 : 0 ≤ i) (h1 : i < (ln r : Int)) (hv : v r i = x) (hx : 0 < x)
    (kk : E X G cells slots n v (pc + 1) L (vr x :: S)) : E X G cells slots n v pc L (vi i :: vr r :: S) := by
  intro q1 q2 q3 H locs ls hw hS hl
  have ii : in32 i := ok_h q3
  have hat := wl_at (G := G) (n := nc n) (v := v) (kd_pos hs (by omega)).1 hr
  rw [cellE_arq hs ht.1] at hat
  have kk := kk q1 q2 (okc trivial (ok_t (ok_t q3))) H locs ls hw hS hl
  have hz : va_rf (rfo G (v r ((Int32.ofInt i).toNatClampNeg : Int))) = .ref (adr G x) := by
    rw [cl32 ii, nat_back h0, hv]
    unfold rfo
    rw [if_neg (by omega)]
    rfl
  have hcase : ∃ c, (tysG G)[t]? = some (G.2.2.2.1 t, .object c) := by
    rcases (show t = 3 ∨ t = 4 ∨ t = 5 ∨ t = 6 by omega) with h | h | h | h <;> subst h <;> exact ⟨_, rfl⟩
  obtain ⟨c, hc⟩ := hcase
  refine va_aldq C.1 C.2.1 C.2.2.2.2.2.1 hw.2.1 _ t hat hc (jin_of h0 h1 ii) hd ?_
  rw [hz]
  exact kk
theorem upd_ofInt {f g : Int → Int} {i x : Int} (h0 : 0 ≤ i) (h : g = fun j => if j = i then x else f j) : upd (fun j : Nat => Int32.ofInt (f (j : Int))) i.toNat (Int32.ofInt x) = fun j : Nat => Int32.ofInt (g (j : Int)) := by
  funext j
  subst h
  unfold upd
  by_cases hj : j = i.toNat
  · subst hj
    rw [if_pos rfl]
    show _ = Int32.ofInt (if ((i.toNat : Nat) : Int) = i then x else f _)
    rw [if_pos (nat_back h0)]
  · rw [if_neg hj]
    show _ = Int32.ofInt (if (j : Int) = i then x else f _)
    rw [if_neg (by omega)]
theorem upd2_row (v : VT) (r i x : Int) : upd2 v r i x r = fun j => if j = i then x else v r j := by
  funext j
  unfold upd2
  by_cases h : j = i
  · rw [if_pos ⟨rfl, h⟩, if_pos h]
  · rw [if_neg (fun q => h q.2), if_neg h]
theorem arr_at {G : GT} {v : VT} {r i x : Int} {t : Nat} {H1 : Heap} {cell : Cell} (ht : t < 3) (hs : kd r = 10 + t) (h0 : 0 ≤ i) (ii : in32 i) (hc : cell = vp_cell (G.2.2.2.1 t) (ln r, .inl (fun j => Int32.ofInt (v r (j : Int))))) (e : H1[adr G r]? = some (cell.setSlot (Int32.ofInt i).toNatClampNeg (.int (Int32.ofInt x)))) : va_at G.2.2.1 vwCl (adr G r, cellE G (upd2 v r i x) r) H1 := by
  rw [cellE_arr hs ht]
  show H1[adr G r]? = some (vp_cell _ _)
  rw [e, hc, vp_cell_i, vp_cell_i, arrV_store, cl32 ii]
  congr 2
  funext q
  have h1 := congrFun (upd_ofInt (f := v r) (g := upd2 v r i x r) h0 (upd2_row v r i x)) q
  rw [← h1]
  by_cases hq : q = i.toNat
  · subst hq
    simp [updV, upd]
  · simp [updV, upd, hq]
theorem E.iast (C : Cx X G own cc) (hd : decode cc pc = .ok (.iastore, 1)) (hs : kd r = 11) (hr : r ≤ (nc n : Int)) (h0 : 0 ≤ i) (h1 : i < (ln r : Int))
    (kk : E X G cells slots n (upd2 v r i x) (pc + 1) L S) : E X G cells slots n v pc L (vi x :: vi i :: vr r :: S) := by
  intro q1 q2 q3 H locs ls hw hS hl
  have ix : in32 x := ok_h q3
  have ii : in32 i := ok_h (ok_t q3)
  have hp := (kd_pos hs (by omega)).1
  have hat := wl_at (G := G) (n := nc n) (v := v) hp hr
  rw [cellE_arr (t := 1) hs (by decide)] at hat
  have hin := jin_of h0 h1 ii
  refine W.iast C.1 C.2.1 (hw.2.1 _ _ hat) ((C.2.2.2.2.2.1.2 1 _ rfl).1 (ln r) (fun j => .int (Int32.ofInt (v r (j : Int))))) (fun q => by cases q) (by show ¬ (Int32.ofInt i < 0 ∨ (arrV _ _ _).slots.size ≤ _); rw [arrV_size]; exact hin) rfl rfl hd fun H1 e z oq => ?_
  have hS1 := hS.put (k := (Int32.ofInt i).toNatClampNeg) z oq (adr_Afr hp)
  exact kk (inv_upd q1 ix (fun _ => isref_arr hs (by decide) (by decide))) q2 (ok_t (ok_t (ok_t q3))) H1 _ ls (wld_set hp hr hw C.2.2.2.2.2.2.1 hS hS1 z (arr_at (t := 1) (by decide) hs h0 ii rfl e) oq) hS1 hl
theorem E.bast (C : Cx X G own cc) (hd : decode cc pc = .ok (.bastore, 1)) (hs : kd r = 10) (hr : r ≤ (nc n : Int)) (h0 : 0 ≤ i) (h1 : i < (ln r : Int)) (hx : -128 ≤ x ∧ x ≤ 127)
    (kk : E X G cells slots n (upd2 v r i x) (pc + 1) L S) : E X G cells slots n v pc L (vi x :: vi i :: vr r :: S) := by
  intro q1 q2 q3 H locs ls hw hS hl
  have ix : in32 x := ok_h q3
  have ii : in32 i := ok_h (ok_t q3)
  have hp := (kd_pos hs (by omega)).1
  have hat := wl_at (G := G) (n := nc n) (v := v) hp hr
  rw [cellE_arr (t := 0) hs (by decide)] at hat
  have hin := jin_of h0 h1 ii
  refine W.bast C.1 C.2.1 (hw.2.1 _ _ hat) ((C.2.2.2.2.2.1.2 0 _ rfl).1 (ln r) (fun j => .int (Int32.ofInt (v r (j : Int))))) (fun q => by cases q) (by show ¬ (Int32.ofInt i < 0 ∨ (arrV _ _ _).slots.size ≤ _); rw [arrV_size]; exact hin) rfl rfl hd fun H1 e z oq => ?_
  have hnx : narrow .byte (.int (Int32.ofInt x)) = .int (Int32.ofInt x) := by
    show Value.int ((Int32.ofInt x).toInt8.toInt32) = _
    rw [Int32.toInt8_ofInt, of8 hx.1 hx.2]
  rw [hnx] at e
  have hS1 := hS.put (k := (Int32.ofInt i).toNatClampNeg) z oq (adr_Afr hp)
  exact kk (inv_upd q1 ix (fun _ => isref_arr hs (by decide) (by decide))) q2 (ok_t (ok_t (ok_t q3))) H1 _ ls (wld_set hp hr hw C.2.2.2.2.2.2.1 hS hS1 z (arr_at (t := 0) (by decide) hs h0 ii rfl e) oq) hS1 hl
theorem E.zast (C : Cx X G own cc) (hd : decode cc pc = .ok (.bastore, 1)) (hs : kd r = 12) (hr : r ≤ (nc n : Int)) (h0 : 0 ≤ i) (h1 : i < (ln r : Int)) (hx : x = 0 ∨ x = 1)
    (kk : E X G cells slots n (upd2 v r i x) (pc + 1) L S) : E X G cells slots n v pc L (vi x :: vi i :: vr r :: S) := by
  intro q1 q2 q3 H locs ls hw hS hl
  have ix : in32 x := ok_h q3
  have ii : in32 i := ok_h (ok_t q3)
  have hp := (kd_pos hs (by omega)).1
  have hat := wl_at (G := G) (n := nc n) (v := v) hp hr
  rw [cellE_arr (t := 2) hs (by decide)] at hat
  have hin := jin_of h0 h1 ii
  refine W.zast C.1 C.2.1 (hw.2.1 _ _ hat) ((C.2.2.2.2.2.1.2 2 _ rfl).1 (ln r) (fun j => .int (Int32.ofInt (v r (j : Int))))) (fun q => by cases q) (by show ¬ (Int32.ofInt i < 0 ∨ (arrV _ _ _).slots.size ≤ _); rw [arrV_size]; exact hin) rfl rfl hd fun H1 e z oq => ?_
  have hnx : narrow .boolean (.int (Int32.ofInt x)) = .int (Int32.ofInt x) := by
    rcases hx with rfl | rfl <;> rfl
  rw [hnx] at e
  have hS1 := hS.put (k := (Int32.ofInt i).toNatClampNeg) z oq (adr_Afr hp)
  exact kk (inv_upd q1 ix (fun _ => isref_arr hs (by decide) (by decide))) q2 (ok_t (ok_t (ok_t q3))) H1 _ ls (wld_set hp hr hw C.2.2.2.2.2.2.1 hS hS1 z (arr_at (t := 2) (by decide) hs h0 ii rfl e) oq) hS1 hl
end ARR
end
section
-- methods: contracts over the world, calls, returns
def BS (G : GT) (n : Nat) (v : VT) (U : State) : Prop := wld G n v U.heap ∧ va_K G.2.2.1 vwCl (tysG G) U ∧ EXT G U
theorem BS.blind {G : GT} {n : Nat} {v : VT} {av : List Value} : FrameBlind (va_Pc av (BS G n v)) := by
  intro a U g mk q
  obtain ⟨q0, qP, qK, qE⟩ := q
  exact ⟨q0, qP, va_K.moved (u := U) (U := U.calling g mk a) (Vm.Alike.refl U.vm) qK, EXT.same (u := U) (U := U.calling g mk a) rfl qE⟩
abbrev PT : Type := Option AV → Nat → VT → Prop
def QA (G : GT) (Φ : PT) : Array Value → State → Outcome → State → Prop := fun _ st o t =>
  (∃ (r : Option AV) (n' : Nat) (v' : VT), o = .returned (r.map (conc G)) ∧ Φ r n' v' ∧ inv n' v' ∧ (∀ a, r = some a → okv a) ∧ wld G n' v' t.heap) ∧ va_F (Afr G) st t
/-- a method's contract at a world and arguments -/
def MT (G : GT) (y : MethodName) (cc : ByteArray) (maxL : Nat) (ret : Option FieldType) (rm : Room) (As : List AV) (n : Nat) (v : VT) (Φ : PT) : Prop :=
  ∀ l : Launch, inv n v → (∀ a ∈ As, okv a) → Met l y (Cond.code y cc maxL ret :: lw_good) rm (va_Pc (As.map (conc G)) (BS G n v)) (QA G Φ) rm.cells rm.slots (Afr G)
/-- what the tables say of a method -/
def YF (y : MethodName) (cc : ByteArray) (maxL : Nat) (ret : Option FieldType) (np : Nat) : Prop :=
  Cond.code y cc maxL ret ∈ lw_good ∧ Cond.initialized y.cls ∈ lw_good ∧ y.cls ≠ "java/lang/invoke/MethodHandle" ∧ y.cls ≠ "java/lang/invoke/VarHandle" ∧ (parseMethodDescriptor y.desc).map (fun d => d.parameters.length) = some np
def Rt (X : XT) (G : GT) (Φ : PT) (rm : Room) (ret : Option FieldType) : Prop :=
  xQ X = MQ (xb X) (QA G Φ) (xa X) (xs X) rm.cells rm.slots (Afr G) ∧ (xme X).sig.returnType = ret
def argsl : List AV → List (Option AV)
  | [] => []
  | .inr (.inl x) :: As => some (vl x) :: none :: argsl As
  | .inl x :: As => some (vi x) :: argsl As
  | .inr (.inr x) :: As => some (vr x) :: argsl As
theorem lvl_none {G : GT} : ∀ {k i : Nat}, lvl G i (List.replicate k none) = []
  | 0, _ => rfl
  | k + 1, i => by
    rw [List.replicate_succ]
    exact lvl_none (k := k) (i := i + 1)
theorem lvl_args {G : GT} : ∀ {As : List AV} {i k : Nat}, lvl G i (argsl As ++ List.replicate k none) = lv_args i (As.map (conc G))
  | [], i, k => by
    show lvl G i (List.replicate k none) = []
    exact lvl_none
  | .inl x :: As, i, k => by
    show (i, conc G (vi x)) :: lvl G (i + 1) (argsl As ++ List.replicate k none) = _
    rw [lvl_args]
    rfl
  | .inr (.inl x) :: As, i, k => by
    show (i, conc G (vl x)) :: lvl G (i + 1 + 1) (argsl As ++ List.replicate k none) = _
    rw [lvl_args]
    rfl
  | .inr (.inr x) :: As, i, k => by
    show (i, conc G (vr x)) :: lvl G (i + 1) (argsl As ++ List.replicate k none) = _
    rw [lvl_args]
    rfl
theorem args_len {G : GT} : ∀ {As : List AV}, (lg_sl (As.map (conc G))).length = (argsl As).length
  | [] => rfl
  | .inl x :: As => by
    show ((lg_sl (As.map (conc G))).length + 1) = (argsl As).length + 1
    rw [args_len]
  | .inr (.inl x) :: As => by
    show ((lg_sl (As.map (conc G))).length + 1 + 1) = (argsl As).length + 1 + 1
    rw [args_len]
  | .inr (.inr x) :: As => by
    show ((lg_sl (As.map (conc G))).length + 1) = (argsl As).length + 1
    rw [args_len]
theorem argsl_ok : ∀ {As : List AV}, (∀ a ∈ As, okv a) → ∀ a, some a ∈ argsl As → okv a
  | [], _, _, h => by cases h
  | .inl x :: As, hA, a, h => by
    rcases List.mem_cons.mp h with h | h
    · cases h; exact hA _ List.mem_cons_self
    · exact argsl_ok (fun b hb => hA b (List.mem_cons_of_mem _ hb)) a h
  | .inr (.inl x) :: As, hA, a, h => by
    rcases List.mem_cons.mp h with h | h
    · cases h; exact hA _ List.mem_cons_self
    · rcases List.mem_cons.mp h with h | h
      · cases h
      · exact argsl_ok (fun b hb => hA b (List.mem_cons_of_mem _ hb)) a h
  | .inr (.inr x) :: As, hA, a, h => by
    rcases List.mem_cons.mp h with h | h
    · cases h; exact trivial
    · exact argsl_ok (fun b hb => hA b (List.mem_cons_of_mem _ hb)) a h
theorem MT.of {G : GT} {y : MethodName} {cc : ByteArray} {maxL : Nat} {ret : Option FieldType} {rm : Room} {As : List AV} {n : Nat} {v : VT} {Φ : PT} (hy : plainName y.cls = true) (L : List (Option AV)) (k : Nat) (hL : argsl As ++ List.replicate k none = L) (hlen : (argsl As).length + k = maxL)
    (h : ∀ X : XT, Cx X G y.cls cc → xR X = rm → xn X = maxL → Rt X G Φ rm ret → (y.name = "<init>" → (xme X).name = "<init>") → E X G 0 0 n v 0 L []) : MT G y cc maxL ret rm As n v Φ := by
  intro l hr hok
  refine Met.ofW (cc := cc) (maxL := maxL) (ret := ret) hy rfl ?_
  intro p e s m args below meth c s₁ B hml hv
  obtain ⟨rfl, hw, hK, hE⟩ := hv
  have hts0 := atoms_spec (ws := Cond.code y cc maxL ret :: lw_good) B.pre
  have hg : G.1 < s.heap.size := by rw [hw.1]; omega
  obtain ⟨X, hX⟩ : ∃ X : XT, X = (p, l, e, rm, s, m, (As.map (conc G)).toArray, below, meth, c, MQ below (QA G Φ) (As.map (conc G)).toArray s rm.cells rm.slots (Afr G), maxL) := ⟨_, rfl⟩
  have hE2 := h X (by rw [hX]; exact ⟨B.exec, B.bytes, hml, findClass_of_methodNamed B.named, fun w hw => hts0 w (List.mem_cons_of_mem _ hw), hK, hg, B.notSynchronized, hE⟩) (by rw [hX]) (by rw [hX]) (by rw [hX]; exact ⟨rfl, B.returns⟩) (fun hn => by rw [hX]; exact (name_of_methodNamed B.named B.method).1.trans hn)
  have hl := lv_entry (As.map (conc G)) (n := maxL) (by rw [args_len]; omega)
  rw [lg_entry_eq]
  generalize (lg_sl (As.map (conc G)) ++ List.replicate (maxL - (lg_sl (As.map (conc G))).length) Slot.unset).toArray = ls at hl ⊢
  have hl2 : lv_has ls maxL (lvl G 0 L) := by rw [← hL, lvl_args]; exact hl
  have hLok : ∀ a, some a ∈ L → okv a := by
    intro a ha
    rw [← hL] at ha
    rcases List.mem_append.mp ha with ha | ha
    · exact argsl_ok hok a ha
    · have := List.eq_of_mem_replicate ha
      cases this
  have hfin := hE2 hr hLok (fun a ha => by cases ha) s.heap [] ls hw (by rw [hX]; exact va_S.rf) (by rw [hX]; exact hl2)
  rw [hX] at hfin
  exact hfin
end
section
-- returns and calls
theorem lw_good_all : GoodIn lw_good lw_good := fun w hw => ⟨hw, good_of_word (List.mem_filter.mp hw).2⟩
section RET
variable {X : XT} {G : GT} {own : String} {cc : ByteArray} {cells slots n : Nat} {v : VT} {pc tgt : Nat} {L : List (Option AV)} {S : List AV} {x r i : Int} {index ci k : Nat} {Φ : PT} {rm : Room}
theorem E.iret (C : Cx X G own cc) (hR : Rt X G Φ rm (some .int)) (hd : decode cc pc = .ok (.ireturn, 1)) (hΦ : inv n v → in32 x → Φ (some (vi x)) n v) : E X G rm.cells rm.slots n v pc L [vi x] := by
  intro h1 h2 h3 H locs ls hw hS hl
  rw [hR.1]
  exact W.iret C.1 C.2.1 hR.2 (fun t ht hW => ⟨⟨some (vi x), n, v, rfl, hΦ h1 (ok_h h3), h1, fun a ha => by cases ha; exact ok_h h3, by rw [ht]; exact hw⟩, hS.F ht⟩) hS.2.2 hd C.2.2.2.2.2.2.2.1
theorem E.zret (C : Cx X G own cc) (hR : Rt X G Φ rm (some .boolean)) (hd : decode cc pc = .ok (.ireturn, 1)) (hx : x = 0 ∨ x = 1) (hΦ : inv n v → Φ (some (vi x)) n v) : E X G rm.cells rm.slots n v pc L [vi x] := by
  intro h1 h2 h3 H locs ls hw hS hl
  rw [hR.1]
  exact W.zret C.1 C.2.1 hR.2 (by rcases hx with rfl | rfl <;> rfl) (fun t ht hW => ⟨⟨some (vi x), n, v, rfl, hΦ h1, h1, fun a ha => by cases ha; exact ok_h h3, by rw [ht]; exact hw⟩, hS.F ht⟩) hS.2.2 hd C.2.2.2.2.2.2.2.1
theorem E.lret (C : Cx X G own cc) (hR : Rt X G Φ rm (some .long)) (hd : decode cc pc = .ok (.lreturn, 1)) (hΦ : inv n v → in64 x → Φ (some (vl x)) n v) : E X G rm.cells rm.slots n v pc L [vl x] := by
  intro h1 h2 h3 H locs ls hw hS hl
  rw [hR.1]
  exact W.lret C.1 C.2.1 hR.2 (fun t ht hW => ⟨⟨some (vl x), n, v, rfl, hΦ h1 (ok_h h3), h1, fun a ha => by cases ha; exact ok_h h3, by rw [ht]; exact hw⟩, hS.F ht⟩) hS.2.2 hd C.2.2.2.2.2.2.2.1
theorem E.vret (C : Cx X G own cc) (hR : Rt X G Φ rm none) (hd : decode cc pc = .ok (.return_, 1)) (hΦ : inv n v → Φ none n v) : E X G rm.cells rm.slots n v pc L [] := by
  intro h1 h2 h3 H locs ls hw hS hl
  rw [hR.1]
  exact W.vret C.1 C.2.1 hR.2 (fun t ht hW => ⟨⟨none, n, v, rfl, hΦ h1, h1, fun a ha => by (cases ha), by rw [ht]; exact hw⟩, hS.F ht⟩) hS.2.2 hd C.2.2.2.2.2.2.2.1
theorem E.widen {cells' slots' : Nat} (h1 : cells ≤ cells') (h2 : slots ≤ slots') (k : E X G cells' slots' n v pc L S) : E X G cells slots n v pc L S := by
  intro q1 q2 q3 H locs ls hw hS hl
  exact W.widen h1 h2 (k q1 q2 q3 H locs ls hw hS hl)
def catA : AV → Nat
  | .inr (.inl _) => 2
  | _ => 1
theorem catA_map {G : GT} (S : List AV) : ((S.map (conc G)).map fun v => v.category).sum = (S.map catA).sum := by
  rw [List.map_map]
  congr 1
  apply List.map_congr_left
  intro a _
  rcases a with a | a | a <;> rfl
theorem E.call0 {H : Heap} {locs : List Loc} {ls : Array Slot} {mc ms : Nat} {as : Array Value} {st : List AV} (hr : va_Run (xp X) (xl X) (xe X) (xR X) (xs X) (xm X) (xa X) (xb X) (xme X) (xc X) H locs cells slots mc ms (F0 (xm X) pc ls (st.map (conc G))) (S.map (conc G)) (QA G Φ as) (Afr G))
    (hw : wld G n v H) (hS : va_S (Afr G) (xs X).heap H locs) (hl : lv_has ls (xn X) (lvl G 0 L)) (h2 : ∀ a, some a ∈ L → okv a) (h3 : ∀ a ∈ S, okv a)
    (kk : ∀ (r : Option AV) (n' : Nat) (v' : VT), Φ r n' v' → E X G (cells + mc) (slots + ms) n' v' (pc + 3) L (r.toList ++ S)) :
    W (xp X) (xl X) (xe X) (xR X) (xs X) (xm X) (xa X) (xb X) (xme X) (xc X) H locs cells slots (xQ X) (F0 (xm X) pc ls (st.map (conc G))) := by
  intro T hT XX
  obtain ⟨rv, st₀, t, T', LL, e0, X', hL, e1, e2, ⟨⟨r, n', v', hv, hΦ, hrng, hok, hw'⟩, hz, hk⟩, st'⟩ := hr T hT XX
  have hv2 : rv = r.map (conc G) := by
    injection hv
  subst hv2
  rw [e0] at hz hk
  have hS' : va_S (Afr G) (xs X).heap T'.heap (locs ++ LL) := by
    refine ⟨Nat.le_trans hS.1 (by rw [e1]; exact hz), fun q h1 h2 => ?_, fun q hq => ?_⟩
    · rw [e1, hk q (Nat.lt_of_lt_of_le h1 hS.1) h2]
      exact hS.2.1 q h1 h2
    · rcases List.mem_append.mp hq with h | h
      · exact hS.2.2 q h
      · exact hL q h
  have h3' : ∀ a ∈ r.toList ++ S, okv a := by
    intro a ha
    rcases List.mem_append.mp ha with h | h
    · cases r with
      | none => cases h
      | some b => 
        rcases List.mem_cons.mp h with h | h
        · subst h; exact hok _ rfl
        · cases h
    · exact h3 a h
  obtain ⟨t2, a1, b1⟩ := kk r n' v' hΦ hrng h2 h3' T'.heap (locs ++ LL) ls (by rw [e1]; exact hw') hS' hl T' rfl X'
  refine ⟨t2, st' t2 ?_, b1⟩
  have e3 : (r.map (conc G)).toList ++ S.map (conc G) = (r.toList ++ S).map (conc G) := by
    cases r <;> simp
  rw [e3]
  exact a1
end RET
end
section
-- the calls
def ML (own : String) (index : Nat) (y : MethodName) : Prop := Cond.methodLink own index y ∈ lw_good ∨ ∃ host, Cond.methodLinkNest own index y host ∈ lw_nest
section CALL
variable {X : XT} {G : GT} {own : String} {cc bytes : ByteArray} {cells slots n maxL np : Nat} {v : VT} {pc : Nat} {L : List (Option AV)} {S S0 : List AV} {b : Int} {index ci : Nat} {Φ : PT} {rm rm0 : Room} {y : MethodName} {ret : Option FieldType} {As : List AV}
theorem code_good {y : MethodName} {bytes : ByteArray} {maxL : Nat} {ret : Option FieldType} (h : Cond.code y bytes maxL ret ∈ lw_good) : GoodIn lw_good (Cond.code y bytes maxL ret :: lw_good) := by
  intro w hw
  rcases List.mem_cons.mp hw with rfl | hw
  · exact lw_good_all _ h
  · exact lw_good_all _ hw
theorem callB_ok (C : Cx X G own cc) (hy : YF y bytes maxL ret np) (hl : Cond.methodLink own index y ∈ lw_good) (hX : xR X = rm0) (hR : rm.frames + 1 ≤ rm0.frames ∧ 8 + (maxL + 11) + rm.locals ≤ rm0.locals) :
    CallB (xR X) (xs X) (xa X) own index y bytes maxL ret (Cond.code y bytes maxL ret :: lw_good) rm rm.cells rm.slots np := by
  refine callB_of np C.2.2.2.2.1 (code_good hy.1) rfl rfl rfl (C.2.2.2.2.1 _ hy.2.1) (C.2.2.2.2.1 _ hl) ⟨hy.2.2.1, hy.2.2.2.1, hy.2.2.2.2⟩ ?_
  rw [hX]
  exact hR
theorem callN_ok {host : String} (C : Cx X G own cc) (hy : YF y bytes maxL ret np) (hl : Cond.methodLinkNest own index y host ∈ lw_nest) (hX : xR X = rm0) (hR : rm.frames + 1 ≤ rm0.frames ∧ 8 + (maxL + 11) + rm.locals ≤ rm0.locals) :
    va_CN (xR X) (xs X) (xa X) own index y host bytes maxL ret (Cond.code y bytes maxL ret :: lw_good) rm rm.cells rm.slots np := by
  refine va_cnB np C.2.2.2.2.1 (code_good hy.1) rfl rfl rfl (C.2.2.2.2.2.2.2.2.1 _ hl) (C.2.2.2.2.1 _ hy.2.1) ⟨hy.2.2.1, hy.2.2.2.1, hy.2.2.2.2⟩ ?_
  rw [hX]
  exact hR
theorem fix_ok (C : Cx X G own cc) : CallFix (xp X) (xm X) (xc X) cc (xn X) (xs X) (xa X) lw_good own := ⟨C.1, C.2.1, C.2.2.1, C.2.2.2.1, C.2.2.2.2.1⟩
theorem pre_ok (C : Cx X G own cc) {H : Heap} (hw : wld G n v H) : PreS (xs X) H (va_Pc (As.map (conc G)) (BS G n v)) (As.map (conc G)) :=
  ⟨BS.blind, fun U hU hW => ⟨rfl, by rw [hU]; exact hw, va_K.moved hW.alike C.2.2.2.2.2.1, EXT.warm hW C.2.2.2.2.2.2.2.2⟩⟩
theorem preV_ok (C : Cx X G own cc) {H : Heap} (hw : wld G n v H) {q : vw_C} (hc : vwCl[ci]? = some q) (hs : kd b = ci) (hci : ci < 10) (hb : b ≤ (nc n : Int)) : PreV (xs X) H q.1 (adr G b) (va_Pc ((vr b :: As).map (conc G)) (BS G n v)) (As.map (conc G)) := by
  have hat := wl_at (G := G) (n := nc n) (v := v) (kd_pos hs (by omega)).1 hb
  rw [cellE_obj hs hci] at hat
  exact ⟨BS.blind, va_recv C.2.2.2.2.2.1 hw.2.1 hc hat, fun U hU hW => ⟨rfl, by rw [hU]; exact hw, va_K.moved hW.alike C.2.2.2.2.2.1, EXT.warm hW C.2.2.2.2.2.2.2.2⟩⟩
theorem ok_split (h3 : ∀ a ∈ As.reverse ++ S, okv a) : (∀ a ∈ As, okv a) ∧ ∀ a ∈ S, okv a :=
  ⟨fun a ha => h3 a (List.mem_append_left _ (List.mem_reverse.mpr ha)), fun a ha => h3 a (List.mem_append_right _ ha)⟩
theorem E.callV (C : Cx X G own cc) (hX : xR X = rm0) (hM : MT G y bytes maxL ret rm (vr b :: As) n v Φ) (hy : YF y bytes maxL ret np) (hV : Cond.instanceMethod y ∈ lw_good ∧ Cond.selects y.cls y y ∈ lw_good) (hl : ML own index y)
    (hnp : As.length = np) {q : vw_C} (hc : vwCl[ci]? = some q) (hq : q.1 = y.cls) (hs : kd b = ci) (hci : ci < 10) (hb : b ≤ (nc n : Int)) (hR : rm.frames + 1 ≤ rm0.frames ∧ 8 + (maxL + 11) + rm.locals ≤ rm0.locals) (hf : cells + rm.cells ≤ rm0.cells ∧ slots + rm.slots ≤ rm0.slots)
    (hcat : (S.map catA).sum ≤ 8) (hd : decode cc pc = .ok (.invokevirtual index, 3)) (hst : S0 = As.reverse ++ vr b :: S)
    (kk : ∀ (r : Option AV) (n' : Nat) (v' : VT), Φ r n' v' → E X G (cells + rm.cells) (slots + rm.slots) n' v' (pc + 3) L (r.toList ++ S)) : E X G cells slots n v pc L S0 := by
  subst hst
  intro h1 h2 h3 H locs ls hw hS hl2
  obtain ⟨k1, k2⟩ := ok_split h3
  have hM := hM (xl X) h1 (fun a ha => by
    rcases List.mem_cons.mp ha with rfl | ha
    · exact trivial
    · exact k1 a ha)
  have hP := preV_ok (As := As) C hw hc hs hci hb
  rw [hq] at hP
  have hstk : ((As.reverse ++ vr b :: S).map (conc G)) = (As.map (conc G)).reverse ++ .ref (adr G b) :: S.map (conc G) := by simp [conc, List.map_reverse]
  have hroom : 2 * (F0 (xm X) pc ls ((As.reverse ++ vr b :: S).map (conc G))).monitorRoom + ((S.map (conc G)).map fun v => v.category).sum ≤ 8 := lv_room (by rw [catA_map]; exact hcat)
  rw [← hX] at hf
  rcases hl with hl | ⟨host, hl⟩
  · exact E.call0 (va_runV (fix_ok C) hM ⟨callB_ok C hy hl hX hR, C.2.2.2.2.1 _ hV.1, C.2.2.2.2.1 _ hV.2⟩ hP rfl (by rw [List.length_map]; exact hnp) hl2.1 hstk hroom hd hf) hw hS hl2 h2 (ok_t k2) kk
  · exact E.call0 (va_runVN (fix_ok C) hM ⟨callN_ok C hy hl hX hR, C.2.2.2.2.1 _ hV.1, C.2.2.2.2.1 _ hV.2⟩ hP rfl (by rw [List.length_map]; exact hnp) hl2.1 hstk hroom hd hf) hw hS hl2 h2 (ok_t k2) kk
theorem E.callS (C : Cx X G own cc) (hX : xR X = rm0) (hM : MT G y bytes maxL ret rm As n v Φ) (hy : YF y bytes maxL ret np) (hV : Cond.static y ∈ lw_good) (hl : ML own index y)
    (hnp : As.length = np) (hR : rm.frames + 1 ≤ rm0.frames ∧ 8 + (maxL + 11) + rm.locals ≤ rm0.locals) (hf : cells + rm.cells ≤ rm0.cells ∧ slots + rm.slots ≤ rm0.slots)
    (hcat : (S.map catA).sum ≤ 8) (hd : decode cc pc = .ok (.invokestatic index, 3)) (hst : S0 = As.reverse ++ S)
    (kk : ∀ (r : Option AV) (n' : Nat) (v' : VT), Φ r n' v' → E X G (cells + rm.cells) (slots + rm.slots) n' v' (pc + 3) L (r.toList ++ S)) : E X G cells slots n v pc L S0 := by
  subst hst
  intro h1 h2 h3 H locs ls hw hS hl2
  obtain ⟨k1, k2⟩ := ok_split h3
  have hM := hM (xl X) h1 k1
  have hstk : ((As.reverse ++ S).map (conc G)) = (As.map (conc G)).reverse ++ S.map (conc G) := by simp [List.map_reverse]
  have hroom : 2 * (F0 (xm X) pc ls ((As.reverse ++ S).map (conc G))).monitorRoom + ((S.map (conc G)).map fun v => v.category).sum ≤ 8 := lv_room (by rw [catA_map]; exact hcat)
  rw [← hX] at hf
  rcases hl with hl | ⟨host, hl⟩
  · exact E.call0 (va_runS (fix_ok C) hM ⟨callB_ok C hy hl hX hR, C.2.2.2.2.1 _ hV⟩ (pre_ok C hw) rfl (by rw [List.length_map]; exact hnp) hl2.1 hstk hroom hd hf) hw hS hl2 h2 k2 kk
  · exact E.call0 (va_runSN (fix_ok C) hM ⟨callN_ok C hy hl hX hR, C.2.2.2.2.1 _ hV, trivial⟩ (pre_ok C hw) rfl (by rw [List.length_map]; exact hnp) hl2.1 hstk hroom hd hf) hw hS hl2 h2 k2 kk
theorem E.callI (C : Cx X G own cc) (hX : xR X = rm0) (hM : MT G y bytes maxL none rm (vr b :: As) n v Φ) (hy : YF y bytes maxL none np) (hn : y.name = "<init>") (hV : Cond.instanceMethod y ∈ lw_good) (hl : ML own index y)
    (hnp : As.length = np) (hR : rm.frames + 1 ≤ rm0.frames ∧ 8 + (maxL + 11) + rm.locals ≤ rm0.locals) (hf : cells + rm.cells ≤ rm0.cells ∧ slots + rm.slots ≤ rm0.slots)
    (hcat : (S.map catA).sum ≤ 8) (hd : decode cc pc = .ok (.invokespecial index, 3)) (hst : S0 = As.reverse ++ vr b :: S)
    (kk : ∀ (r : Option AV) (n' : Nat) (v' : VT), Φ r n' v' → E X G (cells + rm.cells) (slots + rm.slots) n' v' (pc + 3) L (r.toList ++ S)) : E X G cells slots n v pc L S0 := by
  subst hst
  intro h1 h2 h3 H locs ls hw hS hl2
  obtain ⟨k1, k2⟩ := ok_split h3
  have hM := hM (xl X) h1 (fun a ha => by
    rcases List.mem_cons.mp ha with rfl | ha
    · exact trivial
    · exact k1 a ha)
  have hP : PreS (xs X) H (va_Pc ((vr b :: As).map (conc G)) (BS G n v)) (Value.ref (adr G b) :: As.map (conc G)) := pre_ok (As := vr b :: As) C hw
  have hstk : ((As.reverse ++ vr b :: S).map (conc G)) = (As.map (conc G)).reverse ++ .ref (adr G b) :: S.map (conc G) := by simp [conc, List.map_reverse]
  have hroom : 2 * (F0 (xm X) pc ls ((As.reverse ++ vr b :: S).map (conc G))).monitorRoom + ((S.map (conc G)).map fun v => v.category).sum ≤ 8 := lv_room (by rw [catA_map]; exact hcat)
  rw [← hX] at hf
  rcases hl with hl | ⟨host, hl⟩
  · exact E.call0 (va_runI (fix_ok C) hM ⟨callB_ok C hy hl hX hR, hn, C.2.2.2.2.1 _ hV⟩ hP rfl (by rw [List.length_map]; exact hnp) hl2.1 hstk hroom hd hf) hw hS hl2 h2 (ok_t k2) kk
  · exact E.call0 (va_runIN (fix_ok C) hM ⟨callN_ok C hy hl hX hR, hn, C.2.2.2.2.1 _ hV⟩ hP rfl (by rw [List.length_map]; exact hnp) hl2.1 hstk hroom hd hf) hw hS hl2 h2 (ok_t k2) kk
theorem E.objInit (C : Cx X G own cc) (hX : xR X = rm0) (hl : Cond.methodLink own index objectInit ∈ lw_good) (hi : Cond.instanceMethod objectInit ∈ lw_good) (hcd : Cond.code objectInit ⟨#[0xb1]⟩ 1 none ∈ lw_good) (hd : decode cc pc = .ok (.invokespecial index, 3)) (hfr : 1 ≤ rm0.frames) (hlo : (S.map catA).sum + 12 ≤ rm0.locals)
    (kk : E X G cells slots n v (pc + 3) L S) : E X G cells slots n v pc L (vr b :: S) := by
  intro h1 h2 h3 H locs ls hw hS hl2
  refine W.objInit C.1 C.2.1 C.2.2.2.1 (C.2.2.2.2.1 _ hl) (C.2.2.2.2.1 _ hi) (C.2.2.2.2.1 _ hcd) rfl (by rw [C.2.2.1]; exact hl2.1) rfl hd (by rw [hX]; exact hfr) ?_ (kk h1 h2 (ok_t h3) H locs ls hw hS hl2)
  rw [hX, catA_map]
  exact (by simpa [JFrame.monitorRoom] using hlo)
end CALL
end
