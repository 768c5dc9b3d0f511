-- ===== PART A: goes FIRST, ahead of the names: the tables' words, and 'selects' of the private methods out of them =====
/-- a private method of a class that the tables say can be made, by its rows of tables_1 -/
def lw_okq (q : MethodName × Nat) : Prop := (q.1.cls ≠ "java/lang/invoke/MethodHandle" ∧ q.1.cls ≠ "java/lang/invoke/VarHandle") ∧ Cond.instantiable q.1.cls q.2 ∈ tables_1 ∧ Cond.privateMethod q.1 ∈ tables_1 ∧ Cond.instanceMethod q.1 ∈ tables_1
theorem lw_p0 : lw_okq (⟨"HandedDown$Reader", "nextToken", "()V"⟩, 12) := ⟨⟨by decide +kernel, by decide +kernel⟩, List.mem_of_getElem? (i := 166) (by decide +kernel), List.mem_of_getElem? (i := 365) (by decide +kernel), List.mem_of_getElem? (i := 366) (by decide +kernel)⟩
theorem lw_p1 : lw_okq (⟨"HandedDown$Reader", "takeLine", "()Z"⟩, 12) := ⟨⟨by decide +kernel, by decide +kernel⟩, List.mem_of_getElem? (i := 166) (by decide +kernel), List.mem_of_getElem? (i := 379) (by decide +kernel), List.mem_of_getElem? (i := 380) (by decide +kernel)⟩
theorem lw_p2 : lw_okq (⟨"HandedDown$Reader", "refuse", "(I)Z"⟩, 12) := ⟨⟨by decide +kernel, by decide +kernel⟩, List.mem_of_getElem? (i := 166) (by decide +kernel), List.mem_of_getElem? (i := 383) (by decide +kernel), List.mem_of_getElem? (i := 384) (by decide +kernel)⟩
theorem lw_p3 : lw_okq (⟨"HandedDown$Reader", "isNamed", "(Ljava/lang/String;)Z"⟩, 12) := ⟨⟨by decide +kernel, by decide +kernel⟩, List.mem_of_getElem? (i := 166) (by decide +kernel), List.mem_of_getElem? (i := 388) (by decide +kernel), List.mem_of_getElem? (i := 389) (by decide +kernel)⟩
theorem lw_p4 : lw_okq (⟨"HandedDown$Reader", "takeSlack", "()Z"⟩, 12) := ⟨⟨by decide +kernel, by decide +kernel⟩, List.mem_of_getElem? (i := 166) (by decide +kernel), List.mem_of_getElem? (i := 440) (by decide +kernel), List.mem_of_getElem? (i := 441) (by decide +kernel)⟩
theorem lw_p5 : lw_okq (⟨"HandedDown$Reader", "takeNumber", "(II)Z"⟩, 12) := ⟨⟨by decide +kernel, by decide +kernel⟩, List.mem_of_getElem? (i := 166) (by decide +kernel), List.mem_of_getElem? (i := 444) (by decide +kernel), List.mem_of_getElem? (i := 445) (by decide +kernel)⟩
theorem lw_p6 : lw_okq (⟨"HandedDown$Reader", "takeStop", "()Z"⟩, 12) := ⟨⟨by decide +kernel, by decide +kernel⟩, List.mem_of_getElem? (i := 166) (by decide +kernel), List.mem_of_getElem? (i := 449) (by decide +kernel), List.mem_of_getElem? (i := 450) (by decide +kernel)⟩
theorem lw_p7 : lw_okq (⟨"HandedDown$Reader", "takeChild", "()Z"⟩, 12) := ⟨⟨by decide +kernel, by decide +kernel⟩, List.mem_of_getElem? (i := 166) (by decide +kernel), List.mem_of_getElem? (i := 454) (by decide +kernel), List.mem_of_getElem? (i := 455) (by decide +kernel)⟩
theorem lw_p8 : lw_okq (⟨"HandedDown$Reader", "takeThing", "(I)Z"⟩, 12) := ⟨⟨by decide +kernel, by decide +kernel⟩, List.mem_of_getElem? (i := 166) (by decide +kernel), List.mem_of_getElem? (i := 463) (by decide +kernel), List.mem_of_getElem? (i := 464) (by decide +kernel)⟩
theorem lw_p9 : lw_okq (⟨"HandedDown$Reader", "kindNamed", "()I"⟩, 12) := ⟨⟨by decide +kernel, by decide +kernel⟩, List.mem_of_getElem? (i := 166) (by decide +kernel), List.mem_of_getElem? (i := 467) (by decide +kernel), List.mem_of_getElem? (i := 468) (by decide +kernel)⟩
theorem lw_p10 : lw_okq (⟨"HandedDown$Reader", "takeLiking", "()Z"⟩, 12) := ⟨⟨by decide +kernel, by decide +kernel⟩, List.mem_of_getElem? (i := 166) (by decide +kernel), List.mem_of_getElem? (i := 493) (by decide +kernel), List.mem_of_getElem? (i := 494) (by decide +kernel)⟩
theorem lw_p11 : lw_okq (⟨"HandedDown$Reader", "takeMark", "()Z"⟩, 12) := ⟨⟨by decide +kernel, by decide +kernel⟩, List.mem_of_getElem? (i := 166) (by decide +kernel), List.mem_of_getElem? (i := 502) (by decide +kernel), List.mem_of_getElem? (i := 503) (by decide +kernel)⟩
theorem lw_p12 : lw_okq (⟨"HandedDown$Deal", "seekFree", "(II)I"⟩, 8) := ⟨⟨by decide +kernel, by decide +kernel⟩, List.mem_of_getElem? (i := 215) (by decide +kernel), List.mem_of_getElem? (i := 625) (by decide +kernel), List.mem_of_getElem? (i := 626) (by decide +kernel)⟩
theorem lw_p13 : lw_okq (⟨"HandedDown$Deal", "passAlong", "(I)V"⟩, 8) := ⟨⟨by decide +kernel, by decide +kernel⟩, List.mem_of_getElem? (i := 215) (by decide +kernel), List.mem_of_getElem? (i := 629) (by decide +kernel), List.mem_of_getElem? (i := 630) (by decide +kernel)⟩
theorem lw_p14 : lw_okq (⟨"HandedDown$Deal", "give", "(II)V"⟩, 8) := ⟨⟨by decide +kernel, by decide +kernel⟩, List.mem_of_getElem? (i := 215) (by decide +kernel), List.mem_of_getElem? (i := 633) (by decide +kernel), List.mem_of_getElem? (i := 634) (by decide +kernel)⟩
theorem lw_p15 : lw_okq (⟨"HandedDown$Deal", "canHave", "(III)Z"⟩, 8) := ⟨⟨by decide +kernel, by decide +kernel⟩, List.mem_of_getElem? (i := 215) (by decide +kernel), List.mem_of_getElem? (i := 641) (by decide +kernel), List.mem_of_getElem? (i := 642) (by decide +kernel)⟩
def lw_privs_1 : List (MethodName × Nat) := [(⟨"HandedDown$Reader", "nextToken", "()V"⟩, 12), (⟨"HandedDown$Reader", "takeLine", "()Z"⟩, 12), (⟨"HandedDown$Reader", "refuse", "(I)Z"⟩, 12), (⟨"HandedDown$Reader", "isNamed", "(Ljava/lang/String;)Z"⟩, 12), (⟨"HandedDown$Reader", "takeSlack", "()Z"⟩, 12), (⟨"HandedDown$Reader", "takeNumber", "(II)Z"⟩, 12), (⟨"HandedDown$Reader", "takeStop", "()Z"⟩, 12), (⟨"HandedDown$Reader", "takeChild", "()Z"⟩, 12), (⟨"HandedDown$Reader", "takeThing", "(I)Z"⟩, 12), (⟨"HandedDown$Reader", "kindNamed", "()I"⟩, 12), (⟨"HandedDown$Reader", "takeLiking", "()Z"⟩, 12), (⟨"HandedDown$Reader", "takeMark", "()Z"⟩, 12), (⟨"HandedDown$Deal", "seekFree", "(II)I"⟩, 8), (⟨"HandedDown$Deal", "passAlong", "(I)V"⟩, 8), (⟨"HandedDown$Deal", "give", "(II)V"⟩, 8), (⟨"HandedDown$Deal", "canHave", "(III)Z"⟩, 8)]
theorem lw_r1 : ∀ q ∈ lw_privs_1, lw_okq q := List.forall_mem_cons.mpr ⟨lw_p0, List.forall_mem_cons.mpr ⟨lw_p1, List.forall_mem_cons.mpr ⟨lw_p2, List.forall_mem_cons.mpr ⟨lw_p3, List.forall_mem_cons.mpr ⟨lw_p4, List.forall_mem_cons.mpr ⟨lw_p5, List.forall_mem_cons.mpr ⟨lw_p6, List.forall_mem_cons.mpr ⟨lw_p7, List.forall_mem_cons.mpr ⟨lw_p8, List.forall_mem_cons.mpr ⟨lw_p9, List.forall_mem_cons.mpr ⟨lw_p10, List.forall_mem_cons.mpr ⟨lw_p11, List.forall_mem_cons.mpr ⟨lw_p12, List.forall_mem_cons.mpr ⟨lw_p13, List.forall_mem_cons.mpr ⟨lw_p14, List.forall_mem_cons.mpr ⟨lw_p15, fun _ h => absurd h List.not_mem_nil⟩⟩⟩⟩⟩⟩⟩⟩⟩⟩⟩⟩⟩⟩⟩⟩
theorem lw_p16 : lw_okq (⟨"HandedDown", "dressAll", "(LHandedDown$Village;I)I"⟩, 16) := ⟨⟨by decide +kernel, by decide +kernel⟩, List.mem_of_getElem? (i := 20) (by decide +kernel), List.mem_of_getElem? (i := 653) (by decide +kernel), List.mem_of_getElem? (i := 654) (by decide +kernel)⟩
theorem lw_p17 : lw_okq (⟨"HandedDown", "newAhead", "(IIZ)I"⟩, 16) := ⟨⟨by decide +kernel, by decide +kernel⟩, List.mem_of_getElem? (i := 20) (by decide +kernel), List.mem_of_getElem? (i := 707) (by decide +kernel), List.mem_of_getElem? (i := 708) (by decide +kernel)⟩
theorem lw_p18 : lw_okq (⟨"HandedDown", "startCuts", "(IIZ)V"⟩, 16) := ⟨⟨by decide +kernel, by decide +kernel⟩, List.mem_of_getElem? (i := 20) (by decide +kernel), List.mem_of_getElem? (i := 728) (by decide +kernel), List.mem_of_getElem? (i := 729) (by decide +kernel)⟩
theorem lw_p19 : lw_okq (⟨"HandedDown", "tryCuts", "(IIZ)V"⟩, 16) := ⟨⟨by decide +kernel, by decide +kernel⟩, List.mem_of_getElem? (i := 20) (by decide +kernel), List.mem_of_getElem? (i := 732) (by decide +kernel), List.mem_of_getElem? (i := 733) (by decide +kernel)⟩
theorem lw_p20 : lw_okq (⟨"HandedDown$Village", "bothWant", "(IIIII)Z"⟩, 7) := ⟨⟨by decide +kernel, by decide +kernel⟩, List.mem_of_getElem? (i := 44) (by decide +kernel), List.mem_of_getElem? (i := 768) (by decide +kernel), List.mem_of_getElem? (i := 769) (by decide +kernel)⟩
theorem lw_p21 : lw_okq (⟨"HandedDown$MarkRows", "endingsBehind", "(I)I"⟩, 5) := ⟨⟨by decide +kernel, by decide +kernel⟩, List.mem_of_getElem? (i := 248) (by decide +kernel), List.mem_of_getElem? (i := 813) (by decide +kernel), List.mem_of_getElem? (i := 814) (by decide +kernel)⟩
theorem lw_p22 : lw_okq (⟨"HandedDown$MarkRows", "canFollow", "(III)Z"⟩, 5) := ⟨⟨by decide +kernel, by decide +kernel⟩, List.mem_of_getElem? (i := 248) (by decide +kernel), List.mem_of_getElem? (i := 823) (by decide +kernel), List.mem_of_getElem? (i := 824) (by decide +kernel)⟩
theorem lw_p23 : lw_okq (⟨"HandedDown$MarkRows", "firstBehind", "(II)I"⟩, 5) := ⟨⟨by decide +kernel, by decide +kernel⟩, List.mem_of_getElem? (i := 248) (by decide +kernel), List.mem_of_getElem? (i := 835) (by decide +kernel), List.mem_of_getElem? (i := 836) (by decide +kernel)⟩
theorem lw_p24 : lw_okq (⟨"HandedDownModel", "firstDraft", "()V"⟩, 38) := ⟨⟨by decide +kernel, by decide +kernel⟩, List.mem_of_getElem? (i := 928) (by decide +kernel), List.mem_of_getElem? (i := 934) (by decide +kernel), List.mem_of_getElem? (i := 935) (by decide +kernel)⟩
theorem lw_p25 : lw_okq (⟨"HandedDownModel", "keepDraft", "()V"⟩, 38) := ⟨⟨by decide +kernel, by decide +kernel⟩, List.mem_of_getElem? (i := 928) (by decide +kernel), List.mem_of_getElem? (i := 938) (by decide +kernel), List.mem_of_getElem? (i := 939) (by decide +kernel)⟩
theorem lw_p26 : lw_okq (⟨"HandedDownModel", "next", "()V"⟩, 38) := ⟨⟨by decide +kernel, by decide +kernel⟩, List.mem_of_getElem? (i := 928) (by decide +kernel), List.mem_of_getElem? (i := 1073) (by decide +kernel), List.mem_of_getElem? (i := 1074) (by decide +kernel)⟩
theorem lw_p27 : lw_okq (⟨"HandedDownModel", "look", "(I)I"⟩, 38) := ⟨⟨by decide +kernel, by decide +kernel⟩, List.mem_of_getElem? (i := 928) (by decide +kernel), List.mem_of_getElem? (i := 1077) (by decide +kernel), List.mem_of_getElem? (i := 1078) (by decide +kernel)⟩
theorem lw_p28 : lw_okq (⟨"HandedDownModel", "needs", "(ZI)V"⟩, 38) := ⟨⟨by decide +kernel, by decide +kernel⟩, List.mem_of_getElem? (i := 928) (by decide +kernel), List.mem_of_getElem? (i := 1085) (by decide +kernel), List.mem_of_getElem? (i := 1086) (by decide +kernel)⟩
theorem lw_p29 : lw_okq (⟨"HandedDownModel", "readLine", "()V"⟩, 38) := ⟨⟨by decide +kernel, by decide +kernel⟩, List.mem_of_getElem? (i := 928) (by decide +kernel), List.mem_of_getElem? (i := 1089) (by decide +kernel), List.mem_of_getElem? (i := 1090) (by decide +kernel)⟩
theorem lw_p30 : lw_okq (⟨"HandedDownModel", "lineNow", "()I"⟩, 38) := ⟨⟨by decide +kernel, by decide +kernel⟩, List.mem_of_getElem? (i := 928) (by decide +kernel), List.mem_of_getElem? (i := 1093) (by decide +kernel), List.mem_of_getElem? (i := 1094) (by decide +kernel)⟩
theorem lw_p31 : lw_okq (⟨"HandedDownModel", "is", "(IIIII)Z"⟩, 38) := ⟨⟨by decide +kernel, by decide +kernel⟩, List.mem_of_getElem? (i := 928) (by decide +kernel), List.mem_of_getElem? (i := 1097) (by decide +kernel), List.mem_of_getElem? (i := 1098) (by decide +kernel)⟩
def lw_privs_2 : List (MethodName × Nat) := [(⟨"HandedDown", "dressAll", "(LHandedDown$Village;I)I"⟩, 16), (⟨"HandedDown", "newAhead", "(IIZ)I"⟩, 16), (⟨"HandedDown", "startCuts", "(IIZ)V"⟩, 16), (⟨"HandedDown", "tryCuts", "(IIZ)V"⟩, 16), (⟨"HandedDown$Village", "bothWant", "(IIIII)Z"⟩, 7), (⟨"HandedDown$MarkRows", "endingsBehind", "(I)I"⟩, 5), (⟨"HandedDown$MarkRows", "canFollow", "(III)Z"⟩, 5), (⟨"HandedDown$MarkRows", "firstBehind", "(II)I"⟩, 5), (⟨"HandedDownModel", "firstDraft", "()V"⟩, 38), (⟨"HandedDownModel", "keepDraft", "()V"⟩, 38), (⟨"HandedDownModel", "next", "()V"⟩, 38), (⟨"HandedDownModel", "look", "(I)I"⟩, 38), (⟨"HandedDownModel", "needs", "(ZI)V"⟩, 38), (⟨"HandedDownModel", "readLine", "()V"⟩, 38), (⟨"HandedDownModel", "lineNow", "()I"⟩, 38), (⟨"HandedDownModel", "is", "(IIIII)Z"⟩, 38)]
theorem lw_r2 : ∀ q ∈ lw_privs_2, lw_okq q := List.forall_mem_cons.mpr ⟨lw_p16, List.forall_mem_cons.mpr ⟨lw_p17, List.forall_mem_cons.mpr ⟨lw_p18, List.forall_mem_cons.mpr ⟨lw_p19, List.forall_mem_cons.mpr ⟨lw_p20, List.forall_mem_cons.mpr ⟨lw_p21, List.forall_mem_cons.mpr ⟨lw_p22, List.forall_mem_cons.mpr ⟨lw_p23, List.forall_mem_cons.mpr ⟨lw_p24, List.forall_mem_cons.mpr ⟨lw_p25, List.forall_mem_cons.mpr ⟨lw_p26, List.forall_mem_cons.mpr ⟨lw_p27, List.forall_mem_cons.mpr ⟨lw_p28, List.forall_mem_cons.mpr ⟨lw_p29, List.forall_mem_cons.mpr ⟨lw_p30, List.forall_mem_cons.mpr ⟨lw_p31, fun _ h => absurd h List.not_mem_nil⟩⟩⟩⟩⟩⟩⟩⟩⟩⟩⟩⟩⟩⟩⟩⟩
theorem lw_p32 : lw_okq (⟨"HandedDownModel", "ends", "(II)Z"⟩, 38) := ⟨⟨by decide +kernel, by decide +kernel⟩, List.mem_of_getElem? (i := 928) (by decide +kernel), List.mem_of_getElem? (i := 1101) (by decide +kernel), List.mem_of_getElem? (i := 1102) (by decide +kernel)⟩
theorem lw_p33 : lw_okq (⟨"HandedDownModel", "readLineOf", "(I)V"⟩, 38) := ⟨⟨by decide +kernel, by decide +kernel⟩, List.mem_of_getElem? (i := 928) (by decide +kernel), List.mem_of_getElem? (i := 1105) (by decide +kernel), List.mem_of_getElem? (i := 1106) (by decide +kernel)⟩
theorem lw_p34 : lw_okq (⟨"HandedDownModel", "readNumber", "(II)I"⟩, 38) := ⟨⟨by decide +kernel, by decide +kernel⟩, List.mem_of_getElem? (i := 928) (by decide +kernel), List.mem_of_getElem? (i := 1109) (by decide +kernel), List.mem_of_getElem? (i := 1110) (by decide +kernel)⟩
theorem lw_p35 : lw_okq (⟨"HandedDownModel", "readChild", "()V"⟩, 38) := ⟨⟨by decide +kernel, by decide +kernel⟩, List.mem_of_getElem? (i := 928) (by decide +kernel), List.mem_of_getElem? (i := 1113) (by decide +kernel), List.mem_of_getElem? (i := 1114) (by decide +kernel)⟩
theorem lw_p36 : lw_okq (⟨"HandedDownModel", "readLike", "()V"⟩, 38) := ⟨⟨by decide +kernel, by decide +kernel⟩, List.mem_of_getElem? (i := 928) (by decide +kernel), List.mem_of_getElem? (i := 1117) (by decide +kernel), List.mem_of_getElem? (i := 1118) (by decide +kernel)⟩
theorem lw_p37 : lw_okq (⟨"HandedDownModel", "readChildOf", "()I"⟩, 38) := ⟨⟨by decide +kernel, by decide +kernel⟩, List.mem_of_getElem? (i := 928) (by decide +kernel), List.mem_of_getElem? (i := 1121) (by decide +kernel), List.mem_of_getElem? (i := 1122) (by decide +kernel)⟩
theorem lw_p38 : lw_okq (⟨"HandedDownModel", "readThing", "(I)V"⟩, 38) := ⟨⟨by decide +kernel, by decide +kernel⟩, List.mem_of_getElem? (i := 928) (by decide +kernel), List.mem_of_getElem? (i := 1125) (by decide +kernel), List.mem_of_getElem? (i := 1126) (by decide +kernel)⟩
theorem lw_p39 : lw_okq (⟨"HandedDownModel", "kindNow", "()I"⟩, 38) := ⟨⟨by decide +kernel, by decide +kernel⟩, List.mem_of_getElem? (i := 928) (by decide +kernel), List.mem_of_getElem? (i := 1129) (by decide +kernel), List.mem_of_getElem? (i := 1130) (by decide +kernel)⟩
theorem lw_p40 : lw_okq (⟨"HandedDownModel", "isChild", "(I)Z"⟩, 38) := ⟨⟨by decide +kernel, by decide +kernel⟩, List.mem_of_getElem? (i := 928) (by decide +kernel), List.mem_of_getElem? (i := 1141) (by decide +kernel), List.mem_of_getElem? (i := 1142) (by decide +kernel)⟩
theorem lw_p41 : lw_okq (⟨"HandedDownModel", "worn", "(II)I"⟩, 38) := ⟨⟨by decide +kernel, by decide +kernel⟩, List.mem_of_getElem? (i := 928) (by decide +kernel), List.mem_of_getElem? (i := 1148) (by decide +kernel), List.mem_of_getElem? (i := 1149) (by decide +kernel)⟩
theorem lw_p42 : lw_okq (⟨"HandedDownModel", "isThing", "(I)Z"⟩, 38) := ⟨⟨by decide +kernel, by decide +kernel⟩, List.mem_of_getElem? (i := 928) (by decide +kernel), List.mem_of_getElem? (i := 1156) (by decide +kernel), List.mem_of_getElem? (i := 1157) (by decide +kernel)⟩
theorem lw_p43 : lw_okq (⟨"HandedDownModel", "of", "(II)I"⟩, 38) := ⟨⟨by decide +kernel, by decide +kernel⟩, List.mem_of_getElem? (i := 928) (by decide +kernel), List.mem_of_getElem? (i := 1161) (by decide +kernel), List.mem_of_getElem? (i := 1162) (by decide +kernel)⟩
theorem lw_p44 : lw_okq (⟨"HandedDownModel", "whoWears", "(I)I"⟩, 38) := ⟨⟨by decide +kernel, by decide +kernel⟩, List.mem_of_getElem? (i := 928) (by decide +kernel), List.mem_of_getElem? (i := 1165) (by decide +kernel), List.mem_of_getElem? (i := 1166) (by decide +kernel)⟩
theorem lw_p45 : lw_okq (⟨"HandedDownModel", "fitNow", "(II)I"⟩, 38) := ⟨⟨by decide +kernel, by decide +kernel⟩, List.mem_of_getElem? (i := 928) (by decide +kernel), List.mem_of_getElem? (i := 1183) (by decide +kernel), List.mem_of_getElem? (i := 1184) (by decide +kernel)⟩
theorem lw_p46 : lw_okq (⟨"HandedDownModel", "fitOf", "(III)I"⟩, 38) := ⟨⟨by decide +kernel, by decide +kernel⟩, List.mem_of_getElem? (i := 928) (by decide +kernel), List.mem_of_getElem? (i := 1187) (by decide +kernel), List.mem_of_getElem? (i := 1188) (by decide +kernel)⟩
theorem lw_p47 : lw_okq (⟨"HandedDownModel", "takesOff", "(II)V"⟩, 38) := ⟨⟨by decide +kernel, by decide +kernel⟩, List.mem_of_getElem? (i := 928) (by decide +kernel), List.mem_of_getElem? (i := 1196) (by decide +kernel), List.mem_of_getElem? (i := 1197) (by decide +kernel)⟩
def lw_privs_3 : List (MethodName × Nat) := [(⟨"HandedDownModel", "ends", "(II)Z"⟩, 38), (⟨"HandedDownModel", "readLineOf", "(I)V"⟩, 38), (⟨"HandedDownModel", "readNumber", "(II)I"⟩, 38), (⟨"HandedDownModel", "readChild", "()V"⟩, 38), (⟨"HandedDownModel", "readLike", "()V"⟩, 38), (⟨"HandedDownModel", "readChildOf", "()I"⟩, 38), (⟨"HandedDownModel", "readThing", "(I)V"⟩, 38), (⟨"HandedDownModel", "kindNow", "()I"⟩, 38), (⟨"HandedDownModel", "isChild", "(I)Z"⟩, 38), (⟨"HandedDownModel", "worn", "(II)I"⟩, 38), (⟨"HandedDownModel", "isThing", "(I)Z"⟩, 38), (⟨"HandedDownModel", "of", "(II)I"⟩, 38), (⟨"HandedDownModel", "whoWears", "(I)I"⟩, 38), (⟨"HandedDownModel", "fitNow", "(II)I"⟩, 38), (⟨"HandedDownModel", "fitOf", "(III)I"⟩, 38), (⟨"HandedDownModel", "takesOff", "(II)V"⟩, 38)]
theorem lw_r3 : ∀ q ∈ lw_privs_3, lw_okq q := List.forall_mem_cons.mpr ⟨lw_p32, List.forall_mem_cons.mpr ⟨lw_p33, List.forall_mem_cons.mpr ⟨lw_p34, List.forall_mem_cons.mpr ⟨lw_p35, List.forall_mem_cons.mpr ⟨lw_p36, List.forall_mem_cons.mpr ⟨lw_p37, List.forall_mem_cons.mpr ⟨lw_p38, List.forall_mem_cons.mpr ⟨lw_p39, List.forall_mem_cons.mpr ⟨lw_p40, List.forall_mem_cons.mpr ⟨lw_p41, List.forall_mem_cons.mpr ⟨lw_p42, List.forall_mem_cons.mpr ⟨lw_p43, List.forall_mem_cons.mpr ⟨lw_p44, List.forall_mem_cons.mpr ⟨lw_p45, List.forall_mem_cons.mpr ⟨lw_p46, List.forall_mem_cons.mpr ⟨lw_p47, fun _ h => absurd h List.not_mem_nil⟩⟩⟩⟩⟩⟩⟩⟩⟩⟩⟩⟩⟩⟩⟩⟩
theorem lw_p48 : lw_okq (⟨"HandedDownModel", "putsOn", "(II)V"⟩, 38) := ⟨⟨by decide +kernel, by decide +kernel⟩, List.mem_of_getElem? (i := 928) (by decide +kernel), List.mem_of_getElem? (i := 1200) (by decide +kernel), List.mem_of_getElem? (i := 1201) (by decide +kernel)⟩
theorem lw_p49 : lw_okq (⟨"HandedDownModel", "findDeal", "(I)I"⟩, 38) := ⟨⟨by decide +kernel, by decide +kernel⟩, List.mem_of_getElem? (i := 928) (by decide +kernel), List.mem_of_getElem? (i := 1222) (by decide +kernel), List.mem_of_getElem? (i := 1223) (by decide +kernel)⟩
theorem lw_p50 : lw_okq (⟨"HandedDownModel", "findCanHave", "(I)V"⟩, 38) := ⟨⟨by decide +kernel, by decide +kernel⟩, List.mem_of_getElem? (i := 928) (by decide +kernel), List.mem_of_getElem? (i := 1226) (by decide +kernel), List.mem_of_getElem? (i := 1227) (by decide +kernel)⟩
theorem lw_p51 : lw_okq (⟨"HandedDownModel", "findMost", "()I"⟩, 38) := ⟨⟨by decide +kernel, by decide +kernel⟩, List.mem_of_getElem? (i := 928) (by decide +kernel), List.mem_of_getElem? (i := 1230) (by decide +kernel), List.mem_of_getElem? (i := 1231) (by decide +kernel)⟩
theorem lw_p52 : lw_okq (⟨"HandedDownModel", "getsOne", "(II)Z"⟩, 38) := ⟨⟨by decide +kernel, by decide +kernel⟩, List.mem_of_getElem? (i := 928) (by decide +kernel), List.mem_of_getElem? (i := 1234) (by decide +kernel), List.mem_of_getElem? (i := 1235) (by decide +kernel)⟩
theorem lw_p53 : lw_okq (⟨"HandedDownModel", "givesOn", "(II)V"⟩, 38) := ⟨⟨by decide +kernel, by decide +kernel⟩, List.mem_of_getElem? (i := 928) (by decide +kernel), List.mem_of_getElem? (i := 1238) (by decide +kernel), List.mem_of_getElem? (i := 1239) (by decide +kernel)⟩
theorem lw_p54 : lw_okq (⟨"HandedDownModel", "canGet", "(III)Z"⟩, 38) := ⟨⟨by decide +kernel, by decide +kernel⟩, List.mem_of_getElem? (i := 928) (by decide +kernel), List.mem_of_getElem? (i := 1242) (by decide +kernel), List.mem_of_getElem? (i := 1243) (by decide +kernel)⟩
theorem lw_p55 : lw_okq (⟨"HandedDownModel", "keepsDeal", "()V"⟩, 38) := ⟨⟨by decide +kernel, by decide +kernel⟩, List.mem_of_getElem? (i := 928) (by decide +kernel), List.mem_of_getElem? (i := 1246) (by decide +kernel), List.mem_of_getElem? (i := 1247) (by decide +kernel)⟩
theorem lw_p56 : lw_okq (⟨"HandedDownModel", "asKept", "()V"⟩, 38) := ⟨⟨by decide +kernel, by decide +kernel⟩, List.mem_of_getElem? (i := 928) (by decide +kernel), List.mem_of_getElem? (i := 1250) (by decide +kernel), List.mem_of_getElem? (i := 1251) (by decide +kernel)⟩
theorem lw_p57 : lw_okq (⟨"HandedDownModel", "dresses", "(I)I"⟩, 38) := ⟨⟨by decide +kernel, by decide +kernel⟩, List.mem_of_getElem? (i := 928) (by decide +kernel), List.mem_of_getElem? (i := 1258) (by decide +kernel), List.mem_of_getElem? (i := 1259) (by decide +kernel)⟩
theorem lw_p58 : lw_okq (⟨"HandedDownModel", "isOut", "(I)Z"⟩, 38) := ⟨⟨by decide +kernel, by decide +kernel⟩, List.mem_of_getElem? (i := 928) (by decide +kernel), List.mem_of_getElem? (i := 1266) (by decide +kernel), List.mem_of_getElem? (i := 1267) (by decide +kernel)⟩
theorem lw_p59 : lw_okq (⟨"HandedDownModel", "winters", "()I"⟩, 38) := ⟨⟨by decide +kernel, by decide +kernel⟩, List.mem_of_getElem? (i := 928) (by decide +kernel), List.mem_of_getElem? (i := 1274) (by decide +kernel), List.mem_of_getElem? (i := 1275) (by decide +kernel)⟩
theorem lw_p60 : lw_okq (⟨"HandedDownModel", "springs", "(Z)I"⟩, 38) := ⟨⟨by decide +kernel, by decide +kernel⟩, List.mem_of_getElem? (i := 928) (by decide +kernel), List.mem_of_getElem? (i := 1282) (by decide +kernel), List.mem_of_getElem? (i := 1283) (by decide +kernel)⟩
theorem lw_p61 : lw_okq (⟨"HandedDownModel", "grows", "(IZ)V"⟩, 38) := ⟨⟨by decide +kernel, by decide +kernel⟩, List.mem_of_getElem? (i := 928) (by decide +kernel), List.mem_of_getElem? (i := 1286) (by decide +kernel), List.mem_of_getElem? (i := 1287) (by decide +kernel)⟩
theorem lw_p62 : lw_okq (⟨"HandedDownModel", "aheadBy", "(IIZ)I"⟩, 38) := ⟨⟨by decide +kernel, by decide +kernel⟩, List.mem_of_getElem? (i := 928) (by decide +kernel), List.mem_of_getElem? (i := 1297) (by decide +kernel), List.mem_of_getElem? (i := 1298) (by decide +kernel)⟩
theorem lw_p63 : lw_okq (⟨"HandedDownModel", "copies", "(II)V"⟩, 38) := ⟨⟨by decide +kernel, by decide +kernel⟩, List.mem_of_getElem? (i := 928) (by decide +kernel), List.mem_of_getElem? (i := 1301) (by decide +kernel), List.mem_of_getElem? (i := 1302) (by decide +kernel)⟩
def lw_privs_4 : List (MethodName × Nat) := [(⟨"HandedDownModel", "putsOn", "(II)V"⟩, 38), (⟨"HandedDownModel", "findDeal", "(I)I"⟩, 38), (⟨"HandedDownModel", "findCanHave", "(I)V"⟩, 38), (⟨"HandedDownModel", "findMost", "()I"⟩, 38), (⟨"HandedDownModel", "getsOne", "(II)Z"⟩, 38), (⟨"HandedDownModel", "givesOn", "(II)V"⟩, 38), (⟨"HandedDownModel", "canGet", "(III)Z"⟩, 38), (⟨"HandedDownModel", "keepsDeal", "()V"⟩, 38), (⟨"HandedDownModel", "asKept", "()V"⟩, 38), (⟨"HandedDownModel", "dresses", "(I)I"⟩, 38), (⟨"HandedDownModel", "isOut", "(I)Z"⟩, 38), (⟨"HandedDownModel", "winters", "()I"⟩, 38), (⟨"HandedDownModel", "springs", "(Z)I"⟩, 38), (⟨"HandedDownModel", "grows", "(IZ)V"⟩, 38), (⟨"HandedDownModel", "aheadBy", "(IIZ)I"⟩, 38), (⟨"HandedDownModel", "copies", "(II)V"⟩, 38)]
theorem lw_r4 : ∀ q ∈ lw_privs_4, lw_okq q := List.forall_mem_cons.mpr ⟨lw_p48, List.forall_mem_cons.mpr ⟨lw_p49, List.forall_mem_cons.mpr ⟨lw_p50, List.forall_mem_cons.mpr ⟨lw_p51, List.forall_mem_cons.mpr ⟨lw_p52, List.forall_mem_cons.mpr ⟨lw_p53, List.forall_mem_cons.mpr ⟨lw_p54, List.forall_mem_cons.mpr ⟨lw_p55, List.forall_mem_cons.mpr ⟨lw_p56, List.forall_mem_cons.mpr ⟨lw_p57, List.forall_mem_cons.mpr ⟨lw_p58, List.forall_mem_cons.mpr ⟨lw_p59, List.forall_mem_cons.mpr ⟨lw_p60, List.forall_mem_cons.mpr ⟨lw_p61, List.forall_mem_cons.mpr ⟨lw_p62, List.forall_mem_cons.mpr ⟨lw_p63, fun _ h => absurd h List.not_mem_nil⟩⟩⟩⟩⟩⟩⟩⟩⟩⟩⟩⟩⟩⟩⟩⟩
theorem lw_p64 : lw_okq (⟨"HandedDownModel", "findCut", "(IIZI)V"⟩, 38) := ⟨⟨by decide +kernel, by decide +kernel⟩, List.mem_of_getElem? (i := 928) (by decide +kernel), List.mem_of_getElem? (i := 1317) (by decide +kernel), List.mem_of_getElem? (i := 1318) (by decide +kernel)⟩
theorem lw_p65 : lw_okq (⟨"HandedDownModel", "sews", "(III)V"⟩, 38) := ⟨⟨by decide +kernel, by decide +kernel⟩, List.mem_of_getElem? (i := 928) (by decide +kernel), List.mem_of_getElem? (i := 1330) (by decide +kernel), List.mem_of_getElem? (i := 1331) (by decide +kernel)⟩
theorem lw_p66 : lw_okq (⟨"HandedDownModel", "firstSwap", "()I"⟩, 38) := ⟨⟨by decide +kernel, by decide +kernel⟩, List.mem_of_getElem? (i := 928) (by decide +kernel), List.mem_of_getElem? (i := 1343) (by decide +kernel), List.mem_of_getElem? (i := 1344) (by decide +kernel)⟩
theorem lw_p67 : lw_okq (⟨"HandedDownModel", "isSwap", "(III)Z"⟩, 38) := ⟨⟨by decide +kernel, by decide +kernel⟩, List.mem_of_getElem? (i := 928) (by decide +kernel), List.mem_of_getElem? (i := 1347) (by decide +kernel), List.mem_of_getElem? (i := 1348) (by decide +kernel)⟩
theorem lw_p68 : lw_okq (⟨"HandedDownModel", "likes", "(II)I"⟩, 38) := ⟨⟨by decide +kernel, by decide +kernel⟩, List.mem_of_getElem? (i := 928) (by decide +kernel), List.mem_of_getElem? (i := 1351) (by decide +kernel), List.mem_of_getElem? (i := 1352) (by decide +kernel)⟩
theorem lw_p69 : lw_okq (⟨"HandedDownModel", "findRows", "()V"⟩, 38) := ⟨⟨by decide +kernel, by decide +kernel⟩, List.mem_of_getElem? (i := 928) (by decide +kernel), List.mem_of_getElem? (i := 1376) (by decide +kernel), List.mem_of_getElem? (i := 1377) (by decide +kernel)⟩
theorem lw_p70 : lw_okq (⟨"HandedDownModel", "takesRow", "(I)V"⟩, 38) := ⟨⟨by decide +kernel, by decide +kernel⟩, List.mem_of_getElem? (i := 928) (by decide +kernel), List.mem_of_getElem? (i := 1380) (by decide +kernel), List.mem_of_getElem? (i := 1381) (by decide +kernel)⟩
theorem lw_p71 : lw_okq (⟨"HandedDownModel", "canMark", "(II)Z"⟩, 38) := ⟨⟨by decide +kernel, by decide +kernel⟩, List.mem_of_getElem? (i := 928) (by decide +kernel), List.mem_of_getElem? (i := 1384) (by decide +kernel), List.mem_of_getElem? (i := 1385) (by decide +kernel)⟩
theorem lw_p72 : lw_okq (⟨"HandedDownModel", "findLeft", "(II)V"⟩, 38) := ⟨⟨by decide +kernel, by decide +kernel⟩, List.mem_of_getElem? (i := 928) (by decide +kernel), List.mem_of_getElem? (i := 1396) (by decide +kernel), List.mem_of_getElem? (i := 1397) (by decide +kernel)⟩
def lw_privs_5 : List (MethodName × Nat) := [(⟨"HandedDownModel", "findCut", "(IIZI)V"⟩, 38), (⟨"HandedDownModel", "sews", "(III)V"⟩, 38), (⟨"HandedDownModel", "firstSwap", "()I"⟩, 38), (⟨"HandedDownModel", "isSwap", "(III)Z"⟩, 38), (⟨"HandedDownModel", "likes", "(II)I"⟩, 38), (⟨"HandedDownModel", "findRows", "()V"⟩, 38), (⟨"HandedDownModel", "takesRow", "(I)V"⟩, 38), (⟨"HandedDownModel", "canMark", "(II)Z"⟩, 38), (⟨"HandedDownModel", "findLeft", "(II)V"⟩, 38)]
theorem lw_r5 : ∀ q ∈ lw_privs_5, lw_okq q := List.forall_mem_cons.mpr ⟨lw_p64, List.forall_mem_cons.mpr ⟨lw_p65, List.forall_mem_cons.mpr ⟨lw_p66, List.forall_mem_cons.mpr ⟨lw_p67, List.forall_mem_cons.mpr ⟨lw_p68, List.forall_mem_cons.mpr ⟨lw_p69, List.forall_mem_cons.mpr ⟨lw_p70, List.forall_mem_cons.mpr ⟨lw_p71, List.forall_mem_cons.mpr ⟨lw_p72, fun _ h => absurd h List.not_mem_nil⟩⟩⟩⟩⟩⟩⟩⟩⟩
def lw_privs : List (MethodName × Nat) := lw_privs_1 ++ (lw_privs_2 ++ (lw_privs_3 ++ (lw_privs_4 ++ (lw_privs_5))))
def lw_tbl : List Cond := k2_sels lw_privs ++ tables_1
theorem lw_privs_ok : ∀ q ∈ lw_privs, lw_okq q := by
  show ∀ q ∈ lw_privs_1 ++ (lw_privs_2 ++ (lw_privs_3 ++ (lw_privs_4 ++ (lw_privs_5)))), lw_okq q
  exact List.forall_mem_append.mpr ⟨lw_r1, List.forall_mem_append.mpr ⟨lw_r2, List.forall_mem_append.mpr ⟨lw_r3, List.forall_mem_append.mpr ⟨lw_r4, lw_r5⟩⟩⟩⟩
-- ===== names (out of the claim's printed names) =====
def RX0 : String := "HandedDown$Child"
def TX0 : u_T := fun k => match k with
  | 0 => ("HandedDown$Child", "size", "I", false)
  | 1 => ("HandedDown$Child", "low", "I", false)
  | _ => ("HandedDown$Child", "high", "I", false)
def tyX0 : Nat → FieldType := fun k => match k with
  | 0 => .int
  | 1 => .int
  | _ => .int
abbrev wsX00 : List Cond := u_ws RX0 TX0 3
theorem nmX0 : ∀ a, a < 3 → ∀ b, b < 3 → a ≠ b → (TX0 a).2.1 ≠ (TX0 b).2.1 := by decide +kernel
theorem tyX0_ok : ∀ k, k < 3 → parseFieldDescriptor (TX0 k).2.2.1 = some (tyX0 k) := by decide +kernel
abbrev cX0_init : ByteArray := prog_2_method_1_code
def yX0_init : MethodName := ⟨RX0, "<init>", "()V"⟩
abbrev cX0_become : ByteArray := prog_2_method_2_code
def yX0_become : MethodName := ⟨RX0, "become", "(LHandedDown$Child;)V"⟩
abbrev cX0_grow : ByteArray := prog_2_method_3_code
def yX0_grow : MethodName := ⟨RX0, "grow", "(Z)V"⟩
def RX1 : String := "HandedDown$Deal"
def TX1 : u_T := fun k => match k with
  | 0 => ("HandedDown$Deal", "may", "[I", true)
  | 1 => ("HandedDown$Deal", "got", "[I", true)
  | 2 => ("HandedDown$Deal", "owner", "[I", true)
  | 3 => ("HandedDown$Deal", "seeker", "[I", true)
  | 4 => ("HandedDown$Deal", "queue", "[I", true)
  | 5 => ("HandedDown$Deal", "childCount", "I", false)
  | 6 => ("HandedDown$Deal", "thingCount", "I", false)
  | _ => ("HandedDown$Deal", "warm", "I", false)
def tyX1 : Nat → FieldType := fun k => match k with
  | 0 => .array .int
  | 1 => .array .int
  | 2 => .array .int
  | 3 => .array .int
  | 4 => .array .int
  | 5 => .int
  | 6 => .int
  | _ => .int
abbrev wsX10 : List Cond := u_ws RX1 TX1 8
theorem nmX1 : ∀ a, a < 8 → ∀ b, b < 8 → a ≠ b → (TX1 a).2.1 ≠ (TX1 b).2.1 := by decide +kernel
theorem tyX1_ok : ∀ k, k < 8 → parseFieldDescriptor (TX1 k).2.2.1 = some (tyX1 k) := by decide +kernel
abbrev cX1_init : ByteArray := prog_3_method_1_code
def yX1_init : MethodName := ⟨RX1, "<init>", "()V"⟩
abbrev cX1_make : ByteArray := prog_3_method_2_code
def yX1_make : MethodName := ⟨RX1, "make", "(LHandedDown$Village;II)V"⟩
abbrev cX1_begin : ByteArray := prog_3_method_3_code
def yX1_begin : MethodName := ⟨RX1, "begin", "(LHandedDown$Village;II)V"⟩
abbrev cX1_addLent : ByteArray := prog_3_method_4_code
def yX1_addLent : MethodName := ⟨RX1, "addLent", "(LHandedDown$Village;LHandedDown$Village;II)V"⟩
abbrev cX1_warmAll : ByteArray := prog_3_method_5_code
def yX1_warmAll : MethodName := ⟨RX1, "warmAll", "()V"⟩
abbrev cX1_thingOf : ByteArray := prog_3_method_6_code
def yX1_thingOf : MethodName := ⟨RX1, "thingOf", "(I)I"⟩
abbrev cX1_leftOf : ByteArray := prog_3_method_7_code
def yX1_leftOf : MethodName := ⟨RX1, "leftOf", "(LHandedDown$Village;IZ)I"⟩
abbrev cX1_seekFree : ByteArray := prog_3_method_8_code
def yX1_seekFree : MethodName := ⟨RX1, "seekFree", "(II)I"⟩
abbrev cX1_passAlong : ByteArray := prog_3_method_9_code
def yX1_passAlong : MethodName := ⟨RX1, "passAlong", "(I)V"⟩
abbrev cX1_putInOrder : ByteArray := prog_3_method_10_code
def yX1_putInOrder : MethodName := ⟨RX1, "putInOrder", "()V"⟩
abbrev cX1_canHave : ByteArray := prog_3_method_11_code
def yX1_canHave : MethodName := ⟨RX1, "canHave", "(III)Z"⟩
abbrev cX1_give : ByteArray := prog_3_method_12_code
def yX1_give : MethodName := ⟨RX1, "give", "(II)V"⟩
def RX2 : String := "HandedDown$MarkRows"
def TX2 : u_T := fun k => match k with
  | 0 => ("HandedDown$MarkRows", "fitting", "[I", true)
  | 1 => ("HandedDown$MarkRows", "endings", "[I", true)
  | 2 => ("HandedDown$MarkRows", "reached", "[I", true)
  | 3 => ("HandedDown$MarkRows", "childCount", "I", false)
  | _ => ("HandedDown$MarkRows", "markCount", "I", false)
def tyX2 : Nat → FieldType := fun k => match k with
  | 0 => .array .int
  | 1 => .array .int
  | 2 => .array .int
  | 3 => .int
  | _ => .int
abbrev wsX20 : List Cond := u_ws RX2 TX2 5
theorem nmX2 : ∀ a, a < 5 → ∀ b, b < 5 → a ≠ b → (TX2 a).2.1 ≠ (TX2 b).2.1 := by decide +kernel
theorem tyX2_ok : ∀ k, k < 5 → parseFieldDescriptor (TX2 k).2.2.1 = some (tyX2 k) := by decide +kernel
abbrev cX2_init : ByteArray := prog_4_method_1_code
def yX2_init : MethodName := ⟨RX2, "<init>", "()V"⟩
abbrev cX2_trace : ByteArray := prog_4_method_2_code
def yX2_trace : MethodName := ⟨RX2, "trace", "(LHandedDown$Village;I)V"⟩
abbrev cX2_fittingMark : ByteArray := prog_4_method_3_code
def yX2_fittingMark : MethodName := ⟨RX2, "fittingMark", "(LHandedDown$Village;II)I"⟩
abbrev cX2_endingsBehind : ByteArray := prog_4_method_4_code
def yX2_endingsBehind : MethodName := ⟨RX2, "endingsBehind", "(I)I"⟩
abbrev cX2_canFollow : ByteArray := prog_4_method_5_code
def yX2_canFollow : MethodName := ⟨RX2, "canFollow", "(III)Z"⟩
abbrev cX2_howMany : ByteArray := prog_4_method_6_code
def yX2_howMany : MethodName := ⟨RX2, "howMany", "()I"⟩
abbrev cX2_inFirst : ByteArray := prog_4_method_7_code
def yX2_inFirst : MethodName := ⟨RX2, "inFirst", "(I)I"⟩
abbrev cX2_firstBehind : ByteArray := prog_4_method_8_code
def yX2_firstBehind : MethodName := ⟨RX2, "firstBehind", "(II)I"⟩
abbrev cX2_firstOnes : ByteArray := prog_4_method_9_code
def yX2_firstOnes : MethodName := ⟨RX2, "firstOnes", "()I"⟩
abbrev cX2_lastOnes : ByteArray := prog_4_method_10_code
def yX2_lastOnes : MethodName := ⟨RX2, "lastOnes", "()I"⟩
def RX3 : String := "HandedDown$Reader"
def TX3 : u_T := fun k => match k with
  | 0 => ("HandedDown$Reader", "tape", "LHandedDown$Tape;", true)
  | 1 => ("HandedDown$Reader", "told", "LHandedDown$Village;", true)
  | 2 => ("HandedDown$Reader", "behind", "I", false)
  | 3 => ("HandedDown$Reader", "token", "I", false)
  | 4 => ("HandedDown$Reader", "start", "I", false)
  | 5 => ("HandedDown$Reader", "value", "I", false)
  | 6 => ("HandedDown$Reader", "toldSlack", "I", false)
  | 7 => ("HandedDown$Reader", "slackIsTold", "Z", false)
  | 8 => ("HandedDown$Reader", "childrenNeeded", "I", false)
  | 9 => ("HandedDown$Reader", "thingsNeeded", "I", false)
  | 10 => ("HandedDown$Reader", "problem", "I", false)
  | _ => ("HandedDown$Reader", "place", "I", false)
def tyX3 : Nat → FieldType := fun k => match k with
  | 0 => .object "HandedDown$Tape"
  | 1 => .object "HandedDown$Village"
  | 2 => .int
  | 3 => .int
  | 4 => .int
  | 5 => .int
  | 6 => .int
  | 7 => .boolean
  | 8 => .int
  | 9 => .int
  | 10 => .int
  | _ => .int
abbrev wsX30 : List Cond := u_ws RX3 TX3 12
theorem nmX3 : ∀ a, a < 12 → ∀ b, b < 12 → a ≠ b → (TX3 a).2.1 ≠ (TX3 b).2.1 := by decide +kernel
theorem tyX3_ok : ∀ k, k < 12 → parseFieldDescriptor (TX3 k).2.2.1 = some (tyX3 k) := by decide +kernel
abbrev cX3_init : ByteArray := prog_5_method_1_code
def yX3_init : MethodName := ⟨RX3, "<init>", "(LHandedDown$Tape;LHandedDown$Village;)V"⟩
abbrev cX3_readAll : ByteArray := prog_5_method_2_code
def yX3_readAll : MethodName := ⟨RX3, "readAll", "()I"⟩
abbrev cX3_refuse : ByteArray := prog_5_method_3_code
def yX3_refuse : MethodName := ⟨RX3, "refuse", "(I)Z"⟩
abbrev cX3_takeLine : ByteArray := prog_5_method_4_code
def yX3_takeLine : MethodName := ⟨RX3, "takeLine", "()Z"⟩
abbrev cX3_takeSlack : ByteArray := prog_5_method_5_code
def yX3_takeSlack : MethodName := ⟨RX3, "takeSlack", "()Z"⟩
abbrev cX3_takeChild : ByteArray := prog_5_method_6_code
def yX3_takeChild : MethodName := ⟨RX3, "takeChild", "()Z"⟩
abbrev cX3_takeThing : ByteArray := prog_5_method_7_code
def yX3_takeThing : MethodName := ⟨RX3, "takeThing", "(I)Z"⟩
abbrev cX3_kindNamed : ByteArray := prog_5_method_8_code
def yX3_kindNamed : MethodName := ⟨RX3, "kindNamed", "()I"⟩
abbrev cX3_takeLiking : ByteArray := prog_5_method_9_code
def yX3_takeLiking : MethodName := ⟨RX3, "takeLiking", "()Z"⟩
abbrev cX3_takeMark : ByteArray := prog_5_method_10_code
def yX3_takeMark : MethodName := ⟨RX3, "takeMark", "()Z"⟩
abbrev cX3_takeNumber : ByteArray := prog_5_method_11_code
def yX3_takeNumber : MethodName := ⟨RX3, "takeNumber", "(II)Z"⟩
abbrev cX3_takeStop : ByteArray := prog_5_method_12_code
def yX3_takeStop : MethodName := ⟨RX3, "takeStop", "()Z"⟩
abbrev cX3_nextToken : ByteArray := prog_5_method_13_code
def yX3_nextToken : MethodName := ⟨RX3, "nextToken", "()V"⟩
abbrev cX3_isLetter : ByteArray := prog_5_method_14_code
def yX3_isLetter : MethodName := ⟨RX3, "isLetter", "(I)Z"⟩
abbrev cX3_isFigure : ByteArray := prog_5_method_15_code
def yX3_isFigure : MethodName := ⟨RX3, "isFigure", "(I)Z"⟩
abbrev cX3_isNamed : ByteArray := prog_5_method_16_code
def yX3_isNamed : MethodName := ⟨RX3, "isNamed", "(Ljava/lang/String;)Z"⟩
def RX4 : String := "HandedDown$Sheet"
def TX4 : u_T := fun k => match k with
  | 0 => ("HandedDown$Sheet", "cells", "[I", true)
  | 1 => ("HandedDown$Sheet", "lane", "I", false)
  | _ => ("HandedDown$Sheet", "length", "I", false)
def tyX4 : Nat → FieldType := fun k => match k with
  | 0 => .array .int
  | 1 => .int
  | _ => .int
abbrev wsX40 : List Cond := u_ws RX4 TX4 3
theorem nmX4 : ∀ a, a < 3 → ∀ b, b < 3 → a ≠ b → (TX4 a).2.1 ≠ (TX4 b).2.1 := by decide +kernel
theorem tyX4_ok : ∀ k, k < 3 → parseFieldDescriptor (TX4 k).2.2.1 = some (tyX4 k) := by decide +kernel
abbrev cX4_init : ByteArray := prog_6_method_1_code
def yX4_init : MethodName := ⟨RX4, "<init>", "()V"⟩
abbrev cX4_isNothing : ByteArray := prog_6_method_2_code
def yX4_isNothing : MethodName := ⟨RX4, "isNothing", "()Z"⟩
abbrev cX4_hasCell : ByteArray := prog_6_method_3_code
def yX4_hasCell : MethodName := ⟨RX4, "hasCell", "(I)Z"⟩
abbrev cX4_cellAt : ByteArray := prog_6_method_4_code
def yX4_cellAt : MethodName := ⟨RX4, "cellAt", "(I)I"⟩
abbrev cX4_renew : ByteArray := prog_6_method_5_code
def yX4_renew : MethodName := ⟨RX4, "renew", "(II)V"⟩
abbrev cX4_faultAs : ByteArray := prog_6_method_6_code
def yX4_faultAs : MethodName := ⟨RX4, "faultAs", "(I)I"⟩
abbrev cX4_setCell : ByteArray := prog_6_method_7_code
def yX4_setCell : MethodName := ⟨RX4, "setCell", "(II)V"⟩
def RX5 : String := "HandedDown$Tape"
def TX5 : u_T := fun k => match k with
  | 0 => ("HandedDown$Tape", "bytes", "[B", true)
  | _ => ("HandedDown$Tape", "length", "I", false)
def tyX5 : Nat → FieldType := fun k => match k with
  | 0 => .array .byte
  | _ => .int
abbrev wsX50 : List Cond := u_ws RX5 TX5 2
theorem nmX5 : ∀ a, a < 2 → ∀ b, b < 2 → a ≠ b → (TX5 a).2.1 ≠ (TX5 b).2.1 := by decide +kernel
theorem tyX5_ok : ∀ k, k < 2 → parseFieldDescriptor (TX5 k).2.2.1 = some (tyX5 k) := by decide +kernel
abbrev cX5_init : ByteArray := prog_7_method_1_code
def yX5_init : MethodName := ⟨RX5, "<init>", "()V"⟩
abbrev cX5_takeEight : ByteArray := prog_7_method_2_code
def yX5_takeEight : MethodName := ⟨RX5, "takeEight", "(J)Z"⟩
abbrev cX5_byteAt : ByteArray := prog_7_method_3_code
def yX5_byteAt : MethodName := ⟨RX5, "byteAt", "(I)I"⟩
def RX6 : String := "HandedDown$Thing"
def TX6 : u_T := fun k => match k with
  | 0 => ("HandedDown$Thing", "slot", "I", false)
  | 1 => ("HandedDown$Thing", "kind", "I", false)
  | 2 => ("HandedDown$Thing", "size", "I", false)
  | 3 => ("HandedDown$Thing", "lasts", "I", false)
  | 4 => ("HandedDown$Thing", "worn", "I", false)
  | 5 => ("HandedDown$Thing", "letOut", "Z", false)
  | 6 => ("HandedDown$Thing", "heir", "I", false)
  | _ => ("HandedDown$Thing", "wearer", "I", false)
def tyX6 : Nat → FieldType := fun k => match k with
  | 0 => .int
  | 1 => .int
  | 2 => .int
  | 3 => .int
  | 4 => .int
  | 5 => .boolean
  | 6 => .int
  | _ => .int
abbrev wsX60 : List Cond := u_ws RX6 TX6 8
theorem nmX6 : ∀ a, a < 8 → ∀ b, b < 8 → a ≠ b → (TX6 a).2.1 ≠ (TX6 b).2.1 := by decide +kernel
theorem tyX6_ok : ∀ k, k < 8 → parseFieldDescriptor (TX6 k).2.2.1 = some (tyX6 k) := by decide +kernel
abbrev cX6_init : ByteArray := prog_8_method_1_code
def yX6_init : MethodName := ⟨RX6, "<init>", "()V"⟩
abbrev cX6_become : ByteArray := prog_8_method_2_code
def yX6_become : MethodName := ⟨RX6, "become", "(LHandedDown$Thing;)V"⟩
abbrev cX6_becomePlain : ByteArray := prog_8_method_3_code
def yX6_becomePlain : MethodName := ⟨RX6, "becomePlain", "(III)V"⟩
abbrev cX6_isWornOut : ByteArray := prog_8_method_4_code
def yX6_isWornOut : MethodName := ⟨RX6, "isWornOut", "()Z"⟩
abbrev cX6_fitFor : ByteArray := prog_8_method_5_code
def yX6_fitFor : MethodName := ⟨RX6, "fitFor", "(III)I"⟩
def RX7 : String := "HandedDown$Village"
def TX7 : u_T := fun k => match k with
  | 0 => ("HandedDown$Village", "children", "[LHandedDown$Child;", true)
  | 1 => ("HandedDown$Village", "things", "[LHandedDown$Thing;", true)
  | 2 => ("HandedDown$Village", "likings", "[I", true)
  | 3 => ("HandedDown$Village", "marks", "[I", true)
  | 4 => ("HandedDown$Village", "childCount", "I", false)
  | 5 => ("HandedDown$Village", "thingCount", "I", false)
  | _ => ("HandedDown$Village", "markCount", "I", false)
def tyX7 : Nat → FieldType := fun k => match k with
  | 0 => .array (.object "HandedDown$Child")
  | 1 => .array (.object "HandedDown$Thing")
  | 2 => .array .int
  | 3 => .array .int
  | 4 => .int
  | 5 => .int
  | _ => .int
abbrev wsX70 : List Cond := u_ws RX7 TX7 7
theorem nmX7 : ∀ a, a < 7 → ∀ b, b < 7 → a ≠ b → (TX7 a).2.1 ≠ (TX7 b).2.1 := by decide +kernel
theorem tyX7_ok : ∀ k, k < 7 → parseFieldDescriptor (TX7 k).2.2.1 = some (tyX7 k) := by decide +kernel
abbrev cX7_init : ByteArray := prog_9_method_1_code
def yX7_init : MethodName := ⟨RX7, "<init>", "()V"⟩
abbrev cX7_clear : ByteArray := prog_9_method_2_code
def yX7_clear : MethodName := ⟨RX7, "clear", "()V"⟩
abbrev cX7_becomeAll : ByteArray := prog_9_method_3_code
def yX7_becomeAll : MethodName := ⟨RX7, "becomeAll", "(LHandedDown$Village;)V"⟩
abbrev cX7_becomeBodies : ByteArray := prog_9_method_4_code
def yX7_becomeBodies : MethodName := ⟨RX7, "becomeBodies", "(LHandedDown$Village;)V"⟩
abbrev cX7_hasChild : ByteArray := prog_9_method_5_code
def yX7_hasChild : MethodName := ⟨RX7, "hasChild", "(I)Z"⟩
abbrev cX7_hasThing : ByteArray := prog_9_method_6_code
def yX7_hasThing : MethodName := ⟨RX7, "hasThing", "(I)Z"⟩
abbrev cX7_addChild : ByteArray := prog_9_method_7_code
def yX7_addChild : MethodName := ⟨RX7, "addChild", "(III)V"⟩
abbrev cX7_addPlain : ByteArray := prog_9_method_8_code
def yX7_addPlain : MethodName := ⟨RX7, "addPlain", "(III)I"⟩
abbrev cX7_addMark : ByteArray := prog_9_method_9_code
def yX7_addMark : MethodName := ⟨RX7, "addMark", "(I)V"⟩
abbrev cX7_smallestSize : ByteArray := prog_9_method_10_code
def yX7_smallestSize : MethodName := ⟨RX7, "smallestSize", "()I"⟩
abbrev cX7_likingOf : ByteArray := prog_9_method_11_code
def yX7_likingOf : MethodName := ⟨RX7, "likingOf", "(II)I"⟩
abbrev cX7_setLiking : ByteArray := prog_9_method_12_code
def yX7_setLiking : MethodName := ⟨RX7, "setLiking", "(III)V"⟩
abbrev cX7_fitOf : ByteArray := prog_9_method_13_code
def yX7_fitOf : MethodName := ⟨RX7, "fitOf", "(III)I"⟩
abbrev cX7_wornBy : ByteArray := prog_9_method_14_code
def yX7_wornBy : MethodName := ⟨RX7, "wornBy", "(II)I"⟩
abbrev cX7_putOn : ByteArray := prog_9_method_15_code
def yX7_putOn : MethodName := ⟨RX7, "putOn", "(III)V"⟩
abbrev cX7_undress : ByteArray := prog_9_method_16_code
def yX7_undress : MethodName := ⟨RX7, "undress", "(I)V"⟩
abbrev cX7_coldOnes : ByteArray := prog_9_method_17_code
def yX7_coldOnes : MethodName := ⟨RX7, "coldOnes", "(I)I"⟩
abbrev cX7_wornOutCount : ByteArray := prog_9_method_18_code
def yX7_wornOutCount : MethodName := ⟨RX7, "wornOutCount", "()I"⟩
abbrev cX7_passWinter : ByteArray := prog_9_method_19_code
def yX7_passWinter : MethodName := ⟨RX7, "passWinter", "()I"⟩
abbrev cX7_passSpring : ByteArray := prog_9_method_20_code
def yX7_passSpring : MethodName := ⟨RX7, "passSpring", "(ZI)I"⟩
abbrev cX7_growEach : ByteArray := prog_9_method_21_code
def yX7_growEach : MethodName := ⟨RX7, "growEach", "(I)V"⟩
abbrev cX7_strengthen : ByteArray := prog_9_method_22_code
def yX7_strengthen : MethodName := ⟨RX7, "strengthen", "(II)V"⟩
abbrev cX7_firstSwap : ByteArray := prog_9_method_23_code
def yX7_firstSwap : MethodName := ⟨RX7, "firstSwap", "(I)I"⟩
abbrev cX7_bothWant : ByteArray := prog_9_method_24_code
def yX7_bothWant : MethodName := ⟨RX7, "bothWant", "(IIIII)Z"⟩
abbrev cX7_makeSwap : ByteArray := prog_9_method_25_code
def yX7_makeSwap : MethodName := ⟨RX7, "makeSwap", "(III)V"⟩
def RX8 : String := "HandedDown"
def TX8 : u_T := fun k => match k with
  | 0 => ("HandedDown", "tape", "LHandedDown$Tape;", true)
  | 1 => ("HandedDown", "now", "LHandedDown$Village;", true)
  | 2 => ("HandedDown", "trial", "LHandedDown$Village;", true)
  | 3 => ("HandedDown", "reader", "LHandedDown$Reader;", true)
  | 4 => ("HandedDown", "images", "[LHandedDown$Village;", true)
  | 5 => ("HandedDown", "imaged", "[Z", true)
  | 6 => ("HandedDown", "sheets", "[LHandedDown$Sheet;", true)
  | 7 => ("HandedDown", "plan", "LHandedDown$Deal;", true)
  | 8 => ("HandedDown", "markRows", "LHandedDown$MarkRows;", true)
  | 9 => ("HandedDown", "newByYear", "[I", true)
  | 10 => ("HandedDown", "allowed", "I", false)
  | 11 => ("HandedDown", "textFault", "I", false)
  | 12 => ("HandedDown", "sheetFault", "I", false)
  | 13 => ("HandedDown", "bestThing", "I", false)
  | 14 => ("HandedDown", "bestSize", "I", false)
  | _ => ("HandedDown", "bestNew", "I", false)
def tyX8 : Nat → FieldType := fun k => match k with
  | 0 => .object "HandedDown$Tape"
  | 1 => .object "HandedDown$Village"
  | 2 => .object "HandedDown$Village"
  | 3 => .object "HandedDown$Reader"
  | 4 => .array (.object "HandedDown$Village")
  | 5 => .array .boolean
  | 6 => .array (.object "HandedDown$Sheet")
  | 7 => .object "HandedDown$Deal"
  | 8 => .object "HandedDown$MarkRows"
  | 9 => .array .int
  | 10 => .int
  | 11 => .int
  | 12 => .int
  | 13 => .int
  | 14 => .int
  | _ => .int
abbrev wsX80 : List Cond := u_ws RX8 TX8 16
theorem nmX8 : ∀ a, a < 16 → ∀ b, b < 16 → a ≠ b → (TX8 a).2.1 ≠ (TX8 b).2.1 := by decide +kernel
theorem tyX8_ok : ∀ k, k < 16 → parseFieldDescriptor (TX8 k).2.2.1 = some (tyX8 k) := by decide +kernel
abbrev cX8_init : ByteArray := prog_1_method_1_code
def yX8_init : MethodName := ⟨RX8, "<init>", "()V"⟩
abbrev cX8_feed : ByteArray := prog_1_method_2_code
def yX8_feed : MethodName := ⟨RX8, "feed", "(J)I"⟩
abbrev cX8_end : ByteArray := prog_1_method_3_code
def yX8_end : MethodName := ⟨RX8, "end", "(I)I"⟩
abbrev cX8_text : ByteArray := prog_1_method_4_code
def yX8_text : MethodName := ⟨RX8, "text", "()I"⟩
abbrev cX8_fault : ByteArray := prog_1_method_5_code
def yX8_fault : MethodName := ⟨RX8, "fault", "()I"⟩
abbrev cX8_child : ByteArray := prog_1_method_6_code
def yX8_child : MethodName := ⟨RX8, "child", "(II)I"⟩
abbrev cX8_thing : ByteArray := prog_1_method_7_code
def yX8_thing : MethodName := ⟨RX8, "thing", "(II)I"⟩
abbrev cX8_slack : ByteArray := prog_1_method_8_code
def yX8_slack : MethodName := ⟨RX8, "slack", "(I)I"⟩
abbrev cX8_like : ByteArray := prog_1_method_9_code
def yX8_like : MethodName := ⟨RX8, "like", "(III)I"⟩
abbrev cX8_fits : ByteArray := prog_1_method_10_code
def yX8_fits : MethodName := ⟨RX8, "fits", "(II)I"⟩
abbrev cX8_wear : ByteArray := prog_1_method_11_code
def yX8_wear : MethodName := ⟨RX8, "wear", "(II)I"⟩
abbrev cX8_doff : ByteArray := prog_1_method_12_code
def yX8_doff : MethodName := ⟨RX8, "doff", "(II)I"⟩
abbrev cX8_cold : ByteArray := prog_1_method_13_code
def yX8_cold : MethodName := ⟨RX8, "cold", "(I)I"⟩
abbrev cX8_deal : ByteArray := prog_1_method_14_code
def yX8_deal : MethodName := ⟨RX8, "deal", "(II)I"⟩
abbrev cX8_dress : ByteArray := prog_1_method_15_code
def yX8_dress : MethodName := ⟨RX8, "dress", "(I)I"⟩
abbrev cX8_spare : ByteArray := prog_1_method_16_code
def yX8_spare : MethodName := ⟨RX8, "spare", "(I)I"⟩
abbrev cX8_winter : ByteArray := prog_1_method_17_code
def yX8_winter : MethodName := ⟨RX8, "winter", "()I"⟩
abbrev cX8_spring : ByteArray := prog_1_method_18_code
def yX8_spring : MethodName := ⟨RX8, "spring", "(Z)I"⟩
abbrev cX8_ahead : ByteArray := prog_1_method_19_code
def yX8_ahead : MethodName := ⟨RX8, "ahead", "(IIZI)I"⟩
abbrev cX8_strong : ByteArray := prog_1_method_20_code
def yX8_strong : MethodName := ⟨RX8, "strong", "(IIZ)I"⟩
abbrev cX8_cut : ByteArray := prog_1_method_21_code
def yX8_cut : MethodName := ⟨RX8, "cut", "(II)I"⟩
abbrev cX8_pays : ByteArray := prog_1_method_22_code
def yX8_pays : MethodName := ⟨RX8, "pays", "(IIZI)I"⟩
abbrev cX8_best : ByteArray := prog_1_method_23_code
def yX8_best : MethodName := ⟨RX8, "best", "(IIZI)I"⟩
abbrev cX8_sew : ByteArray := prog_1_method_24_code
def yX8_sew : MethodName := ⟨RX8, "sew", "(II)I"⟩
abbrev cX8_wish : ByteArray := prog_1_method_25_code
def yX8_wish : MethodName := ⟨RX8, "wish", "(IIZI)I"⟩
abbrev cX8_swap : ByteArray := prog_1_method_26_code
def yX8_swap : MethodName := ⟨RX8, "swap", "()I"⟩
abbrev cX8_settle : ByteArray := prog_1_method_27_code
def yX8_settle : MethodName := ⟨RX8, "settle", "()I"⟩
abbrev cX8_odds : ByteArray := prog_1_method_28_code
def yX8_odds : MethodName := ⟨RX8, "odds", "(II)J"⟩
abbrev cX8_mark : ByteArray := prog_1_method_29_code
def yX8_mark : MethodName := ⟨RX8, "mark", "(I)I"⟩
abbrev cX8_unmark : ByteArray := prog_1_method_30_code
def yX8_unmark : MethodName := ⟨RX8, "unmark", "(I)I"⟩
abbrev cX8_rows : ByteArray := prog_1_method_31_code
def yX8_rows : MethodName := ⟨RX8, "rows", "(I)I"⟩
abbrev cX8_whose : ByteArray := prog_1_method_32_code
def yX8_whose : MethodName := ⟨RX8, "whose", "(I)I"⟩
abbrev cX8_lend : ByteArray := prog_1_method_33_code
def yX8_lend : MethodName := ⟨RX8, "lend", "(III)I"⟩
abbrev cX8_keep : ByteArray := prog_1_method_34_code
def yX8_keep : MethodName := ⟨RX8, "keep", "(I)I"⟩
abbrev cX8_back : ByteArray := prog_1_method_35_code
def yX8_back : MethodName := ⟨RX8, "back", "(I)I"⟩
abbrev cX8_sheet : ByteArray := prog_1_method_36_code
def yX8_sheet : MethodName := ⟨RX8, "sheet", "(III)I"⟩
abbrev cX8_lay : ByteArray := prog_1_method_37_code
def yX8_lay : MethodName := ⟨RX8, "lay", "(III)I"⟩
abbrev cX8_read : ByteArray := prog_1_method_38_code
def yX8_read : MethodName := ⟨RX8, "read", "(IIII)I"⟩
abbrev cX8_torn : ByteArray := prog_1_method_39_code
def yX8_torn : MethodName := ⟨RX8, "torn", "()I"⟩
abbrev cX8_count : ByteArray := prog_1_method_40_code
def yX8_count : MethodName := ⟨RX8, "count", "(I)I"⟩
abbrev cX8_within : ByteArray := prog_1_method_41_code
def yX8_within : MethodName := ⟨RX8, "within", "(III)Z"⟩
abbrev cX8_isSlot : ByteArray := prog_1_method_42_code
def yX8_isSlot : MethodName := ⟨RX8, "isSlot", "(I)Z"⟩
abbrev cX8_isSize : ByteArray := prog_1_method_43_code
def yX8_isSize : MethodName := ⟨RX8, "isSize", "(I)Z"⟩
abbrev cX8_isYears : ByteArray := prog_1_method_44_code
def yX8_isYears : MethodName := ⟨RX8, "isYears", "(I)Z"⟩
abbrev cX8_isZeroOrOne : ByteArray := prog_1_method_45_code
def yX8_isZeroOrOne : MethodName := ⟨RX8, "isZeroOrOne", "(I)Z"⟩
abbrev cX8_isImage : ByteArray := prog_1_method_46_code
def yX8_isImage : MethodName := ⟨RX8, "isImage", "(I)Z"⟩
abbrev cX8_isSheet : ByteArray := prog_1_method_47_code
def yX8_isSheet : MethodName := ⟨RX8, "isSheet", "(I)Z"⟩
abbrev cX8_isLane : ByteArray := prog_1_method_48_code
def yX8_isLane : MethodName := ⟨RX8, "isLane", "(I)Z"⟩
abbrev cX8_sewRefusal : ByteArray := prog_1_method_49_code
def yX8_sewRefusal : MethodName := ⟨RX8, "sewRefusal", "(III)I"⟩
abbrev cX8_dressAll : ByteArray := prog_1_method_50_code
def yX8_dressAll : MethodName := ⟨RX8, "dressAll", "(LHandedDown$Village;I)I"⟩
abbrev cX8_newAhead : ByteArray := prog_1_method_51_code
def yX8_newAhead : MethodName := ⟨RX8, "newAhead", "(IIZ)I"⟩
abbrev cX8_startCuts : ByteArray := prog_1_method_52_code
def yX8_startCuts : MethodName := ⟨RX8, "startCuts", "(IIZ)V"⟩
abbrev cX8_tryCuts : ByteArray := prog_1_method_53_code
def yX8_tryCuts : MethodName := ⟨RX8, "tryCuts", "(IIZ)V"⟩
def RX9 : String := "HandedDownModel"
def TX9 : u_T := fun k => match k with
  | 0 => ("HandedDownModel", "st", "[I", true)
  | 1 => ("HandedDownModel", "isKept", "[Z", true)
  | 2 => ("HandedDownModel", "slack", "I", false)
  | 3 => ("HandedDownModel", "draft", "[I", true)
  | 4 => ("HandedDownModel", "dSlack", "I", false)
  | 5 => ("HandedDownModel", "hasSlack", "Z", false)
  | 6 => ("HandedDownModel", "highestChild", "I", false)
  | 7 => ("HandedDownModel", "highestThing", "I", false)
  | 8 => ("HandedDownModel", "tape", "[I", true)
  | 9 => ("HandedDownModel", "taped", "I", false)
  | 10 => ("HandedDownModel", "pos", "I", false)
  | 11 => ("HandedDownModel", "from", "I", false)
  | 12 => ("HandedDownModel", "sort", "I", false)
  | 13 => ("HandedDownModel", "value", "I", false)
  | 14 => ("HandedDownModel", "fault", "I", false)
  | 15 => ("HandedDownModel", "wrongAt", "I", false)
  | 16 => ("HandedDownModel", "dealt", "I", false)
  | 17 => ("HandedDownModel", "canHave", "[I", true)
  | 18 => ("HandedDownModel", "given", "[I", true)
  | 19 => ("HandedDownModel", "holder", "[I", true)
  | 20 => ("HandedDownModel", "via", "[I", true)
  | 21 => ("HandedDownModel", "queue", "[I", true)
  | 22 => ("HandedDownModel", "wasGiven", "[I", true)
  | 23 => ("HandedDownModel", "wasHolder", "[I", true)
  | 24 => ("HandedDownModel", "news", "[I", true)
  | 25 => ("HandedDownModel", "lasted", "[I", true)
  | 26 => ("HandedDownModel", "bestSize", "I", false)
  | 27 => ("HandedDownModel", "bestNew", "I", false)
  | 28 => ("HandedDownModel", "row", "[I", true)
  | 29 => ("HandedDownModel", "firstRow", "[I", true)
  | 30 => ("HandedDownModel", "rowMany", "I", false)
  | 31 => ("HandedDownModel", "firsts", "I", false)
  | 32 => ("HandedDownModel", "lasts", "I", false)
  | 33 => ("HandedDownModel", "leftThere", "I", false)
  | 34 => ("HandedDownModel", "lanes", "[I", true)
  | 35 => ("HandedDownModel", "sizes", "[I", true)
  | 36 => ("HandedDownModel", "cells", "[I", true)
  | _ => ("HandedDownModel", "torn", "I", false)
def tyX9 : Nat → FieldType := fun k => match k with
  | 0 => .array .int
  | 1 => .array .boolean
  | 2 => .int
  | 3 => .array .int
  | 4 => .int
  | 5 => .boolean
  | 6 => .int
  | 7 => .int
  | 8 => .array .int
  | 9 => .int
  | 10 => .int
  | 11 => .int
  | 12 => .int
  | 13 => .int
  | 14 => .int
  | 15 => .int
  | 16 => .int
  | 17 => .array .int
  | 18 => .array .int
  | 19 => .array .int
  | 20 => .array .int
  | 21 => .array .int
  | 22 => .array .int
  | 23 => .array .int
  | 24 => .array .int
  | 25 => .array .int
  | 26 => .int
  | 27 => .int
  | 28 => .array .int
  | 29 => .array .int
  | 30 => .int
  | 31 => .int
  | 32 => .int
  | 33 => .int
  | 34 => .array .int
  | 35 => .array .int
  | 36 => .array .int
  | _ => .int
abbrev wsX90 : List Cond := u_ws RX9 TX9 38
theorem nmX9 : ∀ a, a < 38 → ∀ b, b < 38 → a ≠ b → (TX9 a).2.1 ≠ (TX9 b).2.1 := by decide +kernel
theorem tyX9_ok : ∀ k, k < 38 → parseFieldDescriptor (TX9 k).2.2.1 = some (tyX9 k) := by decide +kernel
abbrev cX9_init : ByteArray := prog_11_method_1_code
def yX9_init : MethodName := ⟨RX9, "<init>", "()V"⟩
abbrev cX9_in : ByteArray := prog_11_method_3_code
def yX9_in : MethodName := ⟨RX9, "in", "(JJJ)Z"⟩
abbrev cX9_flag : ByteArray := prog_11_method_4_code
def yX9_flag : MethodName := ⟨RX9, "flag", "(Z)I"⟩
abbrev cX9_firstDraft : ByteArray := prog_11_method_5_code
def yX9_firstDraft : MethodName := ⟨RX9, "firstDraft", "()V"⟩
abbrev cX9_keepDraft : ByteArray := prog_11_method_6_code
def yX9_keepDraft : MethodName := ⟨RX9, "keepDraft", "()V"⟩
abbrev cX9_feed : ByteArray := prog_11_method_7_code
def yX9_feed : MethodName := ⟨RX9, "feed", "(J)I"⟩
abbrev cX9_end : ByteArray := prog_11_method_8_code
def yX9_end : MethodName := ⟨RX9, "end", "(I)I"⟩
abbrev cX9_needs : ByteArray := prog_11_method_9_code
def yX9_needs : MethodName := ⟨RX9, "needs", "(ZI)V"⟩
abbrev cX9_look : ByteArray := prog_11_method_10_code
def yX9_look : MethodName := ⟨RX9, "look", "(I)I"⟩
abbrev cX9_is : ByteArray := prog_11_method_11_code
def yX9_is : MethodName := ⟨RX9, "is", "(IIIII)Z"⟩
abbrev cX9_ends : ByteArray := prog_11_method_12_code
def yX9_ends : MethodName := ⟨RX9, "ends", "(II)Z"⟩
abbrev cX9_lineNow : ByteArray := prog_11_method_13_code
def yX9_lineNow : MethodName := ⟨RX9, "lineNow", "()I"⟩
abbrev cX9_kindNow : ByteArray := prog_11_method_14_code
def yX9_kindNow : MethodName := ⟨RX9, "kindNow", "()I"⟩
abbrev cX9_next : ByteArray := prog_11_method_15_code
def yX9_next : MethodName := ⟨RX9, "next", "()V"⟩
abbrev cX9_readNumber : ByteArray := prog_11_method_16_code
def yX9_readNumber : MethodName := ⟨RX9, "readNumber", "(II)I"⟩
abbrev cX9_readChildOf : ByteArray := prog_11_method_17_code
def yX9_readChildOf : MethodName := ⟨RX9, "readChildOf", "()I"⟩
abbrev cX9_readChild : ByteArray := prog_11_method_18_code
def yX9_readChild : MethodName := ⟨RX9, "readChild", "()V"⟩
abbrev cX9_readThing : ByteArray := prog_11_method_19_code
def yX9_readThing : MethodName := ⟨RX9, "readThing", "(I)V"⟩
abbrev cX9_readLike : ByteArray := prog_11_method_20_code
def yX9_readLike : MethodName := ⟨RX9, "readLike", "()V"⟩
abbrev cX9_readLineOf : ByteArray := prog_11_method_21_code
def yX9_readLineOf : MethodName := ⟨RX9, "readLineOf", "(I)V"⟩
abbrev cX9_readLine : ByteArray := prog_11_method_22_code
def yX9_readLine : MethodName := ⟨RX9, "readLine", "()V"⟩
abbrev cX9_text : ByteArray := prog_11_method_23_code
def yX9_text : MethodName := ⟨RX9, "text", "()I"⟩
abbrev cX9_fault : ByteArray := prog_11_method_24_code
def yX9_fault : MethodName := ⟨RX9, "fault", "()I"⟩
abbrev cX9_isChild : ByteArray := prog_11_method_25_code
def yX9_isChild : MethodName := ⟨RX9, "isChild", "(I)Z"⟩
abbrev cX9_isThing : ByteArray := prog_11_method_26_code
def yX9_isThing : MethodName := ⟨RX9, "isThing", "(I)Z"⟩
abbrev cX9_isSlot : ByteArray := prog_11_method_27_code
def yX9_isSlot : MethodName := ⟨RX9, "isSlot", "(I)Z"⟩
abbrev cX9_of : ByteArray := prog_11_method_28_code
def yX9_of : MethodName := ⟨RX9, "of", "(II)I"⟩
abbrev cX9_worn : ByteArray := prog_11_method_29_code
def yX9_worn : MethodName := ⟨RX9, "worn", "(II)I"⟩
abbrev cX9_whoWears : ByteArray := prog_11_method_30_code
def yX9_whoWears : MethodName := ⟨RX9, "whoWears", "(I)I"⟩
abbrev cX9_child : ByteArray := prog_11_method_31_code
def yX9_child : MethodName := ⟨RX9, "child", "(II)I"⟩
abbrev cX9_thing : ByteArray := prog_11_method_32_code
def yX9_thing : MethodName := ⟨RX9, "thing", "(II)I"⟩
abbrev cX9_slack : ByteArray := prog_11_method_33_code
def yX9_slack : MethodName := ⟨RX9, "slack", "(I)I"⟩
abbrev cX9_like : ByteArray := prog_11_method_34_code
def yX9_like : MethodName := ⟨RX9, "like", "(III)I"⟩
abbrev cX9_isOut : ByteArray := prog_11_method_35_code
def yX9_isOut : MethodName := ⟨RX9, "isOut", "(I)Z"⟩
abbrev cX9_fitOf : ByteArray := prog_11_method_36_code
def yX9_fitOf : MethodName := ⟨RX9, "fitOf", "(III)I"⟩
abbrev cX9_fitNow : ByteArray := prog_11_method_37_code
def yX9_fitNow : MethodName := ⟨RX9, "fitNow", "(II)I"⟩
abbrev cX9_fits : ByteArray := prog_11_method_38_code
def yX9_fits : MethodName := ⟨RX9, "fits", "(II)I"⟩
abbrev cX9_takesOff : ByteArray := prog_11_method_39_code
def yX9_takesOff : MethodName := ⟨RX9, "takesOff", "(II)V"⟩
abbrev cX9_putsOn : ByteArray := prog_11_method_40_code
def yX9_putsOn : MethodName := ⟨RX9, "putsOn", "(II)V"⟩
abbrev cX9_wear : ByteArray := prog_11_method_41_code
def yX9_wear : MethodName := ⟨RX9, "wear", "(II)I"⟩
abbrev cX9_doff : ByteArray := prog_11_method_42_code
def yX9_doff : MethodName := ⟨RX9, "doff", "(II)I"⟩
abbrev cX9_cold : ByteArray := prog_11_method_43_code
def yX9_cold : MethodName := ⟨RX9, "cold", "(I)I"⟩
abbrev cX9_findCanHave : ByteArray := prog_11_method_44_code
def yX9_findCanHave : MethodName := ⟨RX9, "findCanHave", "(I)V"⟩
abbrev cX9_getsOne : ByteArray := prog_11_method_45_code
def yX9_getsOne : MethodName := ⟨RX9, "getsOne", "(II)Z"⟩
abbrev cX9_givesOn : ByteArray := prog_11_method_46_code
def yX9_givesOn : MethodName := ⟨RX9, "givesOn", "(II)V"⟩
abbrev cX9_findMost : ByteArray := prog_11_method_47_code
def yX9_findMost : MethodName := ⟨RX9, "findMost", "()I"⟩
abbrev cX9_keepsDeal : ByteArray := prog_11_method_48_code
def yX9_keepsDeal : MethodName := ⟨RX9, "keepsDeal", "()V"⟩
abbrev cX9_asKept : ByteArray := prog_11_method_49_code
def yX9_asKept : MethodName := ⟨RX9, "asKept", "()V"⟩
abbrev cX9_canGet : ByteArray := prog_11_method_50_code
def yX9_canGet : MethodName := ⟨RX9, "canGet", "(III)Z"⟩
abbrev cX9_findDeal : ByteArray := prog_11_method_51_code
def yX9_findDeal : MethodName := ⟨RX9, "findDeal", "(I)I"⟩
abbrev cX9_deal : ByteArray := prog_11_method_52_code
def yX9_deal : MethodName := ⟨RX9, "deal", "(II)I"⟩
abbrev cX9_dresses : ByteArray := prog_11_method_53_code
def yX9_dresses : MethodName := ⟨RX9, "dresses", "(I)I"⟩
abbrev cX9_dress : ByteArray := prog_11_method_54_code
def yX9_dress : MethodName := ⟨RX9, "dress", "(I)I"⟩
abbrev cX9_spare : ByteArray := prog_11_method_55_code
def yX9_spare : MethodName := ⟨RX9, "spare", "(I)I"⟩
abbrev cX9_winters : ByteArray := prog_11_method_56_code
def yX9_winters : MethodName := ⟨RX9, "winters", "()I"⟩
abbrev cX9_winter : ByteArray := prog_11_method_57_code
def yX9_winter : MethodName := ⟨RX9, "winter", "()I"⟩
abbrev cX9_grows : ByteArray := prog_11_method_58_code
def yX9_grows : MethodName := ⟨RX9, "grows", "(IZ)V"⟩
abbrev cX9_springs : ByteArray := prog_11_method_59_code
def yX9_springs : MethodName := ⟨RX9, "springs", "(Z)I"⟩
abbrev cX9_spring : ByteArray := prog_11_method_60_code
def yX9_spring : MethodName := ⟨RX9, "spring", "(Z)I"⟩
abbrev cX9_copies : ByteArray := prog_11_method_61_code
def yX9_copies : MethodName := ⟨RX9, "copies", "(II)V"⟩
abbrev cX9_aheadBy : ByteArray := prog_11_method_62_code
def yX9_aheadBy : MethodName := ⟨RX9, "aheadBy", "(IIZ)I"⟩
abbrev cX9_areYears : ByteArray := prog_11_method_63_code
def yX9_areYears : MethodName := ⟨RX9, "areYears", "(I)Z"⟩
abbrev cX9_ahead : ByteArray := prog_11_method_64_code
def yX9_ahead : MethodName := ⟨RX9, "ahead", "(IIZI)I"⟩
abbrev cX9_strong : ByteArray := prog_11_method_65_code
def yX9_strong : MethodName := ⟨RX9, "strong", "(IIZ)I"⟩
abbrev cX9_cut : ByteArray := prog_11_method_66_code
def yX9_cut : MethodName := ⟨RX9, "cut", "(II)I"⟩
abbrev cX9_findCut : ByteArray := prog_11_method_67_code
def yX9_findCut : MethodName := ⟨RX9, "findCut", "(IIZI)V"⟩
abbrev cX9_pays : ByteArray := prog_11_method_68_code
def yX9_pays : MethodName := ⟨RX9, "pays", "(IIZI)I"⟩
abbrev cX9_best : ByteArray := prog_11_method_69_code
def yX9_best : MethodName := ⟨RX9, "best", "(IIZI)I"⟩
abbrev cX9_sews : ByteArray := prog_11_method_70_code
def yX9_sews : MethodName := ⟨RX9, "sews", "(III)V"⟩
abbrev cX9_sew : ByteArray := prog_11_method_71_code
def yX9_sew : MethodName := ⟨RX9, "sew", "(II)I"⟩
abbrev cX9_wish : ByteArray := prog_11_method_72_code
def yX9_wish : MethodName := ⟨RX9, "wish", "(IIZI)I"⟩
abbrev cX9_likes : ByteArray := prog_11_method_73_code
def yX9_likes : MethodName := ⟨RX9, "likes", "(II)I"⟩
abbrev cX9_isSwap : ByteArray := prog_11_method_74_code
def yX9_isSwap : MethodName := ⟨RX9, "isSwap", "(III)Z"⟩
abbrev cX9_firstSwap : ByteArray := prog_11_method_75_code
def yX9_firstSwap : MethodName := ⟨RX9, "firstSwap", "()I"⟩
abbrev cX9_swap : ByteArray := prog_11_method_76_code
def yX9_swap : MethodName := ⟨RX9, "swap", "()I"⟩
abbrev cX9_settle : ByteArray := prog_11_method_77_code
def yX9_settle : MethodName := ⟨RX9, "settle", "()I"⟩
abbrev cX9_odds : ByteArray := prog_11_method_78_code
def yX9_odds : MethodName := ⟨RX9, "odds", "(II)J"⟩
abbrev cX9_mark : ByteArray := prog_11_method_79_code
def yX9_mark : MethodName := ⟨RX9, "mark", "(I)I"⟩
abbrev cX9_unmark : ByteArray := prog_11_method_80_code
def yX9_unmark : MethodName := ⟨RX9, "unmark", "(I)I"⟩
abbrev cX9_canMark : ByteArray := prog_11_method_81_code
def yX9_canMark : MethodName := ⟨RX9, "canMark", "(II)Z"⟩
abbrev cX9_takesRow : ByteArray := prog_11_method_82_code
def yX9_takesRow : MethodName := ⟨RX9, "takesRow", "(I)V"⟩
abbrev cX9_findRows : ByteArray := prog_11_method_83_code
def yX9_findRows : MethodName := ⟨RX9, "findRows", "()V"⟩
abbrev cX9_rows : ByteArray := prog_11_method_84_code
def yX9_rows : MethodName := ⟨RX9, "rows", "(I)I"⟩
abbrev cX9_whose : ByteArray := prog_11_method_85_code
def yX9_whose : MethodName := ⟨RX9, "whose", "(I)I"⟩
abbrev cX9_findLeft : ByteArray := prog_11_method_86_code
def yX9_findLeft : MethodName := ⟨RX9, "findLeft", "(II)V"⟩
abbrev cX9_lend : ByteArray := prog_11_method_87_code
def yX9_lend : MethodName := ⟨RX9, "lend", "(III)I"⟩
abbrev cX9_keep : ByteArray := prog_11_method_88_code
def yX9_keep : MethodName := ⟨RX9, "keep", "(I)I"⟩
abbrev cX9_back : ByteArray := prog_11_method_89_code
def yX9_back : MethodName := ⟨RX9, "back", "(I)I"⟩
abbrev cX9_isSheet : ByteArray := prog_11_method_90_code
def yX9_isSheet : MethodName := ⟨RX9, "isSheet", "(II)Z"⟩
abbrev cX9_sheet : ByteArray := prog_11_method_91_code
def yX9_sheet : MethodName := ⟨RX9, "sheet", "(III)I"⟩
abbrev cX9_lay : ByteArray := prog_11_method_92_code
def yX9_lay : MethodName := ⟨RX9, "lay", "(III)I"⟩
abbrev cX9_read : ByteArray := prog_11_method_93_code
def yX9_read : MethodName := ⟨RX9, "read", "(IIII)I"⟩
abbrev cX9_torn : ByteArray := prog_11_method_94_code
def yX9_torn : MethodName := ⟨RX9, "torn", "()I"⟩
abbrev cX9_count : ByteArray := prog_11_method_95_code
def yX9_count : MethodName := ⟨RX9, "count", "(I)I"⟩
def RJ6 : String := "java/lang/Integer"
abbrev cJ6_bitCount_0f7a4 : ByteArray := prog_12_method_49_code
def yJ6_bitCount_0f7a4 : MethodName := ⟨RJ6, "bitCount", "(I)I"⟩
def RJ9 : String := "java/lang/Math"
abbrev cJ9_max_7cf53 : ByteArray := prog_13_method_65_code
def yJ9_max_7cf53 : MethodName := ⟨RJ9, "max", "(II)I"⟩
abbrev cJ9_min_7cf53 : ByteArray := prog_13_method_69_code
def yJ9_min_7cf53 : MethodName := ⟨RJ9, "min", "(II)I"⟩
def RJ0 : String := "java/lang/String"
abbrev cJ0_length_8abf5 : ByteArray := prog_14_method_54_code
def yJ0_length_8abf5 : MethodName := ⟨RJ0, "length", "()I"⟩
abbrev cJ0_charAt_5068e : ByteArray := prog_14_method_56_code
def yJ0_charAt_5068e : MethodName := ⟨RJ0, "charAt", "(I)C"⟩
abbrev cJ0_coder_7d493 : ByteArray := prog_14_method_152_code
def yJ0_coder_7d493 : MethodName := ⟨RJ0, "coder", "()B"⟩
abbrev cJ0_isLatin1_aae02 : ByteArray := prog_14_method_154_code
def yJ0_isLatin1_aae02 : MethodName := ⟨RJ0, "isLatin1", "()Z"⟩
abbrev cJ0_checkIndex_df160 : ByteArray := prog_14_method_155_code
def yJ0_checkIndex_df160 : MethodName := ⟨RJ0, "checkIndex", "(II)V"⟩
def RJ1 : String := "java/lang/StringLatin1"
abbrev cJ1_charAt_3b067 : ByteArray := prog_15_method_2_code
def yJ1_charAt_3b067 : MethodName := ⟨RJ1, "charAt", "([BI)C"⟩
def RJ2 : String := "java/lang/StringUTF16"
abbrev cJ2_getChar_3b067 : ByteArray := prog_16_method_5_code
def yJ2_getChar_3b067 : MethodName := ⟨RJ2, "getChar", "([BI)C"⟩
abbrev cJ2_length_9d52b : ByteArray := prog_16_method_6_code
def yJ2_length_9d52b : MethodName := ⟨RJ2, "length", "([B)I"⟩
abbrev cJ2_charAt_3b067 : ByteArray := prog_16_method_83_code
def yJ2_charAt_3b067 : MethodName := ⟨RJ2, "charAt", "([BI)C"⟩
abbrev cJ2_checkIndex_2214a : ByteArray := prog_16_method_91_code
def yJ2_checkIndex_2214a : MethodName := ⟨RJ2, "checkIndex", "(I[B)V"⟩
def RJ10 : String := "java/lang/System"
def RJ7 : String := "java/util/Arrays"
abbrev cJ7_fill_53178 : ByteArray := prog_18_method_103_code
def yJ7_fill_53178 : MethodName := ⟨RJ7, "fill", "([II)V"⟩
def RJ3 : String := "jdk/internal/util/Preconditions"
abbrev cJ3_checkIndex_8e157 : ByteArray := prog_19_method_11_code
def yJ3_checkIndex_8e157 : MethodName := ⟨RJ3, "checkIndex", "(IILjava/util/function/BiFunction;)I"⟩
def RL : String := "HandedDownLaw"
abbrev cL_law : ByteArray := code
def yL_law : MethodName := ⟨RL, "law", "([I)Z"⟩
abbrev vwCl : List vw_C := [(RX0, TX0, 3), (RX1, TX1, 8), (RX2, TX2, 5), (RX3, TX3, 12), (RX4, TX4, 3), (RX5, TX5, 2), (RX6, TX6, 8), (RX7, TX7, 7), (RX8, TX8, 16), (RX9, TX9, 38)]
