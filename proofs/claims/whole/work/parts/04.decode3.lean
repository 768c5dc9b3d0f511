theorem dX9_putsOn_53 : decode cX9_putsOn 53 = .ok (.iadd, 1) := by decide +kernel
theorem dX9_putsOn_54 : decode cX9_putsOn 54 = .ok (.aload_n 0, 1) := by decide +kernel
theorem dX9_putsOn_55 : decode cX9_putsOn 55 = .ok (.iload_n 2, 1) := by decide +kernel
theorem dX9_putsOn_56 : decode cX9_putsOn 56 = .ok (.iconst 0, 1) := by decide +kernel
theorem dX9_putsOn_57 : decode cX9_putsOn 57 = .ok (.invokevirtual 172, 3) := by decide +kernel
theorem dX9_putsOn_60 : decode cX9_putsOn 60 = .ok (.iadd, 1) := by decide +kernel
theorem dX9_putsOn_61 : decode cX9_putsOn 61 = .ok (.iload_n 2, 1) := by decide +kernel
theorem dX9_putsOn_62 : decode cX9_putsOn 62 = .ok (.iastore, 1) := by decide +kernel
theorem dX9_putsOn_63 : decode cX9_putsOn 63 = .ok (.return_, 1) := by decide +kernel
theorem dX9_wear_0 : decode cX9_wear 0 = .ok (.aload_n 0, 1) := by decide +kernel
theorem dX9_wear_1 : decode cX9_wear 1 = .ok (.iload_n 1, 1) := by decide +kernel
theorem dX9_wear_2 : decode cX9_wear 2 = .ok (.invokevirtual 178, 3) := by decide +kernel
theorem dX9_wear_5 : decode cX9_wear 5 = .ok (.ifCond .eq 11, 3) := by decide +kernel
theorem dX9_wear_8 : decode cX9_wear 8 = .ok (.aload_n 0, 1) := by decide +kernel
theorem dX9_wear_9 : decode cX9_wear 9 = .ok (.iload_n 2, 1) := by decide +kernel
theorem dX9_wear_10 : decode cX9_wear 10 = .ok (.invokevirtual 188, 3) := by decide +kernel
theorem dX9_wear_13 : decode cX9_wear 13 = .ok (.ifCond .ne 5, 3) := by decide +kernel
theorem dX9_wear_16 : decode cX9_wear 16 = .ok (.iconst (-1), 1) := by decide +kernel
theorem dX9_wear_17 : decode cX9_wear 17 = .ok (.ireturn, 1) := by decide +kernel
theorem dX9_wear_18 : decode cX9_wear 18 = .ok (.aload_n 0, 1) := by decide +kernel
theorem dX9_wear_19 : decode cX9_wear 19 = .ok (.iload_n 1, 1) := by decide +kernel
theorem dX9_wear_20 : decode cX9_wear 20 = .ok (.iload_n 2, 1) := by decide +kernel
theorem dX9_wear_21 : decode cX9_wear 21 = .ok (.invokevirtual 206, 3) := by decide +kernel
theorem dX9_wear_24 : decode cX9_wear 24 = .ok (.ifCond .ne 6, 3) := by decide +kernel
theorem dX9_wear_27 : decode cX9_wear 27 = .ok (.bipush (-2), 2) := by decide +kernel
theorem dX9_wear_29 : decode cX9_wear 29 = .ok (.ireturn, 1) := by decide +kernel
theorem dX9_wear_30 : decode cX9_wear 30 = .ok (.aload_n 0, 1) := by decide +kernel
theorem dX9_wear_31 : decode cX9_wear 31 = .ok (.iload_n 1, 1) := by decide +kernel
theorem dX9_wear_32 : decode cX9_wear 32 = .ok (.aload_n 0, 1) := by decide +kernel
theorem dX9_wear_33 : decode cX9_wear 33 = .ok (.iload_n 2, 1) := by decide +kernel
theorem dX9_wear_34 : decode cX9_wear 34 = .ok (.iconst 0, 1) := by decide +kernel
theorem dX9_wear_35 : decode cX9_wear 35 = .ok (.invokevirtual 172, 3) := by decide +kernel
theorem dX9_wear_38 : decode cX9_wear 38 = .ok (.invokevirtual 175, 3) := by decide +kernel
theorem dX9_wear_41 : decode cX9_wear 41 = .ok (.istore_n 3, 1) := by decide +kernel
theorem dX9_wear_42 : decode cX9_wear 42 = .ok (.aload_n 0, 1) := by decide +kernel
theorem dX9_wear_43 : decode cX9_wear 43 = .ok (.iload_n 2, 1) := by decide +kernel
theorem dX9_wear_44 : decode cX9_wear 44 = .ok (.invokevirtual 193, 3) := by decide +kernel
theorem dX9_wear_47 : decode cX9_wear 47 = .ok (.istore 4, 2) := by decide +kernel
theorem dX9_wear_49 : decode cX9_wear 49 = .ok (.iload 4, 2) := by decide +kernel
theorem dX9_wear_51 : decode cX9_wear 51 = .ok (.bipush (-4), 2) := by decide +kernel
theorem dX9_wear_53 : decode cX9_wear 53 = .ok (.if_icmp .eq 15, 3) := by decide +kernel
theorem dX9_wear_56 : decode cX9_wear 56 = .ok (.aload_n 0, 1) := by decide +kernel
theorem dX9_wear_57 : decode cX9_wear 57 = .ok (.iload 4, 2) := by decide +kernel
theorem dX9_wear_59 : decode cX9_wear 59 = .ok (.aload_n 0, 1) := by decide +kernel
theorem dX9_wear_60 : decode cX9_wear 60 = .ok (.iload_n 2, 1) := by decide +kernel
theorem dX9_wear_61 : decode cX9_wear 61 = .ok (.iconst 0, 1) := by decide +kernel
theorem dX9_wear_62 : decode cX9_wear 62 = .ok (.invokevirtual 172, 3) := by decide +kernel
theorem dX9_wear_65 : decode cX9_wear 65 = .ok (.invokevirtual 209, 3) := by decide +kernel
theorem dX9_wear_68 : decode cX9_wear 68 = .ok (.aload_n 0, 1) := by decide +kernel
theorem dX9_wear_69 : decode cX9_wear 69 = .ok (.iload_n 1, 1) := by decide +kernel
theorem dX9_wear_70 : decode cX9_wear 70 = .ok (.iload_n 2, 1) := by decide +kernel
theorem dX9_wear_71 : decode cX9_wear 71 = .ok (.invokevirtual 213, 3) := by decide +kernel
theorem dX9_wear_74 : decode cX9_wear 74 = .ok (.iload_n 3, 1) := by decide +kernel
theorem dX9_wear_75 : decode cX9_wear 75 = .ok (.ireturn, 1) := by decide +kernel
theorem dX9_doff_0 : decode cX9_doff 0 = .ok (.aload_n 0, 1) := by decide +kernel
theorem dX9_doff_1 : decode cX9_doff 1 = .ok (.iload_n 1, 1) := by decide +kernel
theorem dX9_doff_2 : decode cX9_doff 2 = .ok (.invokevirtual 178, 3) := by decide +kernel
theorem dX9_doff_5 : decode cX9_doff 5 = .ok (.ifCond .eq 10, 3) := by decide +kernel
theorem dX9_doff_8 : decode cX9_doff 8 = .ok (.iload_n 2, 1) := by decide +kernel
theorem dX9_doff_9 : decode cX9_doff 9 = .ok (.invokestatic 216, 3) := by decide +kernel
theorem dX9_doff_12 : decode cX9_doff 12 = .ok (.ifCond .ne 5, 3) := by decide +kernel
theorem dX9_doff_15 : decode cX9_doff 15 = .ok (.iconst (-1), 1) := by decide +kernel
theorem dX9_doff_16 : decode cX9_doff 16 = .ok (.ireturn, 1) := by decide +kernel
theorem dX9_doff_17 : decode cX9_doff 17 = .ok (.aload_n 0, 1) := by decide +kernel
theorem dX9_doff_18 : decode cX9_doff 18 = .ok (.iload_n 1, 1) := by decide +kernel
theorem dX9_doff_19 : decode cX9_doff 19 = .ok (.iload_n 2, 1) := by decide +kernel
theorem dX9_doff_20 : decode cX9_doff 20 = .ok (.invokevirtual 175, 3) := by decide +kernel
theorem dX9_doff_23 : decode cX9_doff 23 = .ok (.istore_n 3, 1) := by decide +kernel
theorem dX9_doff_24 : decode cX9_doff 24 = .ok (.aload_n 0, 1) := by decide +kernel
theorem dX9_doff_25 : decode cX9_doff 25 = .ok (.iload_n 1, 1) := by decide +kernel
theorem dX9_doff_26 : decode cX9_doff 26 = .ok (.iload_n 2, 1) := by decide +kernel
theorem dX9_doff_27 : decode cX9_doff 27 = .ok (.invokevirtual 209, 3) := by decide +kernel
theorem dX9_doff_30 : decode cX9_doff 30 = .ok (.iload_n 3, 1) := by decide +kernel
theorem dX9_doff_31 : decode cX9_doff 31 = .ok (.ireturn, 1) := by decide +kernel
theorem dX9_cold_0 : decode cX9_cold 0 = .ok (.iload_n 1, 1) := by decide +kernel
theorem dX9_cold_1 : decode cX9_cold 1 = .ok (.invokestatic 216, 3) := by decide +kernel
theorem dX9_cold_4 : decode cX9_cold 4 = .ok (.ifCond .ne 5, 3) := by decide +kernel
theorem dX9_cold_7 : decode cX9_cold 7 = .ok (.iconst (-1), 1) := by decide +kernel
theorem dX9_cold_8 : decode cX9_cold 8 = .ok (.ireturn, 1) := by decide +kernel
theorem dX9_cold_9 : decode cX9_cold 9 = .ok (.iconst 0, 1) := by decide +kernel
theorem dX9_cold_10 : decode cX9_cold 10 = .ok (.istore_n 2, 1) := by decide +kernel
theorem dX9_cold_11 : decode cX9_cold 11 = .ok (.iconst 0, 1) := by decide +kernel
theorem dX9_cold_12 : decode cX9_cold 12 = .ok (.istore_n 3, 1) := by decide +kernel
theorem dX9_cold_13 : decode cX9_cold 13 = .ok (.iload_n 3, 1) := by decide +kernel
theorem dX9_cold_14 : decode cX9_cold 14 = .ok (.aload_n 0, 1) := by decide +kernel
theorem dX9_cold_15 : decode cX9_cold 15 = .ok (.getfield 7, 3) := by decide +kernel
theorem dX9_cold_18 : decode cX9_cold 18 = .ok (.iconst 0, 1) := by decide +kernel
theorem dX9_cold_19 : decode cX9_cold 19 = .ok (.iaload, 1) := by decide +kernel
theorem dX9_cold_20 : decode cX9_cold 20 = .ok (.if_icmp .ge 33, 3) := by decide +kernel
theorem dX9_cold_23 : decode cX9_cold 23 = .ok (.iload_n 2, 1) := by decide +kernel
theorem dX9_cold_24 : decode cX9_cold 24 = .ok (.aload_n 0, 1) := by decide +kernel
theorem dX9_cold_25 : decode cX9_cold 25 = .ok (.iload_n 3, 1) := by decide +kernel
theorem dX9_cold_26 : decode cX9_cold 26 = .ok (.iload_n 1, 1) := by decide +kernel
theorem dX9_cold_27 : decode cX9_cold 27 = .ok (.invokevirtual 175, 3) := by decide +kernel
theorem dX9_cold_30 : decode cX9_cold 30 = .ok (.bipush (-4), 2) := by decide +kernel
theorem dX9_cold_32 : decode cX9_cold 32 = .ok (.if_icmp .ne 7, 3) := by decide +kernel
theorem dX9_cold_35 : decode cX9_cold 35 = .ok (.iconst 1, 1) := by decide +kernel
theorem dX9_cold_36 : decode cX9_cold 36 = .ok (.goto 4, 3) := by decide +kernel
theorem dX9_cold_39 : decode cX9_cold 39 = .ok (.iconst 0, 1) := by decide +kernel
theorem dX9_cold_40 : decode cX9_cold 40 = .ok (.invokestatic 219, 3) := by decide +kernel
theorem dX9_cold_43 : decode cX9_cold 43 = .ok (.iload_n 3, 1) := by decide +kernel
theorem dX9_cold_44 : decode cX9_cold 44 = .ok (.ishl, 1) := by decide +kernel
theorem dX9_cold_45 : decode cX9_cold 45 = .ok (.ior, 1) := by decide +kernel
theorem dX9_cold_46 : decode cX9_cold 46 = .ok (.istore_n 2, 1) := by decide +kernel
theorem dX9_cold_47 : decode cX9_cold 47 = .ok (.iinc 3 1, 3) := by decide +kernel
theorem dX9_cold_50 : decode cX9_cold 50 = .ok (.goto (-37), 3) := by decide +kernel
theorem dX9_cold_53 : decode cX9_cold 53 = .ok (.iload_n 2, 1) := by decide +kernel
theorem dX9_cold_54 : decode cX9_cold 54 = .ok (.ireturn, 1) := by decide +kernel
theorem dX9_findCanHave_0 : decode cX9_findCanHave 0 = .ok (.aload_n 0, 1) := by decide +kernel
theorem dX9_findCanHave_1 : decode cX9_findCanHave 1 = .ok (.aload_n 0, 1) := by decide +kernel
theorem dX9_findCanHave_2 : decode cX9_findCanHave 2 = .ok (.getfield 7, 3) := by decide +kernel
theorem dX9_findCanHave_5 : decode cX9_findCanHave 5 = .ok (.iconst 0, 1) := by decide +kernel
theorem dX9_findCanHave_6 : decode cX9_findCanHave 6 = .ok (.iaload, 1) := by decide +kernel
theorem dX9_findCanHave_7 : decode cX9_findCanHave 7 = .ok (.putfield 223, 3) := by decide +kernel
theorem dX9_findCanHave_10 : decode cX9_findCanHave 10 = .ok (.iconst 0, 1) := by decide +kernel
theorem dX9_findCanHave_11 : decode cX9_findCanHave 11 = .ok (.istore_n 2, 1) := by decide +kernel
theorem dX9_findCanHave_12 : decode cX9_findCanHave 12 = .ok (.iload_n 2, 1) := by decide +kernel
theorem dX9_findCanHave_13 : decode cX9_findCanHave 13 = .ok (.aload_n 0, 1) := by decide +kernel
theorem dX9_findCanHave_14 : decode cX9_findCanHave 14 = .ok (.getfield 223, 3) := by decide +kernel
theorem dX9_findCanHave_17 : decode cX9_findCanHave 17 = .ok (.if_icmp .ge 73, 3) := by decide +kernel
theorem dX9_findCanHave_20 : decode cX9_findCanHave 20 = .ok (.aload_n 0, 1) := by decide +kernel
theorem dX9_findCanHave_21 : decode cX9_findCanHave 21 = .ok (.getfield 23, 3) := by decide +kernel
theorem dX9_findCanHave_24 : decode cX9_findCanHave 24 = .ok (.iload_n 2, 1) := by decide +kernel
theorem dX9_findCanHave_25 : decode cX9_findCanHave 25 = .ok (.iconst 0, 1) := by decide +kernel
theorem dX9_findCanHave_26 : decode cX9_findCanHave 26 = .ok (.iastore, 1) := by decide +kernel
theorem dX9_findCanHave_27 : decode cX9_findCanHave 27 = .ok (.iconst 0, 1) := by decide +kernel
theorem dX9_findCanHave_28 : decode cX9_findCanHave 28 = .ok (.istore_n 3, 1) := by decide +kernel
theorem dX9_findCanHave_29 : decode cX9_findCanHave 29 = .ok (.iload_n 3, 1) := by decide +kernel
theorem dX9_findCanHave_30 : decode cX9_findCanHave 30 = .ok (.aload_n 0, 1) := by decide +kernel
theorem dX9_findCanHave_31 : decode cX9_findCanHave 31 = .ok (.getfield 7, 3) := by decide +kernel
theorem dX9_findCanHave_34 : decode cX9_findCanHave 34 = .ok (.bipush 41, 2) := by decide +kernel
theorem dX9_findCanHave_36 : decode cX9_findCanHave 36 = .ok (.iaload, 1) := by decide +kernel
theorem dX9_findCanHave_37 : decode cX9_findCanHave 37 = .ok (.if_icmp .ge 47, 3) := by decide +kernel
theorem dX9_findCanHave_40 : decode cX9_findCanHave 40 = .ok (.aload_n 0, 1) := by decide +kernel
theorem dX9_findCanHave_41 : decode cX9_findCanHave 41 = .ok (.getfield 23, 3) := by decide +kernel
theorem dX9_findCanHave_44 : decode cX9_findCanHave 44 = .ok (.iload_n 2, 1) := by decide +kernel
theorem dX9_findCanHave_45 : decode cX9_findCanHave 45 = .ok (.dup2, 1) := by decide +kernel
theorem dX9_findCanHave_46 : decode cX9_findCanHave 46 = .ok (.iaload, 1) := by decide +kernel
theorem dX9_findCanHave_47 : decode cX9_findCanHave 47 = .ok (.aload_n 0, 1) := by decide +kernel
theorem dX9_findCanHave_48 : decode cX9_findCanHave 48 = .ok (.iload_n 3, 1) := by decide +kernel
theorem dX9_findCanHave_49 : decode cX9_findCanHave 49 = .ok (.iconst 0, 1) := by decide +kernel
theorem dX9_findCanHave_50 : decode cX9_findCanHave 50 = .ok (.invokevirtual 172, 3) := by decide +kernel
theorem dX9_findCanHave_53 : decode cX9_findCanHave 53 = .ok (.iload_n 1, 1) := by decide +kernel
theorem dX9_findCanHave_54 : decode cX9_findCanHave 54 = .ok (.if_icmp .ne 16, 3) := by decide +kernel
theorem dX9_findCanHave_57 : decode cX9_findCanHave 57 = .ok (.aload_n 0, 1) := by decide +kernel
theorem dX9_findCanHave_58 : decode cX9_findCanHave 58 = .ok (.iload_n 2, 1) := by decide +kernel
theorem dX9_findCanHave_59 : decode cX9_findCanHave 59 = .ok (.iload_n 3, 1) := by decide +kernel
theorem dX9_findCanHave_60 : decode cX9_findCanHave 60 = .ok (.invokevirtual 206, 3) := by decide +kernel
theorem dX9_findCanHave_63 : decode cX9_findCanHave 63 = .ok (.ifCond .le 7, 3) := by decide +kernel
theorem dX9_findCanHave_66 : decode cX9_findCanHave 66 = .ok (.iconst 1, 1) := by decide +kernel
theorem dX9_findCanHave_67 : decode cX9_findCanHave 67 = .ok (.goto 4, 3) := by decide +kernel
theorem dX9_findCanHave_70 : decode cX9_findCanHave 70 = .ok (.iconst 0, 1) := by decide +kernel
theorem dX9_findCanHave_71 : decode cX9_findCanHave 71 = .ok (.invokestatic 219, 3) := by decide +kernel
theorem dX9_findCanHave_74 : decode cX9_findCanHave 74 = .ok (.iload_n 3, 1) := by decide +kernel
theorem dX9_findCanHave_75 : decode cX9_findCanHave 75 = .ok (.ishl, 1) := by decide +kernel
theorem dX9_findCanHave_76 : decode cX9_findCanHave 76 = .ok (.ior, 1) := by decide +kernel
theorem dX9_findCanHave_77 : decode cX9_findCanHave 77 = .ok (.iastore, 1) := by decide +kernel
theorem dX9_findCanHave_78 : decode cX9_findCanHave 78 = .ok (.iinc 3 1, 3) := by decide +kernel
theorem dX9_findCanHave_81 : decode cX9_findCanHave 81 = .ok (.goto (-52), 3) := by decide +kernel
theorem dX9_findCanHave_84 : decode cX9_findCanHave 84 = .ok (.iinc 2 1, 3) := by decide +kernel
theorem dX9_findCanHave_87 : decode cX9_findCanHave 87 = .ok (.goto (-75), 3) := by decide +kernel
theorem dX9_findCanHave_90 : decode cX9_findCanHave 90 = .ok (.return_, 1) := by decide +kernel
theorem dX9_getsOne_0 : decode cX9_getsOne 0 = .ok (.iload_n 2, 1) := by decide +kernel
theorem dX9_getsOne_1 : decode cX9_getsOne 1 = .ok (.istore_n 3, 1) := by decide +kernel
theorem dX9_getsOne_2 : decode cX9_getsOne 2 = .ok (.iconst 1, 1) := by decide +kernel
theorem dX9_getsOne_3 : decode cX9_getsOne 3 = .ok (.istore 4, 2) := by decide +kernel
theorem dX9_getsOne_5 : decode cX9_getsOne 5 = .ok (.aload_n 0, 1) := by decide +kernel
theorem dX9_getsOne_6 : decode cX9_getsOne 6 = .ok (.getfield 35, 3) := by decide +kernel
theorem dX9_getsOne_9 : decode cX9_getsOne 9 = .ok (.iconst 0, 1) := by decide +kernel
theorem dX9_getsOne_10 : decode cX9_getsOne 10 = .ok (.iload_n 1, 1) := by decide +kernel
theorem dX9_getsOne_11 : decode cX9_getsOne 11 = .ok (.iastore, 1) := by decide +kernel
theorem dX9_getsOne_12 : decode cX9_getsOne 12 = .ok (.iconst 0, 1) := by decide +kernel
theorem dX9_getsOne_13 : decode cX9_getsOne 13 = .ok (.istore 5, 2) := by decide +kernel
theorem dX9_getsOne_15 : decode cX9_getsOne 15 = .ok (.iload 5, 2) := by decide +kernel
theorem dX9_getsOne_17 : decode cX9_getsOne 17 = .ok (.iload 4, 2) := by decide +kernel
theorem dX9_getsOne_19 : decode cX9_getsOne 19 = .ok (.if_icmp .ge 108, 3) := by decide +kernel
theorem dX9_getsOne_22 : decode cX9_getsOne 22 = .ok (.aload_n 0, 1) := by decide +kernel
theorem dX9_getsOne_23 : decode cX9_getsOne 23 = .ok (.getfield 35, 3) := by decide +kernel
theorem dX9_getsOne_26 : decode cX9_getsOne 26 = .ok (.iload 5, 2) := by decide +kernel
theorem dX9_getsOne_28 : decode cX9_getsOne 28 = .ok (.iaload, 1) := by decide +kernel
theorem dX9_getsOne_29 : decode cX9_getsOne 29 = .ok (.istore 6, 2) := by decide +kernel
theorem dX9_getsOne_31 : decode cX9_getsOne 31 = .ok (.iconst 0, 1) := by decide +kernel
theorem dX9_getsOne_32 : decode cX9_getsOne 32 = .ok (.istore 7, 2) := by decide +kernel
theorem dX9_getsOne_34 : decode cX9_getsOne 34 = .ok (.iload 7, 2) := by decide +kernel
theorem dX9_getsOne_36 : decode cX9_getsOne 36 = .ok (.bipush 20, 2) := by decide +kernel
theorem dX9_getsOne_38 : decode cX9_getsOne 38 = .ok (.if_icmp .ge 83, 3) := by decide +kernel
theorem dX9_getsOne_41 : decode cX9_getsOne 41 = .ok (.aload_n 0, 1) := by decide +kernel
theorem dX9_getsOne_42 : decode cX9_getsOne 42 = .ok (.getfield 23, 3) := by decide +kernel
theorem dX9_getsOne_45 : decode cX9_getsOne 45 = .ok (.iload 6, 2) := by decide +kernel
theorem dX9_getsOne_47 : decode cX9_getsOne 47 = .ok (.iaload, 1) := by decide +kernel
theorem dX9_getsOne_48 : decode cX9_getsOne 48 = .ok (.iload_n 3, 1) := by decide +kernel
theorem dX9_getsOne_49 : decode cX9_getsOne 49 = .ok (.iconst (-1), 1) := by decide +kernel
theorem dX9_getsOne_50 : decode cX9_getsOne 50 = .ok (.ixor, 1) := by decide +kernel
theorem dX9_getsOne_51 : decode cX9_getsOne 51 = .ok (.iand, 1) := by decide +kernel
theorem dX9_getsOne_52 : decode cX9_getsOne 52 = .ok (.iload 7, 2) := by decide +kernel
theorem dX9_getsOne_54 : decode cX9_getsOne 54 = .ok (.ishr, 1) := by decide +kernel
theorem dX9_getsOne_55 : decode cX9_getsOne 55 = .ok (.iconst 1, 1) := by decide +kernel
theorem dX9_getsOne_56 : decode cX9_getsOne 56 = .ok (.iand, 1) := by decide +kernel
theorem dX9_getsOne_57 : decode cX9_getsOne 57 = .ok (.iconst 1, 1) := by decide +kernel
theorem dX9_getsOne_58 : decode cX9_getsOne 58 = .ok (.if_icmp .ne 57, 3) := by decide +kernel
theorem dX9_getsOne_61 : decode cX9_getsOne 61 = .ok (.iload_n 3, 1) := by decide +kernel
theorem dX9_getsOne_62 : decode cX9_getsOne 62 = .ok (.iconst 1, 1) := by decide +kernel
theorem dX9_getsOne_63 : decode cX9_getsOne 63 = .ok (.iload 7, 2) := by decide +kernel
theorem dX9_getsOne_65 : decode cX9_getsOne 65 = .ok (.ishl, 1) := by decide +kernel
theorem dX9_getsOne_66 : decode cX9_getsOne 66 = .ok (.ior, 1) := by decide +kernel
theorem dX9_getsOne_67 : decode cX9_getsOne 67 = .ok (.istore_n 3, 1) := by decide +kernel
theorem dX9_getsOne_68 : decode cX9_getsOne 68 = .ok (.aload_n 0, 1) := by decide +kernel
theorem dX9_getsOne_69 : decode cX9_getsOne 69 = .ok (.getfield 32, 3) := by decide +kernel
theorem dX9_getsOne_72 : decode cX9_getsOne 72 = .ok (.iload 7, 2) := by decide +kernel
theorem dX9_getsOne_74 : decode cX9_getsOne 74 = .ok (.iload 6, 2) := by decide +kernel
theorem dX9_getsOne_76 : decode cX9_getsOne 76 = .ok (.iastore, 1) := by decide +kernel
theorem dX9_getsOne_77 : decode cX9_getsOne 77 = .ok (.aload_n 0, 1) := by decide +kernel
theorem dX9_getsOne_78 : decode cX9_getsOne 78 = .ok (.getfield 29, 3) := by decide +kernel
theorem dX9_getsOne_81 : decode cX9_getsOne 81 = .ok (.iload 7, 2) := by decide +kernel
theorem dX9_getsOne_83 : decode cX9_getsOne 83 = .ok (.iaload, 1) := by decide +kernel
theorem dX9_getsOne_84 : decode cX9_getsOne 84 = .ok (.bipush (-4), 2) := by decide +kernel
theorem dX9_getsOne_86 : decode cX9_getsOne 86 = .ok (.if_icmp .ne 12, 3) := by decide +kernel
theorem dX9_getsOne_89 : decode cX9_getsOne 89 = .ok (.aload_n 0, 1) := by decide +kernel
theorem dX9_getsOne_90 : decode cX9_getsOne 90 = .ok (.iload_n 1, 1) := by decide +kernel
theorem dX9_getsOne_91 : decode cX9_getsOne 91 = .ok (.iload 7, 2) := by decide +kernel
theorem dX9_getsOne_93 : decode cX9_getsOne 93 = .ok (.invokevirtual 226, 3) := by decide +kernel
theorem dX9_getsOne_96 : decode cX9_getsOne 96 = .ok (.iconst 1, 1) := by decide +kernel
theorem dX9_getsOne_97 : decode cX9_getsOne 97 = .ok (.ireturn, 1) := by decide +kernel
theorem dX9_getsOne_98 : decode cX9_getsOne 98 = .ok (.aload_n 0, 1) := by decide +kernel
theorem dX9_getsOne_99 : decode cX9_getsOne 99 = .ok (.getfield 35, 3) := by decide +kernel
theorem dX9_getsOne_102 : decode cX9_getsOne 102 = .ok (.iload 4, 2) := by decide +kernel
theorem dX9_getsOne_104 : decode cX9_getsOne 104 = .ok (.aload_n 0, 1) := by decide +kernel
theorem dX9_getsOne_105 : decode cX9_getsOne 105 = .ok (.getfield 29, 3) := by decide +kernel
theorem dX9_getsOne_108 : decode cX9_getsOne 108 = .ok (.iload 7, 2) := by decide +kernel
theorem dX9_getsOne_110 : decode cX9_getsOne 110 = .ok (.iaload, 1) := by decide +kernel
theorem dX9_getsOne_111 : decode cX9_getsOne 111 = .ok (.iastore, 1) := by decide +kernel
theorem dX9_getsOne_112 : decode cX9_getsOne 112 = .ok (.iinc 4 1, 3) := by decide +kernel
theorem dX9_getsOne_115 : decode cX9_getsOne 115 = .ok (.iinc 7 1, 3) := by decide +kernel
theorem dX9_getsOne_118 : decode cX9_getsOne 118 = .ok (.goto (-84), 3) := by decide +kernel
theorem dX9_getsOne_121 : decode cX9_getsOne 121 = .ok (.iinc 5 1, 3) := by decide +kernel
theorem dX9_getsOne_124 : decode cX9_getsOne 124 = .ok (.goto (-109), 3) := by decide +kernel
theorem dX9_getsOne_127 : decode cX9_getsOne 127 = .ok (.iconst 0, 1) := by decide +kernel
theorem dX9_getsOne_128 : decode cX9_getsOne 128 = .ok (.ireturn, 1) := by decide +kernel
theorem dX9_givesOn_0 : decode cX9_givesOn 0 = .ok (.iload_n 2, 1) := by decide +kernel
theorem dX9_givesOn_1 : decode cX9_givesOn 1 = .ok (.istore_n 3, 1) := by decide +kernel
theorem dX9_givesOn_2 : decode cX9_givesOn 2 = .ok (.iconst 1, 1) := by decide +kernel
theorem dX9_givesOn_3 : decode cX9_givesOn 3 = .ok (.istore 4, 2) := by decide +kernel
theorem dX9_givesOn_5 : decode cX9_givesOn 5 = .ok (.iload 4, 2) := by decide +kernel
theorem dX9_givesOn_7 : decode cX9_givesOn 7 = .ok (.ifCond .eq 55, 3) := by decide +kernel
theorem dX9_givesOn_10 : decode cX9_givesOn 10 = .ok (.aload_n 0, 1) := by decide +kernel
theorem dX9_givesOn_11 : decode cX9_givesOn 11 = .ok (.getfield 32, 3) := by decide +kernel
theorem dX9_givesOn_14 : decode cX9_givesOn 14 = .ok (.iload_n 3, 1) := by decide +kernel
theorem dX9_givesOn_15 : decode cX9_givesOn 15 = .ok (.iaload, 1) := by decide +kernel
theorem dX9_givesOn_16 : decode cX9_givesOn 16 = .ok (.istore 5, 2) := by decide +kernel
theorem dX9_givesOn_18 : decode cX9_givesOn 18 = .ok (.aload_n 0, 1) := by decide +kernel
theorem dX9_givesOn_19 : decode cX9_givesOn 19 = .ok (.getfield 26, 3) := by decide +kernel
theorem dX9_givesOn_22 : decode cX9_givesOn 22 = .ok (.iload 5, 2) := by decide +kernel
theorem dX9_givesOn_24 : decode cX9_givesOn 24 = .ok (.iaload, 1) := by decide +kernel
theorem dX9_givesOn_25 : decode cX9_givesOn 25 = .ok (.istore 6, 2) := by decide +kernel
theorem dX9_givesOn_27 : decode cX9_givesOn 27 = .ok (.aload_n 0, 1) := by decide +kernel
theorem dX9_givesOn_28 : decode cX9_givesOn 28 = .ok (.getfield 26, 3) := by decide +kernel
theorem dX9_givesOn_31 : decode cX9_givesOn 31 = .ok (.iload 5, 2) := by decide +kernel
theorem dX9_givesOn_33 : decode cX9_givesOn 33 = .ok (.iload_n 3, 1) := by decide +kernel
theorem dX9_givesOn_34 : decode cX9_givesOn 34 = .ok (.iastore, 1) := by decide +kernel
theorem dX9_givesOn_35 : decode cX9_givesOn 35 = .ok (.aload_n 0, 1) := by decide +kernel
theorem dX9_givesOn_36 : decode cX9_givesOn 36 = .ok (.getfield 29, 3) := by decide +kernel
theorem dX9_givesOn_39 : decode cX9_givesOn 39 = .ok (.iload_n 3, 1) := by decide +kernel
theorem dX9_givesOn_40 : decode cX9_givesOn 40 = .ok (.iload 5, 2) := by decide +kernel
theorem dX9_givesOn_42 : decode cX9_givesOn 42 = .ok (.iastore, 1) := by decide +kernel
theorem dX9_givesOn_43 : decode cX9_givesOn 43 = .ok (.iload 5, 2) := by decide +kernel
theorem dX9_givesOn_45 : decode cX9_givesOn 45 = .ok (.iload_n 1, 1) := by decide +kernel
theorem dX9_givesOn_46 : decode cX9_givesOn 46 = .ok (.if_icmp .eq 7, 3) := by decide +kernel
theorem dX9_givesOn_49 : decode cX9_givesOn 49 = .ok (.iconst 1, 1) := by decide +kernel
theorem dX9_givesOn_50 : decode cX9_givesOn 50 = .ok (.goto 4, 3) := by decide +kernel
theorem dX9_givesOn_53 : decode cX9_givesOn 53 = .ok (.iconst 0, 1) := by decide +kernel
theorem dX9_givesOn_54 : decode cX9_givesOn 54 = .ok (.istore 4, 2) := by decide +kernel
theorem dX9_givesOn_56 : decode cX9_givesOn 56 = .ok (.iload 6, 2) := by decide +kernel
theorem dX9_givesOn_58 : decode cX9_givesOn 58 = .ok (.istore_n 3, 1) := by decide +kernel
theorem dX9_givesOn_59 : decode cX9_givesOn 59 = .ok (.goto (-54), 3) := by decide +kernel
theorem dX9_givesOn_62 : decode cX9_givesOn 62 = .ok (.return_, 1) := by decide +kernel
theorem dX9_findMost_0 : decode cX9_findMost 0 = .ok (.iconst 0, 1) := by decide +kernel
theorem dX9_findMost_1 : decode cX9_findMost 1 = .ok (.istore_n 1, 1) := by decide +kernel
theorem dX9_findMost_2 : decode cX9_findMost 2 = .ok (.iconst 0, 1) := by decide +kernel
theorem dX9_findMost_3 : decode cX9_findMost 3 = .ok (.istore_n 2, 1) := by decide +kernel
theorem dX9_findMost_4 : decode cX9_findMost 4 = .ok (.iload_n 2, 1) := by decide +kernel
theorem dX9_findMost_5 : decode cX9_findMost 5 = .ok (.bipush 8, 2) := by decide +kernel
theorem dX9_findMost_7 : decode cX9_findMost 7 = .ok (.if_icmp .ge 17, 3) := by decide +kernel
theorem dX9_findMost_10 : decode cX9_findMost 10 = .ok (.aload_n 0, 1) := by decide +kernel
theorem dX9_findMost_11 : decode cX9_findMost 11 = .ok (.getfield 26, 3) := by decide +kernel
theorem dX9_findMost_14 : decode cX9_findMost 14 = .ok (.iload_n 2, 1) := by decide +kernel
theorem dX9_findMost_15 : decode cX9_findMost 15 = .ok (.bipush (-4), 2) := by decide +kernel
theorem dX9_findMost_17 : decode cX9_findMost 17 = .ok (.iastore, 1) := by decide +kernel
theorem dX9_findMost_18 : decode cX9_findMost 18 = .ok (.iinc 2 1, 3) := by decide +kernel
theorem dX9_findMost_21 : decode cX9_findMost 21 = .ok (.goto (-17), 3) := by decide +kernel
theorem dX9_findMost_24 : decode cX9_findMost 24 = .ok (.iconst 0, 1) := by decide +kernel
theorem dX9_findMost_25 : decode cX9_findMost 25 = .ok (.istore_n 2, 1) := by decide +kernel
theorem dX9_findMost_26 : decode cX9_findMost 26 = .ok (.iload_n 2, 1) := by decide +kernel
theorem dX9_findMost_27 : decode cX9_findMost 27 = .ok (.bipush 20, 2) := by decide +kernel
theorem dX9_findMost_29 : decode cX9_findMost 29 = .ok (.if_icmp .ge 17, 3) := by decide +kernel
theorem dX9_findMost_32 : decode cX9_findMost 32 = .ok (.aload_n 0, 1) := by decide +kernel
theorem dX9_findMost_33 : decode cX9_findMost 33 = .ok (.getfield 29, 3) := by decide +kernel
theorem dX9_findMost_36 : decode cX9_findMost 36 = .ok (.iload_n 2, 1) := by decide +kernel
theorem dX9_findMost_37 : decode cX9_findMost 37 = .ok (.bipush (-4), 2) := by decide +kernel
theorem dX9_findMost_39 : decode cX9_findMost 39 = .ok (.iastore, 1) := by decide +kernel
theorem dX9_findMost_40 : decode cX9_findMost 40 = .ok (.iinc 2 1, 3) := by decide +kernel
theorem dX9_findMost_43 : decode cX9_findMost 43 = .ok (.goto (-17), 3) := by decide +kernel
theorem dX9_findMost_46 : decode cX9_findMost 46 = .ok (.iconst 0, 1) := by decide +kernel
theorem dX9_findMost_47 : decode cX9_findMost 47 = .ok (.istore_n 2, 1) := by decide +kernel
theorem dX9_findMost_48 : decode cX9_findMost 48 = .ok (.iload_n 2, 1) := by decide +kernel
theorem dX9_findMost_49 : decode cX9_findMost 49 = .ok (.aload_n 0, 1) := by decide +kernel
theorem dX9_findMost_50 : decode cX9_findMost 50 = .ok (.getfield 223, 3) := by decide +kernel
theorem dX9_findMost_53 : decode cX9_findMost 53 = .ok (.if_icmp .ge 21, 3) := by decide +kernel
theorem dX9_findMost_56 : decode cX9_findMost 56 = .ok (.iload_n 1, 1) := by decide +kernel
theorem dX9_findMost_57 : decode cX9_findMost 57 = .ok (.aload_n 0, 1) := by decide +kernel
theorem dX9_findMost_58 : decode cX9_findMost 58 = .ok (.iload_n 2, 1) := by decide +kernel
theorem dX9_findMost_59 : decode cX9_findMost 59 = .ok (.iconst 0, 1) := by decide +kernel
theorem dX9_findMost_60 : decode cX9_findMost 60 = .ok (.invokevirtual 229, 3) := by decide +kernel
theorem dX9_findMost_63 : decode cX9_findMost 63 = .ok (.invokestatic 219, 3) := by decide +kernel
theorem dX9_findMost_66 : decode cX9_findMost 66 = .ok (.iadd, 1) := by decide +kernel
theorem dX9_findMost_67 : decode cX9_findMost 67 = .ok (.istore_n 1, 1) := by decide +kernel
theorem dX9_findMost_68 : decode cX9_findMost 68 = .ok (.iinc 2 1, 3) := by decide +kernel
theorem dX9_findMost_71 : decode cX9_findMost 71 = .ok (.goto (-23), 3) := by decide +kernel
theorem dX9_findMost_74 : decode cX9_findMost 74 = .ok (.iload_n 1, 1) := by decide +kernel
theorem dX9_findMost_75 : decode cX9_findMost 75 = .ok (.ireturn, 1) := by decide +kernel
theorem dX9_keepsDeal_0 : decode cX9_keepsDeal 0 = .ok (.iconst 0, 1) := by decide +kernel
theorem dX9_keepsDeal_1 : decode cX9_keepsDeal 1 = .ok (.istore_n 1, 1) := by decide +kernel
theorem dX9_keepsDeal_2 : decode cX9_keepsDeal 2 = .ok (.iload_n 1, 1) := by decide +kernel
theorem dX9_keepsDeal_3 : decode cX9_keepsDeal 3 = .ok (.bipush 8, 2) := by decide +kernel
theorem dX9_keepsDeal_5 : decode cX9_keepsDeal 5 = .ok (.if_icmp .ge 21, 3) := by decide +kernel
theorem dX9_keepsDeal_8 : decode cX9_keepsDeal 8 = .ok (.aload_n 0, 1) := by decide +kernel
theorem dX9_keepsDeal_9 : decode cX9_keepsDeal 9 = .ok (.getfield 38, 3) := by decide +kernel
theorem dX9_keepsDeal_12 : decode cX9_keepsDeal 12 = .ok (.iload_n 1, 1) := by decide +kernel
theorem dX9_keepsDeal_13 : decode cX9_keepsDeal 13 = .ok (.aload_n 0, 1) := by decide +kernel
theorem dX9_keepsDeal_14 : decode cX9_keepsDeal 14 = .ok (.getfield 26, 3) := by decide +kernel
theorem dX9_keepsDeal_17 : decode cX9_keepsDeal 17 = .ok (.iload_n 1, 1) := by decide +kernel
theorem dX9_keepsDeal_18 : decode cX9_keepsDeal 18 = .ok (.iaload, 1) := by decide +kernel
theorem dX9_keepsDeal_19 : decode cX9_keepsDeal 19 = .ok (.iastore, 1) := by decide +kernel
theorem dX9_keepsDeal_20 : decode cX9_keepsDeal 20 = .ok (.iinc 1 1, 3) := by decide +kernel
theorem dX9_keepsDeal_23 : decode cX9_keepsDeal 23 = .ok (.goto (-21), 3) := by decide +kernel
theorem dX9_keepsDeal_26 : decode cX9_keepsDeal 26 = .ok (.iconst 0, 1) := by decide +kernel
theorem dX9_keepsDeal_27 : decode cX9_keepsDeal 27 = .ok (.istore_n 1, 1) := by decide +kernel
theorem dX9_keepsDeal_28 : decode cX9_keepsDeal 28 = .ok (.iload_n 1, 1) := by decide +kernel
theorem dX9_keepsDeal_29 : decode cX9_keepsDeal 29 = .ok (.bipush 20, 2) := by decide +kernel
theorem dX9_keepsDeal_31 : decode cX9_keepsDeal 31 = .ok (.if_icmp .ge 21, 3) := by decide +kernel
theorem dX9_keepsDeal_34 : decode cX9_keepsDeal 34 = .ok (.aload_n 0, 1) := by decide +kernel
theorem dX9_keepsDeal_35 : decode cX9_keepsDeal 35 = .ok (.getfield 41, 3) := by decide +kernel
theorem dX9_keepsDeal_38 : decode cX9_keepsDeal 38 = .ok (.iload_n 1, 1) := by decide +kernel
theorem dX9_keepsDeal_39 : decode cX9_keepsDeal 39 = .ok (.aload_n 0, 1) := by decide +kernel
theorem dX9_keepsDeal_40 : decode cX9_keepsDeal 40 = .ok (.getfield 29, 3) := by decide +kernel
theorem dX9_keepsDeal_43 : decode cX9_keepsDeal 43 = .ok (.iload_n 1, 1) := by decide +kernel
theorem dX9_keepsDeal_44 : decode cX9_keepsDeal 44 = .ok (.iaload, 1) := by decide +kernel
theorem dX9_keepsDeal_45 : decode cX9_keepsDeal 45 = .ok (.iastore, 1) := by decide +kernel
theorem dX9_keepsDeal_46 : decode cX9_keepsDeal 46 = .ok (.iinc 1 1, 3) := by decide +kernel
theorem dX9_keepsDeal_49 : decode cX9_keepsDeal 49 = .ok (.goto (-21), 3) := by decide +kernel
theorem dX9_keepsDeal_52 : decode cX9_keepsDeal 52 = .ok (.return_, 1) := by decide +kernel
theorem dX9_asKept_0 : decode cX9_asKept 0 = .ok (.iconst 0, 1) := by decide +kernel
theorem dX9_asKept_1 : decode cX9_asKept 1 = .ok (.istore_n 1, 1) := by decide +kernel
theorem dX9_asKept_2 : decode cX9_asKept 2 = .ok (.iload_n 1, 1) := by decide +kernel
theorem dX9_asKept_3 : decode cX9_asKept 3 = .ok (.bipush 8, 2) := by decide +kernel
theorem dX9_asKept_5 : decode cX9_asKept 5 = .ok (.if_icmp .ge 21, 3) := by decide +kernel
theorem dX9_asKept_8 : decode cX9_asKept 8 = .ok (.aload_n 0, 1) := by decide +kernel
theorem dX9_asKept_9 : decode cX9_asKept 9 = .ok (.getfield 26, 3) := by decide +kernel
theorem dX9_asKept_12 : decode cX9_asKept 12 = .ok (.iload_n 1, 1) := by decide +kernel
theorem dX9_asKept_13 : decode cX9_asKept 13 = .ok (.aload_n 0, 1) := by decide +kernel
theorem dX9_asKept_14 : decode cX9_asKept 14 = .ok (.getfield 38, 3) := by decide +kernel
theorem dX9_asKept_17 : decode cX9_asKept 17 = .ok (.iload_n 1, 1) := by decide +kernel
theorem dX9_asKept_18 : decode cX9_asKept 18 = .ok (.iaload, 1) := by decide +kernel
theorem dX9_asKept_19 : decode cX9_asKept 19 = .ok (.iastore, 1) := by decide +kernel
theorem dX9_asKept_20 : decode cX9_asKept 20 = .ok (.iinc 1 1, 3) := by decide +kernel
theorem dX9_asKept_23 : decode cX9_asKept 23 = .ok (.goto (-21), 3) := by decide +kernel
theorem dX9_asKept_26 : decode cX9_asKept 26 = .ok (.iconst 0, 1) := by decide +kernel
theorem dX9_asKept_27 : decode cX9_asKept 27 = .ok (.istore_n 1, 1) := by decide +kernel
theorem dX9_asKept_28 : decode cX9_asKept 28 = .ok (.iload_n 1, 1) := by decide +kernel
theorem dX9_asKept_29 : decode cX9_asKept 29 = .ok (.bipush 20, 2) := by decide +kernel
theorem dX9_asKept_31 : decode cX9_asKept 31 = .ok (.if_icmp .ge 21, 3) := by decide +kernel
theorem dX9_asKept_34 : decode cX9_asKept 34 = .ok (.aload_n 0, 1) := by decide +kernel
theorem dX9_asKept_35 : decode cX9_asKept 35 = .ok (.getfield 29, 3) := by decide +kernel
theorem dX9_asKept_38 : decode cX9_asKept 38 = .ok (.iload_n 1, 1) := by decide +kernel
theorem dX9_asKept_39 : decode cX9_asKept 39 = .ok (.aload_n 0, 1) := by decide +kernel
theorem dX9_asKept_40 : decode cX9_asKept 40 = .ok (.getfield 41, 3) := by decide +kernel
theorem dX9_asKept_43 : decode cX9_asKept 43 = .ok (.iload_n 1, 1) := by decide +kernel
theorem dX9_asKept_44 : decode cX9_asKept 44 = .ok (.iaload, 1) := by decide +kernel
theorem dX9_asKept_45 : decode cX9_asKept 45 = .ok (.iastore, 1) := by decide +kernel
theorem dX9_asKept_46 : decode cX9_asKept 46 = .ok (.iinc 1 1, 3) := by decide +kernel
theorem dX9_asKept_49 : decode cX9_asKept 49 = .ok (.goto (-21), 3) := by decide +kernel
theorem dX9_asKept_52 : decode cX9_asKept 52 = .ok (.return_, 1) := by decide +kernel
theorem dX9_canGet_0 : decode cX9_canGet 0 = .ok (.aload_n 0, 1) := by decide +kernel
theorem dX9_canGet_1 : decode cX9_canGet 1 = .ok (.getfield 26, 3) := by decide +kernel
theorem dX9_canGet_4 : decode cX9_canGet 4 = .ok (.iload_n 1, 1) := by decide +kernel
theorem dX9_canGet_5 : decode cX9_canGet 5 = .ok (.iaload, 1) := by decide +kernel
theorem dX9_canGet_6 : decode cX9_canGet 6 = .ok (.iload_n 2, 1) := by decide +kernel
theorem dX9_canGet_7 : decode cX9_canGet 7 = .ok (.if_icmp .ne 5, 3) := by decide +kernel
theorem dX9_canGet_10 : decode cX9_canGet 10 = .ok (.iconst 1, 1) := by decide +kernel
theorem dX9_canGet_11 : decode cX9_canGet 11 = .ok (.ireturn, 1) := by decide +kernel
theorem dX9_canGet_12 : decode cX9_canGet 12 = .ok (.aload_n 0, 1) := by decide +kernel
theorem dX9_canGet_13 : decode cX9_canGet 13 = .ok (.invokevirtual 232, 3) := by decide +kernel
theorem dX9_canGet_16 : decode cX9_canGet 16 = .ok (.aload_n 0, 1) := by decide +kernel
theorem dX9_canGet_17 : decode cX9_canGet 17 = .ok (.getfield 26, 3) := by decide +kernel
theorem dX9_canGet_20 : decode cX9_canGet 20 = .ok (.iload_n 1, 1) := by decide +kernel
theorem dX9_canGet_21 : decode cX9_canGet 21 = .ok (.iaload, 1) := by decide +kernel
theorem dX9_canGet_22 : decode cX9_canGet 22 = .ok (.istore 4, 2) := by decide +kernel
theorem dX9_canGet_24 : decode cX9_canGet 24 = .ok (.aload_n 0, 1) := by decide +kernel
theorem dX9_canGet_25 : decode cX9_canGet 25 = .ok (.getfield 29, 3) := by decide +kernel
theorem dX9_canGet_28 : decode cX9_canGet 28 = .ok (.iload_n 2, 1) := by decide +kernel
theorem dX9_canGet_29 : decode cX9_canGet 29 = .ok (.iaload, 1) := by decide +kernel
theorem dX9_canGet_30 : decode cX9_canGet 30 = .ok (.istore 5, 2) := by decide +kernel
theorem dX9_canGet_32 : decode cX9_canGet 32 = .ok (.iload 4, 2) := by decide +kernel
theorem dX9_canGet_34 : decode cX9_canGet 34 = .ok (.bipush (-4), 2) := by decide +kernel
theorem dX9_canGet_36 : decode cX9_canGet 36 = .ok (.if_icmp .eq 12, 3) := by decide +kernel
theorem dX9_canGet_39 : decode cX9_canGet 39 = .ok (.aload_n 0, 1) := by decide +kernel
theorem dX9_canGet_40 : decode cX9_canGet 40 = .ok (.getfield 29, 3) := by decide +kernel
theorem dX9_canGet_43 : decode cX9_canGet 43 = .ok (.iload 4, 2) := by decide +kernel
theorem dX9_canGet_45 : decode cX9_canGet 45 = .ok (.bipush (-4), 2) := by decide +kernel
theorem dX9_canGet_47 : decode cX9_canGet 47 = .ok (.iastore, 1) := by decide +kernel
theorem dX9_canGet_48 : decode cX9_canGet 48 = .ok (.aload_n 0, 1) := by decide +kernel
theorem dX9_canGet_49 : decode cX9_canGet 49 = .ok (.getfield 26, 3) := by decide +kernel
theorem dX9_canGet_52 : decode cX9_canGet 52 = .ok (.iload_n 1, 1) := by decide +kernel
theorem dX9_canGet_53 : decode cX9_canGet 53 = .ok (.iload_n 2, 1) := by decide +kernel
theorem dX9_canGet_54 : decode cX9_canGet 54 = .ok (.iastore, 1) := by decide +kernel
theorem dX9_canGet_55 : decode cX9_canGet 55 = .ok (.aload_n 0, 1) := by decide +kernel
theorem dX9_canGet_56 : decode cX9_canGet 56 = .ok (.getfield 29, 3) := by decide +kernel
theorem dX9_canGet_59 : decode cX9_canGet 59 = .ok (.iload_n 2, 1) := by decide +kernel
theorem dX9_canGet_60 : decode cX9_canGet 60 = .ok (.iload_n 1, 1) := by decide +kernel
theorem dX9_canGet_61 : decode cX9_canGet 61 = .ok (.iastore, 1) := by decide +kernel
theorem dX9_canGet_62 : decode cX9_canGet 62 = .ok (.iload 5, 2) := by decide +kernel
theorem dX9_canGet_64 : decode cX9_canGet 64 = .ok (.bipush (-4), 2) := by decide +kernel
theorem dX9_canGet_66 : decode cX9_canGet 66 = .ok (.if_icmp .eq 12, 3) := by decide +kernel
theorem dX9_canGet_69 : decode cX9_canGet 69 = .ok (.aload_n 0, 1) := by decide +kernel
theorem dX9_canGet_70 : decode cX9_canGet 70 = .ok (.getfield 26, 3) := by decide +kernel
theorem dX9_canGet_73 : decode cX9_canGet 73 = .ok (.iload 5, 2) := by decide +kernel
theorem dX9_canGet_75 : decode cX9_canGet 75 = .ok (.bipush (-4), 2) := by decide +kernel
theorem dX9_canGet_77 : decode cX9_canGet 77 = .ok (.iastore, 1) := by decide +kernel
theorem dX9_canGet_78 : decode cX9_canGet 78 = .ok (.iload 4, 2) := by decide +kernel
theorem dX9_canGet_80 : decode cX9_canGet 80 = .ok (.bipush (-4), 2) := by decide +kernel
theorem dX9_canGet_82 : decode cX9_canGet 82 = .ok (.if_icmp .eq 10, 3) := by decide +kernel
theorem dX9_canGet_85 : decode cX9_canGet 85 = .ok (.iload 5, 2) := by decide +kernel
theorem dX9_canGet_87 : decode cX9_canGet 87 = .ok (.bipush (-4), 2) := by decide +kernel
theorem dX9_canGet_89 : decode cX9_canGet 89 = .ok (.if_icmp .ne 7, 3) := by decide +kernel
theorem dX9_canGet_92 : decode cX9_canGet 92 = .ok (.iconst 1, 1) := by decide +kernel
theorem dX9_canGet_93 : decode cX9_canGet 93 = .ok (.goto 4, 3) := by decide +kernel
theorem dX9_canGet_96 : decode cX9_canGet 96 = .ok (.iconst 0, 1) := by decide +kernel
theorem dX9_canGet_97 : decode cX9_canGet 97 = .ok (.istore 6, 2) := by decide +kernel
theorem dX9_canGet_99 : decode cX9_canGet 99 = .ok (.iload_n 1, 1) := by decide +kernel
theorem dX9_canGet_100 : decode cX9_canGet 100 = .ok (.iconst 1, 1) := by decide +kernel
theorem dX9_canGet_101 : decode cX9_canGet 101 = .ok (.iadd, 1) := by decide +kernel
theorem dX9_canGet_102 : decode cX9_canGet 102 = .ok (.istore 7, 2) := by decide +kernel
theorem dX9_canGet_104 : decode cX9_canGet 104 = .ok (.iload 7, 2) := by decide +kernel
theorem dX9_canGet_106 : decode cX9_canGet 106 = .ok (.aload_n 0, 1) := by decide +kernel
theorem dX9_canGet_107 : decode cX9_canGet 107 = .ok (.getfield 223, 3) := by decide +kernel
theorem dX9_canGet_110 : decode cX9_canGet 110 = .ok (.if_icmp .ge 47, 3) := by decide +kernel
theorem dX9_canGet_113 : decode cX9_canGet 113 = .ok (.iload 6, 2) := by decide +kernel
theorem dX9_canGet_115 : decode cX9_canGet 115 = .ok (.ifCond .ne 42, 3) := by decide +kernel
theorem dX9_canGet_118 : decode cX9_canGet 118 = .ok (.aload_n 0, 1) := by decide +kernel
theorem dX9_canGet_119 : decode cX9_canGet 119 = .ok (.getfield 26, 3) := by decide +kernel
theorem dX9_canGet_122 : decode cX9_canGet 122 = .ok (.iload 7, 2) := by decide +kernel
theorem dX9_canGet_124 : decode cX9_canGet 124 = .ok (.iaload, 1) := by decide +kernel
theorem dX9_canGet_125 : decode cX9_canGet 125 = .ok (.bipush (-4), 2) := by decide +kernel
theorem dX9_canGet_127 : decode cX9_canGet 127 = .ok (.if_icmp .ne 21, 3) := by decide +kernel
theorem dX9_canGet_130 : decode cX9_canGet 130 = .ok (.aload_n 0, 1) := by decide +kernel
theorem dX9_canGet_131 : decode cX9_canGet 131 = .ok (.iload 7, 2) := by decide +kernel
theorem dX9_canGet_133 : decode cX9_canGet 133 = .ok (.iload_n 3, 1) := by decide +kernel
theorem dX9_canGet_134 : decode cX9_canGet 134 = .ok (.iconst 1, 1) := by decide +kernel
theorem dX9_canGet_135 : decode cX9_canGet 135 = .ok (.iload_n 2, 1) := by decide +kernel
theorem dX9_canGet_136 : decode cX9_canGet 136 = .ok (.ishl, 1) := by decide +kernel
theorem dX9_canGet_137 : decode cX9_canGet 137 = .ok (.ior, 1) := by decide +kernel
theorem dX9_canGet_138 : decode cX9_canGet 138 = .ok (.invokevirtual 229, 3) := by decide +kernel
theorem dX9_canGet_141 : decode cX9_canGet 141 = .ok (.ifCond .eq 7, 3) := by decide +kernel
theorem dX9_canGet_144 : decode cX9_canGet 144 = .ok (.iconst 1, 1) := by decide +kernel
theorem dX9_canGet_145 : decode cX9_canGet 145 = .ok (.goto 4, 3) := by decide +kernel
theorem dX9_canGet_148 : decode cX9_canGet 148 = .ok (.iconst 0, 1) := by decide +kernel
theorem dX9_canGet_149 : decode cX9_canGet 149 = .ok (.istore 6, 2) := by decide +kernel
theorem dX9_canGet_151 : decode cX9_canGet 151 = .ok (.iinc 7 1, 3) := by decide +kernel
theorem dX9_canGet_154 : decode cX9_canGet 154 = .ok (.goto (-50), 3) := by decide +kernel
theorem dX9_canGet_157 : decode cX9_canGet 157 = .ok (.iload 6, 2) := by decide +kernel
theorem dX9_canGet_159 : decode cX9_canGet 159 = .ok (.ifCond .ne 7, 3) := by decide +kernel
theorem dX9_canGet_162 : decode cX9_canGet 162 = .ok (.aload_n 0, 1) := by decide +kernel
theorem dX9_canGet_163 : decode cX9_canGet 163 = .ok (.invokevirtual 235, 3) := by decide +kernel
theorem dX9_canGet_166 : decode cX9_canGet 166 = .ok (.iload 6, 2) := by decide +kernel
theorem dX9_canGet_168 : decode cX9_canGet 168 = .ok (.ireturn, 1) := by decide +kernel
theorem dX9_findDeal_0 : decode cX9_findDeal 0 = .ok (.aload_n 0, 1) := by decide +kernel
theorem dX9_findDeal_1 : decode cX9_findDeal 1 = .ok (.iload_n 1, 1) := by decide +kernel
theorem dX9_findDeal_2 : decode cX9_findDeal 2 = .ok (.invokevirtual 238, 3) := by decide +kernel
theorem dX9_findDeal_5 : decode cX9_findDeal 5 = .ok (.aload_n 0, 1) := by decide +kernel
theorem dX9_findDeal_6 : decode cX9_findDeal 6 = .ok (.invokevirtual 241, 3) := by decide +kernel
theorem dX9_findDeal_9 : decode cX9_findDeal 9 = .ok (.istore_n 2, 1) := by decide +kernel
theorem dX9_findDeal_10 : decode cX9_findDeal 10 = .ok (.iconst 0, 1) := by decide +kernel
theorem dX9_findDeal_11 : decode cX9_findDeal 11 = .ok (.istore_n 3, 1) := by decide +kernel
theorem dX9_findDeal_12 : decode cX9_findDeal 12 = .ok (.iconst 0, 1) := by decide +kernel
theorem dX9_findDeal_13 : decode cX9_findDeal 13 = .ok (.istore 4, 2) := by decide +kernel
theorem dX9_findDeal_15 : decode cX9_findDeal 15 = .ok (.iload 4, 2) := by decide +kernel
theorem dX9_findDeal_17 : decode cX9_findDeal 17 = .ok (.aload_n 0, 1) := by decide +kernel
theorem dX9_findDeal_18 : decode cX9_findDeal 18 = .ok (.getfield 223, 3) := by decide +kernel
theorem dX9_findDeal_21 : decode cX9_findDeal 21 = .ok (.if_icmp .ge 101, 3) := by decide +kernel
theorem dX9_findDeal_24 : decode cX9_findDeal 24 = .ok (.aload_n 0, 1) := by decide +kernel
theorem dX9_findDeal_25 : decode cX9_findDeal 25 = .ok (.getfield 26, 3) := by decide +kernel
theorem dX9_findDeal_28 : decode cX9_findDeal 28 = .ok (.iload 4, 2) := by decide +kernel
theorem dX9_findDeal_30 : decode cX9_findDeal 30 = .ok (.iaload, 1) := by decide +kernel
theorem dX9_findDeal_31 : decode cX9_findDeal 31 = .ok (.bipush (-4), 2) := by decide +kernel
theorem dX9_findDeal_33 : decode cX9_findDeal 33 = .ok (.if_icmp .ne 13, 3) := by decide +kernel
theorem dX9_findDeal_36 : decode cX9_findDeal 36 = .ok (.aload_n 0, 1) := by decide +kernel
theorem dX9_findDeal_37 : decode cX9_findDeal 37 = .ok (.getfield 23, 3) := by decide +kernel
theorem dX9_findDeal_40 : decode cX9_findDeal 40 = .ok (.iload 4, 2) := by decide +kernel
theorem dX9_findDeal_42 : decode cX9_findDeal 42 = .ok (.iaload, 1) := by decide +kernel
theorem dX9_findDeal_43 : decode cX9_findDeal 43 = .ok (.ifCond .eq 7, 3) := by decide +kernel
theorem dX9_findDeal_46 : decode cX9_findDeal 46 = .ok (.iconst 1, 1) := by decide +kernel
theorem dX9_findDeal_47 : decode cX9_findDeal 47 = .ok (.goto 4, 3) := by decide +kernel
theorem dX9_findDeal_50 : decode cX9_findDeal 50 = .ok (.iconst 0, 1) := by decide +kernel
theorem dX9_findDeal_51 : decode cX9_findDeal 51 = .ok (.istore 5, 2) := by decide +kernel
theorem dX9_findDeal_53 : decode cX9_findDeal 53 = .ok (.iconst 0, 1) := by decide +kernel
theorem dX9_findDeal_54 : decode cX9_findDeal 54 = .ok (.istore 6, 2) := by decide +kernel
theorem dX9_findDeal_56 : decode cX9_findDeal 56 = .ok (.iload 6, 2) := by decide +kernel
theorem dX9_findDeal_58 : decode cX9_findDeal 58 = .ok (.bipush 10, 2) := by decide +kernel
theorem dX9_findDeal_60 : decode cX9_findDeal 60 = .ok (.if_icmp .ge 56, 3) := by decide +kernel
theorem dX9_findDeal_63 : decode cX9_findDeal 63 = .ok (.iload 5, 2) := by decide +kernel
theorem dX9_findDeal_65 : decode cX9_findDeal 65 = .ok (.ifCond .eq 51, 3) := by decide +kernel
theorem dX9_findDeal_68 : decode cX9_findDeal 68 = .ok (.aload_n 0, 1) := by decide +kernel
theorem dX9_findDeal_69 : decode cX9_findDeal 69 = .ok (.getfield 23, 3) := by decide +kernel
theorem dX9_findDeal_72 : decode cX9_findDeal 72 = .ok (.iload 4, 2) := by decide +kernel
theorem dX9_findDeal_74 : decode cX9_findDeal 74 = .ok (.iaload, 1) := by decide +kernel
theorem dX9_findDeal_75 : decode cX9_findDeal 75 = .ok (.iload_n 3, 1) := by decide +kernel
theorem dX9_findDeal_76 : decode cX9_findDeal 76 = .ok (.iconst (-1), 1) := by decide +kernel
theorem dX9_findDeal_77 : decode cX9_findDeal 77 = .ok (.ixor, 1) := by decide +kernel
theorem dX9_findDeal_78 : decode cX9_findDeal 78 = .ok (.iand, 1) := by decide +kernel
theorem dX9_findDeal_79 : decode cX9_findDeal 79 = .ok (.iload 6, 2) := by decide +kernel
theorem dX9_findDeal_81 : decode cX9_findDeal 81 = .ok (.ishr, 1) := by decide +kernel
theorem dX9_findDeal_82 : decode cX9_findDeal 82 = .ok (.iconst 1, 1) := by decide +kernel
theorem dX9_findDeal_83 : decode cX9_findDeal 83 = .ok (.iand, 1) := by decide +kernel
theorem dX9_findDeal_84 : decode cX9_findDeal 84 = .ok (.iconst 1, 1) := by decide +kernel
theorem dX9_findDeal_85 : decode cX9_findDeal 85 = .ok (.if_icmp .ne 25, 3) := by decide +kernel
theorem dX9_findDeal_88 : decode cX9_findDeal 88 = .ok (.aload_n 0, 1) := by decide +kernel
theorem dX9_findDeal_89 : decode cX9_findDeal 89 = .ok (.iload 4, 2) := by decide +kernel
theorem dX9_findDeal_91 : decode cX9_findDeal 91 = .ok (.iload 6, 2) := by decide +kernel
theorem dX9_findDeal_93 : decode cX9_findDeal 93 = .ok (.iload_n 3, 1) := by decide +kernel
theorem dX9_findDeal_94 : decode cX9_findDeal 94 = .ok (.invokevirtual 244, 3) := by decide +kernel
theorem dX9_findDeal_97 : decode cX9_findDeal 97 = .ok (.ifCond .eq 13, 3) := by decide +kernel
theorem dX9_findDeal_100 : decode cX9_findDeal 100 = .ok (.iload_n 3, 1) := by decide +kernel
theorem dX9_findDeal_101 : decode cX9_findDeal 101 = .ok (.iconst 1, 1) := by decide +kernel
theorem dX9_findDeal_102 : decode cX9_findDeal 102 = .ok (.iload 6, 2) := by decide +kernel
theorem dX9_findDeal_104 : decode cX9_findDeal 104 = .ok (.ishl, 1) := by decide +kernel
theorem dX9_findDeal_105 : decode cX9_findDeal 105 = .ok (.ior, 1) := by decide +kernel
theorem dX9_findDeal_106 : decode cX9_findDeal 106 = .ok (.istore_n 3, 1) := by decide +kernel
theorem dX9_findDeal_107 : decode cX9_findDeal 107 = .ok (.iconst 0, 1) := by decide +kernel
theorem dX9_findDeal_108 : decode cX9_findDeal 108 = .ok (.istore 5, 2) := by decide +kernel
theorem dX9_findDeal_110 : decode cX9_findDeal 110 = .ok (.iinc 6 1, 3) := by decide +kernel
theorem dX9_findDeal_113 : decode cX9_findDeal 113 = .ok (.goto (-57), 3) := by decide +kernel
theorem dX9_findDeal_116 : decode cX9_findDeal 116 = .ok (.iinc 4 1, 3) := by decide +kernel
theorem dX9_findDeal_119 : decode cX9_findDeal 119 = .ok (.goto (-104), 3) := by decide +kernel
theorem dX9_findDeal_122 : decode cX9_findDeal 122 = .ok (.iload_n 2, 1) := by decide +kernel
theorem dX9_findDeal_123 : decode cX9_findDeal 123 = .ok (.ireturn, 1) := by decide +kernel
theorem dX9_deal_0 : decode cX9_deal 0 = .ok (.iload_n 1, 1) := by decide +kernel
theorem dX9_deal_1 : decode cX9_deal 1 = .ok (.invokestatic 216, 3) := by decide +kernel
theorem dX9_deal_4 : decode cX9_deal 4 = .ok (.ifCond .eq 24, 3) := by decide +kernel
theorem dX9_deal_7 : decode cX9_deal 7 = .ok (.iload_n 2, 1) := by decide +kernel
theorem dX9_deal_8 : decode cX9_deal 8 = .ok (.i2l, 1) := by decide +kernel
theorem dX9_deal_9 : decode cX9_deal 9 = .ok (.lconst 0, 1) := by decide +kernel
theorem dX9_deal_10 : decode cX9_deal 10 = .ok (.lconst 1, 1) := by decide +kernel
theorem dX9_deal_11 : decode cX9_deal 11 = .ok (.invokestatic 93, 3) := by decide +kernel
theorem dX9_deal_14 : decode cX9_deal 14 = .ok (.ifCond .ne 16, 3) := by decide +kernel
theorem dX9_deal_17 : decode cX9_deal 17 = .ok (.aload_n 0, 1) := by decide +kernel
theorem dX9_deal_18 : decode cX9_deal 18 = .ok (.iload_n 2, 1) := by decide +kernel
theorem dX9_deal_19 : decode cX9_deal 19 = .ok (.bipush 10, 2) := by decide +kernel
theorem dX9_deal_21 : decode cX9_deal 21 = .ok (.isub, 1) := by decide +kernel
theorem dX9_deal_22 : decode cX9_deal 22 = .ok (.invokevirtual 178, 3) := by decide +kernel
theorem dX9_deal_25 : decode cX9_deal 25 = .ok (.ifCond .ne 5, 3) := by decide +kernel
theorem dX9_deal_28 : decode cX9_deal 28 = .ok (.iconst (-1), 1) := by decide +kernel
theorem dX9_deal_29 : decode cX9_deal 29 = .ok (.ireturn, 1) := by decide +kernel
theorem dX9_deal_30 : decode cX9_deal 30 = .ok (.aload_n 0, 1) := by decide +kernel
theorem dX9_deal_31 : decode cX9_deal 31 = .ok (.iload_n 1, 1) := by decide +kernel
theorem dX9_deal_32 : decode cX9_deal 32 = .ok (.invokevirtual 248, 3) := by decide +kernel
theorem dX9_deal_35 : decode cX9_deal 35 = .ok (.istore_n 3, 1) := by decide +kernel
theorem dX9_deal_36 : decode cX9_deal 36 = .ok (.iload_n 2, 1) := by decide +kernel
theorem dX9_deal_37 : decode cX9_deal 37 = .ok (.ifCond .ne 7, 3) := by decide +kernel
theorem dX9_deal_40 : decode cX9_deal 40 = .ok (.iload_n 3, 1) := by decide +kernel
theorem dX9_deal_41 : decode cX9_deal 41 = .ok (.goto 28, 3) := by decide +kernel
theorem dX9_deal_44 : decode cX9_deal 44 = .ok (.iload_n 2, 1) := by decide +kernel
theorem dX9_deal_45 : decode cX9_deal 45 = .ok (.iconst 1, 1) := by decide +kernel
theorem dX9_deal_46 : decode cX9_deal 46 = .ok (.if_icmp .ne 14, 3) := by decide +kernel
theorem dX9_deal_49 : decode cX9_deal 49 = .ok (.aload_n 0, 1) := by decide +kernel
theorem dX9_deal_50 : decode cX9_deal 50 = .ok (.getfield 7, 3) := by decide +kernel
theorem dX9_deal_53 : decode cX9_deal 53 = .ok (.iconst 0, 1) := by decide +kernel
theorem dX9_deal_54 : decode cX9_deal 54 = .ok (.iaload, 1) := by decide +kernel
theorem dX9_deal_55 : decode cX9_deal 55 = .ok (.iload_n 3, 1) := by decide +kernel
theorem dX9_deal_56 : decode cX9_deal 56 = .ok (.isub, 1) := by decide +kernel
theorem dX9_deal_57 : decode cX9_deal 57 = .ok (.goto 12, 3) := by decide +kernel
theorem dX9_deal_60 : decode cX9_deal 60 = .ok (.aload_n 0, 1) := by decide +kernel
theorem dX9_deal_61 : decode cX9_deal 61 = .ok (.getfield 26, 3) := by decide +kernel
theorem dX9_deal_64 : decode cX9_deal 64 = .ok (.iload_n 2, 1) := by decide +kernel
theorem dX9_deal_65 : decode cX9_deal 65 = .ok (.bipush 10, 2) := by decide +kernel
theorem dX9_deal_67 : decode cX9_deal 67 = .ok (.isub, 1) := by decide +kernel
theorem dX9_deal_68 : decode cX9_deal 68 = .ok (.iaload, 1) := by decide +kernel
theorem dX9_deal_69 : decode cX9_deal 69 = .ok (.ireturn, 1) := by decide +kernel
theorem dX9_dresses_0 : decode cX9_dresses 0 = .ok (.iconst 0, 1) := by decide +kernel
theorem dX9_dresses_1 : decode cX9_dresses 1 = .ok (.istore_n 2, 1) := by decide +kernel
theorem dX9_dresses_2 : decode cX9_dresses 2 = .ok (.iload_n 2, 1) := by decide +kernel
theorem dX9_dresses_3 : decode cX9_dresses 3 = .ok (.aload_n 0, 1) := by decide +kernel
theorem dX9_dresses_4 : decode cX9_dresses 4 = .ok (.getfield 7, 3) := by decide +kernel
theorem dX9_dresses_7 : decode cX9_dresses 7 = .ok (.iconst 0, 1) := by decide +kernel
theorem dX9_dresses_8 : decode cX9_dresses 8 = .ok (.iaload, 1) := by decide +kernel
theorem dX9_dresses_9 : decode cX9_dresses 9 = .ok (.if_icmp .ge 15, 3) := by decide +kernel
theorem dX9_dresses_12 : decode cX9_dresses 12 = .ok (.aload_n 0, 1) := by decide +kernel
theorem dX9_dresses_13 : decode cX9_dresses 13 = .ok (.iload_n 2, 1) := by decide +kernel
theorem dX9_dresses_14 : decode cX9_dresses 14 = .ok (.iload_n 1, 1) := by decide +kernel
theorem dX9_dresses_15 : decode cX9_dresses 15 = .ok (.invokevirtual 209, 3) := by decide +kernel
theorem dX9_dresses_18 : decode cX9_dresses 18 = .ok (.iinc 2 1, 3) := by decide +kernel
theorem dX9_dresses_21 : decode cX9_dresses 21 = .ok (.goto (-19), 3) := by decide +kernel
theorem dX9_dresses_24 : decode cX9_dresses 24 = .ok (.aload_n 0, 1) := by decide +kernel
theorem dX9_dresses_25 : decode cX9_dresses 25 = .ok (.iload_n 1, 1) := by decide +kernel
theorem dX9_dresses_26 : decode cX9_dresses 26 = .ok (.invokevirtual 248, 3) := by decide +kernel
theorem dX9_dresses_29 : decode cX9_dresses 29 = .ok (.istore_n 2, 1) := by decide +kernel
theorem dX9_dresses_30 : decode cX9_dresses 30 = .ok (.iconst 0, 1) := by decide +kernel
theorem dX9_dresses_31 : decode cX9_dresses 31 = .ok (.istore_n 3, 1) := by decide +kernel
theorem dX9_dresses_32 : decode cX9_dresses 32 = .ok (.iload_n 3, 1) := by decide +kernel
theorem dX9_dresses_33 : decode cX9_dresses 33 = .ok (.aload_n 0, 1) := by decide +kernel
theorem dX9_dresses_34 : decode cX9_dresses 34 = .ok (.getfield 7, 3) := by decide +kernel
theorem dX9_dresses_37 : decode cX9_dresses 37 = .ok (.iconst 0, 1) := by decide +kernel
theorem dX9_dresses_38 : decode cX9_dresses 38 = .ok (.iaload, 1) := by decide +kernel
theorem dX9_dresses_39 : decode cX9_dresses 39 = .ok (.if_icmp .ge 31, 3) := by decide +kernel
theorem dX9_dresses_42 : decode cX9_dresses 42 = .ok (.aload_n 0, 1) := by decide +kernel
theorem dX9_dresses_43 : decode cX9_dresses 43 = .ok (.getfield 26, 3) := by decide +kernel
theorem dX9_dresses_46 : decode cX9_dresses 46 = .ok (.iload_n 3, 1) := by decide +kernel
theorem dX9_dresses_47 : decode cX9_dresses 47 = .ok (.iaload, 1) := by decide +kernel
theorem dX9_dresses_48 : decode cX9_dresses 48 = .ok (.bipush (-4), 2) := by decide +kernel
theorem dX9_dresses_50 : decode cX9_dresses 50 = .ok (.if_icmp .eq 14, 3) := by decide +kernel
theorem dX9_dresses_53 : decode cX9_dresses 53 = .ok (.aload_n 0, 1) := by decide +kernel
theorem dX9_dresses_54 : decode cX9_dresses 54 = .ok (.iload_n 3, 1) := by decide +kernel
theorem dX9_dresses_55 : decode cX9_dresses 55 = .ok (.aload_n 0, 1) := by decide +kernel
theorem dX9_dresses_56 : decode cX9_dresses 56 = .ok (.getfield 26, 3) := by decide +kernel
theorem dX9_dresses_59 : decode cX9_dresses 59 = .ok (.iload_n 3, 1) := by decide +kernel
theorem dX9_dresses_60 : decode cX9_dresses 60 = .ok (.iaload, 1) := by decide +kernel
theorem dX9_dresses_61 : decode cX9_dresses 61 = .ok (.invokevirtual 213, 3) := by decide +kernel
theorem dX9_dresses_64 : decode cX9_dresses 64 = .ok (.iinc 3 1, 3) := by decide +kernel
theorem dX9_dresses_67 : decode cX9_dresses 67 = .ok (.goto (-35), 3) := by decide +kernel
theorem dX9_dresses_70 : decode cX9_dresses 70 = .ok (.aload_n 0, 1) := by decide +kernel
theorem dX9_dresses_71 : decode cX9_dresses 71 = .ok (.getfield 7, 3) := by decide +kernel
theorem dX9_dresses_74 : decode cX9_dresses 74 = .ok (.iconst 0, 1) := by decide +kernel
theorem dX9_dresses_75 : decode cX9_dresses 75 = .ok (.iaload, 1) := by decide +kernel
theorem dX9_dresses_76 : decode cX9_dresses 76 = .ok (.iload_n 2, 1) := by decide +kernel
theorem dX9_dresses_77 : decode cX9_dresses 77 = .ok (.isub, 1) := by decide +kernel
theorem dX9_dresses_78 : decode cX9_dresses 78 = .ok (.ireturn, 1) := by decide +kernel
theorem dX9_dress_0 : decode cX9_dress 0 = .ok (.iload_n 1, 1) := by decide +kernel
theorem dX9_dress_1 : decode cX9_dress 1 = .ok (.invokestatic 216, 3) := by decide +kernel
theorem dX9_dress_4 : decode cX9_dress 4 = .ok (.ifCond .eq 11, 3) := by decide +kernel
theorem dX9_dress_7 : decode cX9_dress 7 = .ok (.aload_n 0, 1) := by decide +kernel
theorem dX9_dress_8 : decode cX9_dress 8 = .ok (.iload_n 1, 1) := by decide +kernel
theorem dX9_dress_9 : decode cX9_dress 9 = .ok (.invokevirtual 251, 3) := by decide +kernel
theorem dX9_dress_12 : decode cX9_dress 12 = .ok (.goto 4, 3) := by decide +kernel
theorem dX9_dress_15 : decode cX9_dress 15 = .ok (.iconst (-1), 1) := by decide +kernel
theorem dX9_dress_16 : decode cX9_dress 16 = .ok (.ireturn, 1) := by decide +kernel
theorem dX9_spare_0 : decode cX9_spare 0 = .ok (.iload_n 1, 1) := by decide +kernel
theorem dX9_spare_1 : decode cX9_spare 1 = .ok (.invokestatic 216, 3) := by decide +kernel
theorem dX9_spare_4 : decode cX9_spare 4 = .ok (.ifCond .ne 5, 3) := by decide +kernel
theorem dX9_spare_7 : decode cX9_spare 7 = .ok (.iconst (-1), 1) := by decide +kernel
theorem dX9_spare_8 : decode cX9_spare 8 = .ok (.ireturn, 1) := by decide +kernel
theorem dX9_spare_9 : decode cX9_spare 9 = .ok (.aload_n 0, 1) := by decide +kernel
theorem dX9_spare_10 : decode cX9_spare 10 = .ok (.iload_n 1, 1) := by decide +kernel
theorem dX9_spare_11 : decode cX9_spare 11 = .ok (.invokevirtual 248, 3) := by decide +kernel
theorem dX9_spare_14 : decode cX9_spare 14 = .ok (.pop, 1) := by decide +kernel
theorem dX9_spare_15 : decode cX9_spare 15 = .ok (.iconst 0, 1) := by decide +kernel
theorem dX9_spare_16 : decode cX9_spare 16 = .ok (.istore_n 2, 1) := by decide +kernel
theorem dX9_spare_17 : decode cX9_spare 17 = .ok (.iconst 0, 1) := by decide +kernel
theorem dX9_spare_18 : decode cX9_spare 18 = .ok (.istore_n 3, 1) := by decide +kernel
theorem dX9_spare_19 : decode cX9_spare 19 = .ok (.iload_n 3, 1) := by decide +kernel
theorem dX9_spare_20 : decode cX9_spare 20 = .ok (.aload_n 0, 1) := by decide +kernel
theorem dX9_spare_21 : decode cX9_spare 21 = .ok (.getfield 7, 3) := by decide +kernel
theorem dX9_spare_24 : decode cX9_spare 24 = .ok (.bipush 41, 2) := by decide +kernel
theorem dX9_spare_26 : decode cX9_spare 26 = .ok (.iaload, 1) := by decide +kernel
theorem dX9_spare_27 : decode cX9_spare 27 = .ok (.if_icmp .ge 51, 3) := by decide +kernel
theorem dX9_spare_30 : decode cX9_spare 30 = .ok (.iload_n 2, 1) := by decide +kernel
theorem dX9_spare_31 : decode cX9_spare 31 = .ok (.aload_n 0, 1) := by decide +kernel
theorem dX9_spare_32 : decode cX9_spare 32 = .ok (.iload_n 3, 1) := by decide +kernel
theorem dX9_spare_33 : decode cX9_spare 33 = .ok (.iconst 0, 1) := by decide +kernel
theorem dX9_spare_34 : decode cX9_spare 34 = .ok (.invokevirtual 172, 3) := by decide +kernel
theorem dX9_spare_37 : decode cX9_spare 37 = .ok (.iload_n 1, 1) := by decide +kernel
theorem dX9_spare_38 : decode cX9_spare 38 = .ok (.if_icmp .ne 26, 3) := by decide +kernel
theorem dX9_spare_41 : decode cX9_spare 41 = .ok (.aload_n 0, 1) := by decide +kernel
theorem dX9_spare_42 : decode cX9_spare 42 = .ok (.iload_n 3, 1) := by decide +kernel
theorem dX9_spare_43 : decode cX9_spare 43 = .ok (.invokevirtual 254, 3) := by decide +kernel
theorem dX9_spare_46 : decode cX9_spare 46 = .ok (.ifCond .ne 18, 3) := by decide +kernel
theorem dX9_spare_49 : decode cX9_spare 49 = .ok (.aload_n 0, 1) := by decide +kernel
theorem dX9_spare_50 : decode cX9_spare 50 = .ok (.getfield 29, 3) := by decide +kernel
theorem dX9_spare_53 : decode cX9_spare 53 = .ok (.iload_n 3, 1) := by decide +kernel
theorem dX9_spare_54 : decode cX9_spare 54 = .ok (.iaload, 1) := by decide +kernel
theorem dX9_spare_55 : decode cX9_spare 55 = .ok (.bipush (-4), 2) := by decide +kernel
theorem dX9_spare_57 : decode cX9_spare 57 = .ok (.if_icmp .ne 7, 3) := by decide +kernel
theorem dX9_spare_60 : decode cX9_spare 60 = .ok (.iconst 1, 1) := by decide +kernel
theorem dX9_spare_61 : decode cX9_spare 61 = .ok (.goto 4, 3) := by decide +kernel
theorem dX9_spare_64 : decode cX9_spare 64 = .ok (.iconst 0, 1) := by decide +kernel
theorem dX9_spare_65 : decode cX9_spare 65 = .ok (.invokestatic 219, 3) := by decide +kernel
theorem dX9_spare_68 : decode cX9_spare 68 = .ok (.iload_n 3, 1) := by decide +kernel
theorem dX9_spare_69 : decode cX9_spare 69 = .ok (.ishl, 1) := by decide +kernel
theorem dX9_spare_70 : decode cX9_spare 70 = .ok (.ior, 1) := by decide +kernel
theorem dX9_spare_71 : decode cX9_spare 71 = .ok (.istore_n 2, 1) := by decide +kernel
theorem dX9_spare_72 : decode cX9_spare 72 = .ok (.iinc 3 1, 3) := by decide +kernel
theorem dX9_spare_75 : decode cX9_spare 75 = .ok (.goto (-56), 3) := by decide +kernel
theorem dX9_spare_78 : decode cX9_spare 78 = .ok (.iload_n 2, 1) := by decide +kernel
theorem dX9_spare_79 : decode cX9_spare 79 = .ok (.ireturn, 1) := by decide +kernel
theorem dX9_winters_0 : decode cX9_winters 0 = .ok (.iconst 0, 1) := by decide +kernel
theorem dX9_winters_1 : decode cX9_winters 1 = .ok (.istore_n 1, 1) := by decide +kernel
theorem dX9_winters_2 : decode cX9_winters 2 = .ok (.iconst 0, 1) := by decide +kernel
theorem dX9_winters_3 : decode cX9_winters 3 = .ok (.istore_n 2, 1) := by decide +kernel
theorem dX9_winters_4 : decode cX9_winters 4 = .ok (.iload_n 2, 1) := by decide +kernel
theorem dX9_winters_5 : decode cX9_winters 5 = .ok (.aload_n 0, 1) := by decide +kernel
theorem dX9_winters_6 : decode cX9_winters 6 = .ok (.getfield 7, 3) := by decide +kernel
theorem dX9_winters_9 : decode cX9_winters 9 = .ok (.iconst 0, 1) := by decide +kernel
theorem dX9_winters_10 : decode cX9_winters 10 = .ok (.iaload, 1) := by decide +kernel
theorem dX9_winters_11 : decode cX9_winters 11 = .ok (.if_icmp .ge 74, 3) := by decide +kernel
theorem dX9_winters_14 : decode cX9_winters 14 = .ok (.iconst 0, 1) := by decide +kernel
theorem dX9_winters_15 : decode cX9_winters 15 = .ok (.istore_n 3, 1) := by decide +kernel
theorem dX9_winters_16 : decode cX9_winters 16 = .ok (.iload_n 3, 1) := by decide +kernel
theorem dX9_winters_17 : decode cX9_winters 17 = .ok (.iconst 2, 1) := by decide +kernel
theorem dX9_winters_18 : decode cX9_winters 18 = .ok (.if_icmp .ge 61, 3) := by decide +kernel
theorem dX9_winters_21 : decode cX9_winters 21 = .ok (.aload_n 0, 1) := by decide +kernel
theorem dX9_winters_22 : decode cX9_winters 22 = .ok (.iload_n 2, 1) := by decide +kernel
theorem dX9_winters_23 : decode cX9_winters 23 = .ok (.iload_n 3, 1) := by decide +kernel
theorem dX9_winters_24 : decode cX9_winters 24 = .ok (.invokevirtual 175, 3) := by decide +kernel
theorem dX9_winters_27 : decode cX9_winters 27 = .ok (.istore 4, 2) := by decide +kernel
theorem dX9_winters_29 : decode cX9_winters 29 = .ok (.iload 4, 2) := by decide +kernel
theorem dX9_winters_31 : decode cX9_winters 31 = .ok (.bipush (-4), 2) := by decide +kernel
theorem dX9_winters_33 : decode cX9_winters 33 = .ok (.if_icmp .eq 40, 3) := by decide +kernel
theorem dX9_winters_36 : decode cX9_winters 36 = .ok (.aload_n 0, 1) := by decide +kernel
theorem dX9_winters_37 : decode cX9_winters 37 = .ok (.getfield 7, 3) := by decide +kernel
theorem dX9_winters_40 : decode cX9_winters 40 = .ok (.bipush 42, 2) := by decide +kernel
theorem dX9_winters_42 : decode cX9_winters 42 = .ok (.bipush 7, 2) := by decide +kernel
theorem dX9_winters_44 : decode cX9_winters 44 = .ok (.iload 4, 2) := by decide +kernel
theorem dX9_winters_46 : decode cX9_winters 46 = .ok (.imul, 1) := by decide +kernel
theorem dX9_winters_47 : decode cX9_winters 47 = .ok (.iadd, 1) := by decide +kernel
theorem dX9_winters_48 : decode cX9_winters 48 = .ok (.iconst 4, 1) := by decide +kernel
theorem dX9_winters_49 : decode cX9_winters 49 = .ok (.iadd, 1) := by decide +kernel
theorem dX9_winters_50 : decode cX9_winters 50 = .ok (.dup2, 1) := by decide +kernel
theorem dX9_winters_51 : decode cX9_winters 51 = .ok (.iaload, 1) := by decide +kernel
theorem dX9_winters_52 : decode cX9_winters 52 = .ok (.iconst 1, 1) := by decide +kernel
theorem dX9_winters_53 : decode cX9_winters 53 = .ok (.iadd, 1) := by decide +kernel
theorem dX9_winters_54 : decode cX9_winters 54 = .ok (.iastore, 1) := by decide +kernel
theorem dX9_winters_55 : decode cX9_winters 55 = .ok (.aload_n 0, 1) := by decide +kernel
theorem dX9_winters_56 : decode cX9_winters 56 = .ok (.iload 4, 2) := by decide +kernel
theorem dX9_winters_58 : decode cX9_winters 58 = .ok (.invokevirtual 254, 3) := by decide +kernel
theorem dX9_winters_61 : decode cX9_winters 61 = .ok (.ifCond .eq 12, 3) := by decide +kernel
theorem dX9_winters_64 : decode cX9_winters 64 = .ok (.aload_n 0, 1) := by decide +kernel
theorem dX9_winters_65 : decode cX9_winters 65 = .ok (.iload_n 2, 1) := by decide +kernel
theorem dX9_winters_66 : decode cX9_winters 66 = .ok (.iload_n 3, 1) := by decide +kernel
theorem dX9_winters_67 : decode cX9_winters 67 = .ok (.invokevirtual 209, 3) := by decide +kernel
theorem dX9_winters_70 : decode cX9_winters 70 = .ok (.iinc 1 1, 3) := by decide +kernel
theorem dX9_winters_73 : decode cX9_winters 73 = .ok (.iinc 3 1, 3) := by decide +kernel
theorem dX9_winters_76 : decode cX9_winters 76 = .ok (.goto (-60), 3) := by decide +kernel
theorem dX9_winters_79 : decode cX9_winters 79 = .ok (.iinc 2 1, 3) := by decide +kernel
theorem dX9_winters_82 : decode cX9_winters 82 = .ok (.goto (-78), 3) := by decide +kernel
theorem dX9_winters_85 : decode cX9_winters 85 = .ok (.iload_n 1, 1) := by decide +kernel
theorem dX9_winters_86 : decode cX9_winters 86 = .ok (.ireturn, 1) := by decide +kernel
theorem dX9_winter_0 : decode cX9_winter 0 = .ok (.aload_n 0, 1) := by decide +kernel
theorem dX9_winter_1 : decode cX9_winter 1 = .ok (.invokevirtual 257, 3) := by decide +kernel
theorem dX9_winter_4 : decode cX9_winter 4 = .ok (.ireturn, 1) := by decide +kernel
theorem dX9_grows_0 : decode cX9_grows 0 = .ok (.aload_n 0, 1) := by decide +kernel
theorem dX9_grows_1 : decode cX9_grows 1 = .ok (.getfield 7, 3) := by decide +kernel
theorem dX9_grows_4 : decode cX9_grows 4 = .ok (.iconst 1, 1) := by decide +kernel
theorem dX9_grows_5 : decode cX9_grows 5 = .ok (.iconst 5, 1) := by decide +kernel
theorem dX9_grows_6 : decode cX9_grows 6 = .ok (.iload_n 1, 1) := by decide +kernel
theorem dX9_grows_7 : decode cX9_grows 7 = .ok (.imul, 1) := by decide +kernel
theorem dX9_grows_8 : decode cX9_grows 8 = .ok (.iadd, 1) := by decide +kernel
theorem dX9_grows_9 : decode cX9_grows 9 = .ok (.iaload, 1) := by decide +kernel
theorem dX9_grows_10 : decode cX9_grows 10 = .ok (.aload_n 0, 1) := by decide +kernel
theorem dX9_grows_11 : decode cX9_grows 11 = .ok (.getfield 7, 3) := by decide +kernel
theorem dX9_grows_14 : decode cX9_grows 14 = .ok (.iconst 1, 1) := by decide +kernel
theorem dX9_grows_15 : decode cX9_grows 15 = .ok (.iconst 5, 1) := by decide +kernel
theorem dX9_grows_16 : decode cX9_grows 16 = .ok (.iload_n 1, 1) := by decide +kernel
theorem dX9_grows_17 : decode cX9_grows 17 = .ok (.imul, 1) := by decide +kernel
theorem dX9_grows_18 : decode cX9_grows 18 = .ok (.iadd, 1) := by decide +kernel
theorem dX9_grows_19 : decode cX9_grows 19 = .ok (.iload_n 2, 1) := by decide +kernel
theorem dX9_grows_20 : decode cX9_grows 20 = .ok (.ifCond .eq 7, 3) := by decide +kernel
theorem dX9_grows_23 : decode cX9_grows 23 = .ok (.iconst 2, 1) := by decide +kernel
theorem dX9_grows_24 : decode cX9_grows 24 = .ok (.goto 4, 3) := by decide +kernel
theorem dX9_grows_27 : decode cX9_grows 27 = .ok (.iconst 1, 1) := by decide +kernel
theorem dX9_grows_28 : decode cX9_grows 28 = .ok (.iadd, 1) := by decide +kernel
theorem dX9_grows_29 : decode cX9_grows 29 = .ok (.iaload, 1) := by decide +kernel
theorem dX9_grows_30 : decode cX9_grows 30 = .ok (.iadd, 1) := by decide +kernel
theorem dX9_grows_31 : decode cX9_grows 31 = .ok (.istore_n 3, 1) := by decide +kernel
theorem dX9_grows_32 : decode cX9_grows 32 = .ok (.aload_n 0, 1) := by decide +kernel
theorem dX9_grows_33 : decode cX9_grows 33 = .ok (.getfield 7, 3) := by decide +kernel
theorem dX9_grows_36 : decode cX9_grows 36 = .ok (.iconst 1, 1) := by decide +kernel
theorem dX9_grows_37 : decode cX9_grows 37 = .ok (.iconst 5, 1) := by decide +kernel
theorem dX9_grows_38 : decode cX9_grows 38 = .ok (.iload_n 1, 1) := by decide +kernel
theorem dX9_grows_39 : decode cX9_grows 39 = .ok (.imul, 1) := by decide +kernel
theorem dX9_grows_40 : decode cX9_grows 40 = .ok (.iadd, 1) := by decide +kernel
theorem dX9_grows_41 : decode cX9_grows 41 = .ok (.iload_n 3, 1) := by decide +kernel
theorem dX9_grows_42 : decode cX9_grows 42 = .ok (.bipush 40, 2) := by decide +kernel
theorem dX9_grows_44 : decode cX9_grows 44 = .ok (.if_icmp .le 8, 3) := by decide +kernel
theorem dX9_grows_47 : decode cX9_grows 47 = .ok (.bipush 40, 2) := by decide +kernel
theorem dX9_grows_49 : decode cX9_grows 49 = .ok (.goto 4, 3) := by decide +kernel
theorem dX9_grows_52 : decode cX9_grows 52 = .ok (.iload_n 3, 1) := by decide +kernel
theorem dX9_grows_53 : decode cX9_grows 53 = .ok (.iastore, 1) := by decide +kernel
theorem dX9_grows_54 : decode cX9_grows 54 = .ok (.return_, 1) := by decide +kernel
theorem dX9_springs_0 : decode cX9_springs 0 = .ok (.iconst 0, 1) := by decide +kernel
theorem dX9_springs_1 : decode cX9_springs 1 = .ok (.istore_n 2, 1) := by decide +kernel
theorem dX9_springs_2 : decode cX9_springs 2 = .ok (.iconst 0, 1) := by decide +kernel
theorem dX9_springs_3 : decode cX9_springs 3 = .ok (.istore_n 3, 1) := by decide +kernel
theorem dX9_springs_4 : decode cX9_springs 4 = .ok (.iload_n 3, 1) := by decide +kernel
theorem dX9_springs_5 : decode cX9_springs 5 = .ok (.aload_n 0, 1) := by decide +kernel
theorem dX9_springs_6 : decode cX9_springs 6 = .ok (.getfield 7, 3) := by decide +kernel
theorem dX9_springs_9 : decode cX9_springs 9 = .ok (.iconst 0, 1) := by decide +kernel
theorem dX9_springs_10 : decode cX9_springs 10 = .ok (.iaload, 1) := by decide +kernel
theorem dX9_springs_11 : decode cX9_springs 11 = .ok (.if_icmp .ge 67, 3) := by decide +kernel
theorem dX9_springs_14 : decode cX9_springs 14 = .ok (.aload_n 0, 1) := by decide +kernel
theorem dX9_springs_15 : decode cX9_springs 15 = .ok (.iload_n 3, 1) := by decide +kernel
theorem dX9_springs_16 : decode cX9_springs 16 = .ok (.iload_n 1, 1) := by decide +kernel
theorem dX9_springs_17 : decode cX9_springs 17 = .ok (.invokevirtual 260, 3) := by decide +kernel
theorem dX9_springs_20 : decode cX9_springs 20 = .ok (.iconst 0, 1) := by decide +kernel
theorem dX9_springs_21 : decode cX9_springs 21 = .ok (.istore 4, 2) := by decide +kernel
theorem dX9_springs_23 : decode cX9_springs 23 = .ok (.iload 4, 2) := by decide +kernel
theorem dX9_springs_25 : decode cX9_springs 25 = .ok (.iconst 2, 1) := by decide +kernel
theorem dX9_springs_26 : decode cX9_springs 26 = .ok (.if_icmp .ge 46, 3) := by decide +kernel
theorem dX9_springs_29 : decode cX9_springs 29 = .ok (.aload_n 0, 1) := by decide +kernel
theorem dX9_springs_30 : decode cX9_springs 30 = .ok (.iload_n 3, 1) := by decide +kernel
theorem dX9_springs_31 : decode cX9_springs 31 = .ok (.iload 4, 2) := by decide +kernel
theorem dX9_springs_33 : decode cX9_springs 33 = .ok (.invokevirtual 175, 3) := by decide +kernel
theorem dX9_springs_36 : decode cX9_springs 36 = .ok (.istore 5, 2) := by decide +kernel
theorem dX9_springs_38 : decode cX9_springs 38 = .ok (.iload 5, 2) := by decide +kernel
theorem dX9_springs_40 : decode cX9_springs 40 = .ok (.bipush (-4), 2) := by decide +kernel
theorem dX9_springs_42 : decode cX9_springs 42 = .ok (.if_icmp .eq 24, 3) := by decide +kernel
theorem dX9_springs_45 : decode cX9_springs 45 = .ok (.aload_n 0, 1) := by decide +kernel
theorem dX9_springs_46 : decode cX9_springs 46 = .ok (.iload_n 3, 1) := by decide +kernel
theorem dX9_springs_47 : decode cX9_springs 47 = .ok (.iload 5, 2) := by decide +kernel
theorem dX9_springs_49 : decode cX9_springs 49 = .ok (.invokevirtual 206, 3) := by decide +kernel
theorem dX9_springs_52 : decode cX9_springs 52 = .ok (.iconst 1, 1) := by decide +kernel
theorem dX9_springs_53 : decode cX9_springs 53 = .ok (.if_icmp .eq 13, 3) := by decide +kernel
theorem dX9_springs_56 : decode cX9_springs 56 = .ok (.aload_n 0, 1) := by decide +kernel
theorem dX9_springs_57 : decode cX9_springs 57 = .ok (.iload_n 3, 1) := by decide +kernel
theorem dX9_springs_58 : decode cX9_springs 58 = .ok (.iload 4, 2) := by decide +kernel
theorem dX9_springs_60 : decode cX9_springs 60 = .ok (.invokevirtual 209, 3) := by decide +kernel
theorem dX9_springs_63 : decode cX9_springs 63 = .ok (.iinc 2 1, 3) := by decide +kernel
theorem dX9_springs_66 : decode cX9_springs 66 = .ok (.iinc 4 1, 3) := by decide +kernel
theorem dX9_springs_69 : decode cX9_springs 69 = .ok (.goto (-46), 3) := by decide +kernel
theorem dX9_springs_72 : decode cX9_springs 72 = .ok (.iinc 3 1, 3) := by decide +kernel
theorem dX9_springs_75 : decode cX9_springs 75 = .ok (.goto (-71), 3) := by decide +kernel
theorem dX9_springs_78 : decode cX9_springs 78 = .ok (.iload_n 2, 1) := by decide +kernel
theorem dX9_springs_79 : decode cX9_springs 79 = .ok (.ireturn, 1) := by decide +kernel
theorem dX9_spring_0 : decode cX9_spring 0 = .ok (.aload_n 0, 1) := by decide +kernel
theorem dX9_spring_1 : decode cX9_spring 1 = .ok (.iload_n 1, 1) := by decide +kernel
theorem dX9_spring_2 : decode cX9_spring 2 = .ok (.invokevirtual 264, 3) := by decide +kernel
theorem dX9_spring_5 : decode cX9_spring 5 = .ok (.ireturn, 1) := by decide +kernel
theorem dX9_copies_0 : decode cX9_copies 0 = .ok (.iconst 0, 1) := by decide +kernel
theorem dX9_copies_1 : decode cX9_copies 1 = .ok (.istore_n 3, 1) := by decide +kernel
theorem dX9_copies_2 : decode cX9_copies 2 = .ok (.iload_n 3, 1) := by decide +kernel
theorem dX9_copies_3 : decode cX9_copies 3 = .ok (.sipush 199, 3) := by decide +kernel
theorem dX9_copies_6 : decode cX9_copies 6 = .ok (.if_icmp .ge 25, 3) := by decide +kernel
theorem dX9_copies_9 : decode cX9_copies 9 = .ok (.aload_n 0, 1) := by decide +kernel
theorem dX9_copies_10 : decode cX9_copies 10 = .ok (.getfield 7, 3) := by decide +kernel
theorem dX9_copies_13 : decode cX9_copies 13 = .ok (.iload_n 1, 1) := by decide +kernel
theorem dX9_copies_14 : decode cX9_copies 14 = .ok (.iload_n 3, 1) := by decide +kernel
theorem dX9_copies_15 : decode cX9_copies 15 = .ok (.iadd, 1) := by decide +kernel
theorem dX9_copies_16 : decode cX9_copies 16 = .ok (.aload_n 0, 1) := by decide +kernel
theorem dX9_copies_17 : decode cX9_copies 17 = .ok (.getfield 7, 3) := by decide +kernel
theorem dX9_copies_20 : decode cX9_copies 20 = .ok (.iload_n 2, 1) := by decide +kernel
theorem dX9_copies_21 : decode cX9_copies 21 = .ok (.iload_n 3, 1) := by decide +kernel
theorem dX9_copies_22 : decode cX9_copies 22 = .ok (.iadd, 1) := by decide +kernel
theorem dX9_copies_23 : decode cX9_copies 23 = .ok (.iaload, 1) := by decide +kernel
theorem dX9_copies_24 : decode cX9_copies 24 = .ok (.iastore, 1) := by decide +kernel
theorem dX9_copies_25 : decode cX9_copies 25 = .ok (.iinc 3 1, 3) := by decide +kernel
theorem dX9_copies_28 : decode cX9_copies 28 = .ok (.goto (-26), 3) := by decide +kernel
theorem dX9_copies_31 : decode cX9_copies 31 = .ok (.return_, 1) := by decide +kernel
theorem dX9_aheadBy_0 : decode cX9_aheadBy 0 = .ok (.aload_n 0, 1) := by decide +kernel
theorem dX9_aheadBy_1 : decode cX9_aheadBy 1 = .ok (.sipush 597, 3) := by decide +kernel
theorem dX9_aheadBy_4 : decode cX9_aheadBy 4 = .ok (.iconst 0, 1) := by decide +kernel
theorem dX9_aheadBy_5 : decode cX9_aheadBy 5 = .ok (.invokevirtual 267, 3) := by decide +kernel
theorem dX9_aheadBy_8 : decode cX9_aheadBy 8 = .ok (.iconst 0, 1) := by decide +kernel
theorem dX9_aheadBy_9 : decode cX9_aheadBy 9 = .ok (.istore 4, 2) := by decide +kernel
theorem dX9_aheadBy_11 : decode cX9_aheadBy 11 = .ok (.iconst 0, 1) := by decide +kernel
theorem dX9_aheadBy_12 : decode cX9_aheadBy 12 = .ok (.istore 5, 2) := by decide +kernel
theorem dX9_aheadBy_14 : decode cX9_aheadBy 14 = .ok (.iload 5, 2) := by decide +kernel
theorem dX9_aheadBy_16 : decode cX9_aheadBy 16 = .ok (.iload_n 2, 1) := by decide +kernel
theorem dX9_aheadBy_17 : decode cX9_aheadBy 17 = .ok (.if_icmp .ge 44, 3) := by decide +kernel
theorem dX9_aheadBy_20 : decode cX9_aheadBy 20 = .ok (.aload_n 0, 1) := by decide +kernel
theorem dX9_aheadBy_21 : decode cX9_aheadBy 21 = .ok (.getfield 44, 3) := by decide +kernel
theorem dX9_aheadBy_24 : decode cX9_aheadBy 24 = .ok (.iload 5, 2) := by decide +kernel
theorem dX9_aheadBy_26 : decode cX9_aheadBy 26 = .ok (.aload_n 0, 1) := by decide +kernel
theorem dX9_aheadBy_27 : decode cX9_aheadBy 27 = .ok (.iload_n 1, 1) := by decide +kernel
theorem dX9_aheadBy_28 : decode cX9_aheadBy 28 = .ok (.invokevirtual 251, 3) := by decide +kernel
theorem dX9_aheadBy_31 : decode cX9_aheadBy 31 = .ok (.iastore, 1) := by decide +kernel
theorem dX9_aheadBy_32 : decode cX9_aheadBy 32 = .ok (.iload 4, 2) := by decide +kernel
theorem dX9_aheadBy_34 : decode cX9_aheadBy 34 = .ok (.aload_n 0, 1) := by decide +kernel
theorem dX9_aheadBy_35 : decode cX9_aheadBy 35 = .ok (.getfield 44, 3) := by decide +kernel
theorem dX9_aheadBy_38 : decode cX9_aheadBy 38 = .ok (.iload 5, 2) := by decide +kernel
theorem dX9_aheadBy_40 : decode cX9_aheadBy 40 = .ok (.iaload, 1) := by decide +kernel
theorem dX9_aheadBy_41 : decode cX9_aheadBy 41 = .ok (.iadd, 1) := by decide +kernel
theorem dX9_aheadBy_42 : decode cX9_aheadBy 42 = .ok (.istore 4, 2) := by decide +kernel
theorem dX9_aheadBy_44 : decode cX9_aheadBy 44 = .ok (.aload_n 0, 1) := by decide +kernel
theorem dX9_aheadBy_45 : decode cX9_aheadBy 45 = .ok (.invokevirtual 257, 3) := by decide +kernel
theorem dX9_aheadBy_48 : decode cX9_aheadBy 48 = .ok (.pop, 1) := by decide +kernel
theorem dX9_aheadBy_49 : decode cX9_aheadBy 49 = .ok (.aload_n 0, 1) := by decide +kernel
theorem dX9_aheadBy_50 : decode cX9_aheadBy 50 = .ok (.iload_n 3, 1) := by decide +kernel
theorem dX9_aheadBy_51 : decode cX9_aheadBy 51 = .ok (.invokevirtual 264, 3) := by decide +kernel
theorem dX9_aheadBy_54 : decode cX9_aheadBy 54 = .ok (.pop, 1) := by decide +kernel
theorem dX9_aheadBy_55 : decode cX9_aheadBy 55 = .ok (.iinc 5 1, 3) := by decide +kernel
theorem dX9_aheadBy_58 : decode cX9_aheadBy 58 = .ok (.goto (-44), 3) := by decide +kernel
theorem dX9_aheadBy_61 : decode cX9_aheadBy 61 = .ok (.aload_n 0, 1) := by decide +kernel
theorem dX9_aheadBy_62 : decode cX9_aheadBy 62 = .ok (.iconst 0, 1) := by decide +kernel
theorem dX9_aheadBy_63 : decode cX9_aheadBy 63 = .ok (.sipush 597, 3) := by decide +kernel
theorem dX9_aheadBy_66 : decode cX9_aheadBy 66 = .ok (.invokevirtual 267, 3) := by decide +kernel
theorem dX9_aheadBy_69 : decode cX9_aheadBy 69 = .ok (.iload 4, 2) := by decide +kernel
theorem dX9_aheadBy_71 : decode cX9_aheadBy 71 = .ok (.ireturn, 1) := by decide +kernel
theorem dX9_areYears_0 : decode cX9_areYears 0 = .ok (.iload_n 0, 1) := by decide +kernel
theorem dX9_areYears_1 : decode cX9_areYears 1 = .ok (.i2l, 1) := by decide +kernel
theorem dX9_areYears_2 : decode cX9_areYears 2 = .ok (.lconst 1, 1) := by decide +kernel
theorem dX9_areYears_3 : decode cX9_areYears 3 = .ok (.ldc2_w 196, 3) := by decide +kernel
theorem dX9_areYears_6 : decode cX9_areYears 6 = .ok (.invokestatic 93, 3) := by decide +kernel
theorem dX9_areYears_9 : decode cX9_areYears 9 = .ok (.ireturn, 1) := by decide +kernel
theorem dX9_ahead_0 : decode cX9_ahead 0 = .ok (.iload_n 1, 1) := by decide +kernel
theorem dX9_ahead_1 : decode cX9_ahead 1 = .ok (.invokestatic 216, 3) := by decide +kernel
theorem dX9_ahead_4 : decode cX9_ahead 4 = .ok (.ifCond .eq 32, 3) := by decide +kernel
theorem dX9_ahead_7 : decode cX9_ahead 7 = .ok (.iload_n 2, 1) := by decide +kernel
theorem dX9_ahead_8 : decode cX9_ahead 8 = .ok (.invokestatic 270, 3) := by decide +kernel
theorem dX9_ahead_11 : decode cX9_ahead 11 = .ok (.ifCond .eq 25, 3) := by decide +kernel
theorem dX9_ahead_14 : decode cX9_ahead 14 = .ok (.iload 4, 2) := by decide +kernel
theorem dX9_ahead_16 : decode cX9_ahead 16 = .ok (.ifCond .eq 22, 3) := by decide +kernel
theorem dX9_ahead_19 : decode cX9_ahead 19 = .ok (.iload 4, 2) := by decide +kernel
theorem dX9_ahead_21 : decode cX9_ahead 21 = .ok (.i2l, 1) := by decide +kernel
theorem dX9_ahead_22 : decode cX9_ahead 22 = .ok (.ldc2_w 184, 3) := by decide +kernel
theorem dX9_ahead_25 : decode cX9_ahead 25 = .ok (.bipush 9, 2) := by decide +kernel
theorem dX9_ahead_27 : decode cX9_ahead 27 = .ok (.iload_n 2, 1) := by decide +kernel
theorem dX9_ahead_28 : decode cX9_ahead 28 = .ok (.iadd, 1) := by decide +kernel
theorem dX9_ahead_29 : decode cX9_ahead 29 = .ok (.i2l, 1) := by decide +kernel
theorem dX9_ahead_30 : decode cX9_ahead 30 = .ok (.invokestatic 93, 3) := by decide +kernel
theorem dX9_ahead_33 : decode cX9_ahead 33 = .ok (.ifCond .ne 5, 3) := by decide +kernel
theorem dX9_ahead_36 : decode cX9_ahead 36 = .ok (.iconst (-1), 1) := by decide +kernel
theorem dX9_ahead_37 : decode cX9_ahead 37 = .ok (.ireturn, 1) := by decide +kernel
theorem dX9_ahead_38 : decode cX9_ahead 38 = .ok (.aload_n 0, 1) := by decide +kernel
theorem dX9_ahead_39 : decode cX9_ahead 39 = .ok (.iload_n 1, 1) := by decide +kernel
theorem dX9_ahead_40 : decode cX9_ahead 40 = .ok (.iload_n 2, 1) := by decide +kernel
theorem dX9_ahead_41 : decode cX9_ahead 41 = .ok (.iload_n 3, 1) := by decide +kernel
theorem dX9_ahead_42 : decode cX9_ahead 42 = .ok (.invokevirtual 273, 3) := by decide +kernel
theorem dX9_ahead_45 : decode cX9_ahead 45 = .ok (.istore 5, 2) := by decide +kernel
theorem dX9_ahead_47 : decode cX9_ahead 47 = .ok (.iload 4, 2) := by decide +kernel
theorem dX9_ahead_49 : decode cX9_ahead 49 = .ok (.ifCond .ne 8, 3) := by decide +kernel
theorem dX9_ahead_52 : decode cX9_ahead 52 = .ok (.iload 5, 2) := by decide +kernel
theorem dX9_ahead_54 : decode cX9_ahead 54 = .ok (.goto 13, 3) := by decide +kernel
theorem dX9_ahead_57 : decode cX9_ahead 57 = .ok (.aload_n 0, 1) := by decide +kernel
theorem dX9_ahead_58 : decode cX9_ahead 58 = .ok (.getfield 44, 3) := by decide +kernel
theorem dX9_ahead_61 : decode cX9_ahead 61 = .ok (.iload 4, 2) := by decide +kernel
theorem dX9_ahead_63 : decode cX9_ahead 63 = .ok (.bipush 10, 2) := by decide +kernel
theorem dX9_ahead_65 : decode cX9_ahead 65 = .ok (.isub, 1) := by decide +kernel
theorem dX9_ahead_66 : decode cX9_ahead 66 = .ok (.iaload, 1) := by decide +kernel
theorem dX9_ahead_67 : decode cX9_ahead 67 = .ok (.ireturn, 1) := by decide +kernel
theorem dX9_strong_0 : decode cX9_strong 0 = .ok (.iload_n 1, 1) := by decide +kernel
theorem dX9_strong_1 : decode cX9_strong 1 = .ok (.invokestatic 216, 3) := by decide +kernel
theorem dX9_strong_4 : decode cX9_strong 4 = .ok (.ifCond .eq 10, 3) := by decide +kernel
theorem dX9_strong_7 : decode cX9_strong 7 = .ok (.iload_n 2, 1) := by decide +kernel
theorem dX9_strong_8 : decode cX9_strong 8 = .ok (.invokestatic 270, 3) := by decide +kernel
theorem dX9_strong_11 : decode cX9_strong 11 = .ok (.ifCond .ne 5, 3) := by decide +kernel
theorem dX9_strong_14 : decode cX9_strong 14 = .ok (.iconst (-1), 1) := by decide +kernel
theorem dX9_strong_15 : decode cX9_strong 15 = .ok (.ireturn, 1) := by decide +kernel
theorem dX9_strong_16 : decode cX9_strong 16 = .ok (.iconst 0, 1) := by decide +kernel
theorem dX9_strong_17 : decode cX9_strong 17 = .ok (.istore 4, 2) := by decide +kernel
theorem dX9_strong_19 : decode cX9_strong 19 = .ok (.iload 4, 2) := by decide +kernel
theorem dX9_strong_21 : decode cX9_strong 21 = .ok (.aload_n 0, 1) := by decide +kernel
theorem dX9_strong_22 : decode cX9_strong 22 = .ok (.getfield 7, 3) := by decide +kernel
theorem dX9_strong_25 : decode cX9_strong 25 = .ok (.bipush 41, 2) := by decide +kernel
theorem dX9_strong_27 : decode cX9_strong 27 = .ok (.iaload, 1) := by decide +kernel
theorem dX9_strong_28 : decode cX9_strong 28 = .ok (.if_icmp .ge 23, 3) := by decide +kernel
theorem dX9_strong_31 : decode cX9_strong 31 = .ok (.aload_n 0, 1) := by decide +kernel
theorem dX9_strong_32 : decode cX9_strong 32 = .ok (.getfield 47, 3) := by decide +kernel
theorem dX9_strong_35 : decode cX9_strong 35 = .ok (.iload 4, 2) := by decide +kernel
theorem dX9_strong_37 : decode cX9_strong 37 = .ok (.aload_n 0, 1) := by decide +kernel
theorem dX9_strong_38 : decode cX9_strong 38 = .ok (.iload 4, 2) := by decide +kernel
theorem dX9_strong_40 : decode cX9_strong 40 = .ok (.iconst 3, 1) := by decide +kernel
theorem dX9_strong_41 : decode cX9_strong 41 = .ok (.invokevirtual 172, 3) := by decide +kernel
theorem dX9_strong_44 : decode cX9_strong 44 = .ok (.iastore, 1) := by decide +kernel
theorem dX9_strong_45 : decode cX9_strong 45 = .ok (.iinc 4 1, 3) := by decide +kernel
theorem dX9_strong_48 : decode cX9_strong 48 = .ok (.goto (-29), 3) := by decide +kernel
theorem dX9_strong_51 : decode cX9_strong 51 = .ok (.bipush (-4), 2) := by decide +kernel
theorem dX9_strong_53 : decode cX9_strong 53 = .ok (.istore 4, 2) := by decide +kernel
theorem dX9_strong_55 : decode cX9_strong 55 = .ok (.iconst 1, 1) := by decide +kernel
theorem dX9_strong_56 : decode cX9_strong 56 = .ok (.istore 5, 2) := by decide +kernel
theorem dX9_strong_58 : decode cX9_strong 58 = .ok (.iload 5, 2) := by decide +kernel
theorem dX9_strong_60 : decode cX9_strong 60 = .ok (.bipush 10, 2) := by decide +kernel
theorem dX9_strong_62 : decode cX9_strong 62 = .ok (.if_icmp .ge 106, 3) := by decide +kernel
theorem dX9_strong_65 : decode cX9_strong 65 = .ok (.iload 4, 2) := by decide +kernel
theorem dX9_strong_67 : decode cX9_strong 67 = .ok (.bipush (-4), 2) := by decide +kernel
theorem dX9_strong_69 : decode cX9_strong 69 = .ok (.if_icmp .ne 99, 3) := by decide +kernel
theorem dX9_strong_72 : decode cX9_strong 72 = .ok (.iconst 0, 1) := by decide +kernel
theorem dX9_strong_73 : decode cX9_strong 73 = .ok (.istore 6, 2) := by decide +kernel
theorem dX9_strong_75 : decode cX9_strong 75 = .ok (.iload 6, 2) := by decide +kernel
theorem dX9_strong_77 : decode cX9_strong 77 = .ok (.aload_n 0, 1) := by decide +kernel
theorem dX9_strong_78 : decode cX9_strong 78 = .ok (.getfield 7, 3) := by decide +kernel
theorem dX9_strong_81 : decode cX9_strong 81 = .ok (.bipush 41, 2) := by decide +kernel
theorem dX9_strong_83 : decode cX9_strong 83 = .ok (.iaload, 1) := by decide +kernel
theorem dX9_strong_84 : decode cX9_strong 84 = .ok (.if_icmp .ge 59, 3) := by decide +kernel
theorem dX9_strong_87 : decode cX9_strong 87 = .ok (.aload_n 0, 1) := by decide +kernel
theorem dX9_strong_88 : decode cX9_strong 88 = .ok (.getfield 7, 3) := by decide +kernel
theorem dX9_strong_91 : decode cX9_strong 91 = .ok (.bipush 42, 2) := by decide +kernel
theorem dX9_strong_93 : decode cX9_strong 93 = .ok (.bipush 7, 2) := by decide +kernel
theorem dX9_strong_95 : decode cX9_strong 95 = .ok (.iload 6, 2) := by decide +kernel
theorem dX9_strong_97 : decode cX9_strong 97 = .ok (.imul, 1) := by decide +kernel
theorem dX9_strong_98 : decode cX9_strong 98 = .ok (.iadd, 1) := by decide +kernel
theorem dX9_strong_99 : decode cX9_strong 99 = .ok (.iconst 3, 1) := by decide +kernel
theorem dX9_strong_100 : decode cX9_strong 100 = .ok (.iadd, 1) := by decide +kernel
theorem dX9_strong_101 : decode cX9_strong 101 = .ok (.aload_n 0, 1) := by decide +kernel
theorem dX9_strong_102 : decode cX9_strong 102 = .ok (.iload 6, 2) := by decide +kernel
theorem dX9_strong_104 : decode cX9_strong 104 = .ok (.iconst 0, 1) := by decide +kernel
theorem dX9_strong_105 : decode cX9_strong 105 = .ok (.invokevirtual 172, 3) := by decide +kernel
theorem dX9_strong_108 : decode cX9_strong 108 = .ok (.iload_n 1, 1) := by decide +kernel
theorem dX9_strong_109 : decode cX9_strong 109 = .ok (.if_icmp .ne 20, 3) := by decide +kernel
theorem dX9_strong_112 : decode cX9_strong 112 = .ok (.aload_n 0, 1) := by decide +kernel
theorem dX9_strong_113 : decode cX9_strong 113 = .ok (.getfield 47, 3) := by decide +kernel
theorem dX9_strong_116 : decode cX9_strong 116 = .ok (.iload 6, 2) := by decide +kernel
theorem dX9_strong_118 : decode cX9_strong 118 = .ok (.iaload, 1) := by decide +kernel
theorem dX9_strong_119 : decode cX9_strong 119 = .ok (.iload 5, 2) := by decide +kernel
theorem dX9_strong_121 : decode cX9_strong 121 = .ok (.if_icmp .ge 8, 3) := by decide +kernel
theorem dX9_strong_124 : decode cX9_strong 124 = .ok (.iload 5, 2) := by decide +kernel
theorem dX9_strong_126 : decode cX9_strong 126 = .ok (.goto 10, 3) := by decide +kernel
theorem dX9_strong_129 : decode cX9_strong 129 = .ok (.aload_n 0, 1) := by decide +kernel
theorem dX9_strong_130 : decode cX9_strong 130 = .ok (.getfield 47, 3) := by decide +kernel
theorem dX9_strong_133 : decode cX9_strong 133 = .ok (.iload 6, 2) := by decide +kernel
theorem dX9_strong_135 : decode cX9_strong 135 = .ok (.iaload, 1) := by decide +kernel
theorem dX9_strong_136 : decode cX9_strong 136 = .ok (.iastore, 1) := by decide +kernel
theorem dX9_strong_137 : decode cX9_strong 137 = .ok (.iinc 6 1, 3) := by decide +kernel
theorem dX9_strong_140 : decode cX9_strong 140 = .ok (.goto (-65), 3) := by decide +kernel
theorem dX9_strong_143 : decode cX9_strong 143 = .ok (.aload_n 0, 1) := by decide +kernel
theorem dX9_strong_144 : decode cX9_strong 144 = .ok (.iload_n 1, 1) := by decide +kernel
theorem dX9_strong_145 : decode cX9_strong 145 = .ok (.iload_n 2, 1) := by decide +kernel
theorem dX9_strong_146 : decode cX9_strong 146 = .ok (.iload_n 3, 1) := by decide +kernel
theorem dX9_strong_147 : decode cX9_strong 147 = .ok (.invokevirtual 273, 3) := by decide +kernel
theorem dX9_strong_150 : decode cX9_strong 150 = .ok (.ifCond .ne 8, 3) := by decide +kernel
theorem dX9_strong_153 : decode cX9_strong 153 = .ok (.iload 5, 2) := by decide +kernel
theorem dX9_strong_155 : decode cX9_strong 155 = .ok (.goto 5, 3) := by decide +kernel
theorem dX9_strong_158 : decode cX9_strong 158 = .ok (.iload 4, 2) := by decide +kernel
theorem dX9_strong_160 : decode cX9_strong 160 = .ok (.istore 4, 2) := by decide +kernel
theorem dX9_strong_162 : decode cX9_strong 162 = .ok (.iinc 5 1, 3) := by decide +kernel
theorem dX9_strong_165 : decode cX9_strong 165 = .ok (.goto (-107), 3) := by decide +kernel
theorem dX9_strong_168 : decode cX9_strong 168 = .ok (.iconst 0, 1) := by decide +kernel
theorem dX9_strong_169 : decode cX9_strong 169 = .ok (.istore 5, 2) := by decide +kernel
theorem dX9_strong_171 : decode cX9_strong 171 = .ok (.iload 5, 2) := by decide +kernel
theorem dX9_strong_173 : decode cX9_strong 173 = .ok (.aload_n 0, 1) := by decide +kernel
theorem dX9_strong_174 : decode cX9_strong 174 = .ok (.getfield 7, 3) := by decide +kernel
theorem dX9_strong_177 : decode cX9_strong 177 = .ok (.bipush 41, 2) := by decide +kernel
theorem dX9_strong_179 : decode cX9_strong 179 = .ok (.iaload, 1) := by decide +kernel
theorem dX9_strong_180 : decode cX9_strong 180 = .ok (.if_icmp .ge 31, 3) := by decide +kernel
theorem dX9_strong_183 : decode cX9_strong 183 = .ok (.aload_n 0, 1) := by decide +kernel
theorem dX9_strong_184 : decode cX9_strong 184 = .ok (.getfield 7, 3) := by decide +kernel
theorem dX9_strong_187 : decode cX9_strong 187 = .ok (.bipush 42, 2) := by decide +kernel
theorem dX9_strong_189 : decode cX9_strong 189 = .ok (.bipush 7, 2) := by decide +kernel
theorem dX9_strong_191 : decode cX9_strong 191 = .ok (.iload 5, 2) := by decide +kernel
theorem dX9_strong_193 : decode cX9_strong 193 = .ok (.imul, 1) := by decide +kernel
theorem dX9_strong_194 : decode cX9_strong 194 = .ok (.iadd, 1) := by decide +kernel
theorem dX9_strong_195 : decode cX9_strong 195 = .ok (.iconst 3, 1) := by decide +kernel
theorem dX9_strong_196 : decode cX9_strong 196 = .ok (.iadd, 1) := by decide +kernel
theorem dX9_strong_197 : decode cX9_strong 197 = .ok (.aload_n 0, 1) := by decide +kernel
theorem dX9_strong_198 : decode cX9_strong 198 = .ok (.getfield 47, 3) := by decide +kernel
theorem dX9_strong_201 : decode cX9_strong 201 = .ok (.iload 5, 2) := by decide +kernel
theorem dX9_strong_203 : decode cX9_strong 203 = .ok (.iaload, 1) := by decide +kernel
theorem dX9_strong_204 : decode cX9_strong 204 = .ok (.iastore, 1) := by decide +kernel
theorem dX9_strong_205 : decode cX9_strong 205 = .ok (.iinc 5 1, 3) := by decide +kernel
theorem dX9_strong_208 : decode cX9_strong 208 = .ok (.goto (-37), 3) := by decide +kernel
theorem dX9_strong_211 : decode cX9_strong 211 = .ok (.iload 4, 2) := by decide +kernel
theorem dX9_strong_213 : decode cX9_strong 213 = .ok (.ireturn, 1) := by decide +kernel
theorem dX9_cut_0 : decode cX9_cut 0 = .ok (.aload_n 0, 1) := by decide +kernel
theorem dX9_cut_1 : decode cX9_cut 1 = .ok (.iload_n 1, 1) := by decide +kernel
theorem dX9_cut_2 : decode cX9_cut 2 = .ok (.invokevirtual 188, 3) := by decide +kernel
theorem dX9_cut_5 : decode cX9_cut 5 = .ok (.ifCond .eq 21, 3) := by decide +kernel
theorem dX9_cut_8 : decode cX9_cut 8 = .ok (.iload_n 2, 1) := by decide +kernel
theorem dX9_cut_9 : decode cX9_cut 9 = .ok (.i2l, 1) := by decide +kernel
theorem dX9_cut_10 : decode cX9_cut 10 = .ok (.lconst 1, 1) := by decide +kernel
theorem dX9_cut_11 : decode cX9_cut 11 = .ok (.aload_n 0, 1) := by decide +kernel
theorem dX9_cut_12 : decode cX9_cut 12 = .ok (.iload_n 1, 1) := by decide +kernel
theorem dX9_cut_13 : decode cX9_cut 13 = .ok (.iconst 2, 1) := by decide +kernel
theorem dX9_cut_14 : decode cX9_cut 14 = .ok (.invokevirtual 172, 3) := by decide +kernel
theorem dX9_cut_17 : decode cX9_cut 17 = .ok (.iconst 1, 1) := by decide +kernel
theorem dX9_cut_18 : decode cX9_cut 18 = .ok (.isub, 1) := by decide +kernel
theorem dX9_cut_19 : decode cX9_cut 19 = .ok (.i2l, 1) := by decide +kernel
theorem dX9_cut_20 : decode cX9_cut 20 = .ok (.invokestatic 93, 3) := by decide +kernel
theorem dX9_cut_23 : decode cX9_cut 23 = .ok (.ifCond .ne 5, 3) := by decide +kernel
theorem dX9_cut_26 : decode cX9_cut 26 = .ok (.iconst (-1), 1) := by decide +kernel
theorem dX9_cut_27 : decode cX9_cut 27 = .ok (.ireturn, 1) := by decide +kernel
theorem dX9_cut_28 : decode cX9_cut 28 = .ok (.aload_n 0, 1) := by decide +kernel
theorem dX9_cut_29 : decode cX9_cut 29 = .ok (.iload_n 1, 1) := by decide +kernel
theorem dX9_cut_30 : decode cX9_cut 30 = .ok (.invokevirtual 193, 3) := by decide +kernel
theorem dX9_cut_33 : decode cX9_cut 33 = .ok (.bipush (-4), 2) := by decide +kernel
theorem dX9_cut_35 : decode cX9_cut 35 = .ok (.if_icmp .eq 6, 3) := by decide +kernel
theorem dX9_cut_38 : decode cX9_cut 38 = .ok (.bipush (-2), 2) := by decide +kernel
theorem dX9_cut_40 : decode cX9_cut 40 = .ok (.ireturn, 1) := by decide +kernel
theorem dX9_cut_41 : decode cX9_cut 41 = .ok (.aload_n 0, 1) := by decide +kernel
theorem dX9_cut_42 : decode cX9_cut 42 = .ok (.iload_n 1, 1) := by decide +kernel
theorem dX9_cut_43 : decode cX9_cut 43 = .ok (.iconst 2, 1) := by decide +kernel
theorem dX9_cut_44 : decode cX9_cut 44 = .ok (.invokevirtual 172, 3) := by decide +kernel
theorem dX9_cut_47 : decode cX9_cut 47 = .ok (.istore_n 3, 1) := by decide +kernel
theorem dX9_cut_48 : decode cX9_cut 48 = .ok (.aload_n 0, 1) := by decide +kernel
theorem dX9_cut_49 : decode cX9_cut 49 = .ok (.getfield 7, 3) := by decide +kernel
theorem dX9_cut_52 : decode cX9_cut 52 = .ok (.bipush 42, 2) := by decide +kernel
theorem dX9_cut_54 : decode cX9_cut 54 = .ok (.bipush 7, 2) := by decide +kernel
theorem dX9_cut_56 : decode cX9_cut 56 = .ok (.iload_n 1, 1) := by decide +kernel
theorem dX9_cut_57 : decode cX9_cut 57 = .ok (.imul, 1) := by decide +kernel
theorem dX9_cut_58 : decode cX9_cut 58 = .ok (.iadd, 1) := by decide +kernel
theorem dX9_cut_59 : decode cX9_cut 59 = .ok (.iconst 2, 1) := by decide +kernel
theorem dX9_cut_60 : decode cX9_cut 60 = .ok (.iadd, 1) := by decide +kernel
theorem dX9_cut_61 : decode cX9_cut 61 = .ok (.iload_n 2, 1) := by decide +kernel
theorem dX9_cut_62 : decode cX9_cut 62 = .ok (.iastore, 1) := by decide +kernel
theorem dX9_cut_63 : decode cX9_cut 63 = .ok (.iload_n 3, 1) := by decide +kernel
theorem dX9_cut_64 : decode cX9_cut 64 = .ok (.ireturn, 1) := by decide +kernel
theorem dX9_findCut_0 : decode cX9_findCut 0 = .ok (.aload_n 0, 1) := by decide +kernel
theorem dX9_findCut_1 : decode cX9_findCut 1 = .ok (.iload_n 1, 1) := by decide +kernel
theorem dX9_findCut_2 : decode cX9_findCut 2 = .ok (.iconst 2, 1) := by decide +kernel
theorem dX9_findCut_3 : decode cX9_findCut 3 = .ok (.invokevirtual 172, 3) := by decide +kernel
theorem dX9_findCut_6 : decode cX9_findCut 6 = .ok (.istore 5, 2) := by decide +kernel
theorem dX9_findCut_8 : decode cX9_findCut 8 = .ok (.aload_n 0, 1) := by decide +kernel
theorem dX9_findCut_9 : decode cX9_findCut 9 = .ok (.bipush (-4), 2) := by decide +kernel
theorem dX9_findCut_11 : decode cX9_findCut 11 = .ok (.putfield 277, 3) := by decide +kernel
theorem dX9_findCut_14 : decode cX9_findCut 14 = .ok (.aload_n 0, 1) := by decide +kernel
theorem dX9_findCut_15 : decode cX9_findCut 15 = .ok (.iload 4, 2) := by decide +kernel
theorem dX9_findCut_17 : decode cX9_findCut 17 = .ok (.putfield 280, 3) := by decide +kernel
theorem dX9_findCut_20 : decode cX9_findCut 20 = .ok (.iload 5, 2) := by decide +kernel
theorem dX9_findCut_22 : decode cX9_findCut 22 = .ok (.iconst 1, 1) := by decide +kernel
theorem dX9_findCut_23 : decode cX9_findCut 23 = .ok (.isub, 1) := by decide +kernel
theorem dX9_findCut_24 : decode cX9_findCut 24 = .ok (.istore 6, 2) := by decide +kernel
theorem dX9_findCut_26 : decode cX9_findCut 26 = .ok (.iload 6, 2) := by decide +kernel
theorem dX9_findCut_28 : decode cX9_findCut 28 = .ok (.ifCond .le 83, 3) := by decide +kernel
theorem dX9_findCut_31 : decode cX9_findCut 31 = .ok (.aload_n 0, 1) := by decide +kernel
theorem dX9_findCut_32 : decode cX9_findCut 32 = .ok (.getfield 7, 3) := by decide +kernel
theorem dX9_findCut_35 : decode cX9_findCut 35 = .ok (.bipush 42, 2) := by decide +kernel
theorem dX9_findCut_37 : decode cX9_findCut 37 = .ok (.bipush 7, 2) := by decide +kernel
theorem dX9_findCut_39 : decode cX9_findCut 39 = .ok (.iload_n 1, 1) := by decide +kernel
theorem dX9_findCut_40 : decode cX9_findCut 40 = .ok (.imul, 1) := by decide +kernel
theorem dX9_findCut_41 : decode cX9_findCut 41 = .ok (.iadd, 1) := by decide +kernel
theorem dX9_findCut_42 : decode cX9_findCut 42 = .ok (.iconst 2, 1) := by decide +kernel
theorem dX9_findCut_43 : decode cX9_findCut 43 = .ok (.iadd, 1) := by decide +kernel
theorem dX9_findCut_44 : decode cX9_findCut 44 = .ok (.iload 6, 2) := by decide +kernel
theorem dX9_findCut_46 : decode cX9_findCut 46 = .ok (.iastore, 1) := by decide +kernel
theorem dX9_findCut_47 : decode cX9_findCut 47 = .ok (.aload_n 0, 1) := by decide +kernel
theorem dX9_findCut_48 : decode cX9_findCut 48 = .ok (.aload_n 0, 1) := by decide +kernel
theorem dX9_findCut_49 : decode cX9_findCut 49 = .ok (.iload_n 1, 1) := by decide +kernel
theorem dX9_findCut_50 : decode cX9_findCut 50 = .ok (.iconst 0, 1) := by decide +kernel
theorem dX9_findCut_51 : decode cX9_findCut 51 = .ok (.invokevirtual 172, 3) := by decide +kernel
theorem dX9_findCut_54 : decode cX9_findCut 54 = .ok (.iload_n 2, 1) := by decide +kernel
theorem dX9_findCut_55 : decode cX9_findCut 55 = .ok (.iload_n 3, 1) := by decide +kernel
theorem dX9_findCut_56 : decode cX9_findCut 56 = .ok (.invokevirtual 273, 3) := by decide +kernel
theorem dX9_findCut_59 : decode cX9_findCut 59 = .ok (.istore 7, 2) := by decide +kernel
theorem dX9_findCut_61 : decode cX9_findCut 61 = .ok (.aload_n 0, 1) := by decide +kernel
theorem dX9_findCut_62 : decode cX9_findCut 62 = .ok (.iload 7, 2) := by decide +kernel
theorem dX9_findCut_64 : decode cX9_findCut 64 = .ok (.aload_n 0, 1) := by decide +kernel
theorem dX9_findCut_65 : decode cX9_findCut 65 = .ok (.getfield 280, 3) := by decide +kernel
theorem dX9_findCut_68 : decode cX9_findCut 68 = .ok (.if_icmp .ge 8, 3) := by decide +kernel
theorem dX9_findCut_71 : decode cX9_findCut 71 = .ok (.iload 6, 2) := by decide +kernel
theorem dX9_findCut_73 : decode cX9_findCut 73 = .ok (.goto 7, 3) := by decide +kernel
theorem dX9_findCut_76 : decode cX9_findCut 76 = .ok (.aload_n 0, 1) := by decide +kernel
theorem dX9_findCut_77 : decode cX9_findCut 77 = .ok (.getfield 277, 3) := by decide +kernel
theorem dX9_findCut_80 : decode cX9_findCut 80 = .ok (.putfield 277, 3) := by decide +kernel
theorem dX9_findCut_83 : decode cX9_findCut 83 = .ok (.aload_n 0, 1) := by decide +kernel
theorem dX9_findCut_84 : decode cX9_findCut 84 = .ok (.iload 7, 2) := by decide +kernel
theorem dX9_findCut_86 : decode cX9_findCut 86 = .ok (.aload_n 0, 1) := by decide +kernel
theorem dX9_findCut_87 : decode cX9_findCut 87 = .ok (.getfield 280, 3) := by decide +kernel
theorem dX9_findCut_90 : decode cX9_findCut 90 = .ok (.if_icmp .ge 8, 3) := by decide +kernel
theorem dX9_findCut_93 : decode cX9_findCut 93 = .ok (.iload 7, 2) := by decide +kernel
theorem dX9_findCut_95 : decode cX9_findCut 95 = .ok (.goto 7, 3) := by decide +kernel
theorem dX9_findCut_98 : decode cX9_findCut 98 = .ok (.aload_n 0, 1) := by decide +kernel
theorem dX9_findCut_99 : decode cX9_findCut 99 = .ok (.getfield 280, 3) := by decide +kernel
theorem dX9_findCut_102 : decode cX9_findCut 102 = .ok (.putfield 280, 3) := by decide +kernel
theorem dX9_findCut_105 : decode cX9_findCut 105 = .ok (.iinc 6 (-1), 3) := by decide +kernel
theorem dX9_findCut_108 : decode cX9_findCut 108 = .ok (.goto (-82), 3) := by decide +kernel
theorem dX9_findCut_111 : decode cX9_findCut 111 = .ok (.aload_n 0, 1) := by decide +kernel
theorem dX9_findCut_112 : decode cX9_findCut 112 = .ok (.getfield 7, 3) := by decide +kernel
theorem dX9_findCut_115 : decode cX9_findCut 115 = .ok (.bipush 42, 2) := by decide +kernel
theorem dX9_findCut_117 : decode cX9_findCut 117 = .ok (.bipush 7, 2) := by decide +kernel
theorem dX9_findCut_119 : decode cX9_findCut 119 = .ok (.iload_n 1, 1) := by decide +kernel
theorem dX9_findCut_120 : decode cX9_findCut 120 = .ok (.imul, 1) := by decide +kernel
theorem dX9_findCut_121 : decode cX9_findCut 121 = .ok (.iadd, 1) := by decide +kernel
theorem dX9_findCut_122 : decode cX9_findCut 122 = .ok (.iconst 2, 1) := by decide +kernel
theorem dX9_findCut_123 : decode cX9_findCut 123 = .ok (.iadd, 1) := by decide +kernel
theorem dX9_findCut_124 : decode cX9_findCut 124 = .ok (.iload 5, 2) := by decide +kernel
theorem dX9_findCut_126 : decode cX9_findCut 126 = .ok (.iastore, 1) := by decide +kernel
theorem dX9_findCut_127 : decode cX9_findCut 127 = .ok (.return_, 1) := by decide +kernel
theorem dX9_pays_0 : decode cX9_pays 0 = .ok (.aload_n 0, 1) := by decide +kernel
theorem dX9_pays_1 : decode cX9_pays 1 = .ok (.iload_n 1, 1) := by decide +kernel
theorem dX9_pays_2 : decode cX9_pays 2 = .ok (.invokevirtual 188, 3) := by decide +kernel
theorem dX9_pays_5 : decode cX9_pays 5 = .ok (.ifCond .eq 21, 3) := by decide +kernel
theorem dX9_pays_8 : decode cX9_pays 8 = .ok (.iload_n 2, 1) := by decide +kernel
theorem dX9_pays_9 : decode cX9_pays 9 = .ok (.invokestatic 270, 3) := by decide +kernel
theorem dX9_pays_12 : decode cX9_pays 12 = .ok (.ifCond .eq 14, 3) := by decide +kernel
theorem dX9_pays_15 : decode cX9_pays 15 = .ok (.iload 4, 2) := by decide +kernel
theorem dX9_pays_17 : decode cX9_pays 17 = .ok (.i2l, 1) := by decide +kernel
theorem dX9_pays_18 : decode cX9_pays 18 = .ok (.lconst 0, 1) := by decide +kernel
theorem dX9_pays_19 : decode cX9_pays 19 = .ok (.lconst 1, 1) := by decide +kernel
theorem dX9_pays_20 : decode cX9_pays 20 = .ok (.invokestatic 93, 3) := by decide +kernel
theorem dX9_pays_23 : decode cX9_pays 23 = .ok (.ifCond .ne 5, 3) := by decide +kernel
theorem dX9_pays_26 : decode cX9_pays 26 = .ok (.iconst (-1), 1) := by decide +kernel
theorem dX9_pays_27 : decode cX9_pays 27 = .ok (.ireturn, 1) := by decide +kernel
theorem dX9_pays_28 : decode cX9_pays 28 = .ok (.aload_n 0, 1) := by decide +kernel
theorem dX9_pays_29 : decode cX9_pays 29 = .ok (.iload_n 1, 1) := by decide +kernel
theorem dX9_pays_30 : decode cX9_pays 30 = .ok (.invokevirtual 193, 3) := by decide +kernel
theorem dX9_pays_33 : decode cX9_pays 33 = .ok (.bipush (-4), 2) := by decide +kernel
theorem dX9_pays_35 : decode cX9_pays 35 = .ok (.if_icmp .eq 6, 3) := by decide +kernel
theorem dX9_pays_38 : decode cX9_pays 38 = .ok (.bipush (-2), 2) := by decide +kernel
theorem dX9_pays_40 : decode cX9_pays 40 = .ok (.ireturn, 1) := by decide +kernel
theorem dX9_pays_41 : decode cX9_pays 41 = .ok (.aload_n 0, 1) := by decide +kernel
theorem dX9_pays_42 : decode cX9_pays 42 = .ok (.iload_n 1, 1) := by decide +kernel
theorem dX9_pays_43 : decode cX9_pays 43 = .ok (.iload_n 2, 1) := by decide +kernel
theorem dX9_pays_44 : decode cX9_pays 44 = .ok (.iload_n 3, 1) := by decide +kernel
theorem dX9_pays_45 : decode cX9_pays 45 = .ok (.aload_n 0, 1) := by decide +kernel
theorem dX9_pays_46 : decode cX9_pays 46 = .ok (.aload_n 0, 1) := by decide +kernel
theorem dX9_pays_47 : decode cX9_pays 47 = .ok (.iload_n 1, 1) := by decide +kernel
theorem dX9_pays_48 : decode cX9_pays 48 = .ok (.iconst 0, 1) := by decide +kernel
theorem dX9_pays_49 : decode cX9_pays 49 = .ok (.invokevirtual 172, 3) := by decide +kernel
theorem dX9_pays_52 : decode cX9_pays 52 = .ok (.iload_n 2, 1) := by decide +kernel
theorem dX9_pays_53 : decode cX9_pays 53 = .ok (.iload_n 3, 1) := by decide +kernel
theorem dX9_pays_54 : decode cX9_pays 54 = .ok (.invokevirtual 273, 3) := by decide +kernel
theorem dX9_pays_57 : decode cX9_pays 57 = .ok (.invokevirtual 283, 3) := by decide +kernel
theorem dX9_pays_60 : decode cX9_pays 60 = .ok (.aload_n 0, 1) := by decide +kernel
theorem dX9_pays_61 : decode cX9_pays 61 = .ok (.getfield 277, 3) := by decide +kernel
theorem dX9_pays_64 : decode cX9_pays 64 = .ok (.bipush (-4), 2) := by decide +kernel
theorem dX9_pays_66 : decode cX9_pays 66 = .ok (.if_icmp .ne 8, 3) := by decide +kernel
theorem dX9_pays_69 : decode cX9_pays 69 = .ok (.bipush (-4), 2) := by decide +kernel
theorem dX9_pays_71 : decode cX9_pays 71 = .ok (.goto 19, 3) := by decide +kernel
theorem dX9_pays_74 : decode cX9_pays 74 = .ok (.iload 4, 2) := by decide +kernel
theorem dX9_pays_76 : decode cX9_pays 76 = .ok (.ifCond .ne 10, 3) := by decide +kernel
theorem dX9_pays_79 : decode cX9_pays 79 = .ok (.aload_n 0, 1) := by decide +kernel
theorem dX9_pays_80 : decode cX9_pays 80 = .ok (.getfield 277, 3) := by decide +kernel
theorem dX9_pays_83 : decode cX9_pays 83 = .ok (.goto 7, 3) := by decide +kernel
theorem dX9_pays_86 : decode cX9_pays 86 = .ok (.aload_n 0, 1) := by decide +kernel
theorem dX9_pays_87 : decode cX9_pays 87 = .ok (.getfield 280, 3) := by decide +kernel
theorem dX9_pays_90 : decode cX9_pays 90 = .ok (.ireturn, 1) := by decide +kernel
theorem dX9_best_0 : decode cX9_best 0 = .ok (.iload_n 1, 1) := by decide +kernel
theorem dX9_best_1 : decode cX9_best 1 = .ok (.invokestatic 216, 3) := by decide +kernel
theorem dX9_best_4 : decode cX9_best 4 = .ok (.ifCond .eq 21, 3) := by decide +kernel
theorem dX9_best_7 : decode cX9_best 7 = .ok (.iload_n 2, 1) := by decide +kernel
theorem dX9_best_8 : decode cX9_best 8 = .ok (.invokestatic 270, 3) := by decide +kernel
theorem dX9_best_11 : decode cX9_best 11 = .ok (.ifCond .eq 14, 3) := by decide +kernel
theorem dX9_best_14 : decode cX9_best 14 = .ok (.iload 4, 2) := by decide +kernel
theorem dX9_best_16 : decode cX9_best 16 = .ok (.i2l, 1) := by decide +kernel
theorem dX9_best_17 : decode cX9_best 17 = .ok (.lconst 0, 1) := by decide +kernel
theorem dX9_best_18 : decode cX9_best 18 = .ok (.lconst 1, 1) := by decide +kernel
theorem dX9_best_19 : decode cX9_best 19 = .ok (.invokestatic 93, 3) := by decide +kernel
theorem dX9_best_22 : decode cX9_best 22 = .ok (.ifCond .ne 5, 3) := by decide +kernel
theorem dX9_best_25 : decode cX9_best 25 = .ok (.iconst (-1), 1) := by decide +kernel
theorem dX9_best_26 : decode cX9_best 26 = .ok (.ireturn, 1) := by decide +kernel
theorem dX9_best_27 : decode cX9_best 27 = .ok (.aload_n 0, 1) := by decide +kernel
theorem dX9_best_28 : decode cX9_best 28 = .ok (.iload_n 1, 1) := by decide +kernel
theorem dX9_best_29 : decode cX9_best 29 = .ok (.iload_n 2, 1) := by decide +kernel
theorem dX9_best_30 : decode cX9_best 30 = .ok (.iload_n 3, 1) := by decide +kernel
theorem dX9_best_31 : decode cX9_best 31 = .ok (.invokevirtual 273, 3) := by decide +kernel
theorem dX9_best_34 : decode cX9_best 34 = .ok (.istore 5, 2) := by decide +kernel
theorem dX9_best_36 : decode cX9_best 36 = .ok (.bipush (-4), 2) := by decide +kernel
theorem dX9_best_38 : decode cX9_best 38 = .ok (.istore 6, 2) := by decide +kernel
theorem dX9_best_40 : decode cX9_best 40 = .ok (.iconst 0, 1) := by decide +kernel
theorem dX9_best_41 : decode cX9_best 41 = .ok (.istore 7, 2) := by decide +kernel
theorem dX9_best_43 : decode cX9_best 43 = .ok (.iload 7, 2) := by decide +kernel
theorem dX9_best_45 : decode cX9_best 45 = .ok (.aload_n 0, 1) := by decide +kernel
theorem dX9_best_46 : decode cX9_best 46 = .ok (.getfield 7, 3) := by decide +kernel
theorem dX9_best_49 : decode cX9_best 49 = .ok (.bipush 41, 2) := by decide +kernel
theorem dX9_best_51 : decode cX9_best 51 = .ok (.iaload, 1) := by decide +kernel
theorem dX9_best_52 : decode cX9_best 52 = .ok (.if_icmp .ge 73, 3) := by decide +kernel
theorem dX9_best_55 : decode cX9_best 55 = .ok (.aload_n 0, 1) := by decide +kernel
theorem dX9_best_56 : decode cX9_best 56 = .ok (.iload 7, 2) := by decide +kernel
theorem dX9_best_58 : decode cX9_best 58 = .ok (.iconst 0, 1) := by decide +kernel
theorem dX9_best_59 : decode cX9_best 59 = .ok (.invokevirtual 172, 3) := by decide +kernel
theorem dX9_best_62 : decode cX9_best 62 = .ok (.iload_n 1, 1) := by decide +kernel
theorem dX9_best_63 : decode cX9_best 63 = .ok (.if_icmp .ne 56, 3) := by decide +kernel
theorem dX9_best_66 : decode cX9_best 66 = .ok (.aload_n 0, 1) := by decide +kernel
theorem dX9_best_67 : decode cX9_best 67 = .ok (.iload 7, 2) := by decide +kernel
theorem dX9_best_69 : decode cX9_best 69 = .ok (.invokevirtual 193, 3) := by decide +kernel
theorem dX9_best_72 : decode cX9_best 72 = .ok (.bipush (-4), 2) := by decide +kernel
theorem dX9_best_74 : decode cX9_best 74 = .ok (.if_icmp .ne 45, 3) := by decide +kernel
theorem dX9_best_77 : decode cX9_best 77 = .ok (.aload_n 0, 1) := by decide +kernel
theorem dX9_best_78 : decode cX9_best 78 = .ok (.iload 7, 2) := by decide +kernel
theorem dX9_best_80 : decode cX9_best 80 = .ok (.iload_n 2, 1) := by decide +kernel
theorem dX9_best_81 : decode cX9_best 81 = .ok (.iload_n 3, 1) := by decide +kernel
theorem dX9_best_82 : decode cX9_best 82 = .ok (.iload 5, 2) := by decide +kernel
theorem dX9_best_84 : decode cX9_best 84 = .ok (.invokevirtual 283, 3) := by decide +kernel
theorem dX9_best_87 : decode cX9_best 87 = .ok (.aload_n 0, 1) := by decide +kernel
theorem dX9_best_88 : decode cX9_best 88 = .ok (.getfield 277, 3) := by decide +kernel
theorem dX9_best_91 : decode cX9_best 91 = .ok (.bipush (-4), 2) := by decide +kernel
theorem dX9_best_93 : decode cX9_best 93 = .ok (.if_icmp .ne 8, 3) := by decide +kernel
theorem dX9_best_96 : decode cX9_best 96 = .ok (.iload 6, 2) := by decide +kernel
theorem dX9_best_98 : decode cX9_best 98 = .ok (.goto 13, 3) := by decide +kernel
theorem dX9_best_101 : decode cX9_best 101 = .ok (.bipush 100, 2) := by decide +kernel
theorem dX9_best_103 : decode cX9_best 103 = .ok (.iload 7, 2) := by decide +kernel
theorem dX9_best_105 : decode cX9_best 105 = .ok (.imul, 1) := by decide +kernel
theorem dX9_best_106 : decode cX9_best 106 = .ok (.aload_n 0, 1) := by decide +kernel
theorem dX9_best_107 : decode cX9_best 107 = .ok (.getfield 277, 3) := by decide +kernel
theorem dX9_best_110 : decode cX9_best 110 = .ok (.iadd, 1) := by decide +kernel
theorem dX9_best_111 : decode cX9_best 111 = .ok (.istore 6, 2) := by decide +kernel
theorem dX9_best_113 : decode cX9_best 113 = .ok (.aload_n 0, 1) := by decide +kernel
theorem dX9_best_114 : decode cX9_best 114 = .ok (.getfield 280, 3) := by decide +kernel
theorem dX9_best_117 : decode cX9_best 117 = .ok (.istore 5, 2) := by decide +kernel
theorem dX9_best_119 : decode cX9_best 119 = .ok (.iinc 7 1, 3) := by decide +kernel
theorem dX9_best_122 : decode cX9_best 122 = .ok (.goto (-79), 3) := by decide +kernel
theorem dX9_best_125 : decode cX9_best 125 = .ok (.iload 6, 2) := by decide +kernel
theorem dX9_best_127 : decode cX9_best 127 = .ok (.bipush (-4), 2) := by decide +kernel
theorem dX9_best_129 : decode cX9_best 129 = .ok (.if_icmp .ne 8, 3) := by decide +kernel
theorem dX9_best_132 : decode cX9_best 132 = .ok (.bipush (-4), 2) := by decide +kernel
theorem dX9_best_134 : decode cX9_best 134 = .ok (.goto 15, 3) := by decide +kernel
theorem dX9_best_137 : decode cX9_best 137 = .ok (.iload 4, 2) := by decide +kernel
theorem dX9_best_139 : decode cX9_best 139 = .ok (.ifCond .ne 8, 3) := by decide +kernel
theorem dX9_best_142 : decode cX9_best 142 = .ok (.iload 6, 2) := by decide +kernel
theorem dX9_best_144 : decode cX9_best 144 = .ok (.goto 5, 3) := by decide +kernel
theorem dX9_best_147 : decode cX9_best 147 = .ok (.iload 5, 2) := by decide +kernel
theorem dX9_best_149 : decode cX9_best 149 = .ok (.ireturn, 1) := by decide +kernel
theorem dX9_sews_0 : decode cX9_sews 0 = .ok (.bipush 42, 2) := by decide +kernel
theorem dX9_sews_2 : decode cX9_sews 2 = .ok (.bipush 7, 2) := by decide +kernel
theorem dX9_sews_4 : decode cX9_sews 4 = .ok (.aload_n 0, 1) := by decide +kernel
theorem dX9_sews_5 : decode cX9_sews 5 = .ok (.getfield 7, 3) := by decide +kernel
theorem dX9_sews_8 : decode cX9_sews 8 = .ok (.bipush 41, 2) := by decide +kernel
theorem dX9_sews_10 : decode cX9_sews 10 = .ok (.iaload, 1) := by decide +kernel
theorem dX9_sews_11 : decode cX9_sews 11 = .ok (.imul, 1) := by decide +kernel
theorem dX9_sews_12 : decode cX9_sews 12 = .ok (.iadd, 1) := by decide +kernel
theorem dX9_sews_13 : decode cX9_sews 13 = .ok (.istore 4, 2) := by decide +kernel
theorem dX9_sews_15 : decode cX9_sews 15 = .ok (.aload_n 0, 1) := by decide +kernel
theorem dX9_sews_16 : decode cX9_sews 16 = .ok (.getfield 7, 3) := by decide +kernel
theorem dX9_sews_19 : decode cX9_sews 19 = .ok (.iload 4, 2) := by decide +kernel
theorem dX9_sews_21 : decode cX9_sews 21 = .ok (.iconst 0, 1) := by decide +kernel
theorem dX9_sews_22 : decode cX9_sews 22 = .ok (.iadd, 1) := by decide +kernel
theorem dX9_sews_23 : decode cX9_sews 23 = .ok (.iload_n 1, 1) := by decide +kernel
theorem dX9_sews_24 : decode cX9_sews 24 = .ok (.iastore, 1) := by decide +kernel
theorem dX9_sews_25 : decode cX9_sews 25 = .ok (.aload_n 0, 1) := by decide +kernel
theorem dX9_sews_26 : decode cX9_sews 26 = .ok (.getfield 7, 3) := by decide +kernel
theorem dX9_sews_29 : decode cX9_sews 29 = .ok (.iload 4, 2) := by decide +kernel
theorem dX9_sews_31 : decode cX9_sews 31 = .ok (.iconst 1, 1) := by decide +kernel
theorem dX9_sews_32 : decode cX9_sews 32 = .ok (.iadd, 1) := by decide +kernel
theorem dX9_sews_33 : decode cX9_sews 33 = .ok (.iconst 0, 1) := by decide +kernel
theorem dX9_sews_34 : decode cX9_sews 34 = .ok (.iastore, 1) := by decide +kernel
theorem dX9_sews_35 : decode cX9_sews 35 = .ok (.aload_n 0, 1) := by decide +kernel
theorem dX9_sews_36 : decode cX9_sews 36 = .ok (.getfield 7, 3) := by decide +kernel
theorem dX9_sews_39 : decode cX9_sews 39 = .ok (.iload 4, 2) := by decide +kernel
theorem dX9_sews_41 : decode cX9_sews 41 = .ok (.iconst 2, 1) := by decide +kernel
theorem dX9_sews_42 : decode cX9_sews 42 = .ok (.iadd, 1) := by decide +kernel
theorem dX9_sews_43 : decode cX9_sews 43 = .ok (.iload_n 2, 1) := by decide +kernel
theorem dX9_sews_44 : decode cX9_sews 44 = .ok (.iastore, 1) := by decide +kernel
theorem dX9_sews_45 : decode cX9_sews 45 = .ok (.aload_n 0, 1) := by decide +kernel
theorem dX9_sews_46 : decode cX9_sews 46 = .ok (.getfield 7, 3) := by decide +kernel
theorem dX9_sews_49 : decode cX9_sews 49 = .ok (.iload 4, 2) := by decide +kernel
theorem dX9_sews_51 : decode cX9_sews 51 = .ok (.iconst 3, 1) := by decide +kernel
theorem dX9_sews_52 : decode cX9_sews 52 = .ok (.iadd, 1) := by decide +kernel
theorem dX9_sews_53 : decode cX9_sews 53 = .ok (.iload_n 3, 1) := by decide +kernel
theorem dX9_sews_54 : decode cX9_sews 54 = .ok (.iastore, 1) := by decide +kernel
theorem dX9_sews_55 : decode cX9_sews 55 = .ok (.aload_n 0, 1) := by decide +kernel
theorem dX9_sews_56 : decode cX9_sews 56 = .ok (.getfield 7, 3) := by decide +kernel
theorem dX9_sews_59 : decode cX9_sews 59 = .ok (.iload 4, 2) := by decide +kernel
theorem dX9_sews_61 : decode cX9_sews 61 = .ok (.iconst 4, 1) := by decide +kernel
theorem dX9_sews_62 : decode cX9_sews 62 = .ok (.iadd, 1) := by decide +kernel
theorem dX9_sews_63 : decode cX9_sews 63 = .ok (.iconst 0, 1) := by decide +kernel
theorem dX9_sews_64 : decode cX9_sews 64 = .ok (.iastore, 1) := by decide +kernel
theorem dX9_sews_65 : decode cX9_sews 65 = .ok (.aload_n 0, 1) := by decide +kernel
theorem dX9_sews_66 : decode cX9_sews 66 = .ok (.getfield 7, 3) := by decide +kernel
theorem dX9_sews_69 : decode cX9_sews 69 = .ok (.iload 4, 2) := by decide +kernel
theorem dX9_sews_71 : decode cX9_sews 71 = .ok (.iconst 5, 1) := by decide +kernel
theorem dX9_sews_72 : decode cX9_sews 72 = .ok (.iadd, 1) := by decide +kernel
theorem dX9_sews_73 : decode cX9_sews 73 = .ok (.iconst 0, 1) := by decide +kernel
theorem dX9_sews_74 : decode cX9_sews 74 = .ok (.iastore, 1) := by decide +kernel
theorem dX9_sews_75 : decode cX9_sews 75 = .ok (.aload_n 0, 1) := by decide +kernel
theorem dX9_sews_76 : decode cX9_sews 76 = .ok (.getfield 7, 3) := by decide +kernel
theorem dX9_sews_79 : decode cX9_sews 79 = .ok (.iload 4, 2) := by decide +kernel
theorem dX9_sews_81 : decode cX9_sews 81 = .ok (.bipush 6, 2) := by decide +kernel
theorem dX9_sews_83 : decode cX9_sews 83 = .ok (.iadd, 1) := by decide +kernel
theorem dX9_sews_84 : decode cX9_sews 84 = .ok (.bipush (-4), 2) := by decide +kernel
theorem dX9_sews_86 : decode cX9_sews 86 = .ok (.iastore, 1) := by decide +kernel
theorem dX9_sews_87 : decode cX9_sews 87 = .ok (.iconst 0, 1) := by decide +kernel
theorem dX9_sews_88 : decode cX9_sews 88 = .ok (.istore 5, 2) := by decide +kernel
theorem dX9_sews_90 : decode cX9_sews 90 = .ok (.iload 5, 2) := by decide +kernel
theorem dX9_sews_92 : decode cX9_sews 92 = .ok (.bipush 8, 2) := by decide +kernel
theorem dX9_sews_94 : decode cX9_sews 94 = .ok (.if_icmp .ge 31, 3) := by decide +kernel
theorem dX9_sews_97 : decode cX9_sews 97 = .ok (.aload_n 0, 1) := by decide +kernel
theorem dX9_sews_98 : decode cX9_sews 98 = .ok (.getfield 7, 3) := by decide +kernel
theorem dX9_sews_101 : decode cX9_sews 101 = .ok (.bipush 119, 2) := by decide +kernel
theorem dX9_sews_103 : decode cX9_sews 103 = .ok (.bipush 10, 2) := by decide +kernel
theorem dX9_sews_105 : decode cX9_sews 105 = .ok (.iload 5, 2) := by decide +kernel
theorem dX9_sews_107 : decode cX9_sews 107 = .ok (.imul, 1) := by decide +kernel
theorem dX9_sews_108 : decode cX9_sews 108 = .ok (.iadd, 1) := by decide +kernel
theorem dX9_sews_109 : decode cX9_sews 109 = .ok (.aload_n 0, 1) := by decide +kernel
theorem dX9_sews_110 : decode cX9_sews 110 = .ok (.getfield 7, 3) := by decide +kernel
theorem dX9_sews_113 : decode cX9_sews 113 = .ok (.bipush 41, 2) := by decide +kernel
theorem dX9_sews_115 : decode cX9_sews 115 = .ok (.iaload, 1) := by decide +kernel
theorem dX9_sews_116 : decode cX9_sews 116 = .ok (.iadd, 1) := by decide +kernel
theorem dX9_sews_117 : decode cX9_sews 117 = .ok (.iconst 0, 1) := by decide +kernel
theorem dX9_sews_118 : decode cX9_sews 118 = .ok (.iastore, 1) := by decide +kernel
theorem dX9_sews_119 : decode cX9_sews 119 = .ok (.iinc 5 1, 3) := by decide +kernel
theorem dX9_sews_122 : decode cX9_sews 122 = .ok (.goto (-32), 3) := by decide +kernel
theorem dX9_sews_125 : decode cX9_sews 125 = .ok (.aload_n 0, 1) := by decide +kernel
theorem dX9_sews_126 : decode cX9_sews 126 = .ok (.getfield 7, 3) := by decide +kernel
theorem dX9_sews_129 : decode cX9_sews 129 = .ok (.bipush 41, 2) := by decide +kernel
theorem dX9_sews_131 : decode cX9_sews 131 = .ok (.dup2, 1) := by decide +kernel
theorem dX9_sews_132 : decode cX9_sews 132 = .ok (.iaload, 1) := by decide +kernel
theorem dX9_sews_133 : decode cX9_sews 133 = .ok (.iconst 1, 1) := by decide +kernel
theorem dX9_sews_134 : decode cX9_sews 134 = .ok (.iadd, 1) := by decide +kernel
theorem dX9_sews_135 : decode cX9_sews 135 = .ok (.iastore, 1) := by decide +kernel
theorem dX9_sews_136 : decode cX9_sews 136 = .ok (.return_, 1) := by decide +kernel
theorem dX9_sew_0 : decode cX9_sew 0 = .ok (.iload_n 1, 1) := by decide +kernel
theorem dX9_sew_1 : decode cX9_sew 1 = .ok (.invokestatic 216, 3) := by decide +kernel
theorem dX9_sew_4 : decode cX9_sew 4 = .ok (.ifCond .eq 15, 3) := by decide +kernel
theorem dX9_sew_7 : decode cX9_sew 7 = .ok (.iload_n 2, 1) := by decide +kernel
theorem dX9_sew_8 : decode cX9_sew 8 = .ok (.i2l, 1) := by decide +kernel
theorem dX9_sew_9 : decode cX9_sew 9 = .ok (.lconst 1, 1) := by decide +kernel
theorem dX9_sew_10 : decode cX9_sew 10 = .ok (.ldc2_w 287, 3) := by decide +kernel
theorem dX9_sew_13 : decode cX9_sew 13 = .ok (.invokestatic 93, 3) := by decide +kernel
theorem dX9_sew_16 : decode cX9_sew 16 = .ok (.ifCond .ne 5, 3) := by decide +kernel
theorem dX9_sew_19 : decode cX9_sew 19 = .ok (.iconst (-1), 1) := by decide +kernel
theorem dX9_sew_20 : decode cX9_sew 20 = .ok (.ireturn, 1) := by decide +kernel
theorem dX9_sew_21 : decode cX9_sew 21 = .ok (.aload_n 0, 1) := by decide +kernel
theorem dX9_sew_22 : decode cX9_sew 22 = .ok (.getfield 7, 3) := by decide +kernel
theorem dX9_sew_25 : decode cX9_sew 25 = .ok (.bipush 41, 2) := by decide +kernel
theorem dX9_sew_27 : decode cX9_sew 27 = .ok (.iaload, 1) := by decide +kernel
theorem dX9_sew_28 : decode cX9_sew 28 = .ok (.bipush 10, 2) := by decide +kernel
theorem dX9_sew_30 : decode cX9_sew 30 = .ok (.if_icmp .ne 6, 3) := by decide +kernel
theorem dX9_sew_33 : decode cX9_sew 33 = .ok (.bipush (-3), 2) := by decide +kernel
theorem dX9_sew_35 : decode cX9_sew 35 = .ok (.ireturn, 1) := by decide +kernel
theorem dX9_sew_36 : decode cX9_sew 36 = .ok (.aload_n 0, 1) := by decide +kernel
theorem dX9_sew_37 : decode cX9_sew 37 = .ok (.iload_n 1, 1) := by decide +kernel
theorem dX9_sew_38 : decode cX9_sew 38 = .ok (.iload_n 2, 1) := by decide +kernel
theorem dX9_sew_39 : decode cX9_sew 39 = .ok (.iconst 3, 1) := by decide +kernel
theorem dX9_sew_40 : decode cX9_sew 40 = .ok (.invokevirtual 289, 3) := by decide +kernel
theorem dX9_sew_43 : decode cX9_sew 43 = .ok (.aload_n 0, 1) := by decide +kernel
theorem dX9_sew_44 : decode cX9_sew 44 = .ok (.getfield 7, 3) := by decide +kernel
theorem dX9_sew_47 : decode cX9_sew 47 = .ok (.bipush 41, 2) := by decide +kernel
theorem dX9_sew_49 : decode cX9_sew 49 = .ok (.iaload, 1) := by decide +kernel
theorem dX9_sew_50 : decode cX9_sew 50 = .ok (.iconst 1, 1) := by decide +kernel
theorem dX9_sew_51 : decode cX9_sew 51 = .ok (.isub, 1) := by decide +kernel
theorem dX9_sew_52 : decode cX9_sew 52 = .ok (.ireturn, 1) := by decide +kernel
theorem dX9_wish_0 : decode cX9_wish 0 = .ok (.iload_n 1, 1) := by decide +kernel
theorem dX9_wish_1 : decode cX9_wish 1 = .ok (.invokestatic 216, 3) := by decide +kernel
theorem dX9_wish_4 : decode cX9_wish 4 = .ok (.ifCond .eq 21, 3) := by decide +kernel
theorem dX9_wish_7 : decode cX9_wish 7 = .ok (.iload_n 2, 1) := by decide +kernel
theorem dX9_wish_8 : decode cX9_wish 8 = .ok (.invokestatic 270, 3) := by decide +kernel
theorem dX9_wish_11 : decode cX9_wish 11 = .ok (.ifCond .eq 14, 3) := by decide +kernel
theorem dX9_wish_14 : decode cX9_wish 14 = .ok (.iload 4, 2) := by decide +kernel
theorem dX9_wish_16 : decode cX9_wish 16 = .ok (.i2l, 1) := by decide +kernel
theorem dX9_wish_17 : decode cX9_wish 17 = .ok (.lconst 0, 1) := by decide +kernel
theorem dX9_wish_18 : decode cX9_wish 18 = .ok (.lconst 1, 1) := by decide +kernel
theorem dX9_wish_19 : decode cX9_wish 19 = .ok (.invokestatic 93, 3) := by decide +kernel
theorem dX9_wish_22 : decode cX9_wish 22 = .ok (.ifCond .ne 5, 3) := by decide +kernel
theorem dX9_wish_25 : decode cX9_wish 25 = .ok (.iconst (-1), 1) := by decide +kernel
theorem dX9_wish_26 : decode cX9_wish 26 = .ok (.ireturn, 1) := by decide +kernel
theorem dX9_wish_27 : decode cX9_wish 27 = .ok (.aload_n 0, 1) := by decide +kernel
theorem dX9_wish_28 : decode cX9_wish 28 = .ok (.getfield 7, 3) := by decide +kernel
theorem dX9_wish_31 : decode cX9_wish 31 = .ok (.bipush 41, 2) := by decide +kernel
theorem dX9_wish_33 : decode cX9_wish 33 = .ok (.iaload, 1) := by decide +kernel
theorem dX9_wish_34 : decode cX9_wish 34 = .ok (.bipush 10, 2) := by decide +kernel
theorem dX9_wish_36 : decode cX9_wish 36 = .ok (.if_icmp .ne 6, 3) := by decide +kernel
theorem dX9_wish_39 : decode cX9_wish 39 = .ok (.bipush (-3), 2) := by decide +kernel
theorem dX9_wish_41 : decode cX9_wish 41 = .ok (.ireturn, 1) := by decide +kernel
theorem dX9_wish_42 : decode cX9_wish 42 = .ok (.bipush (-4), 2) := by decide +kernel
theorem dX9_wish_44 : decode cX9_wish 44 = .ok (.istore 5, 2) := by decide +kernel
theorem dX9_wish_46 : decode cX9_wish 46 = .ok (.ldc_w 293, 3) := by decide +kernel
theorem dX9_wish_49 : decode cX9_wish 49 = .ok (.istore 6, 2) := by decide +kernel
theorem dX9_wish_51 : decode cX9_wish 51 = .ok (.iconst 1, 1) := by decide +kernel
theorem dX9_wish_52 : decode cX9_wish 52 = .ok (.istore 7, 2) := by decide +kernel
theorem dX9_wish_54 : decode cX9_wish 54 = .ok (.iload 7, 2) := by decide +kernel
theorem dX9_wish_56 : decode cX9_wish 56 = .ok (.bipush 40, 2) := by decide +kernel
theorem dX9_wish_58 : decode cX9_wish 58 = .ok (.if_icmp .gt 70, 3) := by decide +kernel
theorem dX9_wish_61 : decode cX9_wish 61 = .ok (.aload_n 0, 1) := by decide +kernel
theorem dX9_wish_62 : decode cX9_wish 62 = .ok (.iload_n 1, 1) := by decide +kernel
theorem dX9_wish_63 : decode cX9_wish 63 = .ok (.iload 7, 2) := by decide +kernel
theorem dX9_wish_65 : decode cX9_wish 65 = .ok (.bipush 9, 2) := by decide +kernel
theorem dX9_wish_67 : decode cX9_wish 67 = .ok (.invokevirtual 289, 3) := by decide +kernel
theorem dX9_wish_70 : decode cX9_wish 70 = .ok (.aload_n 0, 1) := by decide +kernel
theorem dX9_wish_71 : decode cX9_wish 71 = .ok (.iload_n 1, 1) := by decide +kernel
theorem dX9_wish_72 : decode cX9_wish 72 = .ok (.iload_n 2, 1) := by decide +kernel
theorem dX9_wish_73 : decode cX9_wish 73 = .ok (.iload_n 3, 1) := by decide +kernel
theorem dX9_wish_74 : decode cX9_wish 74 = .ok (.invokevirtual 273, 3) := by decide +kernel
theorem dX9_wish_77 : decode cX9_wish 77 = .ok (.istore 8, 2) := by decide +kernel
theorem dX9_wish_79 : decode cX9_wish 79 = .ok (.aload_n 0, 1) := by decide +kernel
theorem dX9_wish_80 : decode cX9_wish 80 = .ok (.getfield 7, 3) := by decide +kernel
theorem dX9_wish_83 : decode cX9_wish 83 = .ok (.bipush 41, 2) := by decide +kernel
theorem dX9_wish_85 : decode cX9_wish 85 = .ok (.dup2, 1) := by decide +kernel
theorem dX9_wish_86 : decode cX9_wish 86 = .ok (.iaload, 1) := by decide +kernel
theorem dX9_wish_87 : decode cX9_wish 87 = .ok (.iconst 1, 1) := by decide +kernel
theorem dX9_wish_88 : decode cX9_wish 88 = .ok (.isub, 1) := by decide +kernel
theorem dX9_wish_89 : decode cX9_wish 89 = .ok (.iastore, 1) := by decide +kernel
theorem dX9_wish_90 : decode cX9_wish 90 = .ok (.iload 8, 2) := by decide +kernel
theorem dX9_wish_92 : decode cX9_wish 92 = .ok (.iload 6, 2) := by decide +kernel
theorem dX9_wish_94 : decode cX9_wish 94 = .ok (.if_icmp .ge 8, 3) := by decide +kernel
theorem dX9_wish_97 : decode cX9_wish 97 = .ok (.iload 7, 2) := by decide +kernel
theorem dX9_wish_99 : decode cX9_wish 99 = .ok (.goto 5, 3) := by decide +kernel
theorem dX9_wish_102 : decode cX9_wish 102 = .ok (.iload 5, 2) := by decide +kernel
theorem dX9_wish_104 : decode cX9_wish 104 = .ok (.istore 5, 2) := by decide +kernel
theorem dX9_wish_106 : decode cX9_wish 106 = .ok (.iload 8, 2) := by decide +kernel
theorem dX9_wish_108 : decode cX9_wish 108 = .ok (.iload 6, 2) := by decide +kernel
theorem dX9_wish_110 : decode cX9_wish 110 = .ok (.if_icmp .ge 8, 3) := by decide +kernel
theorem dX9_wish_113 : decode cX9_wish 113 = .ok (.iload 8, 2) := by decide +kernel
theorem dX9_wish_115 : decode cX9_wish 115 = .ok (.goto 5, 3) := by decide +kernel
theorem dX9_wish_118 : decode cX9_wish 118 = .ok (.iload 6, 2) := by decide +kernel
theorem dX9_wish_120 : decode cX9_wish 120 = .ok (.istore 6, 2) := by decide +kernel
theorem dX9_wish_122 : decode cX9_wish 122 = .ok (.iinc 7 1, 3) := by decide +kernel
theorem dX9_wish_125 : decode cX9_wish 125 = .ok (.goto (-71), 3) := by decide +kernel
theorem dX9_wish_128 : decode cX9_wish 128 = .ok (.iload 4, 2) := by decide +kernel
theorem dX9_wish_130 : decode cX9_wish 130 = .ok (.ifCond .ne 8, 3) := by decide +kernel
theorem dX9_wish_133 : decode cX9_wish 133 = .ok (.iload 5, 2) := by decide +kernel
theorem dX9_wish_135 : decode cX9_wish 135 = .ok (.goto 5, 3) := by decide +kernel
theorem dX9_wish_138 : decode cX9_wish 138 = .ok (.iload 6, 2) := by decide +kernel
theorem dX9_wish_140 : decode cX9_wish 140 = .ok (.ireturn, 1) := by decide +kernel
theorem dX9_likes_0 : decode cX9_likes 0 = .ok (.aload_n 0, 1) := by decide +kernel
theorem dX9_likes_1 : decode cX9_likes 1 = .ok (.getfield 7, 3) := by decide +kernel
theorem dX9_likes_4 : decode cX9_likes 4 = .ok (.bipush 119, 2) := by decide +kernel
theorem dX9_likes_6 : decode cX9_likes 6 = .ok (.bipush 10, 2) := by decide +kernel
theorem dX9_likes_8 : decode cX9_likes 8 = .ok (.iload_n 1, 1) := by decide +kernel
theorem dX9_likes_9 : decode cX9_likes 9 = .ok (.imul, 1) := by decide +kernel
theorem dX9_likes_10 : decode cX9_likes 10 = .ok (.iadd, 1) := by decide +kernel
theorem dX9_likes_11 : decode cX9_likes 11 = .ok (.iload_n 2, 1) := by decide +kernel
theorem dX9_likes_12 : decode cX9_likes 12 = .ok (.iadd, 1) := by decide +kernel
theorem dX9_likes_13 : decode cX9_likes 13 = .ok (.iaload, 1) := by decide +kernel
theorem dX9_likes_14 : decode cX9_likes 14 = .ok (.ireturn, 1) := by decide +kernel
theorem dX9_isSwap_0 : decode cX9_isSwap 0 = .ok (.aload_n 0, 1) := by decide +kernel
theorem dX9_isSwap_1 : decode cX9_isSwap 1 = .ok (.iload_n 2, 1) := by decide +kernel
theorem dX9_isSwap_2 : decode cX9_isSwap 2 = .ok (.iload_n 1, 1) := by decide +kernel
theorem dX9_isSwap_3 : decode cX9_isSwap 3 = .ok (.invokevirtual 175, 3) := by decide +kernel
theorem dX9_isSwap_6 : decode cX9_isSwap 6 = .ok (.istore 4, 2) := by decide +kernel
theorem dX9_isSwap_8 : decode cX9_isSwap 8 = .ok (.aload_n 0, 1) := by decide +kernel
theorem dX9_isSwap_9 : decode cX9_isSwap 9 = .ok (.iload_n 3, 1) := by decide +kernel
theorem dX9_isSwap_10 : decode cX9_isSwap 10 = .ok (.iload_n 1, 1) := by decide +kernel
theorem dX9_isSwap_11 : decode cX9_isSwap 11 = .ok (.invokevirtual 175, 3) := by decide +kernel
theorem dX9_isSwap_14 : decode cX9_isSwap 14 = .ok (.istore 5, 2) := by decide +kernel
theorem dX9_isSwap_16 : decode cX9_isSwap 16 = .ok (.iload 4, 2) := by decide +kernel
theorem dX9_isSwap_18 : decode cX9_isSwap 18 = .ok (.bipush (-4), 2) := by decide +kernel
theorem dX9_isSwap_20 : decode cX9_isSwap 20 = .ok (.if_icmp .eq 32, 3) := by decide +kernel
theorem dX9_isSwap_23 : decode cX9_isSwap 23 = .ok (.iload 5, 2) := by decide +kernel
theorem dX9_isSwap_25 : decode cX9_isSwap 25 = .ok (.bipush (-4), 2) := by decide +kernel
theorem dX9_isSwap_27 : decode cX9_isSwap 27 = .ok (.if_icmp .eq 25, 3) := by decide +kernel
theorem dX9_isSwap_30 : decode cX9_isSwap 30 = .ok (.aload_n 0, 1) := by decide +kernel
theorem dX9_isSwap_31 : decode cX9_isSwap 31 = .ok (.iload_n 2, 1) := by decide +kernel
theorem dX9_isSwap_32 : decode cX9_isSwap 32 = .ok (.iload 5, 2) := by decide +kernel
theorem dX9_isSwap_34 : decode cX9_isSwap 34 = .ok (.invokevirtual 206, 3) := by decide +kernel
theorem dX9_isSwap_37 : decode cX9_isSwap 37 = .ok (.iconst 1, 1) := by decide +kernel
theorem dX9_isSwap_38 : decode cX9_isSwap 38 = .ok (.if_icmp .ne 14, 3) := by decide +kernel
theorem dX9_isSwap_41 : decode cX9_isSwap 41 = .ok (.aload_n 0, 1) := by decide +kernel
theorem dX9_isSwap_42 : decode cX9_isSwap 42 = .ok (.iload_n 3, 1) := by decide +kernel
theorem dX9_isSwap_43 : decode cX9_isSwap 43 = .ok (.iload 4, 2) := by decide +kernel
theorem dX9_isSwap_45 : decode cX9_isSwap 45 = .ok (.invokevirtual 206, 3) := by decide +kernel
theorem dX9_isSwap_48 : decode cX9_isSwap 48 = .ok (.iconst 1, 1) := by decide +kernel
theorem dX9_isSwap_49 : decode cX9_isSwap 49 = .ok (.if_icmp .eq 5, 3) := by decide +kernel
theorem dX9_isSwap_52 : decode cX9_isSwap 52 = .ok (.iconst 0, 1) := by decide +kernel
theorem dX9_isSwap_53 : decode cX9_isSwap 53 = .ok (.ireturn, 1) := by decide +kernel
theorem dX9_isSwap_54 : decode cX9_isSwap 54 = .ok (.aload_n 0, 1) := by decide +kernel
theorem dX9_isSwap_55 : decode cX9_isSwap 55 = .ok (.iload_n 2, 1) := by decide +kernel
theorem dX9_isSwap_56 : decode cX9_isSwap 56 = .ok (.iload 5, 2) := by decide +kernel
theorem dX9_isSwap_58 : decode cX9_isSwap 58 = .ok (.invokevirtual 294, 3) := by decide +kernel
theorem dX9_isSwap_61 : decode cX9_isSwap 61 = .ok (.aload_n 0, 1) := by decide +kernel
theorem dX9_isSwap_62 : decode cX9_isSwap 62 = .ok (.iload_n 2, 1) := by decide +kernel
theorem dX9_isSwap_63 : decode cX9_isSwap 63 = .ok (.iload 4, 2) := by decide +kernel
theorem dX9_isSwap_65 : decode cX9_isSwap 65 = .ok (.invokevirtual 294, 3) := by decide +kernel
theorem dX9_isSwap_68 : decode cX9_isSwap 68 = .ok (.if_icmp .le 24, 3) := by decide +kernel
theorem dX9_isSwap_71 : decode cX9_isSwap 71 = .ok (.aload_n 0, 1) := by decide +kernel
theorem dX9_isSwap_72 : decode cX9_isSwap 72 = .ok (.iload_n 3, 1) := by decide +kernel
theorem dX9_isSwap_73 : decode cX9_isSwap 73 = .ok (.iload 4, 2) := by decide +kernel
theorem dX9_isSwap_75 : decode cX9_isSwap 75 = .ok (.invokevirtual 294, 3) := by decide +kernel
theorem dX9_isSwap_78 : decode cX9_isSwap 78 = .ok (.aload_n 0, 1) := by decide +kernel
theorem dX9_isSwap_79 : decode cX9_isSwap 79 = .ok (.iload_n 3, 1) := by decide +kernel
theorem dX9_isSwap_80 : decode cX9_isSwap 80 = .ok (.iload 5, 2) := by decide +kernel
theorem dX9_isSwap_82 : decode cX9_isSwap 82 = .ok (.invokevirtual 294, 3) := by decide +kernel
theorem dX9_isSwap_85 : decode cX9_isSwap 85 = .ok (.if_icmp .le 7, 3) := by decide +kernel
theorem dX9_isSwap_88 : decode cX9_isSwap 88 = .ok (.iconst 1, 1) := by decide +kernel
theorem dX9_isSwap_89 : decode cX9_isSwap 89 = .ok (.goto 4, 3) := by decide +kernel
theorem dX9_isSwap_92 : decode cX9_isSwap 92 = .ok (.iconst 0, 1) := by decide +kernel
theorem dX9_isSwap_93 : decode cX9_isSwap 93 = .ok (.ireturn, 1) := by decide +kernel
theorem dX9_firstSwap_0 : decode cX9_firstSwap 0 = .ok (.iconst 0, 1) := by decide +kernel
theorem dX9_firstSwap_1 : decode cX9_firstSwap 1 = .ok (.istore_n 1, 1) := by decide +kernel
theorem dX9_firstSwap_2 : decode cX9_firstSwap 2 = .ok (.iload_n 1, 1) := by decide +kernel
theorem dX9_firstSwap_3 : decode cX9_firstSwap 3 = .ok (.iconst 2, 1) := by decide +kernel
theorem dX9_firstSwap_4 : decode cX9_firstSwap 4 = .ok (.if_icmp .ge 69, 3) := by decide +kernel
theorem dX9_firstSwap_7 : decode cX9_firstSwap 7 = .ok (.iconst 0, 1) := by decide +kernel
theorem dX9_firstSwap_8 : decode cX9_firstSwap 8 = .ok (.istore_n 2, 1) := by decide +kernel
theorem dX9_firstSwap_9 : decode cX9_firstSwap 9 = .ok (.iload_n 2, 1) := by decide +kernel
theorem dX9_firstSwap_10 : decode cX9_firstSwap 10 = .ok (.aload_n 0, 1) := by decide +kernel
theorem dX9_firstSwap_11 : decode cX9_firstSwap 11 = .ok (.getfield 7, 3) := by decide +kernel
theorem dX9_firstSwap_14 : decode cX9_firstSwap 14 = .ok (.iconst 0, 1) := by decide +kernel
theorem dX9_firstSwap_15 : decode cX9_firstSwap 15 = .ok (.iaload, 1) := by decide +kernel
theorem dX9_firstSwap_16 : decode cX9_firstSwap 16 = .ok (.if_icmp .ge 51, 3) := by decide +kernel
theorem dX9_firstSwap_19 : decode cX9_firstSwap 19 = .ok (.iload_n 2, 1) := by decide +kernel
theorem dX9_firstSwap_20 : decode cX9_firstSwap 20 = .ok (.iconst 1, 1) := by decide +kernel
theorem dX9_firstSwap_21 : decode cX9_firstSwap 21 = .ok (.iadd, 1) := by decide +kernel
theorem dX9_firstSwap_22 : decode cX9_firstSwap 22 = .ok (.istore_n 3, 1) := by decide +kernel
theorem dX9_firstSwap_23 : decode cX9_firstSwap 23 = .ok (.iload_n 3, 1) := by decide +kernel
theorem dX9_firstSwap_24 : decode cX9_firstSwap 24 = .ok (.aload_n 0, 1) := by decide +kernel
theorem dX9_firstSwap_25 : decode cX9_firstSwap 25 = .ok (.getfield 7, 3) := by decide +kernel
theorem dX9_firstSwap_28 : decode cX9_firstSwap 28 = .ok (.iconst 0, 1) := by decide +kernel
theorem dX9_firstSwap_29 : decode cX9_firstSwap 29 = .ok (.iaload, 1) := by decide +kernel
theorem dX9_firstSwap_30 : decode cX9_firstSwap 30 = .ok (.if_icmp .ge 31, 3) := by decide +kernel
theorem dX9_firstSwap_33 : decode cX9_firstSwap 33 = .ok (.aload_n 0, 1) := by decide +kernel
theorem dX9_firstSwap_34 : decode cX9_firstSwap 34 = .ok (.iload_n 1, 1) := by decide +kernel
theorem dX9_firstSwap_35 : decode cX9_firstSwap 35 = .ok (.iload_n 2, 1) := by decide +kernel
theorem dX9_firstSwap_36 : decode cX9_firstSwap 36 = .ok (.iload_n 3, 1) := by decide +kernel
theorem dX9_firstSwap_37 : decode cX9_firstSwap 37 = .ok (.invokevirtual 297, 3) := by decide +kernel
theorem dX9_firstSwap_40 : decode cX9_firstSwap 40 = .ok (.ifCond .eq 15, 3) := by decide +kernel
theorem dX9_firstSwap_43 : decode cX9_firstSwap 43 = .ok (.bipush 100, 2) := by decide +kernel
theorem dX9_firstSwap_45 : decode cX9_firstSwap 45 = .ok (.iload_n 1, 1) := by decide +kernel
theorem dX9_firstSwap_46 : decode cX9_firstSwap 46 = .ok (.imul, 1) := by decide +kernel
theorem dX9_firstSwap_47 : decode cX9_firstSwap 47 = .ok (.bipush 10, 2) := by decide +kernel
theorem dX9_firstSwap_49 : decode cX9_firstSwap 49 = .ok (.iload_n 2, 1) := by decide +kernel
theorem dX9_firstSwap_50 : decode cX9_firstSwap 50 = .ok (.imul, 1) := by decide +kernel
theorem dX9_firstSwap_51 : decode cX9_firstSwap 51 = .ok (.iadd, 1) := by decide +kernel
theorem dX9_firstSwap_52 : decode cX9_firstSwap 52 = .ok (.iload_n 3, 1) := by decide +kernel
theorem dX9_firstSwap_53 : decode cX9_firstSwap 53 = .ok (.iadd, 1) := by decide +kernel
theorem dX9_firstSwap_54 : decode cX9_firstSwap 54 = .ok (.ireturn, 1) := by decide +kernel
theorem dX9_firstSwap_55 : decode cX9_firstSwap 55 = .ok (.iinc 3 1, 3) := by decide +kernel
theorem dX9_firstSwap_58 : decode cX9_firstSwap 58 = .ok (.goto (-35), 3) := by decide +kernel
theorem dX9_firstSwap_61 : decode cX9_firstSwap 61 = .ok (.iinc 2 1, 3) := by decide +kernel
theorem dX9_firstSwap_64 : decode cX9_firstSwap 64 = .ok (.goto (-55), 3) := by decide +kernel
theorem dX9_firstSwap_67 : decode cX9_firstSwap 67 = .ok (.iinc 1 1, 3) := by decide +kernel
theorem dX9_firstSwap_70 : decode cX9_firstSwap 70 = .ok (.goto (-68), 3) := by decide +kernel
theorem dX9_firstSwap_73 : decode cX9_firstSwap 73 = .ok (.bipush (-4), 2) := by decide +kernel
theorem dX9_firstSwap_75 : decode cX9_firstSwap 75 = .ok (.ireturn, 1) := by decide +kernel
theorem dX9_swap_0 : decode cX9_swap 0 = .ok (.aload_n 0, 1) := by decide +kernel
theorem dX9_swap_1 : decode cX9_swap 1 = .ok (.invokevirtual 300, 3) := by decide +kernel
theorem dX9_swap_4 : decode cX9_swap 4 = .ok (.ireturn, 1) := by decide +kernel
theorem dX9_settle_0 : decode cX9_settle 0 = .ok (.iconst 0, 1) := by decide +kernel
theorem dX9_settle_1 : decode cX9_settle 1 = .ok (.istore_n 1, 1) := by decide +kernel
theorem dX9_settle_2 : decode cX9_settle 2 = .ok (.aload_n 0, 1) := by decide +kernel
theorem dX9_settle_3 : decode cX9_settle 3 = .ok (.invokevirtual 300, 3) := by decide +kernel
theorem dX9_settle_6 : decode cX9_settle 6 = .ok (.istore_n 2, 1) := by decide +kernel
theorem dX9_settle_7 : decode cX9_settle 7 = .ok (.iload_n 2, 1) := by decide +kernel
theorem dX9_settle_8 : decode cX9_settle 8 = .ok (.bipush (-4), 2) := by decide +kernel
theorem dX9_settle_10 : decode cX9_settle 10 = .ok (.if_icmp .eq 80, 3) := by decide +kernel
theorem dX9_settle_13 : decode cX9_settle 13 = .ok (.iconst 1, 1) := by decide +kernel
theorem dX9_settle_14 : decode cX9_settle 14 = .ok (.iconst 5, 1) := by decide +kernel
theorem dX9_settle_15 : decode cX9_settle 15 = .ok (.iload_n 2, 1) := by decide +kernel
theorem dX9_settle_16 : decode cX9_settle 16 = .ok (.bipush 10, 2) := by decide +kernel
theorem dX9_settle_18 : decode cX9_settle 18 = .ok (.idiv, 1) := by decide +kernel
theorem dX9_settle_19 : decode cX9_settle 19 = .ok (.bipush 10, 2) := by decide +kernel
theorem dX9_settle_21 : decode cX9_settle 21 = .ok (.irem, 1) := by decide +kernel
theorem dX9_settle_22 : decode cX9_settle 22 = .ok (.imul, 1) := by decide +kernel
theorem dX9_settle_23 : decode cX9_settle 23 = .ok (.iadd, 1) := by decide +kernel
theorem dX9_settle_24 : decode cX9_settle 24 = .ok (.iconst 3, 1) := by decide +kernel
theorem dX9_settle_25 : decode cX9_settle 25 = .ok (.iadd, 1) := by decide +kernel
theorem dX9_settle_26 : decode cX9_settle 26 = .ok (.iload_n 2, 1) := by decide +kernel
theorem dX9_settle_27 : decode cX9_settle 27 = .ok (.bipush 100, 2) := by decide +kernel
theorem dX9_settle_29 : decode cX9_settle 29 = .ok (.idiv, 1) := by decide +kernel
theorem dX9_settle_30 : decode cX9_settle 30 = .ok (.iadd, 1) := by decide +kernel
theorem dX9_settle_31 : decode cX9_settle 31 = .ok (.istore_n 3, 1) := by decide +kernel
theorem dX9_settle_32 : decode cX9_settle 32 = .ok (.iconst 1, 1) := by decide +kernel
theorem dX9_settle_33 : decode cX9_settle 33 = .ok (.iconst 5, 1) := by decide +kernel
theorem dX9_settle_34 : decode cX9_settle 34 = .ok (.iload_n 2, 1) := by decide +kernel
theorem dX9_settle_35 : decode cX9_settle 35 = .ok (.bipush 10, 2) := by decide +kernel
theorem dX9_settle_37 : decode cX9_settle 37 = .ok (.irem, 1) := by decide +kernel
theorem dX9_settle_38 : decode cX9_settle 38 = .ok (.imul, 1) := by decide +kernel
theorem dX9_settle_39 : decode cX9_settle 39 = .ok (.iadd, 1) := by decide +kernel
theorem dX9_settle_40 : decode cX9_settle 40 = .ok (.iconst 3, 1) := by decide +kernel
theorem dX9_settle_41 : decode cX9_settle 41 = .ok (.iadd, 1) := by decide +kernel
theorem dX9_settle_42 : decode cX9_settle 42 = .ok (.iload_n 2, 1) := by decide +kernel
theorem dX9_settle_43 : decode cX9_settle 43 = .ok (.bipush 100, 2) := by decide +kernel
theorem dX9_settle_45 : decode cX9_settle 45 = .ok (.idiv, 1) := by decide +kernel
theorem dX9_settle_46 : decode cX9_settle 46 = .ok (.iadd, 1) := by decide +kernel
theorem dX9_settle_47 : decode cX9_settle 47 = .ok (.istore 4, 2) := by decide +kernel
theorem dX9_settle_49 : decode cX9_settle 49 = .ok (.aload_n 0, 1) := by decide +kernel
theorem dX9_settle_50 : decode cX9_settle 50 = .ok (.getfield 7, 3) := by decide +kernel
theorem dX9_settle_53 : decode cX9_settle 53 = .ok (.iload_n 3, 1) := by decide +kernel
theorem dX9_settle_54 : decode cX9_settle 54 = .ok (.iaload, 1) := by decide +kernel
theorem dX9_settle_55 : decode cX9_settle 55 = .ok (.istore 5, 2) := by decide +kernel
theorem dX9_settle_57 : decode cX9_settle 57 = .ok (.aload_n 0, 1) := by decide +kernel
theorem dX9_settle_58 : decode cX9_settle 58 = .ok (.getfield 7, 3) := by decide +kernel
theorem dX9_settle_61 : decode cX9_settle 61 = .ok (.iload_n 3, 1) := by decide +kernel
theorem dX9_settle_62 : decode cX9_settle 62 = .ok (.aload_n 0, 1) := by decide +kernel
theorem dX9_settle_63 : decode cX9_settle 63 = .ok (.getfield 7, 3) := by decide +kernel
theorem dX9_settle_66 : decode cX9_settle 66 = .ok (.iload 4, 2) := by decide +kernel
theorem dX9_settle_68 : decode cX9_settle 68 = .ok (.iaload, 1) := by decide +kernel
theorem dX9_settle_69 : decode cX9_settle 69 = .ok (.iastore, 1) := by decide +kernel
theorem dX9_settle_70 : decode cX9_settle 70 = .ok (.aload_n 0, 1) := by decide +kernel
theorem dX9_settle_71 : decode cX9_settle 71 = .ok (.getfield 7, 3) := by decide +kernel
theorem dX9_settle_74 : decode cX9_settle 74 = .ok (.iload 4, 2) := by decide +kernel
theorem dX9_settle_76 : decode cX9_settle 76 = .ok (.iload 5, 2) := by decide +kernel
theorem dX9_settle_78 : decode cX9_settle 78 = .ok (.iastore, 1) := by decide +kernel
theorem dX9_settle_79 : decode cX9_settle 79 = .ok (.iinc 1 1, 3) := by decide +kernel
theorem dX9_settle_82 : decode cX9_settle 82 = .ok (.aload_n 0, 1) := by decide +kernel
theorem dX9_settle_83 : decode cX9_settle 83 = .ok (.invokevirtual 300, 3) := by decide +kernel
theorem dX9_settle_86 : decode cX9_settle 86 = .ok (.istore_n 2, 1) := by decide +kernel
theorem dX9_settle_87 : decode cX9_settle 87 = .ok (.goto (-80), 3) := by decide +kernel
theorem dX9_settle_90 : decode cX9_settle 90 = .ok (.iload_n 1, 1) := by decide +kernel
theorem dX9_settle_91 : decode cX9_settle 91 = .ok (.ireturn, 1) := by decide +kernel
theorem dX9_odds_0 : decode cX9_odds 0 = .ok (.iload_n 1, 1) := by decide +kernel
theorem dX9_odds_1 : decode cX9_odds 1 = .ok (.invokestatic 216, 3) := by decide +kernel
theorem dX9_odds_4 : decode cX9_odds 4 = .ok (.ifCond .eq 13, 3) := by decide +kernel
theorem dX9_odds_7 : decode cX9_odds 7 = .ok (.iload_n 2, 1) := by decide +kernel
theorem dX9_odds_8 : decode cX9_odds 8 = .ok (.i2l, 1) := by decide +kernel
theorem dX9_odds_9 : decode cX9_odds 9 = .ok (.lconst 0, 1) := by decide +kernel
theorem dX9_odds_10 : decode cX9_odds 10 = .ok (.lconst 1, 1) := by decide +kernel
theorem dX9_odds_11 : decode cX9_odds 11 = .ok (.invokestatic 93, 3) := by decide +kernel
theorem dX9_odds_14 : decode cX9_odds 14 = .ok (.ifCond .ne 7, 3) := by decide +kernel
theorem dX9_odds_17 : decode cX9_odds 17 = .ok (.ldc2_w 303, 3) := by decide +kernel
theorem dX9_odds_20 : decode cX9_odds 20 = .ok (.lreturn, 1) := by decide +kernel
theorem dX9_odds_21 : decode cX9_odds 21 = .ok (.aload_n 0, 1) := by decide +kernel
theorem dX9_odds_22 : decode cX9_odds 22 = .ok (.getfield 7, 3) := by decide +kernel
theorem dX9_odds_25 : decode cX9_odds 25 = .ok (.iconst 0, 1) := by decide +kernel
theorem dX9_odds_26 : decode cX9_odds 26 = .ok (.iaload, 1) := by decide +kernel
theorem dX9_odds_27 : decode cX9_odds 27 = .ok (.istore_n 3, 1) := by decide +kernel
theorem dX9_odds_28 : decode cX9_odds 28 = .ok (.lconst 0, 1) := by decide +kernel
theorem dX9_odds_29 : decode cX9_odds 29 = .ok (.lstore 4, 2) := by decide +kernel
theorem dX9_odds_31 : decode cX9_odds 31 = .ok (.lconst 1, 1) := by decide +kernel
theorem dX9_odds_32 : decode cX9_odds 32 = .ok (.iload_n 3, 1) := by decide +kernel
theorem dX9_odds_33 : decode cX9_odds 33 = .ok (.lshl, 1) := by decide +kernel
theorem dX9_odds_34 : decode cX9_odds 34 = .ok (.lstore 6, 2) := by decide +kernel
theorem dX9_odds_36 : decode cX9_odds 36 = .ok (.aload_n 0, 1) := by decide +kernel
theorem dX9_odds_37 : decode cX9_odds 37 = .ok (.sipush 597, 3) := by decide +kernel
theorem dX9_odds_40 : decode cX9_odds 40 = .ok (.iconst 0, 1) := by decide +kernel
theorem dX9_odds_41 : decode cX9_odds 41 = .ok (.invokevirtual 267, 3) := by decide +kernel
theorem dX9_odds_44 : decode cX9_odds 44 = .ok (.iconst 0, 1) := by decide +kernel
theorem dX9_odds_45 : decode cX9_odds 45 = .ok (.istore 8, 2) := by decide +kernel
theorem dX9_odds_47 : decode cX9_odds 47 = .ok (.iload 8, 2) := by decide +kernel
theorem dX9_odds_49 : decode cX9_odds 49 = .ok (.iconst 1, 1) := by decide +kernel
theorem dX9_odds_50 : decode cX9_odds 50 = .ok (.iload_n 3, 1) := by decide +kernel
theorem dX9_odds_51 : decode cX9_odds 51 = .ok (.ishl, 1) := by decide +kernel
theorem dX9_odds_52 : decode cX9_odds 52 = .ok (.if_icmp .ge 97, 3) := by decide +kernel
theorem dX9_odds_55 : decode cX9_odds 55 = .ok (.iconst 0, 1) := by decide +kernel
theorem dX9_odds_56 : decode cX9_odds 56 = .ok (.istore 9, 2) := by decide +kernel
theorem dX9_odds_58 : decode cX9_odds 58 = .ok (.iload 9, 2) := by decide +kernel
theorem dX9_odds_60 : decode cX9_odds 60 = .ok (.iload_n 3, 1) := by decide +kernel
theorem dX9_odds_61 : decode cX9_odds 61 = .ok (.if_icmp .ge 55, 3) := by decide +kernel
theorem dX9_odds_64 : decode cX9_odds 64 = .ok (.aload_n 0, 1) := by decide +kernel
theorem dX9_odds_65 : decode cX9_odds 65 = .ok (.getfield 7, 3) := by decide +kernel
theorem dX9_odds_68 : decode cX9_odds 68 = .ok (.iconst 1, 1) := by decide +kernel
theorem dX9_odds_69 : decode cX9_odds 69 = .ok (.iconst 5, 1) := by decide +kernel
theorem dX9_odds_70 : decode cX9_odds 70 = .ok (.iload 9, 2) := by decide +kernel
theorem dX9_odds_72 : decode cX9_odds 72 = .ok (.imul, 1) := by decide +kernel
theorem dX9_odds_73 : decode cX9_odds 73 = .ok (.iadd, 1) := by decide +kernel
theorem dX9_odds_74 : decode cX9_odds 74 = .ok (.aload_n 0, 1) := by decide +kernel
theorem dX9_odds_75 : decode cX9_odds 75 = .ok (.getfield 7, 3) := by decide +kernel
theorem dX9_odds_78 : decode cX9_odds 78 = .ok (.sipush 598, 3) := by decide +kernel
theorem dX9_odds_81 : decode cX9_odds 81 = .ok (.iconst 5, 1) := by decide +kernel
theorem dX9_odds_82 : decode cX9_odds 82 = .ok (.iload 9, 2) := by decide +kernel
theorem dX9_odds_84 : decode cX9_odds 84 = .ok (.imul, 1) := by decide +kernel
theorem dX9_odds_85 : decode cX9_odds 85 = .ok (.iadd, 1) := by decide +kernel
theorem dX9_odds_86 : decode cX9_odds 86 = .ok (.iaload, 1) := by decide +kernel
theorem dX9_odds_87 : decode cX9_odds 87 = .ok (.iastore, 1) := by decide +kernel
theorem dX9_odds_88 : decode cX9_odds 88 = .ok (.aload_n 0, 1) := by decide +kernel
theorem dX9_odds_89 : decode cX9_odds 89 = .ok (.iload 9, 2) := by decide +kernel
theorem dX9_odds_91 : decode cX9_odds 91 = .ok (.iload 8, 2) := by decide +kernel
theorem dX9_odds_93 : decode cX9_odds 93 = .ok (.iload 9, 2) := by decide +kernel
theorem dX9_odds_95 : decode cX9_odds 95 = .ok (.ishr, 1) := by decide +kernel
theorem dX9_odds_96 : decode cX9_odds 96 = .ok (.iconst 1, 1) := by decide +kernel
theorem dX9_odds_97 : decode cX9_odds 97 = .ok (.iand, 1) := by decide +kernel
theorem dX9_odds_98 : decode cX9_odds 98 = .ok (.iconst 1, 1) := by decide +kernel
theorem dX9_odds_99 : decode cX9_odds 99 = .ok (.if_icmp .ne 7, 3) := by decide +kernel
theorem dX9_odds_102 : decode cX9_odds 102 = .ok (.iconst 1, 1) := by decide +kernel
theorem dX9_odds_103 : decode cX9_odds 103 = .ok (.goto 4, 3) := by decide +kernel
theorem dX9_odds_106 : decode cX9_odds 106 = .ok (.iconst 0, 1) := by decide +kernel
theorem dX9_odds_107 : decode cX9_odds 107 = .ok (.invokevirtual 260, 3) := by decide +kernel
theorem dX9_odds_110 : decode cX9_odds 110 = .ok (.iinc 9 1, 3) := by decide +kernel
theorem dX9_odds_113 : decode cX9_odds 113 = .ok (.goto (-55), 3) := by decide +kernel
theorem dX9_odds_116 : decode cX9_odds 116 = .ok (.aload_n 0, 1) := by decide +kernel
theorem dX9_odds_117 : decode cX9_odds 117 = .ok (.iload_n 1, 1) := by decide +kernel
theorem dX9_odds_118 : decode cX9_odds 118 = .ok (.invokevirtual 238, 3) := by decide +kernel
theorem dX9_odds_121 : decode cX9_odds 121 = .ok (.lload 4, 2) := by decide +kernel
theorem dX9_odds_123 : decode cX9_odds 123 = .ok (.aload_n 0, 1) := by decide +kernel
theorem dX9_odds_124 : decode cX9_odds 124 = .ok (.invokevirtual 241, 3) := by decide +kernel
theorem dX9_odds_127 : decode cX9_odds 127 = .ok (.iload_n 3, 1) := by decide +kernel
theorem dX9_odds_128 : decode cX9_odds 128 = .ok (.if_icmp .ne 7, 3) := by decide +kernel
theorem dX9_odds_131 : decode cX9_odds 131 = .ok (.iconst 1, 1) := by decide +kernel
theorem dX9_odds_132 : decode cX9_odds 132 = .ok (.goto 4, 3) := by decide +kernel
theorem dX9_odds_135 : decode cX9_odds 135 = .ok (.iconst 0, 1) := by decide +kernel
theorem dX9_odds_136 : decode cX9_odds 136 = .ok (.invokestatic 219, 3) := by decide +kernel
theorem dX9_odds_139 : decode cX9_odds 139 = .ok (.i2l, 1) := by decide +kernel
theorem dX9_odds_140 : decode cX9_odds 140 = .ok (.ladd, 1) := by decide +kernel
theorem dX9_odds_141 : decode cX9_odds 141 = .ok (.lstore 4, 2) := by decide +kernel
theorem dX9_odds_143 : decode cX9_odds 143 = .ok (.iinc 8 1, 3) := by decide +kernel
theorem dX9_odds_146 : decode cX9_odds 146 = .ok (.goto (-99), 3) := by decide +kernel
theorem dX9_odds_149 : decode cX9_odds 149 = .ok (.aload_n 0, 1) := by decide +kernel
theorem dX9_odds_150 : decode cX9_odds 150 = .ok (.iconst 0, 1) := by decide +kernel
theorem dX9_odds_151 : decode cX9_odds 151 = .ok (.sipush 597, 3) := by decide +kernel
theorem dX9_odds_154 : decode cX9_odds 154 = .ok (.invokevirtual 267, 3) := by decide +kernel
theorem dX9_odds_157 : decode cX9_odds 157 = .ok (.lload 4, 2) := by decide +kernel
theorem dX9_odds_159 : decode cX9_odds 159 = .ok (.lconst 0, 1) := by decide +kernel
theorem dX9_odds_160 : decode cX9_odds 160 = .ok (.lcmp, 1) := by decide +kernel
theorem dX9_odds_161 : decode cX9_odds 161 = .ok (.ifCond .le 44, 3) := by decide +kernel
theorem dX9_odds_164 : decode cX9_odds 164 = .ok (.lload 4, 2) := by decide +kernel
theorem dX9_odds_166 : decode cX9_odds 166 = .ok (.ldc2_w 182, 3) := by decide +kernel
theorem dX9_odds_169 : decode cX9_odds 169 = .ok (.lrem, 1) := by decide +kernel
theorem dX9_odds_170 : decode cX9_odds 170 = .ok (.lconst 0, 1) := by decide +kernel
theorem dX9_odds_171 : decode cX9_odds 171 = .ok (.lcmp, 1) := by decide +kernel
theorem dX9_odds_172 : decode cX9_odds 172 = .ok (.ifCond .ne 33, 3) := by decide +kernel
theorem dX9_odds_175 : decode cX9_odds 175 = .ok (.lload 6, 2) := by decide +kernel
theorem dX9_odds_177 : decode cX9_odds 177 = .ok (.ldc2_w 182, 3) := by decide +kernel
theorem dX9_odds_180 : decode cX9_odds 180 = .ok (.lrem, 1) := by decide +kernel
theorem dX9_odds_181 : decode cX9_odds 181 = .ok (.lconst 0, 1) := by decide +kernel
theorem dX9_odds_182 : decode cX9_odds 182 = .ok (.lcmp, 1) := by decide +kernel
theorem dX9_odds_183 : decode cX9_odds 183 = .ok (.ifCond .ne 22, 3) := by decide +kernel
theorem dX9_odds_186 : decode cX9_odds 186 = .ok (.lload 4, 2) := by decide +kernel
theorem dX9_odds_188 : decode cX9_odds 188 = .ok (.ldc2_w 182, 3) := by decide +kernel
theorem dX9_odds_191 : decode cX9_odds 191 = .ok (.ldiv, 1) := by decide +kernel
theorem dX9_odds_192 : decode cX9_odds 192 = .ok (.lstore 4, 2) := by decide +kernel
theorem dX9_odds_194 : decode cX9_odds 194 = .ok (.lload 6, 2) := by decide +kernel
theorem dX9_odds_196 : decode cX9_odds 196 = .ok (.ldc2_w 182, 3) := by decide +kernel
theorem dX9_odds_199 : decode cX9_odds 199 = .ok (.ldiv, 1) := by decide +kernel
theorem dX9_odds_200 : decode cX9_odds 200 = .ok (.lstore 6, 2) := by decide +kernel
theorem dX9_odds_202 : decode cX9_odds 202 = .ok (.goto (-45), 3) := by decide +kernel
theorem dX9_odds_205 : decode cX9_odds 205 = .ok (.iload_n 2, 1) := by decide +kernel
theorem dX9_odds_206 : decode cX9_odds 206 = .ok (.ifCond .ne 8, 3) := by decide +kernel
theorem dX9_odds_209 : decode cX9_odds 209 = .ok (.lload 4, 2) := by decide +kernel
theorem dX9_odds_211 : decode cX9_odds 211 = .ok (.goto 16, 3) := by decide +kernel
theorem dX9_odds_214 : decode cX9_odds 214 = .ok (.lload 4, 2) := by decide +kernel
theorem dX9_odds_216 : decode cX9_odds 216 = .ok (.lconst 0, 1) := by decide +kernel
theorem dX9_odds_217 : decode cX9_odds 217 = .ok (.lcmp, 1) := by decide +kernel
theorem dX9_odds_218 : decode cX9_odds 218 = .ok (.ifCond .ne 7, 3) := by decide +kernel
theorem dX9_odds_221 : decode cX9_odds 221 = .ok (.lconst 1, 1) := by decide +kernel
theorem dX9_odds_222 : decode cX9_odds 222 = .ok (.goto 5, 3) := by decide +kernel
theorem dX9_odds_225 : decode cX9_odds 225 = .ok (.lload 6, 2) := by decide +kernel
theorem dX9_odds_227 : decode cX9_odds 227 = .ok (.lreturn, 1) := by decide +kernel
theorem dX9_mark_0 : decode cX9_mark 0 = .ok (.iload_n 1, 1) := by decide +kernel
theorem dX9_mark_1 : decode cX9_mark 1 = .ok (.i2l, 1) := by decide +kernel
theorem dX9_mark_2 : decode cX9_mark 2 = .ok (.lconst 1, 1) := by decide +kernel
theorem dX9_mark_3 : decode cX9_mark 3 = .ok (.ldc2_w 287, 3) := by decide +kernel
theorem dX9_mark_6 : decode cX9_mark 6 = .ok (.invokestatic 93, 3) := by decide +kernel
theorem dX9_mark_9 : decode cX9_mark 9 = .ok (.ifCond .ne 5, 3) := by decide +kernel
theorem dX9_mark_12 : decode cX9_mark 12 = .ok (.iconst (-1), 1) := by decide +kernel
theorem dX9_mark_13 : decode cX9_mark 13 = .ok (.ireturn, 1) := by decide +kernel
theorem dX9_mark_14 : decode cX9_mark 14 = .ok (.aload_n 0, 1) := by decide +kernel
theorem dX9_mark_15 : decode cX9_mark 15 = .ok (.getfield 7, 3) := by decide +kernel
theorem dX9_mark_18 : decode cX9_mark 18 = .ok (.bipush 112, 2) := by decide +kernel
theorem dX9_mark_20 : decode cX9_mark 20 = .ok (.iaload, 1) := by decide +kernel
theorem dX9_mark_21 : decode cX9_mark 21 = .ok (.bipush 6, 2) := by decide +kernel
theorem dX9_mark_23 : decode cX9_mark 23 = .ok (.if_icmp .ne 6, 3) := by decide +kernel
theorem dX9_mark_26 : decode cX9_mark 26 = .ok (.bipush (-3), 2) := by decide +kernel
theorem dX9_mark_28 : decode cX9_mark 28 = .ok (.ireturn, 1) := by decide +kernel
theorem dX9_mark_29 : decode cX9_mark 29 = .ok (.aload_n 0, 1) := by decide +kernel
theorem dX9_mark_30 : decode cX9_mark 30 = .ok (.getfield 7, 3) := by decide +kernel
theorem dX9_mark_33 : decode cX9_mark 33 = .ok (.bipush 113, 2) := by decide +kernel
theorem dX9_mark_35 : decode cX9_mark 35 = .ok (.aload_n 0, 1) := by decide +kernel
theorem dX9_mark_36 : decode cX9_mark 36 = .ok (.getfield 7, 3) := by decide +kernel
theorem dX9_mark_39 : decode cX9_mark 39 = .ok (.bipush 112, 2) := by decide +kernel
theorem dX9_mark_41 : decode cX9_mark 41 = .ok (.iaload, 1) := by decide +kernel
theorem dX9_mark_42 : decode cX9_mark 42 = .ok (.iadd, 1) := by decide +kernel
theorem dX9_mark_43 : decode cX9_mark 43 = .ok (.iload_n 1, 1) := by decide +kernel
theorem dX9_mark_44 : decode cX9_mark 44 = .ok (.iastore, 1) := by decide +kernel
theorem dX9_mark_45 : decode cX9_mark 45 = .ok (.aload_n 0, 1) := by decide +kernel
theorem dX9_mark_46 : decode cX9_mark 46 = .ok (.getfield 7, 3) := by decide +kernel
theorem dX9_mark_49 : decode cX9_mark 49 = .ok (.bipush 112, 2) := by decide +kernel
theorem dX9_mark_51 : decode cX9_mark 51 = .ok (.dup2, 1) := by decide +kernel
theorem dX9_mark_52 : decode cX9_mark 52 = .ok (.iaload, 1) := by decide +kernel
theorem dX9_mark_53 : decode cX9_mark 53 = .ok (.iconst 1, 1) := by decide +kernel
theorem dX9_mark_54 : decode cX9_mark 54 = .ok (.iadd, 1) := by decide +kernel
theorem dX9_mark_55 : decode cX9_mark 55 = .ok (.iastore, 1) := by decide +kernel
theorem dX9_mark_56 : decode cX9_mark 56 = .ok (.aload_n 0, 1) := by decide +kernel
theorem dX9_mark_57 : decode cX9_mark 57 = .ok (.getfield 7, 3) := by decide +kernel
theorem dX9_mark_60 : decode cX9_mark 60 = .ok (.bipush 112, 2) := by decide +kernel
theorem dX9_mark_62 : decode cX9_mark 62 = .ok (.iaload, 1) := by decide +kernel
theorem dX9_mark_63 : decode cX9_mark 63 = .ok (.ireturn, 1) := by decide +kernel
theorem dX9_unmark_0 : decode cX9_unmark 0 = .ok (.iload_n 1, 1) := by decide +kernel
theorem dX9_unmark_1 : decode cX9_unmark 1 = .ok (.i2l, 1) := by decide +kernel
theorem dX9_unmark_2 : decode cX9_unmark 2 = .ok (.lconst 0, 1) := by decide +kernel
theorem dX9_unmark_3 : decode cX9_unmark 3 = .ok (.aload_n 0, 1) := by decide +kernel
theorem dX9_unmark_4 : decode cX9_unmark 4 = .ok (.getfield 7, 3) := by decide +kernel
theorem dX9_unmark_7 : decode cX9_unmark 7 = .ok (.bipush 112, 2) := by decide +kernel
theorem dX9_unmark_9 : decode cX9_unmark 9 = .ok (.iaload, 1) := by decide +kernel
theorem dX9_unmark_10 : decode cX9_unmark 10 = .ok (.i2l, 1) := by decide +kernel
theorem dX9_unmark_11 : decode cX9_unmark 11 = .ok (.invokestatic 93, 3) := by decide +kernel
theorem dX9_unmark_14 : decode cX9_unmark 14 = .ok (.ifCond .ne 5, 3) := by decide +kernel
theorem dX9_unmark_17 : decode cX9_unmark 17 = .ok (.iconst (-1), 1) := by decide +kernel
theorem dX9_unmark_18 : decode cX9_unmark 18 = .ok (.ireturn, 1) := by decide +kernel
theorem dX9_unmark_19 : decode cX9_unmark 19 = .ok (.aload_n 0, 1) := by decide +kernel
theorem dX9_unmark_20 : decode cX9_unmark 20 = .ok (.getfield 7, 3) := by decide +kernel
theorem dX9_unmark_23 : decode cX9_unmark 23 = .ok (.bipush 112, 2) := by decide +kernel
theorem dX9_unmark_25 : decode cX9_unmark 25 = .ok (.iaload, 1) := by decide +kernel
theorem dX9_unmark_26 : decode cX9_unmark 26 = .ok (.istore_n 2, 1) := by decide +kernel
theorem dX9_unmark_27 : decode cX9_unmark 27 = .ok (.aload_n 0, 1) := by decide +kernel
theorem dX9_unmark_28 : decode cX9_unmark 28 = .ok (.getfield 7, 3) := by decide +kernel
theorem dX9_unmark_31 : decode cX9_unmark 31 = .ok (.bipush 112, 2) := by decide +kernel
theorem dX9_unmark_33 : decode cX9_unmark 33 = .ok (.iload_n 1, 1) := by decide +kernel
theorem dX9_unmark_34 : decode cX9_unmark 34 = .ok (.iastore, 1) := by decide +kernel
theorem dX9_unmark_35 : decode cX9_unmark 35 = .ok (.iload_n 2, 1) := by decide +kernel
theorem dX9_unmark_36 : decode cX9_unmark 36 = .ok (.ireturn, 1) := by decide +kernel
theorem dX9_canMark_0 : decode cX9_canMark 0 = .ok (.aload_n 0, 1) := by decide +kernel
theorem dX9_canMark_1 : decode cX9_canMark 1 = .ok (.getfield 7, 3) := by decide +kernel
theorem dX9_canMark_4 : decode cX9_canMark 4 = .ok (.iconst 1, 1) := by decide +kernel
theorem dX9_canMark_5 : decode cX9_canMark 5 = .ok (.iconst 5, 1) := by decide +kernel
theorem dX9_canMark_6 : decode cX9_canMark 6 = .ok (.iload_n 2, 1) := by decide +kernel
theorem dX9_canMark_7 : decode cX9_canMark 7 = .ok (.imul, 1) := by decide +kernel
theorem dX9_canMark_8 : decode cX9_canMark 8 = .ok (.iadd, 1) := by decide +kernel
theorem dX9_canMark_9 : decode cX9_canMark 9 = .ok (.iaload, 1) := by decide +kernel
theorem dX9_canMark_10 : decode cX9_canMark 10 = .ok (.iload_n 1, 1) := by decide +kernel
theorem dX9_canMark_11 : decode cX9_canMark 11 = .ok (.aload_n 0, 1) := by decide +kernel
theorem dX9_canMark_12 : decode cX9_canMark 12 = .ok (.getfield 7, 3) := by decide +kernel
theorem dX9_canMark_15 : decode cX9_canMark 15 = .ok (.iconst 1, 1) := by decide +kernel
theorem dX9_canMark_16 : decode cX9_canMark 16 = .ok (.iconst 5, 1) := by decide +kernel
theorem dX9_canMark_17 : decode cX9_canMark 17 = .ok (.iload_n 2, 1) := by decide +kernel
theorem dX9_canMark_18 : decode cX9_canMark 18 = .ok (.imul, 1) := by decide +kernel
theorem dX9_canMark_19 : decode cX9_canMark 19 = .ok (.iadd, 1) := by decide +kernel
theorem dX9_canMark_20 : decode cX9_canMark 20 = .ok (.iconst 1, 1) := by decide +kernel
theorem dX9_canMark_21 : decode cX9_canMark 21 = .ok (.iadd, 1) := by decide +kernel
theorem dX9_canMark_22 : decode cX9_canMark 22 = .ok (.iaload, 1) := by decide +kernel
theorem dX9_canMark_23 : decode cX9_canMark 23 = .ok (.imul, 1) := by decide +kernel
theorem dX9_canMark_24 : decode cX9_canMark 24 = .ok (.iadd, 1) := by decide +kernel
theorem dX9_canMark_25 : decode cX9_canMark 25 = .ok (.istore_n 3, 1) := by decide +kernel
theorem dX9_canMark_26 : decode cX9_canMark 26 = .ok (.iload_n 3, 1) := by decide +kernel
theorem dX9_canMark_27 : decode cX9_canMark 27 = .ok (.bipush 40, 2) := by decide +kernel
theorem dX9_canMark_29 : decode cX9_canMark 29 = .ok (.if_icmp .le 8, 3) := by decide +kernel
theorem dX9_canMark_32 : decode cX9_canMark 32 = .ok (.bipush 40, 2) := by decide +kernel
theorem dX9_canMark_34 : decode cX9_canMark 34 = .ok (.goto 4, 3) := by decide +kernel
theorem dX9_canMark_37 : decode cX9_canMark 37 = .ok (.iload_n 3, 1) := by decide +kernel
theorem dX9_canMark_38 : decode cX9_canMark 38 = .ok (.istore_n 3, 1) := by decide +kernel
theorem dX9_canMark_39 : decode cX9_canMark 39 = .ok (.aload_n 0, 1) := by decide +kernel
theorem dX9_canMark_40 : decode cX9_canMark 40 = .ok (.getfield 7, 3) := by decide +kernel
theorem dX9_canMark_43 : decode cX9_canMark 43 = .ok (.bipush 113, 2) := by decide +kernel
theorem dX9_canMark_45 : decode cX9_canMark 45 = .ok (.iload_n 1, 1) := by decide +kernel
theorem dX9_canMark_46 : decode cX9_canMark 46 = .ok (.iadd, 1) := by decide +kernel
theorem dX9_canMark_47 : decode cX9_canMark 47 = .ok (.iaload, 1) := by decide +kernel
theorem dX9_canMark_48 : decode cX9_canMark 48 = .ok (.i2l, 1) := by decide +kernel
theorem dX9_canMark_49 : decode cX9_canMark 49 = .ok (.iload_n 3, 1) := by decide +kernel
theorem dX9_canMark_50 : decode cX9_canMark 50 = .ok (.i2l, 1) := by decide +kernel
theorem dX9_canMark_51 : decode cX9_canMark 51 = .ok (.iload_n 3, 1) := by decide +kernel
theorem dX9_canMark_52 : decode cX9_canMark 52 = .ok (.aload_n 0, 1) := by decide +kernel
theorem dX9_canMark_53 : decode cX9_canMark 53 = .ok (.getfield 85, 3) := by decide +kernel
theorem dX9_canMark_56 : decode cX9_canMark 56 = .ok (.iadd, 1) := by decide +kernel
theorem dX9_canMark_57 : decode cX9_canMark 57 = .ok (.i2l, 1) := by decide +kernel
theorem dX9_canMark_58 : decode cX9_canMark 58 = .ok (.invokestatic 93, 3) := by decide +kernel
theorem dX9_canMark_61 : decode cX9_canMark 61 = .ok (.ireturn, 1) := by decide +kernel
theorem dX9_takesRow_0 : decode cX9_takesRow 0 = .ok (.iconst 0, 1) := by decide +kernel
theorem dX9_takesRow_1 : decode cX9_takesRow 1 = .ok (.istore_n 2, 1) := by decide +kernel
theorem dX9_takesRow_2 : decode cX9_takesRow 2 = .ok (.iload_n 2, 1) := by decide +kernel
theorem dX9_takesRow_3 : decode cX9_takesRow 3 = .ok (.iload_n 1, 1) := by decide +kernel
theorem dX9_takesRow_4 : decode cX9_takesRow 4 = .ok (.if_icmp .ge 37, 3) := by decide +kernel
theorem dX9_takesRow_7 : decode cX9_takesRow 7 = .ok (.aload_n 0, 1) := by decide +kernel
theorem dX9_takesRow_8 : decode cX9_takesRow 8 = .ok (.getfield 53, 3) := by decide +kernel
theorem dX9_takesRow_11 : decode cX9_takesRow 11 = .ok (.iload_n 2, 1) := by decide +kernel
theorem dX9_takesRow_12 : decode cX9_takesRow 12 = .ok (.aload_n 0, 1) := by decide +kernel
theorem dX9_takesRow_13 : decode cX9_takesRow 13 = .ok (.getfield 305, 3) := by decide +kernel
theorem dX9_takesRow_16 : decode cX9_takesRow 16 = .ok (.ifCond .ne 12, 3) := by decide +kernel
theorem dX9_takesRow_19 : decode cX9_takesRow 19 = .ok (.aload_n 0, 1) := by decide +kernel
theorem dX9_takesRow_20 : decode cX9_takesRow 20 = .ok (.getfield 50, 3) := by decide +kernel
theorem dX9_takesRow_23 : decode cX9_takesRow 23 = .ok (.iload_n 2, 1) := by decide +kernel
theorem dX9_takesRow_24 : decode cX9_takesRow 24 = .ok (.iaload, 1) := by decide +kernel
theorem dX9_takesRow_25 : decode cX9_takesRow 25 = .ok (.goto 9, 3) := by decide +kernel
theorem dX9_takesRow_28 : decode cX9_takesRow 28 = .ok (.aload_n 0, 1) := by decide +kernel
theorem dX9_takesRow_29 : decode cX9_takesRow 29 = .ok (.getfield 53, 3) := by decide +kernel
theorem dX9_takesRow_32 : decode cX9_takesRow 32 = .ok (.iload_n 2, 1) := by decide +kernel
theorem dX9_takesRow_33 : decode cX9_takesRow 33 = .ok (.iaload, 1) := by decide +kernel
theorem dX9_takesRow_34 : decode cX9_takesRow 34 = .ok (.iastore, 1) := by decide +kernel
theorem dX9_takesRow_35 : decode cX9_takesRow 35 = .ok (.iinc 2 1, 3) := by decide +kernel
theorem dX9_takesRow_38 : decode cX9_takesRow 38 = .ok (.goto (-36), 3) := by decide +kernel
theorem dX9_takesRow_41 : decode cX9_takesRow 41 = .ok (.aload_n 0, 1) := by decide +kernel
theorem dX9_takesRow_42 : decode cX9_takesRow 42 = .ok (.dup, 1) := by decide +kernel
theorem dX9_takesRow_43 : decode cX9_takesRow 43 = .ok (.getfield 305, 3) := by decide +kernel
theorem dX9_takesRow_46 : decode cX9_takesRow 46 = .ok (.iconst 1, 1) := by decide +kernel
theorem dX9_takesRow_47 : decode cX9_takesRow 47 = .ok (.iadd, 1) := by decide +kernel
theorem dX9_takesRow_48 : decode cX9_takesRow 48 = .ok (.putfield 305, 3) := by decide +kernel
theorem dX9_takesRow_51 : decode cX9_takesRow 51 = .ok (.aload_n 0, 1) := by decide +kernel
theorem dX9_takesRow_52 : decode cX9_takesRow 52 = .ok (.dup, 1) := by decide +kernel
theorem dX9_takesRow_53 : decode cX9_takesRow 53 = .ok (.getfield 308, 3) := by decide +kernel
theorem dX9_takesRow_56 : decode cX9_takesRow 56 = .ok (.iload_n 1, 1) := by decide +kernel
theorem dX9_takesRow_57 : decode cX9_takesRow 57 = .ok (.ifCond .ne 7, 3) := by decide +kernel
theorem dX9_takesRow_60 : decode cX9_takesRow 60 = .ok (.iconst 0, 1) := by decide +kernel
theorem dX9_takesRow_61 : decode cX9_takesRow 61 = .ok (.goto 11, 3) := by decide +kernel
theorem dX9_takesRow_64 : decode cX9_takesRow 64 = .ok (.iconst 1, 1) := by decide +kernel
theorem dX9_takesRow_65 : decode cX9_takesRow 65 = .ok (.aload_n 0, 1) := by decide +kernel
theorem dX9_takesRow_66 : decode cX9_takesRow 66 = .ok (.getfield 50, 3) := by decide +kernel
theorem dX9_takesRow_69 : decode cX9_takesRow 69 = .ok (.iconst 0, 1) := by decide +kernel
theorem dX9_takesRow_70 : decode cX9_takesRow 70 = .ok (.iaload, 1) := by decide +kernel
theorem dX9_takesRow_71 : decode cX9_takesRow 71 = .ok (.ishl, 1) := by decide +kernel
theorem dX9_takesRow_72 : decode cX9_takesRow 72 = .ok (.ior, 1) := by decide +kernel
theorem dX9_takesRow_73 : decode cX9_takesRow 73 = .ok (.putfield 308, 3) := by decide +kernel
theorem dX9_takesRow_76 : decode cX9_takesRow 76 = .ok (.aload_n 0, 1) := by decide +kernel
theorem dX9_takesRow_77 : decode cX9_takesRow 77 = .ok (.dup, 1) := by decide +kernel
theorem dX9_takesRow_78 : decode cX9_takesRow 78 = .ok (.getfield 311, 3) := by decide +kernel
theorem dX9_takesRow_81 : decode cX9_takesRow 81 = .ok (.iload_n 1, 1) := by decide +kernel
theorem dX9_takesRow_82 : decode cX9_takesRow 82 = .ok (.ifCond .ne 7, 3) := by decide +kernel
theorem dX9_takesRow_85 : decode cX9_takesRow 85 = .ok (.iconst 0, 1) := by decide +kernel
theorem dX9_takesRow_86 : decode cX9_takesRow 86 = .ok (.goto 13, 3) := by decide +kernel
theorem dX9_takesRow_89 : decode cX9_takesRow 89 = .ok (.iconst 1, 1) := by decide +kernel
theorem dX9_takesRow_90 : decode cX9_takesRow 90 = .ok (.aload_n 0, 1) := by decide +kernel
theorem dX9_takesRow_91 : decode cX9_takesRow 91 = .ok (.getfield 50, 3) := by decide +kernel
theorem dX9_takesRow_94 : decode cX9_takesRow 94 = .ok (.iload_n 1, 1) := by decide +kernel
theorem dX9_takesRow_95 : decode cX9_takesRow 95 = .ok (.iconst 1, 1) := by decide +kernel
theorem dX9_takesRow_96 : decode cX9_takesRow 96 = .ok (.isub, 1) := by decide +kernel
theorem dX9_takesRow_97 : decode cX9_takesRow 97 = .ok (.iaload, 1) := by decide +kernel
theorem dX9_takesRow_98 : decode cX9_takesRow 98 = .ok (.ishl, 1) := by decide +kernel
theorem dX9_takesRow_99 : decode cX9_takesRow 99 = .ok (.ior, 1) := by decide +kernel
theorem dX9_takesRow_100 : decode cX9_takesRow 100 = .ok (.putfield 311, 3) := by decide +kernel
theorem dX9_takesRow_103 : decode cX9_takesRow 103 = .ok (.return_, 1) := by decide +kernel
theorem dX9_findRows_0 : decode cX9_findRows 0 = .ok (.aload_n 0, 1) := by decide +kernel
theorem dX9_findRows_1 : decode cX9_findRows 1 = .ok (.getfield 7, 3) := by decide +kernel
theorem dX9_findRows_4 : decode cX9_findRows 4 = .ok (.bipush 112, 2) := by decide +kernel
theorem dX9_findRows_6 : decode cX9_findRows 6 = .ok (.iaload, 1) := by decide +kernel
theorem dX9_findRows_7 : decode cX9_findRows 7 = .ok (.istore_n 1, 1) := by decide +kernel
theorem dX9_findRows_8 : decode cX9_findRows 8 = .ok (.aload_n 0, 1) := by decide +kernel
theorem dX9_findRows_9 : decode cX9_findRows 9 = .ok (.iconst 0, 1) := by decide +kernel
theorem dX9_findRows_10 : decode cX9_findRows 10 = .ok (.putfield 305, 3) := by decide +kernel
theorem dX9_findRows_13 : decode cX9_findRows 13 = .ok (.aload_n 0, 1) := by decide +kernel
theorem dX9_findRows_14 : decode cX9_findRows 14 = .ok (.iconst 0, 1) := by decide +kernel
theorem dX9_findRows_15 : decode cX9_findRows 15 = .ok (.putfield 308, 3) := by decide +kernel
theorem dX9_findRows_18 : decode cX9_findRows 18 = .ok (.aload_n 0, 1) := by decide +kernel
theorem dX9_findRows_19 : decode cX9_findRows 19 = .ok (.iconst 0, 1) := by decide +kernel
theorem dX9_findRows_20 : decode cX9_findRows 20 = .ok (.putfield 311, 3) := by decide +kernel
theorem dX9_findRows_23 : decode cX9_findRows 23 = .ok (.iload_n 1, 1) := by decide +kernel
theorem dX9_findRows_24 : decode cX9_findRows 24 = .ok (.ifCond .ne 9, 3) := by decide +kernel
theorem dX9_findRows_27 : decode cX9_findRows 27 = .ok (.aload_n 0, 1) := by decide +kernel
theorem dX9_findRows_28 : decode cX9_findRows 28 = .ok (.iconst 0, 1) := by decide +kernel
theorem dX9_findRows_29 : decode cX9_findRows 29 = .ok (.invokevirtual 314, 3) := by decide +kernel
theorem dX9_findRows_32 : decode cX9_findRows 32 = .ok (.return_, 1) := by decide +kernel
theorem dX9_findRows_33 : decode cX9_findRows 33 = .ok (.iconst 0, 1) := by decide +kernel
theorem dX9_findRows_34 : decode cX9_findRows 34 = .ok (.istore_n 2, 1) := by decide +kernel
theorem dX9_findRows_35 : decode cX9_findRows 35 = .ok (.iconst 0, 1) := by decide +kernel
theorem dX9_findRows_36 : decode cX9_findRows 36 = .ok (.istore_n 3, 1) := by decide +kernel
theorem dX9_findRows_37 : decode cX9_findRows 37 = .ok (.iconst 0, 1) := by decide +kernel
theorem dX9_findRows_38 : decode cX9_findRows 38 = .ok (.istore 4, 2) := by decide +kernel
theorem dX9_findRows_40 : decode cX9_findRows 40 = .ok (.iload_n 2, 1) := by decide +kernel
theorem dX9_findRows_41 : decode cX9_findRows 41 = .ok (.ifCond .lt 127, 3) := by decide +kernel
theorem dX9_findRows_44 : decode cX9_findRows 44 = .ok (.iload 4, 2) := by decide +kernel
theorem dX9_findRows_46 : decode cX9_findRows 46 = .ok (.aload_n 0, 1) := by decide +kernel
theorem dX9_findRows_47 : decode cX9_findRows 47 = .ok (.getfield 7, 3) := by decide +kernel
theorem dX9_findRows_50 : decode cX9_findRows 50 = .ok (.iconst 0, 1) := by decide +kernel
theorem dX9_findRows_51 : decode cX9_findRows 51 = .ok (.iaload, 1) := by decide +kernel
theorem dX9_findRows_52 : decode cX9_findRows 52 = .ok (.if_icmp .ne 48, 3) := by decide +kernel
theorem dX9_findRows_55 : decode cX9_findRows 55 = .ok (.iinc 2 (-1), 3) := by decide +kernel
theorem dX9_findRows_58 : decode cX9_findRows 58 = .ok (.iload_n 2, 1) := by decide +kernel
theorem dX9_findRows_59 : decode cX9_findRows 59 = .ok (.ifCond .ge 7, 3) := by decide +kernel
theorem dX9_findRows_62 : decode cX9_findRows 62 = .ok (.iconst 0, 1) := by decide +kernel
theorem dX9_findRows_63 : decode cX9_findRows 63 = .ok (.goto 11, 3) := by decide +kernel
theorem dX9_findRows_66 : decode cX9_findRows 66 = .ok (.aload_n 0, 1) := by decide +kernel
theorem dX9_findRows_67 : decode cX9_findRows 67 = .ok (.getfield 50, 3) := by decide +kernel
theorem dX9_findRows_70 : decode cX9_findRows 70 = .ok (.iload_n 2, 1) := by decide +kernel
theorem dX9_findRows_71 : decode cX9_findRows 71 = .ok (.iaload, 1) := by decide +kernel
theorem dX9_findRows_72 : decode cX9_findRows 72 = .ok (.iconst 1, 1) := by decide +kernel
theorem dX9_findRows_73 : decode cX9_findRows 73 = .ok (.iadd, 1) := by decide +kernel
theorem dX9_findRows_74 : decode cX9_findRows 74 = .ok (.istore 4, 2) := by decide +kernel
theorem dX9_findRows_76 : decode cX9_findRows 76 = .ok (.iload_n 2, 1) := by decide +kernel
theorem dX9_findRows_77 : decode cX9_findRows 77 = .ok (.ifCond .ge 7, 3) := by decide +kernel
theorem dX9_findRows_80 : decode cX9_findRows 80 = .ok (.iconst 0, 1) := by decide +kernel
theorem dX9_findRows_81 : decode cX9_findRows 81 = .ok (.goto 15, 3) := by decide +kernel
theorem dX9_findRows_84 : decode cX9_findRows 84 = .ok (.iload_n 3, 1) := by decide +kernel
theorem dX9_findRows_85 : decode cX9_findRows 85 = .ok (.iconst 1, 1) := by decide +kernel
theorem dX9_findRows_86 : decode cX9_findRows 86 = .ok (.aload_n 0, 1) := by decide +kernel
theorem dX9_findRows_87 : decode cX9_findRows 87 = .ok (.getfield 50, 3) := by decide +kernel
theorem dX9_findRows_90 : decode cX9_findRows 90 = .ok (.iload_n 2, 1) := by decide +kernel
theorem dX9_findRows_91 : decode cX9_findRows 91 = .ok (.iaload, 1) := by decide +kernel
theorem dX9_findRows_92 : decode cX9_findRows 92 = .ok (.ishl, 1) := by decide +kernel
theorem dX9_findRows_93 : decode cX9_findRows 93 = .ok (.iconst (-1), 1) := by decide +kernel
theorem dX9_findRows_94 : decode cX9_findRows 94 = .ok (.ixor, 1) := by decide +kernel
theorem dX9_findRows_95 : decode cX9_findRows 95 = .ok (.iand, 1) := by decide +kernel
theorem dX9_findRows_96 : decode cX9_findRows 96 = .ok (.istore_n 3, 1) := by decide +kernel
theorem dX9_findRows_97 : decode cX9_findRows 97 = .ok (.goto (-57), 3) := by decide +kernel
theorem dX9_findRows_100 : decode cX9_findRows 100 = .ok (.iload_n 3, 1) := by decide +kernel
theorem dX9_findRows_101 : decode cX9_findRows 101 = .ok (.iload 4, 2) := by decide +kernel
theorem dX9_findRows_103 : decode cX9_findRows 103 = .ok (.ishr, 1) := by decide +kernel
theorem dX9_findRows_104 : decode cX9_findRows 104 = .ok (.iconst 1, 1) := by decide +kernel
theorem dX9_findRows_105 : decode cX9_findRows 105 = .ok (.iand, 1) := by decide +kernel
theorem dX9_findRows_106 : decode cX9_findRows 106 = .ok (.iconst 1, 1) := by decide +kernel
theorem dX9_findRows_107 : decode cX9_findRows 107 = .ok (.if_icmp .eq 13, 3) := by decide +kernel
theorem dX9_findRows_110 : decode cX9_findRows 110 = .ok (.aload_n 0, 1) := by decide +kernel
theorem dX9_findRows_111 : decode cX9_findRows 111 = .ok (.iload_n 2, 1) := by decide +kernel
theorem dX9_findRows_112 : decode cX9_findRows 112 = .ok (.iload 4, 2) := by decide +kernel
theorem dX9_findRows_114 : decode cX9_findRows 114 = .ok (.invokevirtual 317, 3) := by decide +kernel
theorem dX9_findRows_117 : decode cX9_findRows 117 = .ok (.ifCond .ne 9, 3) := by decide +kernel
theorem dX9_findRows_120 : decode cX9_findRows 120 = .ok (.iinc 4 1, 3) := by decide +kernel
theorem dX9_findRows_123 : decode cX9_findRows 123 = .ok (.goto (-83), 3) := by decide +kernel
theorem dX9_findRows_126 : decode cX9_findRows 126 = .ok (.aload_n 0, 1) := by decide +kernel
theorem dX9_findRows_127 : decode cX9_findRows 127 = .ok (.getfield 50, 3) := by decide +kernel
theorem dX9_findRows_130 : decode cX9_findRows 130 = .ok (.iload_n 2, 1) := by decide +kernel
theorem dX9_findRows_131 : decode cX9_findRows 131 = .ok (.iload 4, 2) := by decide +kernel
theorem dX9_findRows_133 : decode cX9_findRows 133 = .ok (.iastore, 1) := by decide +kernel
theorem dX9_findRows_134 : decode cX9_findRows 134 = .ok (.iload_n 2, 1) := by decide +kernel
theorem dX9_findRows_135 : decode cX9_findRows 135 = .ok (.iload_n 1, 1) := by decide +kernel
theorem dX9_findRows_136 : decode cX9_findRows 136 = .ok (.iconst 1, 1) := by decide +kernel
theorem dX9_findRows_137 : decode cX9_findRows 137 = .ok (.isub, 1) := by decide +kernel
theorem dX9_findRows_138 : decode cX9_findRows 138 = .ok (.if_icmp .ne 14, 3) := by decide +kernel
theorem dX9_findRows_141 : decode cX9_findRows 141 = .ok (.aload_n 0, 1) := by decide +kernel
theorem dX9_findRows_142 : decode cX9_findRows 142 = .ok (.iload_n 1, 1) := by decide +kernel
theorem dX9_findRows_143 : decode cX9_findRows 143 = .ok (.invokevirtual 314, 3) := by decide +kernel
theorem dX9_findRows_146 : decode cX9_findRows 146 = .ok (.iinc 4 1, 3) := by decide +kernel
theorem dX9_findRows_149 : decode cX9_findRows 149 = .ok (.goto (-109), 3) := by decide +kernel
theorem dX9_findRows_152 : decode cX9_findRows 152 = .ok (.iload_n 3, 1) := by decide +kernel
theorem dX9_findRows_153 : decode cX9_findRows 153 = .ok (.iconst 1, 1) := by decide +kernel
theorem dX9_findRows_154 : decode cX9_findRows 154 = .ok (.iload 4, 2) := by decide +kernel
theorem dX9_findRows_156 : decode cX9_findRows 156 = .ok (.ishl, 1) := by decide +kernel
theorem dX9_findRows_157 : decode cX9_findRows 157 = .ok (.ior, 1) := by decide +kernel
theorem dX9_findRows_158 : decode cX9_findRows 158 = .ok (.istore_n 3, 1) := by decide +kernel
theorem dX9_findRows_159 : decode cX9_findRows 159 = .ok (.iinc 2 1, 3) := by decide +kernel
theorem dX9_findRows_162 : decode cX9_findRows 162 = .ok (.iconst 0, 1) := by decide +kernel
theorem dX9_findRows_163 : decode cX9_findRows 163 = .ok (.istore 4, 2) := by decide +kernel
theorem dX9_findRows_165 : decode cX9_findRows 165 = .ok (.goto (-125), 3) := by decide +kernel
theorem dX9_findRows_168 : decode cX9_findRows 168 = .ok (.return_, 1) := by decide +kernel
theorem dX9_rows_0 : decode cX9_rows 0 = .ok (.iload_n 1, 1) := by decide +kernel
theorem dX9_rows_1 : decode cX9_rows 1 = .ok (.ifCond .eq 27, 3) := by decide +kernel
theorem dX9_rows_4 : decode cX9_rows 4 = .ok (.iload_n 1, 1) := by decide +kernel
theorem dX9_rows_5 : decode cX9_rows 5 = .ok (.i2l, 1) := by decide +kernel
theorem dX9_rows_6 : decode cX9_rows 6 = .ok (.ldc2_w 184, 3) := by decide +kernel
theorem dX9_rows_9 : decode cX9_rows 9 = .ok (.bipush 9, 2) := by decide +kernel
theorem dX9_rows_11 : decode cX9_rows 11 = .ok (.aload_n 0, 1) := by decide +kernel
theorem dX9_rows_12 : decode cX9_rows 12 = .ok (.getfield 7, 3) := by decide +kernel
theorem dX9_rows_15 : decode cX9_rows 15 = .ok (.bipush 112, 2) := by decide +kernel
theorem dX9_rows_17 : decode cX9_rows 17 = .ok (.iaload, 1) := by decide +kernel
theorem dX9_rows_18 : decode cX9_rows 18 = .ok (.iadd, 1) := by decide +kernel
theorem dX9_rows_19 : decode cX9_rows 19 = .ok (.i2l, 1) := by decide +kernel
theorem dX9_rows_20 : decode cX9_rows 20 = .ok (.invokestatic 93, 3) := by decide +kernel
theorem dX9_rows_23 : decode cX9_rows 23 = .ok (.ifCond .ne 5, 3) := by decide +kernel
theorem dX9_rows_26 : decode cX9_rows 26 = .ok (.iconst (-1), 1) := by decide +kernel
theorem dX9_rows_27 : decode cX9_rows 27 = .ok (.ireturn, 1) := by decide +kernel
theorem dX9_rows_28 : decode cX9_rows 28 = .ok (.aload_n 0, 1) := by decide +kernel
theorem dX9_rows_29 : decode cX9_rows 29 = .ok (.invokevirtual 320, 3) := by decide +kernel
theorem dX9_rows_32 : decode cX9_rows 32 = .ok (.iload_n 1, 1) := by decide +kernel
theorem dX9_rows_33 : decode cX9_rows 33 = .ok (.ifCond .ne 10, 3) := by decide +kernel
theorem dX9_rows_36 : decode cX9_rows 36 = .ok (.aload_n 0, 1) := by decide +kernel
theorem dX9_rows_37 : decode cX9_rows 37 = .ok (.getfield 305, 3) := by decide +kernel
theorem dX9_rows_40 : decode cX9_rows 40 = .ok (.goto 24, 3) := by decide +kernel
theorem dX9_rows_43 : decode cX9_rows 43 = .ok (.aload_n 0, 1) := by decide +kernel
theorem dX9_rows_44 : decode cX9_rows 44 = .ok (.getfield 305, 3) := by decide +kernel
theorem dX9_rows_47 : decode cX9_rows 47 = .ok (.ifCond .ne 8, 3) := by decide +kernel
theorem dX9_rows_50 : decode cX9_rows 50 = .ok (.bipush (-4), 2) := by decide +kernel
theorem dX9_rows_52 : decode cX9_rows 52 = .ok (.goto 12, 3) := by decide +kernel
theorem dX9_rows_55 : decode cX9_rows 55 = .ok (.aload_n 0, 1) := by decide +kernel
theorem dX9_rows_56 : decode cX9_rows 56 = .ok (.getfield 53, 3) := by decide +kernel
theorem dX9_rows_59 : decode cX9_rows 59 = .ok (.iload_n 1, 1) := by decide +kernel
theorem dX9_rows_60 : decode cX9_rows 60 = .ok (.bipush 10, 2) := by decide +kernel
theorem dX9_rows_62 : decode cX9_rows 62 = .ok (.isub, 1) := by decide +kernel
theorem dX9_rows_63 : decode cX9_rows 63 = .ok (.iaload, 1) := by decide +kernel
theorem dX9_rows_64 : decode cX9_rows 64 = .ok (.ireturn, 1) := by decide +kernel
theorem dX9_whose_0 : decode cX9_whose 0 = .ok (.iload_n 1, 1) := by decide +kernel
theorem dX9_whose_1 : decode cX9_whose 1 = .ok (.i2l, 1) := by decide +kernel
theorem dX9_whose_2 : decode cX9_whose 2 = .ok (.lconst 0, 1) := by decide +kernel
theorem dX9_whose_3 : decode cX9_whose 3 = .ok (.lconst 1, 1) := by decide +kernel
theorem dX9_whose_4 : decode cX9_whose 4 = .ok (.invokestatic 93, 3) := by decide +kernel
theorem dX9_whose_7 : decode cX9_whose 7 = .ok (.ifCond .ne 5, 3) := by decide +kernel
theorem dX9_whose_10 : decode cX9_whose 10 = .ok (.iconst (-1), 1) := by decide +kernel
theorem dX9_whose_11 : decode cX9_whose 11 = .ok (.ireturn, 1) := by decide +kernel
theorem dX9_whose_12 : decode cX9_whose 12 = .ok (.aload_n 0, 1) := by decide +kernel
theorem dX9_whose_13 : decode cX9_whose 13 = .ok (.getfield 7, 3) := by decide +kernel
theorem dX9_whose_16 : decode cX9_whose 16 = .ok (.bipush 112, 2) := by decide +kernel
theorem dX9_whose_18 : decode cX9_whose 18 = .ok (.iaload, 1) := by decide +kernel
theorem dX9_whose_19 : decode cX9_whose 19 = .ok (.ifCond .ne 6, 3) := by decide +kernel
theorem dX9_whose_22 : decode cX9_whose 22 = .ok (.bipush (-2), 2) := by decide +kernel
theorem dX9_whose_24 : decode cX9_whose 24 = .ok (.ireturn, 1) := by decide +kernel
theorem dX9_whose_25 : decode cX9_whose 25 = .ok (.aload_n 0, 1) := by decide +kernel
theorem dX9_whose_26 : decode cX9_whose 26 = .ok (.invokevirtual 320, 3) := by decide +kernel
theorem dX9_whose_29 : decode cX9_whose 29 = .ok (.iload_n 1, 1) := by decide +kernel
theorem dX9_whose_30 : decode cX9_whose 30 = .ok (.ifCond .ne 10, 3) := by decide +kernel
theorem dX9_whose_33 : decode cX9_whose 33 = .ok (.aload_n 0, 1) := by decide +kernel
theorem dX9_whose_34 : decode cX9_whose 34 = .ok (.getfield 308, 3) := by decide +kernel
theorem dX9_whose_37 : decode cX9_whose 37 = .ok (.goto 7, 3) := by decide +kernel
theorem dX9_whose_40 : decode cX9_whose 40 = .ok (.aload_n 0, 1) := by decide +kernel
theorem dX9_whose_41 : decode cX9_whose 41 = .ok (.getfield 311, 3) := by decide +kernel
theorem dX9_whose_44 : decode cX9_whose 44 = .ok (.ireturn, 1) := by decide +kernel
theorem dX9_findLeft_0 : decode cX9_findLeft 0 = .ok (.aload_n 0, 1) := by decide +kernel
theorem dX9_findLeft_1 : decode cX9_findLeft 1 = .ok (.sipush 597, 3) := by decide +kernel
theorem dX9_findLeft_4 : decode cX9_findLeft 4 = .ok (.iconst 0, 1) := by decide +kernel
theorem dX9_findLeft_5 : decode cX9_findLeft 5 = .ok (.invokevirtual 267, 3) := by decide +kernel
theorem dX9_findLeft_8 : decode cX9_findLeft 8 = .ok (.aload_n 0, 1) := by decide +kernel
theorem dX9_findLeft_9 : decode cX9_findLeft 9 = .ok (.iconst 0, 1) := by decide +kernel
theorem dX9_findLeft_10 : decode cX9_findLeft 10 = .ok (.sipush 199, 3) := by decide +kernel
theorem dX9_findLeft_13 : decode cX9_findLeft 13 = .ok (.iload_n 1, 1) := by decide +kernel
theorem dX9_findLeft_14 : decode cX9_findLeft 14 = .ok (.iconst 1, 1) := by decide +kernel
theorem dX9_findLeft_15 : decode cX9_findLeft 15 = .ok (.iadd, 1) := by decide +kernel
theorem dX9_findLeft_16 : decode cX9_findLeft 16 = .ok (.imul, 1) := by decide +kernel
theorem dX9_findLeft_17 : decode cX9_findLeft 17 = .ok (.invokevirtual 267, 3) := by decide +kernel
theorem dX9_findLeft_20 : decode cX9_findLeft 20 = .ok (.aload_n 0, 1) := by decide +kernel
theorem dX9_findLeft_21 : decode cX9_findLeft 21 = .ok (.iload_n 2, 1) := by decide +kernel
theorem dX9_findLeft_22 : decode cX9_findLeft 22 = .ok (.invokevirtual 248, 3) := by decide +kernel
theorem dX9_findLeft_25 : decode cX9_findLeft 25 = .ok (.pop, 1) := by decide +kernel
theorem dX9_findLeft_26 : decode cX9_findLeft 26 = .ok (.aload_n 0, 1) := by decide +kernel
theorem dX9_findLeft_27 : decode cX9_findLeft 27 = .ok (.iconst 0, 1) := by decide +kernel
theorem dX9_findLeft_28 : decode cX9_findLeft 28 = .ok (.putfield 323, 3) := by decide +kernel
theorem dX9_findLeft_31 : decode cX9_findLeft 31 = .ok (.iconst 0, 1) := by decide +kernel
theorem dX9_findLeft_32 : decode cX9_findLeft 32 = .ok (.istore_n 3, 1) := by decide +kernel
theorem dX9_findLeft_33 : decode cX9_findLeft 33 = .ok (.iload_n 3, 1) := by decide +kernel
theorem dX9_findLeft_34 : decode cX9_findLeft 34 = .ok (.aload_n 0, 1) := by decide +kernel
theorem dX9_findLeft_35 : decode cX9_findLeft 35 = .ok (.getfield 7, 3) := by decide +kernel
theorem dX9_findLeft_38 : decode cX9_findLeft 38 = .ok (.bipush 41, 2) := by decide +kernel
theorem dX9_findLeft_40 : decode cX9_findLeft 40 = .ok (.iaload, 1) := by decide +kernel
theorem dX9_findLeft_41 : decode cX9_findLeft 41 = .ok (.if_icmp .ge 67, 3) := by decide +kernel
theorem dX9_findLeft_44 : decode cX9_findLeft 44 = .ok (.aload_n 0, 1) := by decide +kernel
theorem dX9_findLeft_45 : decode cX9_findLeft 45 = .ok (.dup, 1) := by decide +kernel
theorem dX9_findLeft_46 : decode cX9_findLeft 46 = .ok (.getfield 323, 3) := by decide +kernel
theorem dX9_findLeft_49 : decode cX9_findLeft 49 = .ok (.aload_n 0, 1) := by decide +kernel
theorem dX9_findLeft_50 : decode cX9_findLeft 50 = .ok (.iload_n 3, 1) := by decide +kernel
theorem dX9_findLeft_51 : decode cX9_findLeft 51 = .ok (.iconst 0, 1) := by decide +kernel
theorem dX9_findLeft_52 : decode cX9_findLeft 52 = .ok (.invokevirtual 172, 3) := by decide +kernel
theorem dX9_findLeft_55 : decode cX9_findLeft 55 = .ok (.iload_n 2, 1) := by decide +kernel
theorem dX9_findLeft_56 : decode cX9_findLeft 56 = .ok (.if_icmp .ne 36, 3) := by decide +kernel
theorem dX9_findLeft_59 : decode cX9_findLeft 59 = .ok (.aload_n 0, 1) := by decide +kernel
theorem dX9_findLeft_60 : decode cX9_findLeft 60 = .ok (.iload_n 3, 1) := by decide +kernel
theorem dX9_findLeft_61 : decode cX9_findLeft 61 = .ok (.invokevirtual 254, 3) := by decide +kernel
theorem dX9_findLeft_64 : decode cX9_findLeft 64 = .ok (.ifCond .ne 28, 3) := by decide +kernel
theorem dX9_findLeft_67 : decode cX9_findLeft 67 = .ok (.aload_n 0, 1) := by decide +kernel
theorem dX9_findLeft_68 : decode cX9_findLeft 68 = .ok (.getfield 29, 3) := by decide +kernel
theorem dX9_findLeft_71 : decode cX9_findLeft 71 = .ok (.iload_n 3, 1) := by decide +kernel
theorem dX9_findLeft_72 : decode cX9_findLeft 72 = .ok (.iaload, 1) := by decide +kernel
theorem dX9_findLeft_73 : decode cX9_findLeft 73 = .ok (.bipush (-4), 2) := by decide +kernel
theorem dX9_findLeft_75 : decode cX9_findLeft 75 = .ok (.if_icmp .ne 17, 3) := by decide +kernel
theorem dX9_findLeft_78 : decode cX9_findLeft 78 = .ok (.aload_n 0, 1) := by decide +kernel
theorem dX9_findLeft_79 : decode cX9_findLeft 79 = .ok (.iload_n 3, 1) := by decide +kernel
theorem dX9_findLeft_80 : decode cX9_findLeft 80 = .ok (.iconst 1, 1) := by decide +kernel
theorem dX9_findLeft_81 : decode cX9_findLeft 81 = .ok (.invokevirtual 172, 3) := by decide +kernel
theorem dX9_findLeft_84 : decode cX9_findLeft 84 = .ok (.iconst 4, 1) := by decide +kernel
theorem dX9_findLeft_85 : decode cX9_findLeft 85 = .ok (.if_icmp .eq 7, 3) := by decide +kernel
theorem dX9_findLeft_88 : decode cX9_findLeft 88 = .ok (.iconst 1, 1) := by decide +kernel
theorem dX9_findLeft_89 : decode cX9_findLeft 89 = .ok (.goto 4, 3) := by decide +kernel
theorem dX9_findLeft_92 : decode cX9_findLeft 92 = .ok (.iconst 0, 1) := by decide +kernel
theorem dX9_findLeft_93 : decode cX9_findLeft 93 = .ok (.invokestatic 219, 3) := by decide +kernel
theorem dX9_findLeft_96 : decode cX9_findLeft 96 = .ok (.iload_n 3, 1) := by decide +kernel
theorem dX9_findLeft_97 : decode cX9_findLeft 97 = .ok (.ishl, 1) := by decide +kernel
theorem dX9_findLeft_98 : decode cX9_findLeft 98 = .ok (.ior, 1) := by decide +kernel
theorem dX9_findLeft_99 : decode cX9_findLeft 99 = .ok (.putfield 323, 3) := by decide +kernel
theorem dX9_findLeft_102 : decode cX9_findLeft 102 = .ok (.iinc 3 1, 3) := by decide +kernel
theorem dX9_findLeft_105 : decode cX9_findLeft 105 = .ok (.goto (-72), 3) := by decide +kernel
theorem dX9_findLeft_108 : decode cX9_findLeft 108 = .ok (.aload_n 0, 1) := by decide +kernel
theorem dX9_findLeft_109 : decode cX9_findLeft 109 = .ok (.iconst 0, 1) := by decide +kernel
theorem dX9_findLeft_110 : decode cX9_findLeft 110 = .ok (.sipush 597, 3) := by decide +kernel
theorem dX9_findLeft_113 : decode cX9_findLeft 113 = .ok (.invokevirtual 267, 3) := by decide +kernel
theorem dX9_findLeft_116 : decode cX9_findLeft 116 = .ok (.return_, 1) := by decide +kernel
theorem dX9_lend_0 : decode cX9_lend 0 = .ok (.iload_n 1, 1) := by decide +kernel
theorem dX9_lend_1 : decode cX9_lend 1 = .ok (.i2l, 1) := by decide +kernel
theorem dX9_lend_2 : decode cX9_lend 2 = .ok (.lconst 0, 1) := by decide +kernel
theorem dX9_lend_3 : decode cX9_lend 3 = .ok (.lconst 1, 1) := by decide +kernel
theorem dX9_lend_4 : decode cX9_lend 4 = .ok (.invokestatic 93, 3) := by decide +kernel
theorem dX9_lend_7 : decode cX9_lend 7 = .ok (.ifCond .eq 20, 3) := by decide +kernel
theorem dX9_lend_10 : decode cX9_lend 10 = .ok (.iload_n 2, 1) := by decide +kernel
theorem dX9_lend_11 : decode cX9_lend 11 = .ok (.invokestatic 216, 3) := by decide +kernel
theorem dX9_lend_14 : decode cX9_lend 14 = .ok (.ifCond .eq 13, 3) := by decide +kernel
theorem dX9_lend_17 : decode cX9_lend 17 = .ok (.iload_n 3, 1) := by decide +kernel
theorem dX9_lend_18 : decode cX9_lend 18 = .ok (.i2l, 1) := by decide +kernel
theorem dX9_lend_19 : decode cX9_lend 19 = .ok (.lconst 0, 1) := by decide +kernel
theorem dX9_lend_20 : decode cX9_lend 20 = .ok (.lconst 1, 1) := by decide +kernel
theorem dX9_lend_21 : decode cX9_lend 21 = .ok (.invokestatic 93, 3) := by decide +kernel
theorem dX9_lend_24 : decode cX9_lend 24 = .ok (.ifCond .ne 5, 3) := by decide +kernel
theorem dX9_lend_27 : decode cX9_lend 27 = .ok (.iconst (-1), 1) := by decide +kernel
theorem dX9_lend_28 : decode cX9_lend 28 = .ok (.ireturn, 1) := by decide +kernel
theorem dX9_lend_29 : decode cX9_lend 29 = .ok (.aload_n 0, 1) := by decide +kernel
theorem dX9_lend_30 : decode cX9_lend 30 = .ok (.getfield 13, 3) := by decide +kernel
theorem dX9_lend_33 : decode cX9_lend 33 = .ok (.iload_n 1, 1) := by decide +kernel
theorem dX9_lend_34 : decode cX9_lend 34 = .ok (.baload, 1) := by decide +kernel
theorem dX9_lend_35 : decode cX9_lend 35 = .ok (.ifCond .ne 6, 3) := by decide +kernel
theorem dX9_lend_38 : decode cX9_lend 38 = .ok (.bipush (-2), 2) := by decide +kernel
theorem dX9_lend_40 : decode cX9_lend 40 = .ok (.ireturn, 1) := by decide +kernel
theorem dX9_lend_41 : decode cX9_lend 41 = .ok (.aload_n 0, 1) := by decide +kernel
theorem dX9_lend_42 : decode cX9_lend 42 = .ok (.iload_n 1, 1) := by decide +kernel
theorem dX9_lend_43 : decode cX9_lend 43 = .ok (.iload_n 2, 1) := by decide +kernel
theorem dX9_lend_44 : decode cX9_lend 44 = .ok (.invokevirtual 326, 3) := by decide +kernel
theorem dX9_lend_47 : decode cX9_lend 47 = .ok (.aload_n 0, 1) := by decide +kernel
theorem dX9_lend_48 : decode cX9_lend 48 = .ok (.iload_n 2, 1) := by decide +kernel
theorem dX9_lend_49 : decode cX9_lend 49 = .ok (.invokevirtual 238, 3) := by decide +kernel
theorem dX9_lend_52 : decode cX9_lend 52 = .ok (.aload_n 0, 1) := by decide +kernel
theorem dX9_lend_53 : decode cX9_lend 53 = .ok (.invokevirtual 241, 3) := by decide +kernel
theorem dX9_lend_56 : decode cX9_lend 56 = .ok (.istore 4, 2) := by decide +kernel
theorem dX9_lend_58 : decode cX9_lend 58 = .ok (.iconst 0, 1) := by decide +kernel
theorem dX9_lend_59 : decode cX9_lend 59 = .ok (.istore 5, 2) := by decide +kernel
theorem dX9_lend_61 : decode cX9_lend 61 = .ok (.iload 5, 2) := by decide +kernel
theorem dX9_lend_63 : decode cX9_lend 63 = .ok (.aload_n 0, 1) := by decide +kernel
theorem dX9_lend_64 : decode cX9_lend 64 = .ok (.getfield 223, 3) := by decide +kernel
theorem dX9_lend_67 : decode cX9_lend 67 = .ok (.if_icmp .ge 102, 3) := by decide +kernel
theorem dX9_lend_70 : decode cX9_lend 70 = .ok (.iconst 0, 1) := by decide +kernel
theorem dX9_lend_71 : decode cX9_lend 71 = .ok (.istore 6, 2) := by decide +kernel
theorem dX9_lend_73 : decode cX9_lend 73 = .ok (.iload 6, 2) := by decide +kernel
theorem dX9_lend_75 : decode cX9_lend 75 = .ok (.bipush 10, 2) := by decide +kernel
theorem dX9_lend_77 : decode cX9_lend 77 = .ok (.if_icmp .ge 86, 3) := by decide +kernel
theorem dX9_lend_80 : decode cX9_lend 80 = .ok (.aload_n 0, 1) := by decide +kernel
theorem dX9_lend_81 : decode cX9_lend 81 = .ok (.getfield 323, 3) := by decide +kernel
theorem dX9_lend_84 : decode cX9_lend 84 = .ok (.iload 6, 2) := by decide +kernel
theorem dX9_lend_86 : decode cX9_lend 86 = .ok (.ishr, 1) := by decide +kernel
theorem dX9_lend_87 : decode cX9_lend 87 = .ok (.iconst 1, 1) := by decide +kernel
theorem dX9_lend_88 : decode cX9_lend 88 = .ok (.iand, 1) := by decide +kernel
theorem dX9_lend_89 : decode cX9_lend 89 = .ok (.iconst 1, 1) := by decide +kernel
theorem dX9_lend_90 : decode cX9_lend 90 = .ok (.if_icmp .ne 43, 3) := by decide +kernel
theorem dX9_lend_93 : decode cX9_lend 93 = .ok (.aload_n 0, 1) := by decide +kernel
theorem dX9_lend_94 : decode cX9_lend 94 = .ok (.sipush 199, 3) := by decide +kernel
theorem dX9_lend_97 : decode cX9_lend 97 = .ok (.iload_n 1, 1) := by decide +kernel
theorem dX9_lend_98 : decode cX9_lend 98 = .ok (.iconst 1, 1) := by decide +kernel
theorem dX9_lend_99 : decode cX9_lend 99 = .ok (.iadd, 1) := by decide +kernel
theorem dX9_lend_100 : decode cX9_lend 100 = .ok (.imul, 1) := by decide +kernel
theorem dX9_lend_101 : decode cX9_lend 101 = .ok (.bipush 42, 2) := by decide +kernel
theorem dX9_lend_103 : decode cX9_lend 103 = .ok (.iadd, 1) := by decide +kernel
theorem dX9_lend_104 : decode cX9_lend 104 = .ok (.bipush 7, 2) := by decide +kernel
theorem dX9_lend_106 : decode cX9_lend 106 = .ok (.iload 6, 2) := by decide +kernel
theorem dX9_lend_108 : decode cX9_lend 108 = .ok (.imul, 1) := by decide +kernel
theorem dX9_lend_109 : decode cX9_lend 109 = .ok (.iadd, 1) := by decide +kernel
theorem dX9_lend_110 : decode cX9_lend 110 = .ok (.iload 5, 2) := by decide +kernel
theorem dX9_lend_112 : decode cX9_lend 112 = .ok (.aload_n 0, 1) := by decide +kernel
theorem dX9_lend_113 : decode cX9_lend 113 = .ok (.getfield 7, 3) := by decide +kernel
theorem dX9_lend_116 : decode cX9_lend 116 = .ok (.iconst 1, 1) := by decide +kernel
theorem dX9_lend_117 : decode cX9_lend 117 = .ok (.iconst 5, 1) := by decide +kernel
theorem dX9_lend_118 : decode cX9_lend 118 = .ok (.iload 5, 2) := by decide +kernel
theorem dX9_lend_120 : decode cX9_lend 120 = .ok (.imul, 1) := by decide +kernel
theorem dX9_lend_121 : decode cX9_lend 121 = .ok (.iadd, 1) := by decide +kernel
theorem dX9_lend_122 : decode cX9_lend 122 = .ok (.iaload, 1) := by decide +kernel
theorem dX9_lend_123 : decode cX9_lend 123 = .ok (.invokevirtual 202, 3) := by decide +kernel
theorem dX9_lend_126 : decode cX9_lend 126 = .ok (.ifCond .le 7, 3) := by decide +kernel
theorem dX9_lend_129 : decode cX9_lend 129 = .ok (.iconst 1, 1) := by decide +kernel
theorem dX9_lend_130 : decode cX9_lend 130 = .ok (.goto 4, 3) := by decide +kernel
theorem dX9_lend_133 : decode cX9_lend 133 = .ok (.iconst 0, 1) := by decide +kernel
theorem dX9_lend_134 : decode cX9_lend 134 = .ok (.istore 7, 2) := by decide +kernel
theorem dX9_lend_136 : decode cX9_lend 136 = .ok (.aload_n 0, 1) := by decide +kernel
theorem dX9_lend_137 : decode cX9_lend 137 = .ok (.getfield 23, 3) := by decide +kernel
theorem dX9_lend_140 : decode cX9_lend 140 = .ok (.iload 5, 2) := by decide +kernel
theorem dX9_lend_142 : decode cX9_lend 142 = .ok (.dup2, 1) := by decide +kernel
theorem dX9_lend_143 : decode cX9_lend 143 = .ok (.iaload, 1) := by decide +kernel
theorem dX9_lend_144 : decode cX9_lend 144 = .ok (.iload 7, 2) := by decide +kernel
theorem dX9_lend_146 : decode cX9_lend 146 = .ok (.invokestatic 219, 3) := by decide +kernel
theorem dX9_lend_149 : decode cX9_lend 149 = .ok (.bipush 10, 2) := by decide +kernel
theorem dX9_lend_151 : decode cX9_lend 151 = .ok (.iload 6, 2) := by decide +kernel
theorem dX9_lend_153 : decode cX9_lend 153 = .ok (.iadd, 1) := by decide +kernel
theorem dX9_lend_154 : decode cX9_lend 154 = .ok (.ishl, 1) := by decide +kernel
theorem dX9_lend_155 : decode cX9_lend 155 = .ok (.ior, 1) := by decide +kernel
theorem dX9_lend_156 : decode cX9_lend 156 = .ok (.iastore, 1) := by decide +kernel
theorem dX9_lend_157 : decode cX9_lend 157 = .ok (.iinc 6 1, 3) := by decide +kernel
theorem dX9_lend_160 : decode cX9_lend 160 = .ok (.goto (-87), 3) := by decide +kernel
theorem dX9_lend_163 : decode cX9_lend 163 = .ok (.iinc 5 1, 3) := by decide +kernel
theorem dX9_lend_166 : decode cX9_lend 166 = .ok (.goto (-105), 3) := by decide +kernel
theorem dX9_lend_169 : decode cX9_lend 169 = .ok (.aload_n 0, 1) := by decide +kernel
theorem dX9_lend_170 : decode cX9_lend 170 = .ok (.invokevirtual 241, 3) := by decide +kernel
theorem dX9_lend_173 : decode cX9_lend 173 = .ok (.istore 5, 2) := by decide +kernel
theorem dX9_lend_175 : decode cX9_lend 175 = .ok (.iload_n 3, 1) := by decide +kernel
theorem dX9_lend_176 : decode cX9_lend 176 = .ok (.ifCond .ne 15, 3) := by decide +kernel
theorem dX9_lend_179 : decode cX9_lend 179 = .ok (.aload_n 0, 1) := by decide +kernel
theorem dX9_lend_180 : decode cX9_lend 180 = .ok (.getfield 7, 3) := by decide +kernel
theorem dX9_lend_183 : decode cX9_lend 183 = .ok (.iconst 0, 1) := by decide +kernel
theorem dX9_lend_184 : decode cX9_lend 184 = .ok (.iaload, 1) := by decide +kernel
theorem dX9_lend_185 : decode cX9_lend 185 = .ok (.iload 5, 2) := by decide +kernel
theorem dX9_lend_187 : decode cX9_lend 187 = .ok (.isub, 1) := by decide +kernel
theorem dX9_lend_188 : decode cX9_lend 188 = .ok (.goto 8, 3) := by decide +kernel
theorem dX9_lend_191 : decode cX9_lend 191 = .ok (.iload 5, 2) := by decide +kernel
theorem dX9_lend_193 : decode cX9_lend 193 = .ok (.iload 4, 2) := by decide +kernel
theorem dX9_lend_195 : decode cX9_lend 195 = .ok (.isub, 1) := by decide +kernel
theorem dX9_lend_196 : decode cX9_lend 196 = .ok (.ireturn, 1) := by decide +kernel
theorem dX9_keep_0 : decode cX9_keep 0 = .ok (.iload_n 1, 1) := by decide +kernel
theorem dX9_keep_1 : decode cX9_keep 1 = .ok (.i2l, 1) := by decide +kernel
theorem dX9_keep_2 : decode cX9_keep 2 = .ok (.lconst 0, 1) := by decide +kernel
theorem dX9_keep_3 : decode cX9_keep 3 = .ok (.lconst 1, 1) := by decide +kernel
theorem dX9_keep_4 : decode cX9_keep 4 = .ok (.invokestatic 93, 3) := by decide +kernel
theorem dX9_keep_7 : decode cX9_keep 7 = .ok (.ifCond .ne 5, 3) := by decide +kernel
theorem dX9_keep_10 : decode cX9_keep 10 = .ok (.iconst (-1), 1) := by decide +kernel
theorem dX9_keep_11 : decode cX9_keep 11 = .ok (.ireturn, 1) := by decide +kernel
theorem dX9_keep_12 : decode cX9_keep 12 = .ok (.aload_n 0, 1) := by decide +kernel
theorem dX9_keep_13 : decode cX9_keep 13 = .ok (.getfield 13, 3) := by decide +kernel
theorem dX9_keep_16 : decode cX9_keep 16 = .ok (.iload_n 1, 1) := by decide +kernel
theorem dX9_keep_17 : decode cX9_keep 17 = .ok (.baload, 1) := by decide +kernel
theorem dX9_keep_18 : decode cX9_keep 18 = .ok (.invokestatic 219, 3) := by decide +kernel
theorem dX9_keep_21 : decode cX9_keep 21 = .ok (.istore_n 2, 1) := by decide +kernel
theorem dX9_keep_22 : decode cX9_keep 22 = .ok (.aload_n 0, 1) := by decide +kernel
theorem dX9_keep_23 : decode cX9_keep 23 = .ok (.getfield 13, 3) := by decide +kernel
theorem dX9_keep_26 : decode cX9_keep 26 = .ok (.iload_n 1, 1) := by decide +kernel
theorem dX9_keep_27 : decode cX9_keep 27 = .ok (.iconst 1, 1) := by decide +kernel
theorem dX9_keep_28 : decode cX9_keep 28 = .ok (.bastore, 1) := by decide +kernel
theorem dX9_keep_29 : decode cX9_keep 29 = .ok (.aload_n 0, 1) := by decide +kernel
theorem dX9_keep_30 : decode cX9_keep 30 = .ok (.sipush 199, 3) := by decide +kernel
theorem dX9_keep_33 : decode cX9_keep 33 = .ok (.iload_n 1, 1) := by decide +kernel
theorem dX9_keep_34 : decode cX9_keep 34 = .ok (.iconst 1, 1) := by decide +kernel
theorem dX9_keep_35 : decode cX9_keep 35 = .ok (.iadd, 1) := by decide +kernel
theorem dX9_keep_36 : decode cX9_keep 36 = .ok (.imul, 1) := by decide +kernel
theorem dX9_keep_37 : decode cX9_keep 37 = .ok (.iconst 0, 1) := by decide +kernel
theorem dX9_keep_38 : decode cX9_keep 38 = .ok (.invokevirtual 267, 3) := by decide +kernel
theorem dX9_keep_41 : decode cX9_keep 41 = .ok (.iload_n 2, 1) := by decide +kernel
theorem dX9_keep_42 : decode cX9_keep 42 = .ok (.ireturn, 1) := by decide +kernel
theorem dX9_back_0 : decode cX9_back 0 = .ok (.iload_n 1, 1) := by decide +kernel
theorem dX9_back_1 : decode cX9_back 1 = .ok (.i2l, 1) := by decide +kernel
theorem dX9_back_2 : decode cX9_back 2 = .ok (.lconst 0, 1) := by decide +kernel
theorem dX9_back_3 : decode cX9_back 3 = .ok (.lconst 1, 1) := by decide +kernel
theorem dX9_back_4 : decode cX9_back 4 = .ok (.invokestatic 93, 3) := by decide +kernel
theorem dX9_back_7 : decode cX9_back 7 = .ok (.ifCond .ne 5, 3) := by decide +kernel
theorem dX9_back_10 : decode cX9_back 10 = .ok (.iconst (-1), 1) := by decide +kernel
theorem dX9_back_11 : decode cX9_back 11 = .ok (.ireturn, 1) := by decide +kernel
theorem dX9_back_12 : decode cX9_back 12 = .ok (.aload_n 0, 1) := by decide +kernel
theorem dX9_back_13 : decode cX9_back 13 = .ok (.getfield 13, 3) := by decide +kernel
theorem dX9_back_16 : decode cX9_back 16 = .ok (.iload_n 1, 1) := by decide +kernel
theorem dX9_back_17 : decode cX9_back 17 = .ok (.baload, 1) := by decide +kernel
theorem dX9_back_18 : decode cX9_back 18 = .ok (.ifCond .ne 6, 3) := by decide +kernel
theorem dX9_back_21 : decode cX9_back 21 = .ok (.bipush (-2), 2) := by decide +kernel
theorem dX9_back_23 : decode cX9_back 23 = .ok (.ireturn, 1) := by decide +kernel
theorem dX9_back_24 : decode cX9_back 24 = .ok (.aload_n 0, 1) := by decide +kernel
theorem dX9_back_25 : decode cX9_back 25 = .ok (.iconst 0, 1) := by decide +kernel
theorem dX9_back_26 : decode cX9_back 26 = .ok (.sipush 199, 3) := by decide +kernel
theorem dX9_back_29 : decode cX9_back 29 = .ok (.iload_n 1, 1) := by decide +kernel
theorem dX9_back_30 : decode cX9_back 30 = .ok (.iconst 1, 1) := by decide +kernel
theorem dX9_back_31 : decode cX9_back 31 = .ok (.iadd, 1) := by decide +kernel
theorem dX9_back_32 : decode cX9_back 32 = .ok (.imul, 1) := by decide +kernel
theorem dX9_back_33 : decode cX9_back 33 = .ok (.invokevirtual 267, 3) := by decide +kernel
theorem dX9_back_36 : decode cX9_back 36 = .ok (.aload_n 0, 1) := by decide +kernel
theorem dX9_back_37 : decode cX9_back 37 = .ok (.getfield 7, 3) := by decide +kernel
theorem dX9_back_40 : decode cX9_back 40 = .ok (.bipush 41, 2) := by decide +kernel
theorem dX9_back_42 : decode cX9_back 42 = .ok (.iaload, 1) := by decide +kernel
theorem dX9_back_43 : decode cX9_back 43 = .ok (.ireturn, 1) := by decide +kernel
theorem dX9_isSheet_0 : decode cX9_isSheet 0 = .ok (.iload_n 0, 1) := by decide +kernel
theorem dX9_isSheet_1 : decode cX9_isSheet 1 = .ok (.i2l, 1) := by decide +kernel
theorem dX9_isSheet_2 : decode cX9_isSheet 2 = .ok (.lconst 0, 1) := by decide +kernel
theorem dX9_isSheet_3 : decode cX9_isSheet 3 = .ok (.ldc2_w 200, 3) := by decide +kernel
theorem dX9_isSheet_6 : decode cX9_isSheet 6 = .ok (.invokestatic 93, 3) := by decide +kernel
theorem dX9_isSheet_9 : decode cX9_isSheet 9 = .ok (.ifCond .eq 19, 3) := by decide +kernel
theorem dX9_isSheet_12 : decode cX9_isSheet 12 = .ok (.iload_n 1, 1) := by decide +kernel
theorem dX9_isSheet_13 : decode cX9_isSheet 13 = .ok (.i2l, 1) := by decide +kernel
theorem dX9_isSheet_14 : decode cX9_isSheet 14 = .ok (.lconst 0, 1) := by decide +kernel
theorem dX9_isSheet_15 : decode cX9_isSheet 15 = .ok (.ldc2_w 182, 3) := by decide +kernel
theorem dX9_isSheet_18 : decode cX9_isSheet 18 = .ok (.invokestatic 93, 3) := by decide +kernel
theorem dX9_isSheet_21 : decode cX9_isSheet 21 = .ok (.ifCond .eq 7, 3) := by decide +kernel
theorem dX9_isSheet_24 : decode cX9_isSheet 24 = .ok (.iconst 1, 1) := by decide +kernel
theorem dX9_isSheet_25 : decode cX9_isSheet 25 = .ok (.goto 4, 3) := by decide +kernel
theorem dX9_isSheet_28 : decode cX9_isSheet 28 = .ok (.iconst 0, 1) := by decide +kernel
theorem dX9_isSheet_29 : decode cX9_isSheet 29 = .ok (.ireturn, 1) := by decide +kernel
theorem dX9_sheet_0 : decode cX9_sheet 0 = .ok (.iload_n 1, 1) := by decide +kernel
theorem dX9_sheet_1 : decode cX9_sheet 1 = .ok (.iload_n 2, 1) := by decide +kernel
theorem dX9_sheet_2 : decode cX9_sheet 2 = .ok (.invokestatic 329, 3) := by decide +kernel
theorem dX9_sheet_5 : decode cX9_sheet 5 = .ok (.ifCond .eq 9, 3) := by decide +kernel
theorem dX9_sheet_8 : decode cX9_sheet 8 = .ok (.iload_n 3, 1) := by decide +kernel
theorem dX9_sheet_9 : decode cX9_sheet 9 = .ok (.bipush 40, 2) := by decide +kernel
theorem dX9_sheet_11 : decode cX9_sheet 11 = .ok (.if_icmp .le 5, 3) := by decide +kernel
theorem dX9_sheet_14 : decode cX9_sheet 14 = .ok (.iconst (-1), 1) := by decide +kernel
theorem dX9_sheet_15 : decode cX9_sheet 15 = .ok (.ireturn, 1) := by decide +kernel
theorem dX9_sheet_16 : decode cX9_sheet 16 = .ok (.iload_n 3, 1) := by decide +kernel
theorem dX9_sheet_17 : decode cX9_sheet 17 = .ok (.ifCond .ge 6, 3) := by decide +kernel
theorem dX9_sheet_20 : decode cX9_sheet 20 = .ok (.bipush (-14), 2) := by decide +kernel
theorem dX9_sheet_22 : decode cX9_sheet 22 = .ok (.ireturn, 1) := by decide +kernel
theorem dX9_sheet_23 : decode cX9_sheet 23 = .ok (.aload_n 0, 1) := by decide +kernel
theorem dX9_sheet_24 : decode cX9_sheet 24 = .ok (.getfield 56, 3) := by decide +kernel
theorem dX9_sheet_27 : decode cX9_sheet 27 = .ok (.iload_n 1, 1) := by decide +kernel
theorem dX9_sheet_28 : decode cX9_sheet 28 = .ok (.iload_n 2, 1) := by decide +kernel
theorem dX9_sheet_29 : decode cX9_sheet 29 = .ok (.iastore, 1) := by decide +kernel
theorem dX9_sheet_30 : decode cX9_sheet 30 = .ok (.aload_n 0, 1) := by decide +kernel
theorem dX9_sheet_31 : decode cX9_sheet 31 = .ok (.getfield 59, 3) := by decide +kernel
theorem dX9_sheet_34 : decode cX9_sheet 34 = .ok (.iload_n 1, 1) := by decide +kernel
theorem dX9_sheet_35 : decode cX9_sheet 35 = .ok (.iload_n 3, 1) := by decide +kernel
theorem dX9_sheet_36 : decode cX9_sheet 36 = .ok (.iastore, 1) := by decide +kernel
theorem dX9_sheet_37 : decode cX9_sheet 37 = .ok (.iconst 0, 1) := by decide +kernel
theorem dX9_sheet_38 : decode cX9_sheet 38 = .ok (.istore 4, 2) := by decide +kernel
theorem dX9_sheet_40 : decode cX9_sheet 40 = .ok (.iload 4, 2) := by decide +kernel
theorem dX9_sheet_42 : decode cX9_sheet 42 = .ok (.bipush 40, 2) := by decide +kernel
theorem dX9_sheet_44 : decode cX9_sheet 44 = .ok (.if_icmp .ge 22, 3) := by decide +kernel
theorem dX9_sheet_47 : decode cX9_sheet 47 = .ok (.aload_n 0, 1) := by decide +kernel
theorem dX9_sheet_48 : decode cX9_sheet 48 = .ok (.getfield 62, 3) := by decide +kernel
theorem dX9_sheet_51 : decode cX9_sheet 51 = .ok (.bipush 40, 2) := by decide +kernel
theorem dX9_sheet_53 : decode cX9_sheet 53 = .ok (.iload_n 1, 1) := by decide +kernel
theorem dX9_sheet_54 : decode cX9_sheet 54 = .ok (.imul, 1) := by decide +kernel
theorem dX9_sheet_55 : decode cX9_sheet 55 = .ok (.iload 4, 2) := by decide +kernel
theorem dX9_sheet_57 : decode cX9_sheet 57 = .ok (.iadd, 1) := by decide +kernel
theorem dX9_sheet_58 : decode cX9_sheet 58 = .ok (.iconst 0, 1) := by decide +kernel
theorem dX9_sheet_59 : decode cX9_sheet 59 = .ok (.iastore, 1) := by decide +kernel
theorem dX9_sheet_60 : decode cX9_sheet 60 = .ok (.iinc 4 1, 3) := by decide +kernel
theorem dX9_sheet_63 : decode cX9_sheet 63 = .ok (.goto (-23), 3) := by decide +kernel
theorem dX9_sheet_66 : decode cX9_sheet 66 = .ok (.iconst 1, 1) := by decide +kernel
theorem dX9_sheet_67 : decode cX9_sheet 67 = .ok (.ireturn, 1) := by decide +kernel
theorem dX9_lay_0 : decode cX9_lay 0 = .ok (.iload_n 1, 1) := by decide +kernel
theorem dX9_lay_1 : decode cX9_lay 1 = .ok (.iconst 0, 1) := by decide +kernel
theorem dX9_lay_2 : decode cX9_lay 2 = .ok (.invokestatic 329, 3) := by decide +kernel
theorem dX9_lay_5 : decode cX9_lay 5 = .ok (.ifCond .ne 5, 3) := by decide +kernel
theorem dX9_lay_8 : decode cX9_lay 8 = .ok (.iconst (-1), 1) := by decide +kernel
theorem dX9_lay_9 : decode cX9_lay 9 = .ok (.ireturn, 1) := by decide +kernel
theorem dX9_lay_10 : decode cX9_lay 10 = .ok (.aload_n 0, 1) := by decide +kernel
theorem dX9_lay_11 : decode cX9_lay 11 = .ok (.getfield 56, 3) := by decide +kernel
theorem dX9_lay_14 : decode cX9_lay 14 = .ok (.iload_n 1, 1) := by decide +kernel
theorem dX9_lay_15 : decode cX9_lay 15 = .ok (.iaload, 1) := by decide +kernel
theorem dX9_lay_16 : decode cX9_lay 16 = .ok (.bipush (-4), 2) := by decide +kernel
theorem dX9_lay_18 : decode cX9_lay 18 = .ok (.if_icmp .ne 6, 3) := by decide +kernel
theorem dX9_lay_21 : decode cX9_lay 21 = .ok (.bipush (-11), 2) := by decide +kernel
theorem dX9_lay_23 : decode cX9_lay 23 = .ok (.ireturn, 1) := by decide +kernel
theorem dX9_lay_24 : decode cX9_lay 24 = .ok (.iload_n 2, 1) := by decide +kernel
theorem dX9_lay_25 : decode cX9_lay 25 = .ok (.i2l, 1) := by decide +kernel
theorem dX9_lay_26 : decode cX9_lay 26 = .ok (.lconst 0, 1) := by decide +kernel
theorem dX9_lay_27 : decode cX9_lay 27 = .ok (.aload_n 0, 1) := by decide +kernel
theorem dX9_lay_28 : decode cX9_lay 28 = .ok (.getfield 59, 3) := by decide +kernel
theorem dX9_lay_31 : decode cX9_lay 31 = .ok (.iload_n 1, 1) := by decide +kernel
theorem dX9_lay_32 : decode cX9_lay 32 = .ok (.iaload, 1) := by decide +kernel
theorem dX9_lay_33 : decode cX9_lay 33 = .ok (.iconst 1, 1) := by decide +kernel
theorem dX9_lay_34 : decode cX9_lay 34 = .ok (.isub, 1) := by decide +kernel
theorem dX9_lay_35 : decode cX9_lay 35 = .ok (.i2l, 1) := by decide +kernel
theorem dX9_lay_36 : decode cX9_lay 36 = .ok (.invokestatic 93, 3) := by decide +kernel
theorem dX9_lay_39 : decode cX9_lay 39 = .ok (.ifCond .ne 6, 3) := by decide +kernel
theorem dX9_lay_42 : decode cX9_lay 42 = .ok (.bipush (-12), 2) := by decide +kernel
theorem dX9_lay_44 : decode cX9_lay 44 = .ok (.ireturn, 1) := by decide +kernel
theorem dX9_lay_45 : decode cX9_lay 45 = .ok (.aload_n 0, 1) := by decide +kernel
theorem dX9_lay_46 : decode cX9_lay 46 = .ok (.getfield 62, 3) := by decide +kernel
theorem dX9_lay_49 : decode cX9_lay 49 = .ok (.bipush 40, 2) := by decide +kernel
theorem dX9_lay_51 : decode cX9_lay 51 = .ok (.iload_n 1, 1) := by decide +kernel
theorem dX9_lay_52 : decode cX9_lay 52 = .ok (.imul, 1) := by decide +kernel
theorem dX9_lay_53 : decode cX9_lay 53 = .ok (.iload_n 2, 1) := by decide +kernel
theorem dX9_lay_54 : decode cX9_lay 54 = .ok (.iadd, 1) := by decide +kernel
theorem dX9_lay_55 : decode cX9_lay 55 = .ok (.aload_n 0, 1) := by decide +kernel
theorem dX9_lay_56 : decode cX9_lay 56 = .ok (.getfield 56, 3) := by decide +kernel
theorem dX9_lay_59 : decode cX9_lay 59 = .ok (.iload_n 1, 1) := by decide +kernel
theorem dX9_lay_60 : decode cX9_lay 60 = .ok (.iaload, 1) := by decide +kernel
theorem dX9_lay_61 : decode cX9_lay 61 = .ok (.ifCond .ne 8, 3) := by decide +kernel
theorem dX9_lay_64 : decode cX9_lay 64 = .ok (.iload_n 3, 1) := by decide +kernel
theorem dX9_lay_65 : decode cX9_lay 65 = .ok (.i2b, 1) := by decide +kernel
theorem dX9_lay_66 : decode cX9_lay 66 = .ok (.goto 19, 3) := by decide +kernel
theorem dX9_lay_69 : decode cX9_lay 69 = .ok (.aload_n 0, 1) := by decide +kernel
theorem dX9_lay_70 : decode cX9_lay 70 = .ok (.getfield 56, 3) := by decide +kernel
theorem dX9_lay_73 : decode cX9_lay 73 = .ok (.iload_n 1, 1) := by decide +kernel
theorem dX9_lay_74 : decode cX9_lay 74 = .ok (.iaload, 1) := by decide +kernel
theorem dX9_lay_75 : decode cX9_lay 75 = .ok (.iconst 1, 1) := by decide +kernel
theorem dX9_lay_76 : decode cX9_lay 76 = .ok (.if_icmp .ne 8, 3) := by decide +kernel
theorem dX9_lay_79 : decode cX9_lay 79 = .ok (.iload_n 3, 1) := by decide +kernel
theorem dX9_lay_80 : decode cX9_lay 80 = .ok (.i2s, 1) := by decide +kernel
theorem dX9_lay_81 : decode cX9_lay 81 = .ok (.goto 4, 3) := by decide +kernel
theorem dX9_lay_84 : decode cX9_lay 84 = .ok (.iload_n 3, 1) := by decide +kernel
theorem dX9_lay_85 : decode cX9_lay 85 = .ok (.iastore, 1) := by decide +kernel
theorem dX9_lay_86 : decode cX9_lay 86 = .ok (.iconst 1, 1) := by decide +kernel
theorem dX9_lay_87 : decode cX9_lay 87 = .ok (.ireturn, 1) := by decide +kernel
theorem dX9_read_0 : decode cX9_read 0 = .ok (.iload_n 1, 1) := by decide +kernel
theorem dX9_read_1 : decode cX9_read 1 = .ok (.iload_n 2, 1) := by decide +kernel
theorem dX9_read_2 : decode cX9_read 2 = .ok (.invokestatic 329, 3) := by decide +kernel
theorem dX9_read_5 : decode cX9_read 5 = .ok (.ifCond .eq 16, 3) := by decide +kernel
theorem dX9_read_8 : decode cX9_read 8 = .ok (.iload 4, 2) := by decide +kernel
theorem dX9_read_10 : decode cX9_read 10 = .ok (.i2l, 1) := by decide +kernel
theorem dX9_read_11 : decode cX9_read 11 = .ok (.lconst 0, 1) := by decide +kernel
theorem dX9_read_12 : decode cX9_read 12 = .ok (.ldc2_w 184, 3) := by decide +kernel
theorem dX9_read_15 : decode cX9_read 15 = .ok (.invokestatic 93, 3) := by decide +kernel
theorem dX9_read_18 : decode cX9_read 18 = .ok (.ifCond .ne 5, 3) := by decide +kernel
theorem dX9_read_21 : decode cX9_read 21 = .ok (.iconst (-1), 1) := by decide +kernel
theorem dX9_read_22 : decode cX9_read 22 = .ok (.ireturn, 1) := by decide +kernel
theorem dX9_read_23 : decode cX9_read 23 = .ok (.aload_n 0, 1) := by decide +kernel
theorem dX9_read_24 : decode cX9_read 24 = .ok (.getfield 7, 3) := by decide +kernel
theorem dX9_read_27 : decode cX9_read 27 = .ok (.bipush 41, 2) := by decide +kernel
theorem dX9_read_29 : decode cX9_read 29 = .ok (.iaload, 1) := by decide +kernel
theorem dX9_read_30 : decode cX9_read 30 = .ok (.istore 5, 2) := by decide +kernel
theorem dX9_read_32 : decode cX9_read 32 = .ok (.iconst 0, 1) := by decide +kernel
theorem dX9_read_33 : decode cX9_read 33 = .ok (.istore 6, 2) := by decide +kernel
theorem dX9_read_35 : decode cX9_read 35 = .ok (.iconst 0, 1) := by decide +kernel
theorem dX9_read_36 : decode cX9_read 36 = .ok (.istore 7, 2) := by decide +kernel
theorem dX9_read_38 : decode cX9_read 38 = .ok (.iconst 0, 1) := by decide +kernel
theorem dX9_read_39 : decode cX9_read 39 = .ok (.istore 8, 2) := by decide +kernel
theorem dX9_read_41 : decode cX9_read 41 = .ok (.iload 8, 2) := by decide +kernel
theorem dX9_read_43 : decode cX9_read 43 = .ok (.iload 4, 2) := by decide +kernel
theorem dX9_read_45 : decode cX9_read 45 = .ok (.if_icmp .ge 163, 3) := by decide +kernel
theorem dX9_read_48 : decode cX9_read 48 = .ok (.iload 6, 2) := by decide +kernel
theorem dX9_read_50 : decode cX9_read 50 = .ok (.ifCond .ne 158, 3) := by decide +kernel
theorem dX9_read_53 : decode cX9_read 53 = .ok (.iconst 0, 1) := by decide +kernel
theorem dX9_read_54 : decode cX9_read 54 = .ok (.istore 9, 2) := by decide +kernel
theorem dX9_read_56 : decode cX9_read 56 = .ok (.iload 9, 2) := by decide +kernel
theorem dX9_read_58 : decode cX9_read 58 = .ok (.iconst 2, 1) := by decide +kernel
theorem dX9_read_59 : decode cX9_read 59 = .ok (.if_icmp .ge 84, 3) := by decide +kernel
theorem dX9_read_62 : decode cX9_read 62 = .ok (.iload 6, 2) := by decide +kernel
theorem dX9_read_64 : decode cX9_read 64 = .ok (.ifCond .ne 79, 3) := by decide +kernel
theorem dX9_read_67 : decode cX9_read 67 = .ok (.iload_n 3, 1) := by decide +kernel
theorem dX9_read_68 : decode cX9_read 68 = .ok (.i2l, 1) := by decide +kernel
theorem dX9_read_69 : decode cX9_read 69 = .ok (.iconst 2, 1) := by decide +kernel
theorem dX9_read_70 : decode cX9_read 70 = .ok (.iload 8, 2) := by decide +kernel
theorem dX9_read_72 : decode cX9_read 72 = .ok (.imul, 1) := by decide +kernel
theorem dX9_read_73 : decode cX9_read 73 = .ok (.i2l, 1) := by decide +kernel
theorem dX9_read_74 : decode cX9_read 74 = .ok (.ladd, 1) := by decide +kernel
theorem dX9_read_75 : decode cX9_read 75 = .ok (.iload 9, 2) := by decide +kernel
theorem dX9_read_77 : decode cX9_read 77 = .ok (.i2l, 1) := by decide +kernel
theorem dX9_read_78 : decode cX9_read 78 = .ok (.ladd, 1) := by decide +kernel
theorem dX9_read_79 : decode cX9_read 79 = .ok (.lstore 10, 2) := by decide +kernel
theorem dX9_read_81 : decode cX9_read 81 = .ok (.aload_n 0, 1) := by decide +kernel
theorem dX9_read_82 : decode cX9_read 82 = .ok (.getfield 56, 3) := by decide +kernel
theorem dX9_read_85 : decode cX9_read 85 = .ok (.iload_n 1, 1) := by decide +kernel
theorem dX9_read_86 : decode cX9_read 86 = .ok (.iaload, 1) := by decide +kernel
theorem dX9_read_87 : decode cX9_read 87 = .ok (.bipush (-4), 2) := by decide +kernel
theorem dX9_read_89 : decode cX9_read 89 = .ok (.if_icmp .ne 7, 3) := by decide +kernel
theorem dX9_read_92 : decode cX9_read 92 = .ok (.iconst 1, 1) := by decide +kernel
theorem dX9_read_93 : decode cX9_read 93 = .ok (.goto 42, 3) := by decide +kernel
theorem dX9_read_96 : decode cX9_read 96 = .ok (.aload_n 0, 1) := by decide +kernel
theorem dX9_read_97 : decode cX9_read 97 = .ok (.getfield 56, 3) := by decide +kernel
theorem dX9_read_100 : decode cX9_read 100 = .ok (.iload_n 1, 1) := by decide +kernel
theorem dX9_read_101 : decode cX9_read 101 = .ok (.iaload, 1) := by decide +kernel
theorem dX9_read_102 : decode cX9_read 102 = .ok (.iload_n 2, 1) := by decide +kernel
theorem dX9_read_103 : decode cX9_read 103 = .ok (.if_icmp .eq 7, 3) := by decide +kernel
theorem dX9_read_106 : decode cX9_read 106 = .ok (.iconst 3, 1) := by decide +kernel
theorem dX9_read_107 : decode cX9_read 107 = .ok (.goto 28, 3) := by decide +kernel
theorem dX9_read_110 : decode cX9_read 110 = .ok (.lload 10, 2) := by decide +kernel
theorem dX9_read_112 : decode cX9_read 112 = .ok (.lconst 0, 1) := by decide +kernel
theorem dX9_read_113 : decode cX9_read 113 = .ok (.lcmp, 1) := by decide +kernel
theorem dX9_read_114 : decode cX9_read 114 = .ok (.ifCond .lt 16, 3) := by decide +kernel
theorem dX9_read_117 : decode cX9_read 117 = .ok (.lload 10, 2) := by decide +kernel
theorem dX9_read_119 : decode cX9_read 119 = .ok (.aload_n 0, 1) := by decide +kernel
theorem dX9_read_120 : decode cX9_read 120 = .ok (.getfield 59, 3) := by decide +kernel
theorem dX9_read_123 : decode cX9_read 123 = .ok (.iload_n 1, 1) := by decide +kernel
theorem dX9_read_124 : decode cX9_read 124 = .ok (.iaload, 1) := by decide +kernel
theorem dX9_read_125 : decode cX9_read 125 = .ok (.i2l, 1) := by decide +kernel
theorem dX9_read_126 : decode cX9_read 126 = .ok (.lcmp, 1) := by decide +kernel
theorem dX9_read_127 : decode cX9_read 127 = .ok (.ifCond .lt 7, 3) := by decide +kernel
theorem dX9_read_130 : decode cX9_read 130 = .ok (.iconst 2, 1) := by decide +kernel
theorem dX9_read_131 : decode cX9_read 131 = .ok (.goto 4, 3) := by decide +kernel
theorem dX9_read_134 : decode cX9_read 134 = .ok (.iconst 0, 1) := by decide +kernel
theorem dX9_read_135 : decode cX9_read 135 = .ok (.istore 6, 2) := by decide +kernel
theorem dX9_read_137 : decode cX9_read 137 = .ok (.iinc 9 1, 3) := by decide +kernel
theorem dX9_read_140 : decode cX9_read 140 = .ok (.goto (-84), 3) := by decide +kernel
theorem dX9_read_143 : decode cX9_read 143 = .ok (.iload 6, 2) := by decide +kernel
theorem dX9_read_145 : decode cX9_read 145 = .ok (.ifCond .ne 57, 3) := by decide +kernel
theorem dX9_read_148 : decode cX9_read 148 = .ok (.bipush 40, 2) := by decide +kernel
theorem dX9_read_150 : decode cX9_read 150 = .ok (.iload_n 1, 1) := by decide +kernel
theorem dX9_read_151 : decode cX9_read 151 = .ok (.imul, 1) := by decide +kernel
theorem dX9_read_152 : decode cX9_read 152 = .ok (.iload_n 3, 1) := by decide +kernel
theorem dX9_read_153 : decode cX9_read 153 = .ok (.iadd, 1) := by decide +kernel
theorem dX9_read_154 : decode cX9_read 154 = .ok (.iconst 2, 1) := by decide +kernel
theorem dX9_read_155 : decode cX9_read 155 = .ok (.iload 8, 2) := by decide +kernel
theorem dX9_read_157 : decode cX9_read 157 = .ok (.imul, 1) := by decide +kernel
theorem dX9_read_158 : decode cX9_read 158 = .ok (.iadd, 1) := by decide +kernel
theorem dX9_read_159 : decode cX9_read 159 = .ok (.istore 9, 2) := by decide +kernel
theorem dX9_read_161 : decode cX9_read 161 = .ok (.aload_n 0, 1) := by decide +kernel
theorem dX9_read_162 : decode cX9_read 162 = .ok (.aload_n 0, 1) := by decide +kernel
theorem dX9_read_163 : decode cX9_read 163 = .ok (.getfield 62, 3) := by decide +kernel
theorem dX9_read_166 : decode cX9_read 166 = .ok (.iload 9, 2) := by decide +kernel
theorem dX9_read_168 : decode cX9_read 168 = .ok (.iaload, 1) := by decide +kernel
theorem dX9_read_169 : decode cX9_read 169 = .ok (.aload_n 0, 1) := by decide +kernel
theorem dX9_read_170 : decode cX9_read 170 = .ok (.getfield 62, 3) := by decide +kernel
theorem dX9_read_173 : decode cX9_read 173 = .ok (.iload 9, 2) := by decide +kernel
theorem dX9_read_175 : decode cX9_read 175 = .ok (.iconst 1, 1) := by decide +kernel
theorem dX9_read_176 : decode cX9_read 176 = .ok (.iadd, 1) := by decide +kernel
theorem dX9_read_177 : decode cX9_read 177 = .ok (.iaload, 1) := by decide +kernel
theorem dX9_read_178 : decode cX9_read 178 = .ok (.invokevirtual 332, 3) := by decide +kernel
theorem dX9_read_181 : decode cX9_read 181 = .ok (.ifCond .ge 18, 3) := by decide +kernel
theorem dX9_read_184 : decode cX9_read 184 = .ok (.aload_n 0, 1) := by decide +kernel
theorem dX9_read_185 : decode cX9_read 185 = .ok (.getfield 7, 3) := by decide +kernel
theorem dX9_read_188 : decode cX9_read 188 = .ok (.bipush 41, 2) := by decide +kernel
theorem dX9_read_190 : decode cX9_read 190 = .ok (.iload 5, 2) := by decide +kernel
theorem dX9_read_192 : decode cX9_read 192 = .ok (.iastore, 1) := by decide +kernel
theorem dX9_read_193 : decode cX9_read 193 = .ok (.bipush (-20), 2) := by decide +kernel
theorem dX9_read_195 : decode cX9_read 195 = .ok (.iload 8, 2) := by decide +kernel
theorem dX9_read_197 : decode cX9_read 197 = .ok (.isub, 1) := by decide +kernel
theorem dX9_read_198 : decode cX9_read 198 = .ok (.ireturn, 1) := by decide +kernel
theorem dX9_read_199 : decode cX9_read 199 = .ok (.iinc 7 1, 3) := by decide +kernel
theorem dX9_read_202 : decode cX9_read 202 = .ok (.iinc 8 1, 3) := by decide +kernel
theorem dX9_read_205 : decode cX9_read 205 = .ok (.goto (-164), 3) := by decide +kernel
theorem dX9_read_208 : decode cX9_read 208 = .ok (.aload_n 0, 1) := by decide +kernel
theorem dX9_read_209 : decode cX9_read 209 = .ok (.iload 6, 2) := by decide +kernel
theorem dX9_read_211 : decode cX9_read 211 = .ok (.putfield 335, 3) := by decide +kernel
theorem dX9_read_214 : decode cX9_read 214 = .ok (.iload 7, 2) := by decide +kernel
theorem dX9_read_216 : decode cX9_read 216 = .ok (.ireturn, 1) := by decide +kernel
theorem dX9_torn_0 : decode cX9_torn 0 = .ok (.aload_n 0, 1) := by decide +kernel
theorem dX9_torn_1 : decode cX9_torn 1 = .ok (.getfield 335, 3) := by decide +kernel
theorem dX9_torn_4 : decode cX9_torn 4 = .ok (.ireturn, 1) := by decide +kernel
theorem dX9_count_0 : decode cX9_count 0 = .ok (.iconst 0, 1) := by decide +kernel
theorem dX9_count_1 : decode cX9_count 1 = .ok (.istore_n 2, 1) := by decide +kernel
theorem dX9_count_2 : decode cX9_count 2 = .ok (.iconst 0, 1) := by decide +kernel
theorem dX9_count_3 : decode cX9_count 3 = .ok (.istore_n 3, 1) := by decide +kernel
theorem dX9_count_4 : decode cX9_count 4 = .ok (.iload_n 3, 1) := by decide +kernel
theorem dX9_count_5 : decode cX9_count 5 = .ok (.aload_n 0, 1) := by decide +kernel
theorem dX9_count_6 : decode cX9_count 6 = .ok (.getfield 7, 3) := by decide +kernel
theorem dX9_count_9 : decode cX9_count 9 = .ok (.bipush 41, 2) := by decide +kernel
theorem dX9_count_11 : decode cX9_count 11 = .ok (.iaload, 1) := by decide +kernel
theorem dX9_count_12 : decode cX9_count 12 = .ok (.if_icmp .ge 20, 3) := by decide +kernel
theorem dX9_count_15 : decode cX9_count 15 = .ok (.iload_n 2, 1) := by decide +kernel
theorem dX9_count_16 : decode cX9_count 16 = .ok (.aload_n 0, 1) := by decide +kernel
theorem dX9_count_17 : decode cX9_count 17 = .ok (.iload_n 3, 1) := by decide +kernel
theorem dX9_count_18 : decode cX9_count 18 = .ok (.invokevirtual 254, 3) := by decide +kernel
theorem dX9_count_21 : decode cX9_count 21 = .ok (.invokestatic 219, 3) := by decide +kernel
theorem dX9_count_24 : decode cX9_count 24 = .ok (.iadd, 1) := by decide +kernel
theorem dX9_count_25 : decode cX9_count 25 = .ok (.istore_n 2, 1) := by decide +kernel
theorem dX9_count_26 : decode cX9_count 26 = .ok (.iinc 3 1, 3) := by decide +kernel
theorem dX9_count_29 : decode cX9_count 29 = .ok (.goto (-25), 3) := by decide +kernel
theorem dX9_count_32 : decode cX9_count 32 = .ok (.iload_n 1, 1) := by decide +kernel
theorem dX9_count_33 : decode cX9_count 33 = .ok (.tableswitch 125 0 7 #[47, 54, 62, 70, 72, 92, 97, 120], 47) := by decide +kernel
theorem dX9_count_80 : decode cX9_count 80 = .ok (.aload_n 0, 1) := by decide +kernel
theorem dX9_count_81 : decode cX9_count 81 = .ok (.getfield 7, 3) := by decide +kernel
theorem dX9_count_84 : decode cX9_count 84 = .ok (.iconst 0, 1) := by decide +kernel
theorem dX9_count_85 : decode cX9_count 85 = .ok (.iaload, 1) := by decide +kernel
theorem dX9_count_86 : decode cX9_count 86 = .ok (.ireturn, 1) := by decide +kernel
theorem dX9_count_87 : decode cX9_count 87 = .ok (.aload_n 0, 1) := by decide +kernel
theorem dX9_count_88 : decode cX9_count 88 = .ok (.getfield 7, 3) := by decide +kernel
theorem dX9_count_91 : decode cX9_count 91 = .ok (.bipush 41, 2) := by decide +kernel
theorem dX9_count_93 : decode cX9_count 93 = .ok (.iaload, 1) := by decide +kernel
theorem dX9_count_94 : decode cX9_count 94 = .ok (.ireturn, 1) := by decide +kernel
theorem dX9_count_95 : decode cX9_count 95 = .ok (.aload_n 0, 1) := by decide +kernel
theorem dX9_count_96 : decode cX9_count 96 = .ok (.getfield 7, 3) := by decide +kernel
theorem dX9_count_99 : decode cX9_count 99 = .ok (.bipush 112, 2) := by decide +kernel
theorem dX9_count_101 : decode cX9_count 101 = .ok (.iaload, 1) := by decide +kernel
theorem dX9_count_102 : decode cX9_count 102 = .ok (.ireturn, 1) := by decide +kernel
theorem dX9_count_103 : decode cX9_count 103 = .ok (.iload_n 2, 1) := by decide +kernel
theorem dX9_count_104 : decode cX9_count 104 = .ok (.ireturn, 1) := by decide +kernel
theorem dX9_count_105 : decode cX9_count 105 = .ok (.aload_n 0, 1) := by decide +kernel
theorem dX9_count_106 : decode cX9_count 106 = .ok (.getfield 13, 3) := by decide +kernel
theorem dX9_count_109 : decode cX9_count 109 = .ok (.iconst 0, 1) := by decide +kernel
theorem dX9_count_110 : decode cX9_count 110 = .ok (.baload, 1) := by decide +kernel
theorem dX9_count_111 : decode cX9_count 111 = .ok (.invokestatic 219, 3) := by decide +kernel
theorem dX9_count_114 : decode cX9_count 114 = .ok (.aload_n 0, 1) := by decide +kernel
theorem dX9_count_115 : decode cX9_count 115 = .ok (.getfield 13, 3) := by decide +kernel
theorem dX9_count_118 : decode cX9_count 118 = .ok (.iconst 1, 1) := by decide +kernel
theorem dX9_count_119 : decode cX9_count 119 = .ok (.baload, 1) := by decide +kernel
theorem dX9_count_120 : decode cX9_count 120 = .ok (.invokestatic 219, 3) := by decide +kernel
theorem dX9_count_123 : decode cX9_count 123 = .ok (.iadd, 1) := by decide +kernel
theorem dX9_count_124 : decode cX9_count 124 = .ok (.ireturn, 1) := by decide +kernel
theorem dX9_count_125 : decode cX9_count 125 = .ok (.aload_n 0, 1) := by decide +kernel
theorem dX9_count_126 : decode cX9_count 126 = .ok (.getfield 88, 3) := by decide +kernel
theorem dX9_count_129 : decode cX9_count 129 = .ok (.ireturn, 1) := by decide +kernel
theorem dX9_count_130 : decode cX9_count 130 = .ok (.aload_n 0, 1) := by decide +kernel
theorem dX9_count_131 : decode cX9_count 131 = .ok (.getfield 56, 3) := by decide +kernel
theorem dX9_count_134 : decode cX9_count 134 = .ok (.iconst 0, 1) := by decide +kernel
theorem dX9_count_135 : decode cX9_count 135 = .ok (.iaload, 1) := by decide +kernel
theorem dX9_count_136 : decode cX9_count 136 = .ok (.bipush (-4), 2) := by decide +kernel
theorem dX9_count_138 : decode cX9_count 138 = .ok (.if_icmp .ne 8, 3) := by decide +kernel
theorem dX9_count_141 : decode cX9_count 141 = .ok (.bipush (-4), 2) := by decide +kernel
theorem dX9_count_143 : decode cX9_count 143 = .ok (.goto 9, 3) := by decide +kernel
theorem dX9_count_146 : decode cX9_count 146 = .ok (.aload_n 0, 1) := by decide +kernel
theorem dX9_count_147 : decode cX9_count 147 = .ok (.getfield 59, 3) := by decide +kernel
theorem dX9_count_150 : decode cX9_count 150 = .ok (.iconst 0, 1) := by decide +kernel
theorem dX9_count_151 : decode cX9_count 151 = .ok (.iaload, 1) := by decide +kernel
theorem dX9_count_152 : decode cX9_count 152 = .ok (.ireturn, 1) := by decide +kernel
theorem dX9_count_153 : decode cX9_count 153 = .ok (.aload_n 0, 1) := by decide +kernel
theorem dX9_count_154 : decode cX9_count 154 = .ok (.getfield 85, 3) := by decide +kernel
theorem dX9_count_157 : decode cX9_count 157 = .ok (.ireturn, 1) := by decide +kernel
theorem dX9_count_158 : decode cX9_count 158 = .ok (.iconst (-1), 1) := by decide +kernel
theorem dX9_count_159 : decode cX9_count 159 = .ok (.ireturn, 1) := by decide +kernel
theorem dJ6_bitCount_0f7a4_0 : decode cJ6_bitCount_0f7a4 0 = .ok (.iload_n 0, 1) := by decide +kernel
theorem dJ6_bitCount_0f7a4_1 : decode cJ6_bitCount_0f7a4 1 = .ok (.iload_n 0, 1) := by decide +kernel
theorem dJ6_bitCount_0f7a4_2 : decode cJ6_bitCount_0f7a4 2 = .ok (.iconst 1, 1) := by decide +kernel
theorem dJ6_bitCount_0f7a4_3 : decode cJ6_bitCount_0f7a4 3 = .ok (.iushr, 1) := by decide +kernel
theorem dJ6_bitCount_0f7a4_4 : decode cJ6_bitCount_0f7a4 4 = .ok (.ldc_w 265, 3) := by decide +kernel
theorem dJ6_bitCount_0f7a4_7 : decode cJ6_bitCount_0f7a4 7 = .ok (.iand, 1) := by decide +kernel
theorem dJ6_bitCount_0f7a4_8 : decode cJ6_bitCount_0f7a4 8 = .ok (.isub, 1) := by decide +kernel
theorem dJ6_bitCount_0f7a4_9 : decode cJ6_bitCount_0f7a4 9 = .ok (.istore_n 0, 1) := by decide +kernel
theorem dJ6_bitCount_0f7a4_10 : decode cJ6_bitCount_0f7a4 10 = .ok (.iload_n 0, 1) := by decide +kernel
theorem dJ6_bitCount_0f7a4_11 : decode cJ6_bitCount_0f7a4 11 = .ok (.ldc_w 266, 3) := by decide +kernel
theorem dJ6_bitCount_0f7a4_14 : decode cJ6_bitCount_0f7a4 14 = .ok (.iand, 1) := by decide +kernel
theorem dJ6_bitCount_0f7a4_15 : decode cJ6_bitCount_0f7a4 15 = .ok (.iload_n 0, 1) := by decide +kernel
theorem dJ6_bitCount_0f7a4_16 : decode cJ6_bitCount_0f7a4 16 = .ok (.iconst 2, 1) := by decide +kernel
theorem dJ6_bitCount_0f7a4_17 : decode cJ6_bitCount_0f7a4 17 = .ok (.iushr, 1) := by decide +kernel
theorem dJ6_bitCount_0f7a4_18 : decode cJ6_bitCount_0f7a4 18 = .ok (.ldc_w 266, 3) := by decide +kernel
theorem dJ6_bitCount_0f7a4_21 : decode cJ6_bitCount_0f7a4 21 = .ok (.iand, 1) := by decide +kernel
theorem dJ6_bitCount_0f7a4_22 : decode cJ6_bitCount_0f7a4 22 = .ok (.iadd, 1) := by decide +kernel
theorem dJ6_bitCount_0f7a4_23 : decode cJ6_bitCount_0f7a4 23 = .ok (.istore_n 0, 1) := by decide +kernel
theorem dJ6_bitCount_0f7a4_24 : decode cJ6_bitCount_0f7a4 24 = .ok (.iload_n 0, 1) := by decide +kernel
theorem dJ6_bitCount_0f7a4_25 : decode cJ6_bitCount_0f7a4 25 = .ok (.iload_n 0, 1) := by decide +kernel
theorem dJ6_bitCount_0f7a4_26 : decode cJ6_bitCount_0f7a4 26 = .ok (.iconst 4, 1) := by decide +kernel
theorem dJ6_bitCount_0f7a4_27 : decode cJ6_bitCount_0f7a4 27 = .ok (.iushr, 1) := by decide +kernel
theorem dJ6_bitCount_0f7a4_28 : decode cJ6_bitCount_0f7a4 28 = .ok (.iadd, 1) := by decide +kernel
theorem dJ6_bitCount_0f7a4_29 : decode cJ6_bitCount_0f7a4 29 = .ok (.ldc_w 267, 3) := by decide +kernel
theorem dJ6_bitCount_0f7a4_32 : decode cJ6_bitCount_0f7a4 32 = .ok (.iand, 1) := by decide +kernel
theorem dJ6_bitCount_0f7a4_33 : decode cJ6_bitCount_0f7a4 33 = .ok (.istore_n 0, 1) := by decide +kernel
theorem dJ6_bitCount_0f7a4_34 : decode cJ6_bitCount_0f7a4 34 = .ok (.iload_n 0, 1) := by decide +kernel
theorem dJ6_bitCount_0f7a4_35 : decode cJ6_bitCount_0f7a4 35 = .ok (.iload_n 0, 1) := by decide +kernel
theorem dJ6_bitCount_0f7a4_36 : decode cJ6_bitCount_0f7a4 36 = .ok (.bipush 8, 2) := by decide +kernel
theorem dJ6_bitCount_0f7a4_38 : decode cJ6_bitCount_0f7a4 38 = .ok (.iushr, 1) := by decide +kernel
theorem dJ6_bitCount_0f7a4_39 : decode cJ6_bitCount_0f7a4 39 = .ok (.iadd, 1) := by decide +kernel
theorem dJ6_bitCount_0f7a4_40 : decode cJ6_bitCount_0f7a4 40 = .ok (.istore_n 0, 1) := by decide +kernel
theorem dJ6_bitCount_0f7a4_41 : decode cJ6_bitCount_0f7a4 41 = .ok (.iload_n 0, 1) := by decide +kernel
theorem dJ6_bitCount_0f7a4_42 : decode cJ6_bitCount_0f7a4 42 = .ok (.iload_n 0, 1) := by decide +kernel
theorem dJ6_bitCount_0f7a4_43 : decode cJ6_bitCount_0f7a4 43 = .ok (.bipush 16, 2) := by decide +kernel
theorem dJ6_bitCount_0f7a4_45 : decode cJ6_bitCount_0f7a4 45 = .ok (.iushr, 1) := by decide +kernel
theorem dJ6_bitCount_0f7a4_46 : decode cJ6_bitCount_0f7a4 46 = .ok (.iadd, 1) := by decide +kernel
theorem dJ6_bitCount_0f7a4_47 : decode cJ6_bitCount_0f7a4 47 = .ok (.istore_n 0, 1) := by decide +kernel
theorem dJ6_bitCount_0f7a4_48 : decode cJ6_bitCount_0f7a4 48 = .ok (.iload_n 0, 1) := by decide +kernel
theorem dJ6_bitCount_0f7a4_49 : decode cJ6_bitCount_0f7a4 49 = .ok (.bipush 63, 2) := by decide +kernel
theorem dJ6_bitCount_0f7a4_51 : decode cJ6_bitCount_0f7a4 51 = .ok (.iand, 1) := by decide +kernel
theorem dJ6_bitCount_0f7a4_52 : decode cJ6_bitCount_0f7a4 52 = .ok (.ireturn, 1) := by decide +kernel
theorem dJ9_max_7cf53_0 : decode cJ9_max_7cf53 0 = .ok (.iload_n 0, 1) := by decide +kernel
theorem dJ9_max_7cf53_1 : decode cJ9_max_7cf53 1 = .ok (.iload_n 1, 1) := by decide +kernel
theorem dJ9_max_7cf53_2 : decode cJ9_max_7cf53 2 = .ok (.if_icmp .lt 7, 3) := by decide +kernel
theorem dJ9_max_7cf53_5 : decode cJ9_max_7cf53 5 = .ok (.iload_n 0, 1) := by decide +kernel
theorem dJ9_max_7cf53_6 : decode cJ9_max_7cf53 6 = .ok (.goto 4, 3) := by decide +kernel
theorem dJ9_max_7cf53_9 : decode cJ9_max_7cf53 9 = .ok (.iload_n 1, 1) := by decide +kernel
theorem dJ9_max_7cf53_10 : decode cJ9_max_7cf53 10 = .ok (.ireturn, 1) := by decide +kernel
theorem dJ9_min_7cf53_0 : decode cJ9_min_7cf53 0 = .ok (.iload_n 0, 1) := by decide +kernel
theorem dJ9_min_7cf53_1 : decode cJ9_min_7cf53 1 = .ok (.iload_n 1, 1) := by decide +kernel
theorem dJ9_min_7cf53_2 : decode cJ9_min_7cf53 2 = .ok (.if_icmp .gt 7, 3) := by decide +kernel
theorem dJ9_min_7cf53_5 : decode cJ9_min_7cf53 5 = .ok (.iload_n 0, 1) := by decide +kernel
theorem dJ9_min_7cf53_6 : decode cJ9_min_7cf53 6 = .ok (.goto 4, 3) := by decide +kernel
theorem dJ9_min_7cf53_9 : decode cJ9_min_7cf53 9 = .ok (.iload_n 1, 1) := by decide +kernel
theorem dJ9_min_7cf53_10 : decode cJ9_min_7cf53 10 = .ok (.ireturn, 1) := by decide +kernel
theorem dJ0_length_8abf5_0 : decode cJ0_length_8abf5 0 = .ok (.aload_n 0, 1) := by decide +kernel
theorem dJ0_length_8abf5_1 : decode cJ0_length_8abf5 1 = .ok (.getfield 9, 3) := by decide +kernel
theorem dJ0_length_8abf5_4 : decode cJ0_length_8abf5 4 = .ok (.arraylength, 1) := by decide +kernel
theorem dJ0_length_8abf5_5 : decode cJ0_length_8abf5 5 = .ok (.aload_n 0, 1) := by decide +kernel
theorem dJ0_length_8abf5_6 : decode cJ0_length_8abf5 6 = .ok (.invokevirtual 335, 3) := by decide +kernel
theorem dJ0_length_8abf5_9 : decode cJ0_length_8abf5 9 = .ok (.ishr, 1) := by decide +kernel
theorem dJ0_length_8abf5_10 : decode cJ0_length_8abf5 10 = .ok (.ireturn, 1) := by decide +kernel
theorem dJ0_charAt_5068e_0 : decode cJ0_charAt_5068e 0 = .ok (.aload_n 0, 1) := by decide +kernel
theorem dJ0_charAt_5068e_1 : decode cJ0_charAt_5068e 1 = .ok (.invokevirtual 492, 3) := by decide +kernel
theorem dJ0_charAt_5068e_4 : decode cJ0_charAt_5068e 4 = .ok (.ifCond .eq 12, 3) := by decide +kernel
theorem dJ0_charAt_5068e_7 : decode cJ0_charAt_5068e 7 = .ok (.aload_n 0, 1) := by decide +kernel
theorem dJ0_charAt_5068e_8 : decode cJ0_charAt_5068e 8 = .ok (.getfield 9, 3) := by decide +kernel
theorem dJ0_charAt_5068e_11 : decode cJ0_charAt_5068e 11 = .ok (.iload_n 1, 1) := by decide +kernel
theorem dJ0_charAt_5068e_12 : decode cJ0_charAt_5068e 12 = .ok (.invokestatic 495, 3) := by decide +kernel
theorem dJ0_charAt_5068e_15 : decode cJ0_charAt_5068e 15 = .ok (.ireturn, 1) := by decide +kernel
theorem dJ0_charAt_5068e_16 : decode cJ0_charAt_5068e 16 = .ok (.aload_n 0, 1) := by decide +kernel
theorem dJ0_charAt_5068e_17 : decode cJ0_charAt_5068e 17 = .ok (.getfield 9, 3) := by decide +kernel
theorem dJ0_charAt_5068e_20 : decode cJ0_charAt_5068e 20 = .ok (.iload_n 1, 1) := by decide +kernel
theorem dJ0_charAt_5068e_21 : decode cJ0_charAt_5068e 21 = .ok (.invokestatic 498, 3) := by decide +kernel
theorem dJ0_charAt_5068e_24 : decode cJ0_charAt_5068e 24 = .ok (.ireturn, 1) := by decide +kernel
theorem dJ0_coder_7d493_0 : decode cJ0_coder_7d493 0 = .ok (.getstatic 38, 3) := by decide +kernel
theorem dJ0_coder_7d493_3 : decode cJ0_coder_7d493 3 = .ok (.ifCond .eq 10, 3) := by decide +kernel
theorem dJ0_coder_7d493_6 : decode cJ0_coder_7d493 6 = .ok (.aload_n 0, 1) := by decide +kernel
theorem dJ0_coder_7d493_7 : decode cJ0_coder_7d493 7 = .ok (.getfield 15, 3) := by decide +kernel
theorem dJ0_coder_7d493_10 : decode cJ0_coder_7d493 10 = .ok (.goto 4, 3) := by decide +kernel
theorem dJ0_coder_7d493_13 : decode cJ0_coder_7d493 13 = .ok (.iconst 1, 1) := by decide +kernel
theorem dJ0_coder_7d493_14 : decode cJ0_coder_7d493 14 = .ok (.ireturn, 1) := by decide +kernel
theorem dJ0_isLatin1_aae02_0 : decode cJ0_isLatin1_aae02 0 = .ok (.getstatic 38, 3) := by decide +kernel
theorem dJ0_isLatin1_aae02_3 : decode cJ0_isLatin1_aae02 3 = .ok (.ifCond .eq 14, 3) := by decide +kernel
theorem dJ0_isLatin1_aae02_6 : decode cJ0_isLatin1_aae02 6 = .ok (.aload_n 0, 1) := by decide +kernel
theorem dJ0_isLatin1_aae02_7 : decode cJ0_isLatin1_aae02 7 = .ok (.getfield 15, 3) := by decide +kernel
theorem dJ0_isLatin1_aae02_10 : decode cJ0_isLatin1_aae02 10 = .ok (.ifCond .ne 7, 3) := by decide +kernel
theorem dJ0_isLatin1_aae02_13 : decode cJ0_isLatin1_aae02 13 = .ok (.iconst 1, 1) := by decide +kernel
theorem dJ0_isLatin1_aae02_14 : decode cJ0_isLatin1_aae02 14 = .ok (.goto 4, 3) := by decide +kernel
theorem dJ0_isLatin1_aae02_17 : decode cJ0_isLatin1_aae02 17 = .ok (.iconst 0, 1) := by decide +kernel
theorem dJ0_isLatin1_aae02_18 : decode cJ0_isLatin1_aae02 18 = .ok (.ireturn, 1) := by decide +kernel
theorem dJ0_checkIndex_df160_0 : decode cJ0_checkIndex_df160 0 = .ok (.iload_n 0, 1) := by decide +kernel
theorem dJ0_checkIndex_df160_1 : decode cJ0_checkIndex_df160 1 = .ok (.iload_n 1, 1) := by decide +kernel
theorem dJ0_checkIndex_df160_2 : decode cJ0_checkIndex_df160 2 = .ok (.getstatic 1053, 3) := by decide +kernel
theorem dJ0_checkIndex_df160_5 : decode cJ0_checkIndex_df160 5 = .ok (.invokestatic 1059, 3) := by decide +kernel
theorem dJ0_checkIndex_df160_8 : decode cJ0_checkIndex_df160 8 = .ok (.pop, 1) := by decide +kernel
theorem dJ0_checkIndex_df160_9 : decode cJ0_checkIndex_df160 9 = .ok (.return_, 1) := by decide +kernel
theorem dJ1_charAt_3b067_0 : decode cJ1_charAt_3b067 0 = .ok (.iload_n 1, 1) := by decide +kernel
theorem dJ1_charAt_3b067_1 : decode cJ1_charAt_3b067 1 = .ok (.aload_n 0, 1) := by decide +kernel
theorem dJ1_charAt_3b067_2 : decode cJ1_charAt_3b067 2 = .ok (.arraylength, 1) := by decide +kernel
theorem dJ1_charAt_3b067_3 : decode cJ1_charAt_3b067 3 = .ok (.invokestatic 9, 3) := by decide +kernel
theorem dJ1_charAt_3b067_6 : decode cJ1_charAt_3b067 6 = .ok (.aload_n 0, 1) := by decide +kernel
theorem dJ1_charAt_3b067_7 : decode cJ1_charAt_3b067 7 = .ok (.iload_n 1, 1) := by decide +kernel
theorem dJ1_charAt_3b067_8 : decode cJ1_charAt_3b067 8 = .ok (.baload, 1) := by decide +kernel
theorem dJ1_charAt_3b067_9 : decode cJ1_charAt_3b067 9 = .ok (.sipush 255, 3) := by decide +kernel
theorem dJ1_charAt_3b067_12 : decode cJ1_charAt_3b067 12 = .ok (.iand, 1) := by decide +kernel
theorem dJ1_charAt_3b067_13 : decode cJ1_charAt_3b067 13 = .ok (.i2c, 1) := by decide +kernel
theorem dJ1_charAt_3b067_14 : decode cJ1_charAt_3b067 14 = .ok (.ireturn, 1) := by decide +kernel
theorem dJ2_getChar_3b067_0 : decode cJ2_getChar_3b067 0 = .ok (.getstatic 44, 3) := by decide +kernel
theorem dJ2_getChar_3b067_3 : decode cJ2_getChar_3b067 3 = .ok (.ifCond .ne 25, 3) := by decide +kernel
theorem dJ2_getChar_3b067_6 : decode cJ2_getChar_3b067 6 = .ok (.iload_n 1, 1) := by decide +kernel
theorem dJ2_getChar_3b067_7 : decode cJ2_getChar_3b067 7 = .ok (.ifCond .lt 11, 3) := by decide +kernel
theorem dJ2_getChar_3b067_10 : decode cJ2_getChar_3b067 10 = .ok (.iload_n 1, 1) := by decide +kernel
theorem dJ2_getChar_3b067_11 : decode cJ2_getChar_3b067 11 = .ok (.aload_n 0, 1) := by decide +kernel
theorem dJ2_getChar_3b067_12 : decode cJ2_getChar_3b067 12 = .ok (.invokestatic 48, 3) := by decide +kernel
theorem dJ2_getChar_3b067_15 : decode cJ2_getChar_3b067 15 = .ok (.if_icmp .lt 13, 3) := by decide +kernel
theorem dJ2_getChar_3b067_18 : decode cJ2_getChar_3b067 18 = .ok (.new 52, 3) := by decide +kernel
theorem dJ2_getChar_3b067_21 : decode cJ2_getChar_3b067 21 = .ok (.dup, 1) := by decide +kernel
theorem dJ2_getChar_3b067_22 : decode cJ2_getChar_3b067 22 = .ok (.ldc 54, 2) := by decide +kernel
theorem dJ2_getChar_3b067_24 : decode cJ2_getChar_3b067 24 = .ok (.invokespecial 56, 3) := by decide +kernel
theorem dJ2_getChar_3b067_27 : decode cJ2_getChar_3b067 27 = .ok (.athrow, 1) := by decide +kernel
theorem dJ2_getChar_3b067_28 : decode cJ2_getChar_3b067 28 = .ok (.iload_n 1, 1) := by decide +kernel
theorem dJ2_getChar_3b067_29 : decode cJ2_getChar_3b067 29 = .ok (.iconst 1, 1) := by decide +kernel
theorem dJ2_getChar_3b067_30 : decode cJ2_getChar_3b067 30 = .ok (.ishl, 1) := by decide +kernel
theorem dJ2_getChar_3b067_31 : decode cJ2_getChar_3b067 31 = .ok (.istore_n 1, 1) := by decide +kernel
theorem dJ2_getChar_3b067_32 : decode cJ2_getChar_3b067 32 = .ok (.aload_n 0, 1) := by decide +kernel
theorem dJ2_getChar_3b067_33 : decode cJ2_getChar_3b067 33 = .ok (.iload_n 1, 1) := by decide +kernel
theorem dJ2_getChar_3b067_34 : decode cJ2_getChar_3b067 34 = .ok (.iinc 1 1, 3) := by decide +kernel
theorem dJ2_getChar_3b067_37 : decode cJ2_getChar_3b067 37 = .ok (.baload, 1) := by decide +kernel
theorem dJ2_getChar_3b067_38 : decode cJ2_getChar_3b067 38 = .ok (.sipush 255, 3) := by decide +kernel
theorem dJ2_getChar_3b067_41 : decode cJ2_getChar_3b067 41 = .ok (.iand, 1) := by decide +kernel
theorem dJ2_getChar_3b067_42 : decode cJ2_getChar_3b067 42 = .ok (.getstatic 59, 3) := by decide +kernel
theorem dJ2_getChar_3b067_45 : decode cJ2_getChar_3b067 45 = .ok (.ishl, 1) := by decide +kernel
theorem dJ2_getChar_3b067_46 : decode cJ2_getChar_3b067 46 = .ok (.aload_n 0, 1) := by decide +kernel
theorem dJ2_getChar_3b067_47 : decode cJ2_getChar_3b067 47 = .ok (.iload_n 1, 1) := by decide +kernel
theorem dJ2_getChar_3b067_48 : decode cJ2_getChar_3b067 48 = .ok (.baload, 1) := by decide +kernel
theorem dJ2_getChar_3b067_49 : decode cJ2_getChar_3b067 49 = .ok (.sipush 255, 3) := by decide +kernel
theorem dJ2_getChar_3b067_52 : decode cJ2_getChar_3b067 52 = .ok (.iand, 1) := by decide +kernel
theorem dJ2_getChar_3b067_53 : decode cJ2_getChar_3b067 53 = .ok (.getstatic 63, 3) := by decide +kernel
theorem dJ2_getChar_3b067_56 : decode cJ2_getChar_3b067 56 = .ok (.ishl, 1) := by decide +kernel
theorem dJ2_getChar_3b067_57 : decode cJ2_getChar_3b067 57 = .ok (.ior, 1) := by decide +kernel
