theorem dX8_fits_1 : decode cX8_fits 1 = .ok (.getfield 19, 3) := by decide +kernel
theorem dX8_fits_4 : decode cX8_fits 4 = .ok (.iload_n 1, 1) := by decide +kernel
theorem dX8_fits_5 : decode cX8_fits 5 = .ok (.invokevirtual 106, 3) := by decide +kernel
theorem dX8_fits_8 : decode cX8_fits 8 = .ok (.ifCond .eq 14, 3) := by decide +kernel
theorem dX8_fits_11 : decode cX8_fits 11 = .ok (.aload_n 0, 1) := by decide +kernel
theorem dX8_fits_12 : decode cX8_fits 12 = .ok (.getfield 19, 3) := by decide +kernel
theorem dX8_fits_15 : decode cX8_fits 15 = .ok (.iload_n 2, 1) := by decide +kernel
theorem dX8_fits_16 : decode cX8_fits 16 = .ok (.invokevirtual 129, 3) := by decide +kernel
theorem dX8_fits_19 : decode cX8_fits 19 = .ok (.ifCond .ne 5, 3) := by decide +kernel
theorem dX8_fits_22 : decode cX8_fits 22 = .ok (.iconst (-1), 1) := by decide +kernel
theorem dX8_fits_23 : decode cX8_fits 23 = .ok (.ireturn, 1) := by decide +kernel
theorem dX8_fits_24 : decode cX8_fits 24 = .ok (.aload_n 0, 1) := by decide +kernel
theorem dX8_fits_25 : decode cX8_fits 25 = .ok (.getfield 19, 3) := by decide +kernel
theorem dX8_fits_28 : decode cX8_fits 28 = .ok (.iload_n 1, 1) := by decide +kernel
theorem dX8_fits_29 : decode cX8_fits 29 = .ok (.iload_n 2, 1) := by decide +kernel
theorem dX8_fits_30 : decode cX8_fits 30 = .ok (.aload_n 0, 1) := by decide +kernel
theorem dX8_fits_31 : decode cX8_fits 31 = .ok (.getfield 67, 3) := by decide +kernel
theorem dX8_fits_34 : decode cX8_fits 34 = .ok (.invokevirtual 168, 3) := by decide +kernel
theorem dX8_fits_37 : decode cX8_fits 37 = .ok (.ireturn, 1) := by decide +kernel
theorem dX8_wear_0 : decode cX8_wear 0 = .ok (.aload_n 0, 1) := by decide +kernel
theorem dX8_wear_1 : decode cX8_wear 1 = .ok (.getfield 19, 3) := by decide +kernel
theorem dX8_wear_4 : decode cX8_wear 4 = .ok (.iload_n 1, 1) := by decide +kernel
theorem dX8_wear_5 : decode cX8_wear 5 = .ok (.invokevirtual 106, 3) := by decide +kernel
theorem dX8_wear_8 : decode cX8_wear 8 = .ok (.ifCond .eq 14, 3) := by decide +kernel
theorem dX8_wear_11 : decode cX8_wear 11 = .ok (.aload_n 0, 1) := by decide +kernel
theorem dX8_wear_12 : decode cX8_wear 12 = .ok (.getfield 19, 3) := by decide +kernel
theorem dX8_wear_15 : decode cX8_wear 15 = .ok (.iload_n 2, 1) := by decide +kernel
theorem dX8_wear_16 : decode cX8_wear 16 = .ok (.invokevirtual 129, 3) := by decide +kernel
theorem dX8_wear_19 : decode cX8_wear 19 = .ok (.ifCond .ne 5, 3) := by decide +kernel
theorem dX8_wear_22 : decode cX8_wear 22 = .ok (.iconst (-1), 1) := by decide +kernel
theorem dX8_wear_23 : decode cX8_wear 23 = .ok (.ireturn, 1) := by decide +kernel
theorem dX8_wear_24 : decode cX8_wear 24 = .ok (.aload_n 0, 1) := by decide +kernel
theorem dX8_wear_25 : decode cX8_wear 25 = .ok (.getfield 19, 3) := by decide +kernel
theorem dX8_wear_28 : decode cX8_wear 28 = .ok (.iload_n 1, 1) := by decide +kernel
theorem dX8_wear_29 : decode cX8_wear 29 = .ok (.iload_n 2, 1) := by decide +kernel
theorem dX8_wear_30 : decode cX8_wear 30 = .ok (.aload_n 0, 1) := by decide +kernel
theorem dX8_wear_31 : decode cX8_wear 31 = .ok (.getfield 67, 3) := by decide +kernel
theorem dX8_wear_34 : decode cX8_wear 34 = .ok (.invokevirtual 168, 3) := by decide +kernel
theorem dX8_wear_37 : decode cX8_wear 37 = .ok (.ifCond .ne 6, 3) := by decide +kernel
theorem dX8_wear_40 : decode cX8_wear 40 = .ok (.bipush (-2), 2) := by decide +kernel
theorem dX8_wear_42 : decode cX8_wear 42 = .ok (.ireturn, 1) := by decide +kernel
theorem dX8_wear_43 : decode cX8_wear 43 = .ok (.aload_n 0, 1) := by decide +kernel
theorem dX8_wear_44 : decode cX8_wear 44 = .ok (.getfield 19, 3) := by decide +kernel
theorem dX8_wear_47 : decode cX8_wear 47 = .ok (.iload_n 1, 1) := by decide +kernel
theorem dX8_wear_48 : decode cX8_wear 48 = .ok (.aload_n 0, 1) := by decide +kernel
theorem dX8_wear_49 : decode cX8_wear 49 = .ok (.getfield 19, 3) := by decide +kernel
theorem dX8_wear_52 : decode cX8_wear 52 = .ok (.getfield 132, 3) := by decide +kernel
theorem dX8_wear_55 : decode cX8_wear 55 = .ok (.iload_n 2, 1) := by decide +kernel
theorem dX8_wear_56 : decode cX8_wear 56 = .ok (.aaload, 1) := by decide +kernel
theorem dX8_wear_57 : decode cX8_wear 57 = .ok (.getfield 136, 3) := by decide +kernel
theorem dX8_wear_60 : decode cX8_wear 60 = .ok (.invokevirtual 125, 3) := by decide +kernel
theorem dX8_wear_63 : decode cX8_wear 63 = .ok (.istore_n 3, 1) := by decide +kernel
theorem dX8_wear_64 : decode cX8_wear 64 = .ok (.aload_n 0, 1) := by decide +kernel
theorem dX8_wear_65 : decode cX8_wear 65 = .ok (.getfield 19, 3) := by decide +kernel
theorem dX8_wear_68 : decode cX8_wear 68 = .ok (.iload_n 3, 1) := by decide +kernel
theorem dX8_wear_69 : decode cX8_wear 69 = .ok (.invokevirtual 129, 3) := by decide +kernel
theorem dX8_wear_72 : decode cX8_wear 72 = .ok (.ifCond .eq 17, 3) := by decide +kernel
theorem dX8_wear_75 : decode cX8_wear 75 = .ok (.aload_n 0, 1) := by decide +kernel
theorem dX8_wear_76 : decode cX8_wear 76 = .ok (.getfield 19, 3) := by decide +kernel
theorem dX8_wear_79 : decode cX8_wear 79 = .ok (.getfield 132, 3) := by decide +kernel
theorem dX8_wear_82 : decode cX8_wear 82 = .ok (.iload_n 3, 1) := by decide +kernel
theorem dX8_wear_83 : decode cX8_wear 83 = .ok (.aaload, 1) := by decide +kernel
theorem dX8_wear_84 : decode cX8_wear 84 = .ok (.bipush (-4), 2) := by decide +kernel
theorem dX8_wear_86 : decode cX8_wear 86 = .ok (.putfield 158, 3) := by decide +kernel
theorem dX8_wear_89 : decode cX8_wear 89 = .ok (.aload_n 0, 1) := by decide +kernel
theorem dX8_wear_90 : decode cX8_wear 90 = .ok (.getfield 19, 3) := by decide +kernel
theorem dX8_wear_93 : decode cX8_wear 93 = .ok (.iload_n 1, 1) := by decide +kernel
theorem dX8_wear_94 : decode cX8_wear 94 = .ok (.iload_n 2, 1) := by decide +kernel
theorem dX8_wear_95 : decode cX8_wear 95 = .ok (.aload_n 0, 1) := by decide +kernel
theorem dX8_wear_96 : decode cX8_wear 96 = .ok (.getfield 67, 3) := by decide +kernel
theorem dX8_wear_99 : decode cX8_wear 99 = .ok (.invokevirtual 172, 3) := by decide +kernel
theorem dX8_wear_102 : decode cX8_wear 102 = .ok (.iload_n 3, 1) := by decide +kernel
theorem dX8_wear_103 : decode cX8_wear 103 = .ok (.ireturn, 1) := by decide +kernel
theorem dX8_doff_0 : decode cX8_doff 0 = .ok (.aload_n 0, 1) := by decide +kernel
theorem dX8_doff_1 : decode cX8_doff 1 = .ok (.getfield 19, 3) := by decide +kernel
theorem dX8_doff_4 : decode cX8_doff 4 = .ok (.iload_n 1, 1) := by decide +kernel
theorem dX8_doff_5 : decode cX8_doff 5 = .ok (.invokevirtual 106, 3) := by decide +kernel
theorem dX8_doff_8 : decode cX8_doff 8 = .ok (.ifCond .eq 10, 3) := by decide +kernel
theorem dX8_doff_11 : decode cX8_doff 11 = .ok (.iload_n 2, 1) := by decide +kernel
theorem dX8_doff_12 : decode cX8_doff 12 = .ok (.invokestatic 175, 3) := by decide +kernel
theorem dX8_doff_15 : decode cX8_doff 15 = .ok (.ifCond .ne 5, 3) := by decide +kernel
theorem dX8_doff_18 : decode cX8_doff 18 = .ok (.iconst (-1), 1) := by decide +kernel
theorem dX8_doff_19 : decode cX8_doff 19 = .ok (.ireturn, 1) := by decide +kernel
theorem dX8_doff_20 : decode cX8_doff 20 = .ok (.aload_n 0, 1) := by decide +kernel
theorem dX8_doff_21 : decode cX8_doff 21 = .ok (.getfield 19, 3) := by decide +kernel
theorem dX8_doff_24 : decode cX8_doff 24 = .ok (.iload_n 1, 1) := by decide +kernel
theorem dX8_doff_25 : decode cX8_doff 25 = .ok (.iload_n 2, 1) := by decide +kernel
theorem dX8_doff_26 : decode cX8_doff 26 = .ok (.invokevirtual 125, 3) := by decide +kernel
theorem dX8_doff_29 : decode cX8_doff 29 = .ok (.istore_n 3, 1) := by decide +kernel
theorem dX8_doff_30 : decode cX8_doff 30 = .ok (.aload_n 0, 1) := by decide +kernel
theorem dX8_doff_31 : decode cX8_doff 31 = .ok (.getfield 19, 3) := by decide +kernel
theorem dX8_doff_34 : decode cX8_doff 34 = .ok (.iload_n 3, 1) := by decide +kernel
theorem dX8_doff_35 : decode cX8_doff 35 = .ok (.invokevirtual 129, 3) := by decide +kernel
theorem dX8_doff_38 : decode cX8_doff 38 = .ok (.ifCond .eq 17, 3) := by decide +kernel
theorem dX8_doff_41 : decode cX8_doff 41 = .ok (.aload_n 0, 1) := by decide +kernel
theorem dX8_doff_42 : decode cX8_doff 42 = .ok (.getfield 19, 3) := by decide +kernel
theorem dX8_doff_45 : decode cX8_doff 45 = .ok (.getfield 132, 3) := by decide +kernel
theorem dX8_doff_48 : decode cX8_doff 48 = .ok (.iload_n 3, 1) := by decide +kernel
theorem dX8_doff_49 : decode cX8_doff 49 = .ok (.aaload, 1) := by decide +kernel
theorem dX8_doff_50 : decode cX8_doff 50 = .ok (.bipush (-4), 2) := by decide +kernel
theorem dX8_doff_52 : decode cX8_doff 52 = .ok (.putfield 158, 3) := by decide +kernel
theorem dX8_doff_55 : decode cX8_doff 55 = .ok (.iload_n 3, 1) := by decide +kernel
theorem dX8_doff_56 : decode cX8_doff 56 = .ok (.ireturn, 1) := by decide +kernel
theorem dX8_cold_0 : decode cX8_cold 0 = .ok (.iload_n 1, 1) := by decide +kernel
theorem dX8_cold_1 : decode cX8_cold 1 = .ok (.invokestatic 175, 3) := by decide +kernel
theorem dX8_cold_4 : decode cX8_cold 4 = .ok (.ifCond .eq 14, 3) := by decide +kernel
theorem dX8_cold_7 : decode cX8_cold 7 = .ok (.aload_n 0, 1) := by decide +kernel
theorem dX8_cold_8 : decode cX8_cold 8 = .ok (.getfield 19, 3) := by decide +kernel
theorem dX8_cold_11 : decode cX8_cold 11 = .ok (.iload_n 1, 1) := by decide +kernel
theorem dX8_cold_12 : decode cX8_cold 12 = .ok (.invokevirtual 178, 3) := by decide +kernel
theorem dX8_cold_15 : decode cX8_cold 15 = .ok (.goto 4, 3) := by decide +kernel
theorem dX8_cold_18 : decode cX8_cold 18 = .ok (.iconst (-1), 1) := by decide +kernel
theorem dX8_cold_19 : decode cX8_cold 19 = .ok (.ireturn, 1) := by decide +kernel
theorem dX8_deal_0 : decode cX8_deal 0 = .ok (.iload_n 2, 1) := by decide +kernel
theorem dX8_deal_1 : decode cX8_deal 1 = .ok (.bipush 10, 2) := by decide +kernel
theorem dX8_deal_3 : decode cX8_deal 3 = .ok (.isub, 1) := by decide +kernel
theorem dX8_deal_4 : decode cX8_deal 4 = .ok (.istore_n 3, 1) := by decide +kernel
theorem dX8_deal_5 : decode cX8_deal 5 = .ok (.iload_n 1, 1) := by decide +kernel
theorem dX8_deal_6 : decode cX8_deal 6 = .ok (.invokestatic 175, 3) := by decide +kernel
theorem dX8_deal_9 : decode cX8_deal 9 = .ok (.ifCond .eq 21, 3) := by decide +kernel
theorem dX8_deal_12 : decode cX8_deal 12 = .ok (.iload_n 2, 1) := by decide +kernel
theorem dX8_deal_13 : decode cX8_deal 13 = .ok (.invokestatic 182, 3) := by decide +kernel
theorem dX8_deal_16 : decode cX8_deal 16 = .ok (.ifCond .ne 16, 3) := by decide +kernel
theorem dX8_deal_19 : decode cX8_deal 19 = .ok (.aload_n 0, 1) := by decide +kernel
theorem dX8_deal_20 : decode cX8_deal 20 = .ok (.getfield 19, 3) := by decide +kernel
theorem dX8_deal_23 : decode cX8_deal 23 = .ok (.iload_n 3, 1) := by decide +kernel
theorem dX8_deal_24 : decode cX8_deal 24 = .ok (.invokevirtual 106, 3) := by decide +kernel
theorem dX8_deal_27 : decode cX8_deal 27 = .ok (.ifCond .ne 5, 3) := by decide +kernel
theorem dX8_deal_30 : decode cX8_deal 30 = .ok (.iconst (-1), 1) := by decide +kernel
theorem dX8_deal_31 : decode cX8_deal 31 = .ok (.ireturn, 1) := by decide +kernel
theorem dX8_deal_32 : decode cX8_deal 32 = .ok (.aload_n 0, 1) := by decide +kernel
theorem dX8_deal_33 : decode cX8_deal 33 = .ok (.getfield 52, 3) := by decide +kernel
theorem dX8_deal_36 : decode cX8_deal 36 = .ok (.aload_n 0, 1) := by decide +kernel
theorem dX8_deal_37 : decode cX8_deal 37 = .ok (.getfield 19, 3) := by decide +kernel
theorem dX8_deal_40 : decode cX8_deal 40 = .ok (.iload_n 1, 1) := by decide +kernel
theorem dX8_deal_41 : decode cX8_deal 41 = .ok (.aload_n 0, 1) := by decide +kernel
theorem dX8_deal_42 : decode cX8_deal 42 = .ok (.getfield 67, 3) := by decide +kernel
theorem dX8_deal_45 : decode cX8_deal 45 = .ok (.invokevirtual 185, 3) := by decide +kernel
theorem dX8_deal_48 : decode cX8_deal 48 = .ok (.iload_n 2, 1) := by decide +kernel
theorem dX8_deal_49 : decode cX8_deal 49 = .ok (.ifCond .ne 11, 3) := by decide +kernel
theorem dX8_deal_52 : decode cX8_deal 52 = .ok (.aload_n 0, 1) := by decide +kernel
theorem dX8_deal_53 : decode cX8_deal 53 = .ok (.getfield 52, 3) := by decide +kernel
theorem dX8_deal_56 : decode cX8_deal 56 = .ok (.getfield 189, 3) := by decide +kernel
theorem dX8_deal_59 : decode cX8_deal 59 = .ok (.ireturn, 1) := by decide +kernel
theorem dX8_deal_60 : decode cX8_deal 60 = .ok (.iload_n 2, 1) := by decide +kernel
theorem dX8_deal_61 : decode cX8_deal 61 = .ok (.iconst 1, 1) := by decide +kernel
theorem dX8_deal_62 : decode cX8_deal 62 = .ok (.if_icmp .ne 21, 3) := by decide +kernel
theorem dX8_deal_65 : decode cX8_deal 65 = .ok (.aload_n 0, 1) := by decide +kernel
theorem dX8_deal_66 : decode cX8_deal 66 = .ok (.getfield 19, 3) := by decide +kernel
theorem dX8_deal_69 : decode cX8_deal 69 = .ok (.getfield 192, 3) := by decide +kernel
theorem dX8_deal_72 : decode cX8_deal 72 = .ok (.aload_n 0, 1) := by decide +kernel
theorem dX8_deal_73 : decode cX8_deal 73 = .ok (.getfield 52, 3) := by decide +kernel
theorem dX8_deal_76 : decode cX8_deal 76 = .ok (.getfield 189, 3) := by decide +kernel
theorem dX8_deal_79 : decode cX8_deal 79 = .ok (.isub, 1) := by decide +kernel
theorem dX8_deal_80 : decode cX8_deal 80 = .ok (.goto 11, 3) := by decide +kernel
theorem dX8_deal_83 : decode cX8_deal 83 = .ok (.aload_n 0, 1) := by decide +kernel
theorem dX8_deal_84 : decode cX8_deal 84 = .ok (.getfield 52, 3) := by decide +kernel
theorem dX8_deal_87 : decode cX8_deal 87 = .ok (.iload_n 3, 1) := by decide +kernel
theorem dX8_deal_88 : decode cX8_deal 88 = .ok (.invokevirtual 195, 3) := by decide +kernel
theorem dX8_deal_91 : decode cX8_deal 91 = .ok (.ireturn, 1) := by decide +kernel
theorem dX8_dress_0 : decode cX8_dress 0 = .ok (.iload_n 1, 1) := by decide +kernel
theorem dX8_dress_1 : decode cX8_dress 1 = .ok (.invokestatic 175, 3) := by decide +kernel
theorem dX8_dress_4 : decode cX8_dress 4 = .ok (.ifCond .eq 15, 3) := by decide +kernel
theorem dX8_dress_7 : decode cX8_dress 7 = .ok (.aload_n 0, 1) := by decide +kernel
theorem dX8_dress_8 : decode cX8_dress 8 = .ok (.aload_n 0, 1) := by decide +kernel
theorem dX8_dress_9 : decode cX8_dress 9 = .ok (.getfield 19, 3) := by decide +kernel
theorem dX8_dress_12 : decode cX8_dress 12 = .ok (.iload_n 1, 1) := by decide +kernel
theorem dX8_dress_13 : decode cX8_dress 13 = .ok (.invokevirtual 198, 3) := by decide +kernel
theorem dX8_dress_16 : decode cX8_dress 16 = .ok (.goto 4, 3) := by decide +kernel
theorem dX8_dress_19 : decode cX8_dress 19 = .ok (.iconst (-1), 1) := by decide +kernel
theorem dX8_dress_20 : decode cX8_dress 20 = .ok (.ireturn, 1) := by decide +kernel
theorem dX8_spare_0 : decode cX8_spare 0 = .ok (.iload_n 1, 1) := by decide +kernel
theorem dX8_spare_1 : decode cX8_spare 1 = .ok (.invokestatic 175, 3) := by decide +kernel
theorem dX8_spare_4 : decode cX8_spare 4 = .ok (.ifCond .ne 5, 3) := by decide +kernel
theorem dX8_spare_7 : decode cX8_spare 7 = .ok (.iconst (-1), 1) := by decide +kernel
theorem dX8_spare_8 : decode cX8_spare 8 = .ok (.ireturn, 1) := by decide +kernel
theorem dX8_spare_9 : decode cX8_spare 9 = .ok (.aload_n 0, 1) := by decide +kernel
theorem dX8_spare_10 : decode cX8_spare 10 = .ok (.getfield 52, 3) := by decide +kernel
theorem dX8_spare_13 : decode cX8_spare 13 = .ok (.aload_n 0, 1) := by decide +kernel
theorem dX8_spare_14 : decode cX8_spare 14 = .ok (.getfield 19, 3) := by decide +kernel
theorem dX8_spare_17 : decode cX8_spare 17 = .ok (.iload_n 1, 1) := by decide +kernel
theorem dX8_spare_18 : decode cX8_spare 18 = .ok (.aload_n 0, 1) := by decide +kernel
theorem dX8_spare_19 : decode cX8_spare 19 = .ok (.getfield 67, 3) := by decide +kernel
theorem dX8_spare_22 : decode cX8_spare 22 = .ok (.invokevirtual 185, 3) := by decide +kernel
theorem dX8_spare_25 : decode cX8_spare 25 = .ok (.aload_n 0, 1) := by decide +kernel
theorem dX8_spare_26 : decode cX8_spare 26 = .ok (.getfield 52, 3) := by decide +kernel
theorem dX8_spare_29 : decode cX8_spare 29 = .ok (.aload_n 0, 1) := by decide +kernel
theorem dX8_spare_30 : decode cX8_spare 30 = .ok (.getfield 19, 3) := by decide +kernel
theorem dX8_spare_33 : decode cX8_spare 33 = .ok (.iload_n 1, 1) := by decide +kernel
theorem dX8_spare_34 : decode cX8_spare 34 = .ok (.iconst 1, 1) := by decide +kernel
theorem dX8_spare_35 : decode cX8_spare 35 = .ok (.invokevirtual 202, 3) := by decide +kernel
theorem dX8_spare_38 : decode cX8_spare 38 = .ok (.ireturn, 1) := by decide +kernel
theorem dX8_winter_0 : decode cX8_winter 0 = .ok (.aload_n 0, 1) := by decide +kernel
theorem dX8_winter_1 : decode cX8_winter 1 = .ok (.getfield 19, 3) := by decide +kernel
theorem dX8_winter_4 : decode cX8_winter 4 = .ok (.invokevirtual 206, 3) := by decide +kernel
theorem dX8_winter_7 : decode cX8_winter 7 = .ok (.ireturn, 1) := by decide +kernel
theorem dX8_spring_0 : decode cX8_spring 0 = .ok (.aload_n 0, 1) := by decide +kernel
theorem dX8_spring_1 : decode cX8_spring 1 = .ok (.getfield 19, 3) := by decide +kernel
theorem dX8_spring_4 : decode cX8_spring 4 = .ok (.iload_n 1, 1) := by decide +kernel
theorem dX8_spring_5 : decode cX8_spring 5 = .ok (.aload_n 0, 1) := by decide +kernel
theorem dX8_spring_6 : decode cX8_spring 6 = .ok (.getfield 67, 3) := by decide +kernel
theorem dX8_spring_9 : decode cX8_spring 9 = .ok (.invokevirtual 209, 3) := by decide +kernel
theorem dX8_spring_12 : decode cX8_spring 12 = .ok (.ireturn, 1) := by decide +kernel
theorem dX8_ahead_0 : decode cX8_ahead 0 = .ok (.iload_n 1, 1) := by decide +kernel
theorem dX8_ahead_1 : decode cX8_ahead 1 = .ok (.invokestatic 175, 3) := by decide +kernel
theorem dX8_ahead_4 : decode cX8_ahead 4 = .ok (.ifCond .eq 30, 3) := by decide +kernel
theorem dX8_ahead_7 : decode cX8_ahead 7 = .ok (.iload_n 2, 1) := by decide +kernel
theorem dX8_ahead_8 : decode cX8_ahead 8 = .ok (.invokestatic 213, 3) := by decide +kernel
theorem dX8_ahead_11 : decode cX8_ahead 11 = .ok (.ifCond .eq 23, 3) := by decide +kernel
theorem dX8_ahead_14 : decode cX8_ahead 14 = .ok (.iload 4, 2) := by decide +kernel
theorem dX8_ahead_16 : decode cX8_ahead 16 = .ok (.ifCond .eq 20, 3) := by decide +kernel
theorem dX8_ahead_19 : decode cX8_ahead 19 = .ok (.iload 4, 2) := by decide +kernel
theorem dX8_ahead_21 : decode cX8_ahead 21 = .ok (.bipush 10, 2) := by decide +kernel
theorem dX8_ahead_23 : decode cX8_ahead 23 = .ok (.isub, 1) := by decide +kernel
theorem dX8_ahead_24 : decode cX8_ahead 24 = .ok (.iconst 0, 1) := by decide +kernel
theorem dX8_ahead_25 : decode cX8_ahead 25 = .ok (.iload_n 2, 1) := by decide +kernel
theorem dX8_ahead_26 : decode cX8_ahead 26 = .ok (.iconst 1, 1) := by decide +kernel
theorem dX8_ahead_27 : decode cX8_ahead 27 = .ok (.isub, 1) := by decide +kernel
theorem dX8_ahead_28 : decode cX8_ahead 28 = .ok (.invokestatic 85, 3) := by decide +kernel
theorem dX8_ahead_31 : decode cX8_ahead 31 = .ok (.ifCond .ne 5, 3) := by decide +kernel
theorem dX8_ahead_34 : decode cX8_ahead 34 = .ok (.iconst (-1), 1) := by decide +kernel
theorem dX8_ahead_35 : decode cX8_ahead 35 = .ok (.ireturn, 1) := by decide +kernel
theorem dX8_ahead_36 : decode cX8_ahead 36 = .ok (.aload_n 0, 1) := by decide +kernel
theorem dX8_ahead_37 : decode cX8_ahead 37 = .ok (.getfield 23, 3) := by decide +kernel
theorem dX8_ahead_40 : decode cX8_ahead 40 = .ok (.aload_n 0, 1) := by decide +kernel
theorem dX8_ahead_41 : decode cX8_ahead 41 = .ok (.getfield 19, 3) := by decide +kernel
theorem dX8_ahead_44 : decode cX8_ahead 44 = .ok (.invokevirtual 216, 3) := by decide +kernel
theorem dX8_ahead_47 : decode cX8_ahead 47 = .ok (.aload_n 0, 1) := by decide +kernel
theorem dX8_ahead_48 : decode cX8_ahead 48 = .ok (.iload_n 1, 1) := by decide +kernel
theorem dX8_ahead_49 : decode cX8_ahead 49 = .ok (.iload_n 2, 1) := by decide +kernel
theorem dX8_ahead_50 : decode cX8_ahead 50 = .ok (.iload_n 3, 1) := by decide +kernel
theorem dX8_ahead_51 : decode cX8_ahead 51 = .ok (.invokevirtual 219, 3) := by decide +kernel
theorem dX8_ahead_54 : decode cX8_ahead 54 = .ok (.istore 5, 2) := by decide +kernel
theorem dX8_ahead_56 : decode cX8_ahead 56 = .ok (.iload 4, 2) := by decide +kernel
theorem dX8_ahead_58 : decode cX8_ahead 58 = .ok (.ifCond .ne 8, 3) := by decide +kernel
theorem dX8_ahead_61 : decode cX8_ahead 61 = .ok (.iload 5, 2) := by decide +kernel
theorem dX8_ahead_63 : decode cX8_ahead 63 = .ok (.goto 13, 3) := by decide +kernel
theorem dX8_ahead_66 : decode cX8_ahead 66 = .ok (.aload_n 0, 1) := by decide +kernel
theorem dX8_ahead_67 : decode cX8_ahead 67 = .ok (.getfield 63, 3) := by decide +kernel
theorem dX8_ahead_70 : decode cX8_ahead 70 = .ok (.iload 4, 2) := by decide +kernel
theorem dX8_ahead_72 : decode cX8_ahead 72 = .ok (.bipush 10, 2) := by decide +kernel
theorem dX8_ahead_74 : decode cX8_ahead 74 = .ok (.isub, 1) := by decide +kernel
theorem dX8_ahead_75 : decode cX8_ahead 75 = .ok (.iaload, 1) := by decide +kernel
theorem dX8_ahead_76 : decode cX8_ahead 76 = .ok (.ireturn, 1) := by decide +kernel
theorem dX8_strong_0 : decode cX8_strong 0 = .ok (.iload_n 1, 1) := by decide +kernel
theorem dX8_strong_1 : decode cX8_strong 1 = .ok (.invokestatic 175, 3) := by decide +kernel
theorem dX8_strong_4 : decode cX8_strong 4 = .ok (.ifCond .eq 10, 3) := by decide +kernel
theorem dX8_strong_7 : decode cX8_strong 7 = .ok (.iload_n 2, 1) := by decide +kernel
theorem dX8_strong_8 : decode cX8_strong 8 = .ok (.invokestatic 213, 3) := by decide +kernel
theorem dX8_strong_11 : decode cX8_strong 11 = .ok (.ifCond .ne 5, 3) := by decide +kernel
theorem dX8_strong_14 : decode cX8_strong 14 = .ok (.iconst (-1), 1) := by decide +kernel
theorem dX8_strong_15 : decode cX8_strong 15 = .ok (.ireturn, 1) := by decide +kernel
theorem dX8_strong_16 : decode cX8_strong 16 = .ok (.iconst 1, 1) := by decide +kernel
theorem dX8_strong_17 : decode cX8_strong 17 = .ok (.istore 4, 2) := by decide +kernel
theorem dX8_strong_19 : decode cX8_strong 19 = .ok (.iload 4, 2) := by decide +kernel
theorem dX8_strong_21 : decode cX8_strong 21 = .ok (.bipush 9, 2) := by decide +kernel
theorem dX8_strong_23 : decode cX8_strong 23 = .ok (.if_icmp .gt 43, 3) := by decide +kernel
theorem dX8_strong_26 : decode cX8_strong 26 = .ok (.aload_n 0, 1) := by decide +kernel
theorem dX8_strong_27 : decode cX8_strong 27 = .ok (.getfield 23, 3) := by decide +kernel
theorem dX8_strong_30 : decode cX8_strong 30 = .ok (.aload_n 0, 1) := by decide +kernel
theorem dX8_strong_31 : decode cX8_strong 31 = .ok (.getfield 19, 3) := by decide +kernel
theorem dX8_strong_34 : decode cX8_strong 34 = .ok (.invokevirtual 216, 3) := by decide +kernel
theorem dX8_strong_37 : decode cX8_strong 37 = .ok (.aload_n 0, 1) := by decide +kernel
theorem dX8_strong_38 : decode cX8_strong 38 = .ok (.getfield 23, 3) := by decide +kernel
theorem dX8_strong_41 : decode cX8_strong 41 = .ok (.iload_n 1, 1) := by decide +kernel
theorem dX8_strong_42 : decode cX8_strong 42 = .ok (.iload 4, 2) := by decide +kernel
theorem dX8_strong_44 : decode cX8_strong 44 = .ok (.invokevirtual 223, 3) := by decide +kernel
theorem dX8_strong_47 : decode cX8_strong 47 = .ok (.aload_n 0, 1) := by decide +kernel
theorem dX8_strong_48 : decode cX8_strong 48 = .ok (.iload_n 1, 1) := by decide +kernel
theorem dX8_strong_49 : decode cX8_strong 49 = .ok (.iload_n 2, 1) := by decide +kernel
theorem dX8_strong_50 : decode cX8_strong 50 = .ok (.iload_n 3, 1) := by decide +kernel
theorem dX8_strong_51 : decode cX8_strong 51 = .ok (.invokevirtual 219, 3) := by decide +kernel
theorem dX8_strong_54 : decode cX8_strong 54 = .ok (.ifCond .ne 6, 3) := by decide +kernel
theorem dX8_strong_57 : decode cX8_strong 57 = .ok (.iload 4, 2) := by decide +kernel
theorem dX8_strong_59 : decode cX8_strong 59 = .ok (.ireturn, 1) := by decide +kernel
theorem dX8_strong_60 : decode cX8_strong 60 = .ok (.iinc 4 1, 3) := by decide +kernel
theorem dX8_strong_63 : decode cX8_strong 63 = .ok (.goto (-44), 3) := by decide +kernel
theorem dX8_strong_66 : decode cX8_strong 66 = .ok (.bipush (-4), 2) := by decide +kernel
theorem dX8_strong_68 : decode cX8_strong 68 = .ok (.ireturn, 1) := by decide +kernel
theorem dX8_cut_0 : decode cX8_cut 0 = .ok (.aload_n 0, 1) := by decide +kernel
theorem dX8_cut_1 : decode cX8_cut 1 = .ok (.getfield 19, 3) := by decide +kernel
theorem dX8_cut_4 : decode cX8_cut 4 = .ok (.iload_n 1, 1) := by decide +kernel
theorem dX8_cut_5 : decode cX8_cut 5 = .ok (.invokevirtual 129, 3) := by decide +kernel
theorem dX8_cut_8 : decode cX8_cut 8 = .ok (.ifCond .eq 25, 3) := by decide +kernel
theorem dX8_cut_11 : decode cX8_cut 11 = .ok (.iload_n 2, 1) := by decide +kernel
theorem dX8_cut_12 : decode cX8_cut 12 = .ok (.iconst 1, 1) := by decide +kernel
theorem dX8_cut_13 : decode cX8_cut 13 = .ok (.aload_n 0, 1) := by decide +kernel
theorem dX8_cut_14 : decode cX8_cut 14 = .ok (.getfield 19, 3) := by decide +kernel
theorem dX8_cut_17 : decode cX8_cut 17 = .ok (.getfield 132, 3) := by decide +kernel
theorem dX8_cut_20 : decode cX8_cut 20 = .ok (.iload_n 1, 1) := by decide +kernel
theorem dX8_cut_21 : decode cX8_cut 21 = .ok (.aaload, 1) := by decide +kernel
theorem dX8_cut_22 : decode cX8_cut 22 = .ok (.getfield 144, 3) := by decide +kernel
theorem dX8_cut_25 : decode cX8_cut 25 = .ok (.iconst 1, 1) := by decide +kernel
theorem dX8_cut_26 : decode cX8_cut 26 = .ok (.isub, 1) := by decide +kernel
theorem dX8_cut_27 : decode cX8_cut 27 = .ok (.invokestatic 85, 3) := by decide +kernel
theorem dX8_cut_30 : decode cX8_cut 30 = .ok (.ifCond .ne 5, 3) := by decide +kernel
theorem dX8_cut_33 : decode cX8_cut 33 = .ok (.iconst (-1), 1) := by decide +kernel
theorem dX8_cut_34 : decode cX8_cut 34 = .ok (.ireturn, 1) := by decide +kernel
theorem dX8_cut_35 : decode cX8_cut 35 = .ok (.aload_n 0, 1) := by decide +kernel
theorem dX8_cut_36 : decode cX8_cut 36 = .ok (.getfield 19, 3) := by decide +kernel
theorem dX8_cut_39 : decode cX8_cut 39 = .ok (.getfield 132, 3) := by decide +kernel
theorem dX8_cut_42 : decode cX8_cut 42 = .ok (.iload_n 1, 1) := by decide +kernel
theorem dX8_cut_43 : decode cX8_cut 43 = .ok (.aaload, 1) := by decide +kernel
theorem dX8_cut_44 : decode cX8_cut 44 = .ok (.getfield 158, 3) := by decide +kernel
theorem dX8_cut_47 : decode cX8_cut 47 = .ok (.bipush (-4), 2) := by decide +kernel
theorem dX8_cut_49 : decode cX8_cut 49 = .ok (.if_icmp .eq 6, 3) := by decide +kernel
theorem dX8_cut_52 : decode cX8_cut 52 = .ok (.bipush (-2), 2) := by decide +kernel
theorem dX8_cut_54 : decode cX8_cut 54 = .ok (.ireturn, 1) := by decide +kernel
theorem dX8_cut_55 : decode cX8_cut 55 = .ok (.aload_n 0, 1) := by decide +kernel
theorem dX8_cut_56 : decode cX8_cut 56 = .ok (.getfield 19, 3) := by decide +kernel
theorem dX8_cut_59 : decode cX8_cut 59 = .ok (.getfield 132, 3) := by decide +kernel
theorem dX8_cut_62 : decode cX8_cut 62 = .ok (.iload_n 1, 1) := by decide +kernel
theorem dX8_cut_63 : decode cX8_cut 63 = .ok (.aaload, 1) := by decide +kernel
theorem dX8_cut_64 : decode cX8_cut 64 = .ok (.getfield 144, 3) := by decide +kernel
theorem dX8_cut_67 : decode cX8_cut 67 = .ok (.istore_n 3, 1) := by decide +kernel
theorem dX8_cut_68 : decode cX8_cut 68 = .ok (.aload_n 0, 1) := by decide +kernel
theorem dX8_cut_69 : decode cX8_cut 69 = .ok (.getfield 19, 3) := by decide +kernel
theorem dX8_cut_72 : decode cX8_cut 72 = .ok (.getfield 132, 3) := by decide +kernel
theorem dX8_cut_75 : decode cX8_cut 75 = .ok (.iload_n 1, 1) := by decide +kernel
theorem dX8_cut_76 : decode cX8_cut 76 = .ok (.aaload, 1) := by decide +kernel
theorem dX8_cut_77 : decode cX8_cut 77 = .ok (.iload_n 2, 1) := by decide +kernel
theorem dX8_cut_78 : decode cX8_cut 78 = .ok (.putfield 144, 3) := by decide +kernel
theorem dX8_cut_81 : decode cX8_cut 81 = .ok (.iload_n 3, 1) := by decide +kernel
theorem dX8_cut_82 : decode cX8_cut 82 = .ok (.ireturn, 1) := by decide +kernel
theorem dX8_pays_0 : decode cX8_pays 0 = .ok (.aload_n 0, 1) := by decide +kernel
theorem dX8_pays_1 : decode cX8_pays 1 = .ok (.getfield 19, 3) := by decide +kernel
theorem dX8_pays_4 : decode cX8_pays 4 = .ok (.iload_n 1, 1) := by decide +kernel
theorem dX8_pays_5 : decode cX8_pays 5 = .ok (.invokevirtual 129, 3) := by decide +kernel
theorem dX8_pays_8 : decode cX8_pays 8 = .ok (.ifCond .eq 18, 3) := by decide +kernel
theorem dX8_pays_11 : decode cX8_pays 11 = .ok (.iload_n 2, 1) := by decide +kernel
theorem dX8_pays_12 : decode cX8_pays 12 = .ok (.invokestatic 213, 3) := by decide +kernel
theorem dX8_pays_15 : decode cX8_pays 15 = .ok (.ifCond .eq 11, 3) := by decide +kernel
theorem dX8_pays_18 : decode cX8_pays 18 = .ok (.iload 4, 2) := by decide +kernel
theorem dX8_pays_20 : decode cX8_pays 20 = .ok (.invokestatic 182, 3) := by decide +kernel
theorem dX8_pays_23 : decode cX8_pays 23 = .ok (.ifCond .ne 5, 3) := by decide +kernel
theorem dX8_pays_26 : decode cX8_pays 26 = .ok (.iconst (-1), 1) := by decide +kernel
theorem dX8_pays_27 : decode cX8_pays 27 = .ok (.ireturn, 1) := by decide +kernel
theorem dX8_pays_28 : decode cX8_pays 28 = .ok (.aload_n 0, 1) := by decide +kernel
theorem dX8_pays_29 : decode cX8_pays 29 = .ok (.getfield 19, 3) := by decide +kernel
theorem dX8_pays_32 : decode cX8_pays 32 = .ok (.getfield 132, 3) := by decide +kernel
theorem dX8_pays_35 : decode cX8_pays 35 = .ok (.iload_n 1, 1) := by decide +kernel
theorem dX8_pays_36 : decode cX8_pays 36 = .ok (.aaload, 1) := by decide +kernel
theorem dX8_pays_37 : decode cX8_pays 37 = .ok (.getfield 158, 3) := by decide +kernel
theorem dX8_pays_40 : decode cX8_pays 40 = .ok (.bipush (-4), 2) := by decide +kernel
theorem dX8_pays_42 : decode cX8_pays 42 = .ok (.if_icmp .eq 6, 3) := by decide +kernel
theorem dX8_pays_45 : decode cX8_pays 45 = .ok (.bipush (-2), 2) := by decide +kernel
theorem dX8_pays_47 : decode cX8_pays 47 = .ok (.ireturn, 1) := by decide +kernel
theorem dX8_pays_48 : decode cX8_pays 48 = .ok (.aload_n 0, 1) := by decide +kernel
theorem dX8_pays_49 : decode cX8_pays 49 = .ok (.aload_n 0, 1) := by decide +kernel
theorem dX8_pays_50 : decode cX8_pays 50 = .ok (.getfield 19, 3) := by decide +kernel
theorem dX8_pays_53 : decode cX8_pays 53 = .ok (.getfield 132, 3) := by decide +kernel
theorem dX8_pays_56 : decode cX8_pays 56 = .ok (.iload_n 1, 1) := by decide +kernel
theorem dX8_pays_57 : decode cX8_pays 57 = .ok (.aaload, 1) := by decide +kernel
theorem dX8_pays_58 : decode cX8_pays 58 = .ok (.getfield 136, 3) := by decide +kernel
theorem dX8_pays_61 : decode cX8_pays 61 = .ok (.iload_n 2, 1) := by decide +kernel
theorem dX8_pays_62 : decode cX8_pays 62 = .ok (.iload_n 3, 1) := by decide +kernel
theorem dX8_pays_63 : decode cX8_pays 63 = .ok (.invokevirtual 227, 3) := by decide +kernel
theorem dX8_pays_66 : decode cX8_pays 66 = .ok (.aload_n 0, 1) := by decide +kernel
theorem dX8_pays_67 : decode cX8_pays 67 = .ok (.iload_n 1, 1) := by decide +kernel
theorem dX8_pays_68 : decode cX8_pays 68 = .ok (.iload_n 2, 1) := by decide +kernel
theorem dX8_pays_69 : decode cX8_pays 69 = .ok (.iload_n 3, 1) := by decide +kernel
theorem dX8_pays_70 : decode cX8_pays 70 = .ok (.invokevirtual 231, 3) := by decide +kernel
theorem dX8_pays_73 : decode cX8_pays 73 = .ok (.aload_n 0, 1) := by decide +kernel
theorem dX8_pays_74 : decode cX8_pays 74 = .ok (.getfield 234, 3) := by decide +kernel
theorem dX8_pays_77 : decode cX8_pays 77 = .ok (.bipush (-4), 2) := by decide +kernel
theorem dX8_pays_79 : decode cX8_pays 79 = .ok (.if_icmp .ne 6, 3) := by decide +kernel
theorem dX8_pays_82 : decode cX8_pays 82 = .ok (.bipush (-4), 2) := by decide +kernel
theorem dX8_pays_84 : decode cX8_pays 84 = .ok (.ireturn, 1) := by decide +kernel
theorem dX8_pays_85 : decode cX8_pays 85 = .ok (.iload 4, 2) := by decide +kernel
theorem dX8_pays_87 : decode cX8_pays 87 = .ok (.ifCond .ne 10, 3) := by decide +kernel
theorem dX8_pays_90 : decode cX8_pays 90 = .ok (.aload_n 0, 1) := by decide +kernel
theorem dX8_pays_91 : decode cX8_pays 91 = .ok (.getfield 237, 3) := by decide +kernel
theorem dX8_pays_94 : decode cX8_pays 94 = .ok (.goto 7, 3) := by decide +kernel
theorem dX8_pays_97 : decode cX8_pays 97 = .ok (.aload_n 0, 1) := by decide +kernel
theorem dX8_pays_98 : decode cX8_pays 98 = .ok (.getfield 240, 3) := by decide +kernel
theorem dX8_pays_101 : decode cX8_pays 101 = .ok (.ireturn, 1) := by decide +kernel
theorem dX8_best_0 : decode cX8_best 0 = .ok (.iload_n 1, 1) := by decide +kernel
theorem dX8_best_1 : decode cX8_best 1 = .ok (.invokestatic 175, 3) := by decide +kernel
theorem dX8_best_4 : decode cX8_best 4 = .ok (.ifCond .eq 18, 3) := by decide +kernel
theorem dX8_best_7 : decode cX8_best 7 = .ok (.iload_n 2, 1) := by decide +kernel
theorem dX8_best_8 : decode cX8_best 8 = .ok (.invokestatic 213, 3) := by decide +kernel
theorem dX8_best_11 : decode cX8_best 11 = .ok (.ifCond .eq 11, 3) := by decide +kernel
theorem dX8_best_14 : decode cX8_best 14 = .ok (.iload 4, 2) := by decide +kernel
theorem dX8_best_16 : decode cX8_best 16 = .ok (.invokestatic 182, 3) := by decide +kernel
theorem dX8_best_19 : decode cX8_best 19 = .ok (.ifCond .ne 5, 3) := by decide +kernel
theorem dX8_best_22 : decode cX8_best 22 = .ok (.iconst (-1), 1) := by decide +kernel
theorem dX8_best_23 : decode cX8_best 23 = .ok (.ireturn, 1) := by decide +kernel
theorem dX8_best_24 : decode cX8_best 24 = .ok (.aload_n 0, 1) := by decide +kernel
theorem dX8_best_25 : decode cX8_best 25 = .ok (.iload_n 1, 1) := by decide +kernel
theorem dX8_best_26 : decode cX8_best 26 = .ok (.iload_n 2, 1) := by decide +kernel
theorem dX8_best_27 : decode cX8_best 27 = .ok (.iload_n 3, 1) := by decide +kernel
theorem dX8_best_28 : decode cX8_best 28 = .ok (.invokevirtual 227, 3) := by decide +kernel
theorem dX8_best_31 : decode cX8_best 31 = .ok (.iconst 0, 1) := by decide +kernel
theorem dX8_best_32 : decode cX8_best 32 = .ok (.istore 5, 2) := by decide +kernel
theorem dX8_best_34 : decode cX8_best 34 = .ok (.iload 5, 2) := by decide +kernel
theorem dX8_best_36 : decode cX8_best 36 = .ok (.aload_n 0, 1) := by decide +kernel
theorem dX8_best_37 : decode cX8_best 37 = .ok (.getfield 19, 3) := by decide +kernel
theorem dX8_best_40 : decode cX8_best 40 = .ok (.getfield 243, 3) := by decide +kernel
theorem dX8_best_43 : decode cX8_best 43 = .ok (.if_icmp .ge 52, 3) := by decide +kernel
theorem dX8_best_46 : decode cX8_best 46 = .ok (.aload_n 0, 1) := by decide +kernel
theorem dX8_best_47 : decode cX8_best 47 = .ok (.getfield 19, 3) := by decide +kernel
theorem dX8_best_50 : decode cX8_best 50 = .ok (.getfield 132, 3) := by decide +kernel
theorem dX8_best_53 : decode cX8_best 53 = .ok (.iload 5, 2) := by decide +kernel
theorem dX8_best_55 : decode cX8_best 55 = .ok (.aaload, 1) := by decide +kernel
theorem dX8_best_56 : decode cX8_best 56 = .ok (.getfield 136, 3) := by decide +kernel
theorem dX8_best_59 : decode cX8_best 59 = .ok (.iload_n 1, 1) := by decide +kernel
theorem dX8_best_60 : decode cX8_best 60 = .ok (.if_icmp .ne 29, 3) := by decide +kernel
theorem dX8_best_63 : decode cX8_best 63 = .ok (.aload_n 0, 1) := by decide +kernel
theorem dX8_best_64 : decode cX8_best 64 = .ok (.getfield 19, 3) := by decide +kernel
theorem dX8_best_67 : decode cX8_best 67 = .ok (.getfield 132, 3) := by decide +kernel
theorem dX8_best_70 : decode cX8_best 70 = .ok (.iload 5, 2) := by decide +kernel
theorem dX8_best_72 : decode cX8_best 72 = .ok (.aaload, 1) := by decide +kernel
theorem dX8_best_73 : decode cX8_best 73 = .ok (.getfield 158, 3) := by decide +kernel
theorem dX8_best_76 : decode cX8_best 76 = .ok (.bipush (-4), 2) := by decide +kernel
theorem dX8_best_78 : decode cX8_best 78 = .ok (.if_icmp .ne 11, 3) := by decide +kernel
theorem dX8_best_81 : decode cX8_best 81 = .ok (.aload_n 0, 1) := by decide +kernel
theorem dX8_best_82 : decode cX8_best 82 = .ok (.iload 5, 2) := by decide +kernel
theorem dX8_best_84 : decode cX8_best 84 = .ok (.iload_n 2, 1) := by decide +kernel
theorem dX8_best_85 : decode cX8_best 85 = .ok (.iload_n 3, 1) := by decide +kernel
theorem dX8_best_86 : decode cX8_best 86 = .ok (.invokevirtual 231, 3) := by decide +kernel
theorem dX8_best_89 : decode cX8_best 89 = .ok (.iinc 5 1, 3) := by decide +kernel
theorem dX8_best_92 : decode cX8_best 92 = .ok (.goto (-58), 3) := by decide +kernel
theorem dX8_best_95 : decode cX8_best 95 = .ok (.aload_n 0, 1) := by decide +kernel
theorem dX8_best_96 : decode cX8_best 96 = .ok (.getfield 234, 3) := by decide +kernel
theorem dX8_best_99 : decode cX8_best 99 = .ok (.bipush (-4), 2) := by decide +kernel
theorem dX8_best_101 : decode cX8_best 101 = .ok (.if_icmp .ne 6, 3) := by decide +kernel
theorem dX8_best_104 : decode cX8_best 104 = .ok (.bipush (-4), 2) := by decide +kernel
theorem dX8_best_106 : decode cX8_best 106 = .ok (.ireturn, 1) := by decide +kernel
theorem dX8_best_107 : decode cX8_best 107 = .ok (.iload 4, 2) := by decide +kernel
theorem dX8_best_109 : decode cX8_best 109 = .ok (.ifCond .ne 18, 3) := by decide +kernel
theorem dX8_best_112 : decode cX8_best 112 = .ok (.bipush 100, 2) := by decide +kernel
theorem dX8_best_114 : decode cX8_best 114 = .ok (.aload_n 0, 1) := by decide +kernel
theorem dX8_best_115 : decode cX8_best 115 = .ok (.getfield 234, 3) := by decide +kernel
theorem dX8_best_118 : decode cX8_best 118 = .ok (.imul, 1) := by decide +kernel
theorem dX8_best_119 : decode cX8_best 119 = .ok (.aload_n 0, 1) := by decide +kernel
theorem dX8_best_120 : decode cX8_best 120 = .ok (.getfield 237, 3) := by decide +kernel
theorem dX8_best_123 : decode cX8_best 123 = .ok (.iadd, 1) := by decide +kernel
theorem dX8_best_124 : decode cX8_best 124 = .ok (.goto 7, 3) := by decide +kernel
theorem dX8_best_127 : decode cX8_best 127 = .ok (.aload_n 0, 1) := by decide +kernel
theorem dX8_best_128 : decode cX8_best 128 = .ok (.getfield 240, 3) := by decide +kernel
theorem dX8_best_131 : decode cX8_best 131 = .ok (.ireturn, 1) := by decide +kernel
theorem dX8_sew_0 : decode cX8_sew 0 = .ok (.aload_n 0, 1) := by decide +kernel
theorem dX8_sew_1 : decode cX8_sew 1 = .ok (.getfield 19, 3) := by decide +kernel
theorem dX8_sew_4 : decode cX8_sew 4 = .ok (.getfield 243, 3) := by decide +kernel
theorem dX8_sew_7 : decode cX8_sew 7 = .ok (.iload_n 1, 1) := by decide +kernel
theorem dX8_sew_8 : decode cX8_sew 8 = .ok (.iload_n 2, 1) := by decide +kernel
theorem dX8_sew_9 : decode cX8_sew 9 = .ok (.invokestatic 246, 3) := by decide +kernel
theorem dX8_sew_12 : decode cX8_sew 12 = .ok (.istore_n 3, 1) := by decide +kernel
theorem dX8_sew_13 : decode cX8_sew 13 = .ok (.iload_n 3, 1) := by decide +kernel
theorem dX8_sew_14 : decode cX8_sew 14 = .ok (.ifCond .eq 7, 3) := by decide +kernel
theorem dX8_sew_17 : decode cX8_sew 17 = .ok (.iload_n 3, 1) := by decide +kernel
theorem dX8_sew_18 : decode cX8_sew 18 = .ok (.goto 13, 3) := by decide +kernel
theorem dX8_sew_21 : decode cX8_sew 21 = .ok (.aload_n 0, 1) := by decide +kernel
theorem dX8_sew_22 : decode cX8_sew 22 = .ok (.getfield 19, 3) := by decide +kernel
theorem dX8_sew_25 : decode cX8_sew 25 = .ok (.iload_n 1, 1) := by decide +kernel
theorem dX8_sew_26 : decode cX8_sew 26 = .ok (.iload_n 2, 1) := by decide +kernel
theorem dX8_sew_27 : decode cX8_sew 27 = .ok (.iconst 3, 1) := by decide +kernel
theorem dX8_sew_28 : decode cX8_sew 28 = .ok (.invokevirtual 249, 3) := by decide +kernel
theorem dX8_sew_31 : decode cX8_sew 31 = .ok (.ireturn, 1) := by decide +kernel
theorem dX8_wish_0 : decode cX8_wish 0 = .ok (.iload_n 1, 1) := by decide +kernel
theorem dX8_wish_1 : decode cX8_wish 1 = .ok (.invokestatic 175, 3) := by decide +kernel
theorem dX8_wish_4 : decode cX8_wish 4 = .ok (.ifCond .eq 18, 3) := by decide +kernel
theorem dX8_wish_7 : decode cX8_wish 7 = .ok (.iload_n 2, 1) := by decide +kernel
theorem dX8_wish_8 : decode cX8_wish 8 = .ok (.invokestatic 213, 3) := by decide +kernel
theorem dX8_wish_11 : decode cX8_wish 11 = .ok (.ifCond .eq 11, 3) := by decide +kernel
theorem dX8_wish_14 : decode cX8_wish 14 = .ok (.iload 4, 2) := by decide +kernel
theorem dX8_wish_16 : decode cX8_wish 16 = .ok (.invokestatic 182, 3) := by decide +kernel
theorem dX8_wish_19 : decode cX8_wish 19 = .ok (.ifCond .ne 5, 3) := by decide +kernel
theorem dX8_wish_22 : decode cX8_wish 22 = .ok (.iconst (-1), 1) := by decide +kernel
theorem dX8_wish_23 : decode cX8_wish 23 = .ok (.ireturn, 1) := by decide +kernel
theorem dX8_wish_24 : decode cX8_wish 24 = .ok (.aload_n 0, 1) := by decide +kernel
theorem dX8_wish_25 : decode cX8_wish 25 = .ok (.getfield 19, 3) := by decide +kernel
theorem dX8_wish_28 : decode cX8_wish 28 = .ok (.getfield 243, 3) := by decide +kernel
theorem dX8_wish_31 : decode cX8_wish 31 = .ok (.bipush 10, 2) := by decide +kernel
theorem dX8_wish_33 : decode cX8_wish 33 = .ok (.if_icmp .lt 6, 3) := by decide +kernel
theorem dX8_wish_36 : decode cX8_wish 36 = .ok (.bipush (-3), 2) := by decide +kernel
theorem dX8_wish_38 : decode cX8_wish 38 = .ok (.ireturn, 1) := by decide +kernel
theorem dX8_wish_39 : decode cX8_wish 39 = .ok (.iconst 0, 1) := by decide +kernel
theorem dX8_wish_40 : decode cX8_wish 40 = .ok (.istore 5, 2) := by decide +kernel
theorem dX8_wish_42 : decode cX8_wish 42 = .ok (.iconst 0, 1) := by decide +kernel
theorem dX8_wish_43 : decode cX8_wish 43 = .ok (.istore 6, 2) := by decide +kernel
theorem dX8_wish_45 : decode cX8_wish 45 = .ok (.iconst 1, 1) := by decide +kernel
theorem dX8_wish_46 : decode cX8_wish 46 = .ok (.istore 7, 2) := by decide +kernel
theorem dX8_wish_48 : decode cX8_wish 48 = .ok (.iload 7, 2) := by decide +kernel
theorem dX8_wish_50 : decode cX8_wish 50 = .ok (.bipush 40, 2) := by decide +kernel
theorem dX8_wish_52 : decode cX8_wish 52 = .ok (.if_icmp .gt 62, 3) := by decide +kernel
theorem dX8_wish_55 : decode cX8_wish 55 = .ok (.aload_n 0, 1) := by decide +kernel
theorem dX8_wish_56 : decode cX8_wish 56 = .ok (.getfield 23, 3) := by decide +kernel
theorem dX8_wish_59 : decode cX8_wish 59 = .ok (.aload_n 0, 1) := by decide +kernel
theorem dX8_wish_60 : decode cX8_wish 60 = .ok (.getfield 19, 3) := by decide +kernel
theorem dX8_wish_63 : decode cX8_wish 63 = .ok (.invokevirtual 216, 3) := by decide +kernel
theorem dX8_wish_66 : decode cX8_wish 66 = .ok (.aload_n 0, 1) := by decide +kernel
theorem dX8_wish_67 : decode cX8_wish 67 = .ok (.getfield 23, 3) := by decide +kernel
theorem dX8_wish_70 : decode cX8_wish 70 = .ok (.iload_n 1, 1) := by decide +kernel
theorem dX8_wish_71 : decode cX8_wish 71 = .ok (.iload 7, 2) := by decide +kernel
theorem dX8_wish_73 : decode cX8_wish 73 = .ok (.bipush 9, 2) := by decide +kernel
theorem dX8_wish_75 : decode cX8_wish 75 = .ok (.invokevirtual 249, 3) := by decide +kernel
theorem dX8_wish_78 : decode cX8_wish 78 = .ok (.pop, 1) := by decide +kernel
theorem dX8_wish_79 : decode cX8_wish 79 = .ok (.aload_n 0, 1) := by decide +kernel
theorem dX8_wish_80 : decode cX8_wish 80 = .ok (.iload_n 1, 1) := by decide +kernel
theorem dX8_wish_81 : decode cX8_wish 81 = .ok (.iload_n 2, 1) := by decide +kernel
theorem dX8_wish_82 : decode cX8_wish 82 = .ok (.iload_n 3, 1) := by decide +kernel
theorem dX8_wish_83 : decode cX8_wish 83 = .ok (.invokevirtual 219, 3) := by decide +kernel
theorem dX8_wish_86 : decode cX8_wish 86 = .ok (.istore 8, 2) := by decide +kernel
theorem dX8_wish_88 : decode cX8_wish 88 = .ok (.iload 5, 2) := by decide +kernel
theorem dX8_wish_90 : decode cX8_wish 90 = .ok (.ifCond .eq 10, 3) := by decide +kernel
theorem dX8_wish_93 : decode cX8_wish 93 = .ok (.iload 8, 2) := by decide +kernel
theorem dX8_wish_95 : decode cX8_wish 95 = .ok (.iload 6, 2) := by decide +kernel
theorem dX8_wish_97 : decode cX8_wish 97 = .ok (.if_icmp .ge 11, 3) := by decide +kernel
theorem dX8_wish_100 : decode cX8_wish 100 = .ok (.iload 7, 2) := by decide +kernel
theorem dX8_wish_102 : decode cX8_wish 102 = .ok (.istore 5, 2) := by decide +kernel
theorem dX8_wish_104 : decode cX8_wish 104 = .ok (.iload 8, 2) := by decide +kernel
theorem dX8_wish_106 : decode cX8_wish 106 = .ok (.istore 6, 2) := by decide +kernel
theorem dX8_wish_108 : decode cX8_wish 108 = .ok (.iinc 7 1, 3) := by decide +kernel
theorem dX8_wish_111 : decode cX8_wish 111 = .ok (.goto (-63), 3) := by decide +kernel
theorem dX8_wish_114 : decode cX8_wish 114 = .ok (.iload 4, 2) := by decide +kernel
theorem dX8_wish_116 : decode cX8_wish 116 = .ok (.ifCond .ne 8, 3) := by decide +kernel
theorem dX8_wish_119 : decode cX8_wish 119 = .ok (.iload 5, 2) := by decide +kernel
theorem dX8_wish_121 : decode cX8_wish 121 = .ok (.goto 5, 3) := by decide +kernel
theorem dX8_wish_124 : decode cX8_wish 124 = .ok (.iload 6, 2) := by decide +kernel
theorem dX8_wish_126 : decode cX8_wish 126 = .ok (.ireturn, 1) := by decide +kernel
theorem dX8_swap_0 : decode cX8_swap 0 = .ok (.aload_n 0, 1) := by decide +kernel
theorem dX8_swap_1 : decode cX8_swap 1 = .ok (.getfield 19, 3) := by decide +kernel
theorem dX8_swap_4 : decode cX8_swap 4 = .ok (.aload_n 0, 1) := by decide +kernel
theorem dX8_swap_5 : decode cX8_swap 5 = .ok (.getfield 67, 3) := by decide +kernel
theorem dX8_swap_8 : decode cX8_swap 8 = .ok (.invokevirtual 252, 3) := by decide +kernel
theorem dX8_swap_11 : decode cX8_swap 11 = .ok (.ireturn, 1) := by decide +kernel
theorem dX8_settle_0 : decode cX8_settle 0 = .ok (.sipush 144, 3) := by decide +kernel
theorem dX8_settle_3 : decode cX8_settle 3 = .ok (.istore_n 1, 1) := by decide +kernel
theorem dX8_settle_4 : decode cX8_settle 4 = .ok (.iconst 0, 1) := by decide +kernel
theorem dX8_settle_5 : decode cX8_settle 5 = .ok (.istore_n 2, 1) := by decide +kernel
theorem dX8_settle_6 : decode cX8_settle 6 = .ok (.iload_n 2, 1) := by decide +kernel
theorem dX8_settle_7 : decode cX8_settle 7 = .ok (.iload_n 1, 1) := by decide +kernel
theorem dX8_settle_8 : decode cX8_settle 8 = .ok (.if_icmp .ge 52, 3) := by decide +kernel
theorem dX8_settle_11 : decode cX8_settle 11 = .ok (.aload_n 0, 1) := by decide +kernel
theorem dX8_settle_12 : decode cX8_settle 12 = .ok (.getfield 19, 3) := by decide +kernel
theorem dX8_settle_15 : decode cX8_settle 15 = .ok (.aload_n 0, 1) := by decide +kernel
theorem dX8_settle_16 : decode cX8_settle 16 = .ok (.getfield 67, 3) := by decide +kernel
theorem dX8_settle_19 : decode cX8_settle 19 = .ok (.invokevirtual 252, 3) := by decide +kernel
theorem dX8_settle_22 : decode cX8_settle 22 = .ok (.istore_n 3, 1) := by decide +kernel
theorem dX8_settle_23 : decode cX8_settle 23 = .ok (.iload_n 3, 1) := by decide +kernel
theorem dX8_settle_24 : decode cX8_settle 24 = .ok (.bipush (-4), 2) := by decide +kernel
theorem dX8_settle_26 : decode cX8_settle 26 = .ok (.if_icmp .ne 6, 3) := by decide +kernel
theorem dX8_settle_29 : decode cX8_settle 29 = .ok (.goto 31, 3) := by decide +kernel
theorem dX8_settle_32 : decode cX8_settle 32 = .ok (.aload_n 0, 1) := by decide +kernel
theorem dX8_settle_33 : decode cX8_settle 33 = .ok (.getfield 19, 3) := by decide +kernel
theorem dX8_settle_36 : decode cX8_settle 36 = .ok (.iload_n 3, 1) := by decide +kernel
theorem dX8_settle_37 : decode cX8_settle 37 = .ok (.bipush 100, 2) := by decide +kernel
theorem dX8_settle_39 : decode cX8_settle 39 = .ok (.idiv, 1) := by decide +kernel
theorem dX8_settle_40 : decode cX8_settle 40 = .ok (.iload_n 3, 1) := by decide +kernel
theorem dX8_settle_41 : decode cX8_settle 41 = .ok (.bipush 10, 2) := by decide +kernel
theorem dX8_settle_43 : decode cX8_settle 43 = .ok (.idiv, 1) := by decide +kernel
theorem dX8_settle_44 : decode cX8_settle 44 = .ok (.bipush 10, 2) := by decide +kernel
theorem dX8_settle_46 : decode cX8_settle 46 = .ok (.irem, 1) := by decide +kernel
theorem dX8_settle_47 : decode cX8_settle 47 = .ok (.iload_n 3, 1) := by decide +kernel
theorem dX8_settle_48 : decode cX8_settle 48 = .ok (.bipush 10, 2) := by decide +kernel
theorem dX8_settle_50 : decode cX8_settle 50 = .ok (.irem, 1) := by decide +kernel
theorem dX8_settle_51 : decode cX8_settle 51 = .ok (.invokevirtual 255, 3) := by decide +kernel
theorem dX8_settle_54 : decode cX8_settle 54 = .ok (.iinc 2 1, 3) := by decide +kernel
theorem dX8_settle_57 : decode cX8_settle 57 = .ok (.goto (-51), 3) := by decide +kernel
theorem dX8_settle_60 : decode cX8_settle 60 = .ok (.iload_n 2, 1) := by decide +kernel
theorem dX8_settle_61 : decode cX8_settle 61 = .ok (.ireturn, 1) := by decide +kernel
theorem dX8_odds_0 : decode cX8_odds 0 = .ok (.iload_n 1, 1) := by decide +kernel
theorem dX8_odds_1 : decode cX8_odds 1 = .ok (.invokestatic 175, 3) := by decide +kernel
theorem dX8_odds_4 : decode cX8_odds 4 = .ok (.ifCond .eq 10, 3) := by decide +kernel
theorem dX8_odds_7 : decode cX8_odds 7 = .ok (.iload_n 2, 1) := by decide +kernel
theorem dX8_odds_8 : decode cX8_odds 8 = .ok (.invokestatic 182, 3) := by decide +kernel
theorem dX8_odds_11 : decode cX8_odds 11 = .ok (.ifCond .ne 7, 3) := by decide +kernel
theorem dX8_odds_14 : decode cX8_odds 14 = .ok (.ldc2_w 258, 3) := by decide +kernel
theorem dX8_odds_17 : decode cX8_odds 17 = .ok (.lreturn, 1) := by decide +kernel
theorem dX8_odds_18 : decode cX8_odds 18 = .ok (.iconst 1, 1) := by decide +kernel
theorem dX8_odds_19 : decode cX8_odds 19 = .ok (.aload_n 0, 1) := by decide +kernel
theorem dX8_odds_20 : decode cX8_odds 20 = .ok (.getfield 19, 3) := by decide +kernel
theorem dX8_odds_23 : decode cX8_odds 23 = .ok (.getfield 192, 3) := by decide +kernel
theorem dX8_odds_26 : decode cX8_odds 26 = .ok (.ishl, 1) := by decide +kernel
theorem dX8_odds_27 : decode cX8_odds 27 = .ok (.istore_n 3, 1) := by decide +kernel
theorem dX8_odds_28 : decode cX8_odds 28 = .ok (.iconst 0, 1) := by decide +kernel
theorem dX8_odds_29 : decode cX8_odds 29 = .ok (.istore 4, 2) := by decide +kernel
theorem dX8_odds_31 : decode cX8_odds 31 = .ok (.iconst 0, 1) := by decide +kernel
theorem dX8_odds_32 : decode cX8_odds 32 = .ok (.istore 5, 2) := by decide +kernel
theorem dX8_odds_34 : decode cX8_odds 34 = .ok (.iload 5, 2) := by decide +kernel
theorem dX8_odds_36 : decode cX8_odds 36 = .ok (.iload_n 3, 1) := by decide +kernel
theorem dX8_odds_37 : decode cX8_odds 37 = .ok (.if_icmp .ge 72, 3) := by decide +kernel
theorem dX8_odds_40 : decode cX8_odds 40 = .ok (.aload_n 0, 1) := by decide +kernel
theorem dX8_odds_41 : decode cX8_odds 41 = .ok (.getfield 23, 3) := by decide +kernel
theorem dX8_odds_44 : decode cX8_odds 44 = .ok (.aload_n 0, 1) := by decide +kernel
theorem dX8_odds_45 : decode cX8_odds 45 = .ok (.getfield 19, 3) := by decide +kernel
theorem dX8_odds_48 : decode cX8_odds 48 = .ok (.invokevirtual 216, 3) := by decide +kernel
theorem dX8_odds_51 : decode cX8_odds 51 = .ok (.aload_n 0, 1) := by decide +kernel
theorem dX8_odds_52 : decode cX8_odds 52 = .ok (.getfield 23, 3) := by decide +kernel
theorem dX8_odds_55 : decode cX8_odds 55 = .ok (.iload 5, 2) := by decide +kernel
theorem dX8_odds_57 : decode cX8_odds 57 = .ok (.invokevirtual 260, 3) := by decide +kernel
theorem dX8_odds_60 : decode cX8_odds 60 = .ok (.aload_n 0, 1) := by decide +kernel
theorem dX8_odds_61 : decode cX8_odds 61 = .ok (.getfield 52, 3) := by decide +kernel
theorem dX8_odds_64 : decode cX8_odds 64 = .ok (.aload_n 0, 1) := by decide +kernel
theorem dX8_odds_65 : decode cX8_odds 65 = .ok (.getfield 23, 3) := by decide +kernel
theorem dX8_odds_68 : decode cX8_odds 68 = .ok (.iload_n 1, 1) := by decide +kernel
theorem dX8_odds_69 : decode cX8_odds 69 = .ok (.aload_n 0, 1) := by decide +kernel
theorem dX8_odds_70 : decode cX8_odds 70 = .ok (.getfield 67, 3) := by decide +kernel
theorem dX8_odds_73 : decode cX8_odds 73 = .ok (.invokevirtual 264, 3) := by decide +kernel
theorem dX8_odds_76 : decode cX8_odds 76 = .ok (.aload_n 0, 1) := by decide +kernel
theorem dX8_odds_77 : decode cX8_odds 77 = .ok (.getfield 52, 3) := by decide +kernel
theorem dX8_odds_80 : decode cX8_odds 80 = .ok (.invokevirtual 267, 3) := by decide +kernel
theorem dX8_odds_83 : decode cX8_odds 83 = .ok (.aload_n 0, 1) := by decide +kernel
theorem dX8_odds_84 : decode cX8_odds 84 = .ok (.getfield 52, 3) := by decide +kernel
theorem dX8_odds_87 : decode cX8_odds 87 = .ok (.getfield 189, 3) := by decide +kernel
theorem dX8_odds_90 : decode cX8_odds 90 = .ok (.aload_n 0, 1) := by decide +kernel
theorem dX8_odds_91 : decode cX8_odds 91 = .ok (.getfield 19, 3) := by decide +kernel
theorem dX8_odds_94 : decode cX8_odds 94 = .ok (.getfield 192, 3) := by decide +kernel
theorem dX8_odds_97 : decode cX8_odds 97 = .ok (.if_icmp .ne 6, 3) := by decide +kernel
theorem dX8_odds_100 : decode cX8_odds 100 = .ok (.iinc 4 1, 3) := by decide +kernel
theorem dX8_odds_103 : decode cX8_odds 103 = .ok (.iinc 5 1, 3) := by decide +kernel
theorem dX8_odds_106 : decode cX8_odds 106 = .ok (.goto (-72), 3) := by decide +kernel
theorem dX8_odds_109 : decode cX8_odds 109 = .ok (.iload_n 3, 1) := by decide +kernel
theorem dX8_odds_110 : decode cX8_odds 110 = .ok (.iconst 1, 1) := by decide +kernel
theorem dX8_odds_111 : decode cX8_odds 111 = .ok (.if_icmp .le 23, 3) := by decide +kernel
theorem dX8_odds_114 : decode cX8_odds 114 = .ok (.iload 4, 2) := by decide +kernel
theorem dX8_odds_116 : decode cX8_odds 116 = .ok (.iconst 2, 1) := by decide +kernel
theorem dX8_odds_117 : decode cX8_odds 117 = .ok (.irem, 1) := by decide +kernel
theorem dX8_odds_118 : decode cX8_odds 118 = .ok (.ifCond .ne 16, 3) := by decide +kernel
theorem dX8_odds_121 : decode cX8_odds 121 = .ok (.iload 4, 2) := by decide +kernel
theorem dX8_odds_123 : decode cX8_odds 123 = .ok (.iconst 2, 1) := by decide +kernel
theorem dX8_odds_124 : decode cX8_odds 124 = .ok (.idiv, 1) := by decide +kernel
theorem dX8_odds_125 : decode cX8_odds 125 = .ok (.istore 4, 2) := by decide +kernel
theorem dX8_odds_127 : decode cX8_odds 127 = .ok (.iload_n 3, 1) := by decide +kernel
theorem dX8_odds_128 : decode cX8_odds 128 = .ok (.iconst 2, 1) := by decide +kernel
theorem dX8_odds_129 : decode cX8_odds 129 = .ok (.idiv, 1) := by decide +kernel
theorem dX8_odds_130 : decode cX8_odds 130 = .ok (.istore_n 3, 1) := by decide +kernel
theorem dX8_odds_131 : decode cX8_odds 131 = .ok (.goto (-22), 3) := by decide +kernel
theorem dX8_odds_134 : decode cX8_odds 134 = .ok (.iload_n 2, 1) := by decide +kernel
theorem dX8_odds_135 : decode cX8_odds 135 = .ok (.ifCond .ne 9, 3) := by decide +kernel
theorem dX8_odds_138 : decode cX8_odds 138 = .ok (.iload 4, 2) := by decide +kernel
theorem dX8_odds_140 : decode cX8_odds 140 = .ok (.i2l, 1) := by decide +kernel
theorem dX8_odds_141 : decode cX8_odds 141 = .ok (.goto 5, 3) := by decide +kernel
theorem dX8_odds_144 : decode cX8_odds 144 = .ok (.iload_n 3, 1) := by decide +kernel
theorem dX8_odds_145 : decode cX8_odds 145 = .ok (.i2l, 1) := by decide +kernel
theorem dX8_odds_146 : decode cX8_odds 146 = .ok (.lreturn, 1) := by decide +kernel
theorem dX8_mark_0 : decode cX8_mark 0 = .ok (.iload_n 1, 1) := by decide +kernel
theorem dX8_mark_1 : decode cX8_mark 1 = .ok (.invokestatic 270, 3) := by decide +kernel
theorem dX8_mark_4 : decode cX8_mark 4 = .ok (.ifCond .ne 5, 3) := by decide +kernel
theorem dX8_mark_7 : decode cX8_mark 7 = .ok (.iconst (-1), 1) := by decide +kernel
theorem dX8_mark_8 : decode cX8_mark 8 = .ok (.ireturn, 1) := by decide +kernel
theorem dX8_mark_9 : decode cX8_mark 9 = .ok (.aload_n 0, 1) := by decide +kernel
theorem dX8_mark_10 : decode cX8_mark 10 = .ok (.getfield 19, 3) := by decide +kernel
theorem dX8_mark_13 : decode cX8_mark 13 = .ok (.getfield 273, 3) := by decide +kernel
theorem dX8_mark_16 : decode cX8_mark 16 = .ok (.bipush 6, 2) := by decide +kernel
theorem dX8_mark_18 : decode cX8_mark 18 = .ok (.if_icmp .lt 6, 3) := by decide +kernel
theorem dX8_mark_21 : decode cX8_mark 21 = .ok (.bipush (-3), 2) := by decide +kernel
theorem dX8_mark_23 : decode cX8_mark 23 = .ok (.ireturn, 1) := by decide +kernel
theorem dX8_mark_24 : decode cX8_mark 24 = .ok (.aload_n 0, 1) := by decide +kernel
theorem dX8_mark_25 : decode cX8_mark 25 = .ok (.getfield 19, 3) := by decide +kernel
theorem dX8_mark_28 : decode cX8_mark 28 = .ok (.iload_n 1, 1) := by decide +kernel
theorem dX8_mark_29 : decode cX8_mark 29 = .ok (.invokevirtual 276, 3) := by decide +kernel
theorem dX8_mark_32 : decode cX8_mark 32 = .ok (.aload_n 0, 1) := by decide +kernel
theorem dX8_mark_33 : decode cX8_mark 33 = .ok (.getfield 19, 3) := by decide +kernel
theorem dX8_mark_36 : decode cX8_mark 36 = .ok (.getfield 273, 3) := by decide +kernel
theorem dX8_mark_39 : decode cX8_mark 39 = .ok (.ireturn, 1) := by decide +kernel
theorem dX8_unmark_0 : decode cX8_unmark 0 = .ok (.iload_n 1, 1) := by decide +kernel
theorem dX8_unmark_1 : decode cX8_unmark 1 = .ok (.iconst 0, 1) := by decide +kernel
theorem dX8_unmark_2 : decode cX8_unmark 2 = .ok (.aload_n 0, 1) := by decide +kernel
theorem dX8_unmark_3 : decode cX8_unmark 3 = .ok (.getfield 19, 3) := by decide +kernel
theorem dX8_unmark_6 : decode cX8_unmark 6 = .ok (.getfield 273, 3) := by decide +kernel
theorem dX8_unmark_9 : decode cX8_unmark 9 = .ok (.invokestatic 85, 3) := by decide +kernel
theorem dX8_unmark_12 : decode cX8_unmark 12 = .ok (.ifCond .ne 5, 3) := by decide +kernel
theorem dX8_unmark_15 : decode cX8_unmark 15 = .ok (.iconst (-1), 1) := by decide +kernel
theorem dX8_unmark_16 : decode cX8_unmark 16 = .ok (.ireturn, 1) := by decide +kernel
theorem dX8_unmark_17 : decode cX8_unmark 17 = .ok (.aload_n 0, 1) := by decide +kernel
theorem dX8_unmark_18 : decode cX8_unmark 18 = .ok (.getfield 19, 3) := by decide +kernel
theorem dX8_unmark_21 : decode cX8_unmark 21 = .ok (.getfield 273, 3) := by decide +kernel
theorem dX8_unmark_24 : decode cX8_unmark 24 = .ok (.istore_n 2, 1) := by decide +kernel
theorem dX8_unmark_25 : decode cX8_unmark 25 = .ok (.aload_n 0, 1) := by decide +kernel
theorem dX8_unmark_26 : decode cX8_unmark 26 = .ok (.getfield 19, 3) := by decide +kernel
theorem dX8_unmark_29 : decode cX8_unmark 29 = .ok (.iload_n 1, 1) := by decide +kernel
theorem dX8_unmark_30 : decode cX8_unmark 30 = .ok (.putfield 273, 3) := by decide +kernel
theorem dX8_unmark_33 : decode cX8_unmark 33 = .ok (.iload_n 2, 1) := by decide +kernel
theorem dX8_unmark_34 : decode cX8_unmark 34 = .ok (.ireturn, 1) := by decide +kernel
theorem dX8_rows_0 : decode cX8_rows 0 = .ok (.iload_n 1, 1) := by decide +kernel
theorem dX8_rows_1 : decode cX8_rows 1 = .ok (.bipush 10, 2) := by decide +kernel
theorem dX8_rows_3 : decode cX8_rows 3 = .ok (.isub, 1) := by decide +kernel
theorem dX8_rows_4 : decode cX8_rows 4 = .ok (.istore_n 2, 1) := by decide +kernel
theorem dX8_rows_5 : decode cX8_rows 5 = .ok (.iload_n 1, 1) := by decide +kernel
theorem dX8_rows_6 : decode cX8_rows 6 = .ok (.ifCond .eq 22, 3) := by decide +kernel
theorem dX8_rows_9 : decode cX8_rows 9 = .ok (.iload_n 2, 1) := by decide +kernel
theorem dX8_rows_10 : decode cX8_rows 10 = .ok (.iconst 0, 1) := by decide +kernel
theorem dX8_rows_11 : decode cX8_rows 11 = .ok (.aload_n 0, 1) := by decide +kernel
theorem dX8_rows_12 : decode cX8_rows 12 = .ok (.getfield 19, 3) := by decide +kernel
theorem dX8_rows_15 : decode cX8_rows 15 = .ok (.getfield 273, 3) := by decide +kernel
theorem dX8_rows_18 : decode cX8_rows 18 = .ok (.iconst 1, 1) := by decide +kernel
theorem dX8_rows_19 : decode cX8_rows 19 = .ok (.isub, 1) := by decide +kernel
theorem dX8_rows_20 : decode cX8_rows 20 = .ok (.invokestatic 85, 3) := by decide +kernel
theorem dX8_rows_23 : decode cX8_rows 23 = .ok (.ifCond .ne 5, 3) := by decide +kernel
theorem dX8_rows_26 : decode cX8_rows 26 = .ok (.iconst (-1), 1) := by decide +kernel
theorem dX8_rows_27 : decode cX8_rows 27 = .ok (.ireturn, 1) := by decide +kernel
theorem dX8_rows_28 : decode cX8_rows 28 = .ok (.aload_n 0, 1) := by decide +kernel
theorem dX8_rows_29 : decode cX8_rows 29 = .ok (.getfield 59, 3) := by decide +kernel
theorem dX8_rows_32 : decode cX8_rows 32 = .ok (.aload_n 0, 1) := by decide +kernel
theorem dX8_rows_33 : decode cX8_rows 33 = .ok (.getfield 19, 3) := by decide +kernel
theorem dX8_rows_36 : decode cX8_rows 36 = .ok (.aload_n 0, 1) := by decide +kernel
theorem dX8_rows_37 : decode cX8_rows 37 = .ok (.getfield 67, 3) := by decide +kernel
theorem dX8_rows_40 : decode cX8_rows 40 = .ok (.invokevirtual 279, 3) := by decide +kernel
theorem dX8_rows_43 : decode cX8_rows 43 = .ok (.iload_n 1, 1) := by decide +kernel
theorem dX8_rows_44 : decode cX8_rows 44 = .ok (.ifCond .ne 13, 3) := by decide +kernel
theorem dX8_rows_47 : decode cX8_rows 47 = .ok (.aload_n 0, 1) := by decide +kernel
theorem dX8_rows_48 : decode cX8_rows 48 = .ok (.getfield 59, 3) := by decide +kernel
theorem dX8_rows_51 : decode cX8_rows 51 = .ok (.invokevirtual 283, 3) := by decide +kernel
theorem dX8_rows_54 : decode cX8_rows 54 = .ok (.goto 11, 3) := by decide +kernel
theorem dX8_rows_57 : decode cX8_rows 57 = .ok (.aload_n 0, 1) := by decide +kernel
theorem dX8_rows_58 : decode cX8_rows 58 = .ok (.getfield 59, 3) := by decide +kernel
theorem dX8_rows_61 : decode cX8_rows 61 = .ok (.iload_n 2, 1) := by decide +kernel
theorem dX8_rows_62 : decode cX8_rows 62 = .ok (.invokevirtual 286, 3) := by decide +kernel
theorem dX8_rows_65 : decode cX8_rows 65 = .ok (.ireturn, 1) := by decide +kernel
theorem dX8_whose_0 : decode cX8_whose 0 = .ok (.iload_n 1, 1) := by decide +kernel
theorem dX8_whose_1 : decode cX8_whose 1 = .ok (.invokestatic 182, 3) := by decide +kernel
theorem dX8_whose_4 : decode cX8_whose 4 = .ok (.ifCond .ne 5, 3) := by decide +kernel
theorem dX8_whose_7 : decode cX8_whose 7 = .ok (.iconst (-1), 1) := by decide +kernel
theorem dX8_whose_8 : decode cX8_whose 8 = .ok (.ireturn, 1) := by decide +kernel
theorem dX8_whose_9 : decode cX8_whose 9 = .ok (.aload_n 0, 1) := by decide +kernel
theorem dX8_whose_10 : decode cX8_whose 10 = .ok (.getfield 19, 3) := by decide +kernel
theorem dX8_whose_13 : decode cX8_whose 13 = .ok (.getfield 273, 3) := by decide +kernel
theorem dX8_whose_16 : decode cX8_whose 16 = .ok (.ifCond .ne 6, 3) := by decide +kernel
theorem dX8_whose_19 : decode cX8_whose 19 = .ok (.bipush (-2), 2) := by decide +kernel
theorem dX8_whose_21 : decode cX8_whose 21 = .ok (.ireturn, 1) := by decide +kernel
theorem dX8_whose_22 : decode cX8_whose 22 = .ok (.aload_n 0, 1) := by decide +kernel
theorem dX8_whose_23 : decode cX8_whose 23 = .ok (.getfield 59, 3) := by decide +kernel
theorem dX8_whose_26 : decode cX8_whose 26 = .ok (.aload_n 0, 1) := by decide +kernel
theorem dX8_whose_27 : decode cX8_whose 27 = .ok (.getfield 19, 3) := by decide +kernel
theorem dX8_whose_30 : decode cX8_whose 30 = .ok (.aload_n 0, 1) := by decide +kernel
theorem dX8_whose_31 : decode cX8_whose 31 = .ok (.getfield 67, 3) := by decide +kernel
theorem dX8_whose_34 : decode cX8_whose 34 = .ok (.invokevirtual 279, 3) := by decide +kernel
theorem dX8_whose_37 : decode cX8_whose 37 = .ok (.iload_n 1, 1) := by decide +kernel
theorem dX8_whose_38 : decode cX8_whose 38 = .ok (.ifCond .ne 13, 3) := by decide +kernel
theorem dX8_whose_41 : decode cX8_whose 41 = .ok (.aload_n 0, 1) := by decide +kernel
theorem dX8_whose_42 : decode cX8_whose 42 = .ok (.getfield 59, 3) := by decide +kernel
theorem dX8_whose_45 : decode cX8_whose 45 = .ok (.invokevirtual 289, 3) := by decide +kernel
theorem dX8_whose_48 : decode cX8_whose 48 = .ok (.goto 10, 3) := by decide +kernel
theorem dX8_whose_51 : decode cX8_whose 51 = .ok (.aload_n 0, 1) := by decide +kernel
theorem dX8_whose_52 : decode cX8_whose 52 = .ok (.getfield 59, 3) := by decide +kernel
theorem dX8_whose_55 : decode cX8_whose 55 = .ok (.invokevirtual 292, 3) := by decide +kernel
theorem dX8_whose_58 : decode cX8_whose 58 = .ok (.ireturn, 1) := by decide +kernel
theorem dX8_lend_0 : decode cX8_lend 0 = .ok (.iload_n 1, 1) := by decide +kernel
theorem dX8_lend_1 : decode cX8_lend 1 = .ok (.invokestatic 295, 3) := by decide +kernel
theorem dX8_lend_4 : decode cX8_lend 4 = .ok (.ifCond .eq 17, 3) := by decide +kernel
theorem dX8_lend_7 : decode cX8_lend 7 = .ok (.iload_n 2, 1) := by decide +kernel
theorem dX8_lend_8 : decode cX8_lend 8 = .ok (.invokestatic 175, 3) := by decide +kernel
theorem dX8_lend_11 : decode cX8_lend 11 = .ok (.ifCond .eq 10, 3) := by decide +kernel
theorem dX8_lend_14 : decode cX8_lend 14 = .ok (.iload_n 3, 1) := by decide +kernel
theorem dX8_lend_15 : decode cX8_lend 15 = .ok (.invokestatic 182, 3) := by decide +kernel
theorem dX8_lend_18 : decode cX8_lend 18 = .ok (.ifCond .ne 5, 3) := by decide +kernel
theorem dX8_lend_21 : decode cX8_lend 21 = .ok (.iconst (-1), 1) := by decide +kernel
theorem dX8_lend_22 : decode cX8_lend 22 = .ok (.ireturn, 1) := by decide +kernel
theorem dX8_lend_23 : decode cX8_lend 23 = .ok (.aload_n 0, 1) := by decide +kernel
theorem dX8_lend_24 : decode cX8_lend 24 = .ok (.getfield 39, 3) := by decide +kernel
theorem dX8_lend_27 : decode cX8_lend 27 = .ok (.iload_n 1, 1) := by decide +kernel
theorem dX8_lend_28 : decode cX8_lend 28 = .ok (.baload, 1) := by decide +kernel
theorem dX8_lend_29 : decode cX8_lend 29 = .ok (.ifCond .ne 6, 3) := by decide +kernel
theorem dX8_lend_32 : decode cX8_lend 32 = .ok (.bipush (-2), 2) := by decide +kernel
theorem dX8_lend_34 : decode cX8_lend 34 = .ok (.ireturn, 1) := by decide +kernel
theorem dX8_lend_35 : decode cX8_lend 35 = .ok (.aload_n 0, 1) := by decide +kernel
theorem dX8_lend_36 : decode cX8_lend 36 = .ok (.getfield 52, 3) := by decide +kernel
theorem dX8_lend_39 : decode cX8_lend 39 = .ok (.aload_n 0, 1) := by decide +kernel
theorem dX8_lend_40 : decode cX8_lend 40 = .ok (.getfield 35, 3) := by decide +kernel
theorem dX8_lend_43 : decode cX8_lend 43 = .ok (.iload_n 1, 1) := by decide +kernel
theorem dX8_lend_44 : decode cX8_lend 44 = .ok (.aaload, 1) := by decide +kernel
theorem dX8_lend_45 : decode cX8_lend 45 = .ok (.iload_n 2, 1) := by decide +kernel
theorem dX8_lend_46 : decode cX8_lend 46 = .ok (.aload_n 0, 1) := by decide +kernel
theorem dX8_lend_47 : decode cX8_lend 47 = .ok (.getfield 67, 3) := by decide +kernel
theorem dX8_lend_50 : decode cX8_lend 50 = .ok (.invokevirtual 185, 3) := by decide +kernel
theorem dX8_lend_53 : decode cX8_lend 53 = .ok (.aload_n 0, 1) := by decide +kernel
theorem dX8_lend_54 : decode cX8_lend 54 = .ok (.getfield 52, 3) := by decide +kernel
theorem dX8_lend_57 : decode cX8_lend 57 = .ok (.aload_n 0, 1) := by decide +kernel
theorem dX8_lend_58 : decode cX8_lend 58 = .ok (.getfield 35, 3) := by decide +kernel
theorem dX8_lend_61 : decode cX8_lend 61 = .ok (.iload_n 1, 1) := by decide +kernel
theorem dX8_lend_62 : decode cX8_lend 62 = .ok (.aaload, 1) := by decide +kernel
theorem dX8_lend_63 : decode cX8_lend 63 = .ok (.iload_n 2, 1) := by decide +kernel
theorem dX8_lend_64 : decode cX8_lend 64 = .ok (.iconst 0, 1) := by decide +kernel
theorem dX8_lend_65 : decode cX8_lend 65 = .ok (.invokevirtual 202, 3) := by decide +kernel
theorem dX8_lend_68 : decode cX8_lend 68 = .ok (.istore 4, 2) := by decide +kernel
theorem dX8_lend_70 : decode cX8_lend 70 = .ok (.aload_n 0, 1) := by decide +kernel
theorem dX8_lend_71 : decode cX8_lend 71 = .ok (.getfield 52, 3) := by decide +kernel
theorem dX8_lend_74 : decode cX8_lend 74 = .ok (.aload_n 0, 1) := by decide +kernel
theorem dX8_lend_75 : decode cX8_lend 75 = .ok (.getfield 19, 3) := by decide +kernel
theorem dX8_lend_78 : decode cX8_lend 78 = .ok (.iload_n 2, 1) := by decide +kernel
theorem dX8_lend_79 : decode cX8_lend 79 = .ok (.aload_n 0, 1) := by decide +kernel
theorem dX8_lend_80 : decode cX8_lend 80 = .ok (.getfield 67, 3) := by decide +kernel
theorem dX8_lend_83 : decode cX8_lend 83 = .ok (.invokevirtual 264, 3) := by decide +kernel
theorem dX8_lend_86 : decode cX8_lend 86 = .ok (.aload_n 0, 1) := by decide +kernel
theorem dX8_lend_87 : decode cX8_lend 87 = .ok (.getfield 52, 3) := by decide +kernel
theorem dX8_lend_90 : decode cX8_lend 90 = .ok (.invokevirtual 267, 3) := by decide +kernel
theorem dX8_lend_93 : decode cX8_lend 93 = .ok (.aload_n 0, 1) := by decide +kernel
theorem dX8_lend_94 : decode cX8_lend 94 = .ok (.getfield 52, 3) := by decide +kernel
theorem dX8_lend_97 : decode cX8_lend 97 = .ok (.getfield 189, 3) := by decide +kernel
theorem dX8_lend_100 : decode cX8_lend 100 = .ok (.istore 5, 2) := by decide +kernel
theorem dX8_lend_102 : decode cX8_lend 102 = .ok (.aload_n 0, 1) := by decide +kernel
theorem dX8_lend_103 : decode cX8_lend 103 = .ok (.getfield 52, 3) := by decide +kernel
theorem dX8_lend_106 : decode cX8_lend 106 = .ok (.aload_n 0, 1) := by decide +kernel
theorem dX8_lend_107 : decode cX8_lend 107 = .ok (.getfield 19, 3) := by decide +kernel
theorem dX8_lend_110 : decode cX8_lend 110 = .ok (.aload_n 0, 1) := by decide +kernel
theorem dX8_lend_111 : decode cX8_lend 111 = .ok (.getfield 35, 3) := by decide +kernel
theorem dX8_lend_114 : decode cX8_lend 114 = .ok (.iload_n 1, 1) := by decide +kernel
theorem dX8_lend_115 : decode cX8_lend 115 = .ok (.aaload, 1) := by decide +kernel
theorem dX8_lend_116 : decode cX8_lend 116 = .ok (.iload 4, 2) := by decide +kernel
theorem dX8_lend_118 : decode cX8_lend 118 = .ok (.aload_n 0, 1) := by decide +kernel
theorem dX8_lend_119 : decode cX8_lend 119 = .ok (.getfield 67, 3) := by decide +kernel
theorem dX8_lend_122 : decode cX8_lend 122 = .ok (.invokevirtual 298, 3) := by decide +kernel
theorem dX8_lend_125 : decode cX8_lend 125 = .ok (.aload_n 0, 1) := by decide +kernel
theorem dX8_lend_126 : decode cX8_lend 126 = .ok (.getfield 52, 3) := by decide +kernel
theorem dX8_lend_129 : decode cX8_lend 129 = .ok (.invokevirtual 267, 3) := by decide +kernel
theorem dX8_lend_132 : decode cX8_lend 132 = .ok (.iload_n 3, 1) := by decide +kernel
theorem dX8_lend_133 : decode cX8_lend 133 = .ok (.ifCond .ne 21, 3) := by decide +kernel
theorem dX8_lend_136 : decode cX8_lend 136 = .ok (.aload_n 0, 1) := by decide +kernel
theorem dX8_lend_137 : decode cX8_lend 137 = .ok (.getfield 19, 3) := by decide +kernel
theorem dX8_lend_140 : decode cX8_lend 140 = .ok (.getfield 192, 3) := by decide +kernel
theorem dX8_lend_143 : decode cX8_lend 143 = .ok (.aload_n 0, 1) := by decide +kernel
theorem dX8_lend_144 : decode cX8_lend 144 = .ok (.getfield 52, 3) := by decide +kernel
theorem dX8_lend_147 : decode cX8_lend 147 = .ok (.getfield 189, 3) := by decide +kernel
theorem dX8_lend_150 : decode cX8_lend 150 = .ok (.isub, 1) := by decide +kernel
theorem dX8_lend_151 : decode cX8_lend 151 = .ok (.goto 13, 3) := by decide +kernel
theorem dX8_lend_154 : decode cX8_lend 154 = .ok (.aload_n 0, 1) := by decide +kernel
theorem dX8_lend_155 : decode cX8_lend 155 = .ok (.getfield 52, 3) := by decide +kernel
theorem dX8_lend_158 : decode cX8_lend 158 = .ok (.getfield 189, 3) := by decide +kernel
theorem dX8_lend_161 : decode cX8_lend 161 = .ok (.iload 5, 2) := by decide +kernel
theorem dX8_lend_163 : decode cX8_lend 163 = .ok (.isub, 1) := by decide +kernel
theorem dX8_lend_164 : decode cX8_lend 164 = .ok (.ireturn, 1) := by decide +kernel
theorem dX8_keep_0 : decode cX8_keep 0 = .ok (.iload_n 1, 1) := by decide +kernel
theorem dX8_keep_1 : decode cX8_keep 1 = .ok (.invokestatic 295, 3) := by decide +kernel
theorem dX8_keep_4 : decode cX8_keep 4 = .ok (.ifCond .ne 5, 3) := by decide +kernel
theorem dX8_keep_7 : decode cX8_keep 7 = .ok (.iconst (-1), 1) := by decide +kernel
theorem dX8_keep_8 : decode cX8_keep 8 = .ok (.ireturn, 1) := by decide +kernel
theorem dX8_keep_9 : decode cX8_keep 9 = .ok (.aload_n 0, 1) := by decide +kernel
theorem dX8_keep_10 : decode cX8_keep 10 = .ok (.getfield 39, 3) := by decide +kernel
theorem dX8_keep_13 : decode cX8_keep 13 = .ok (.iload_n 1, 1) := by decide +kernel
theorem dX8_keep_14 : decode cX8_keep 14 = .ok (.baload, 1) := by decide +kernel
theorem dX8_keep_15 : decode cX8_keep 15 = .ok (.ifCond .eq 7, 3) := by decide +kernel
theorem dX8_keep_18 : decode cX8_keep 18 = .ok (.iconst 1, 1) := by decide +kernel
theorem dX8_keep_19 : decode cX8_keep 19 = .ok (.goto 4, 3) := by decide +kernel
theorem dX8_keep_22 : decode cX8_keep 22 = .ok (.iconst 0, 1) := by decide +kernel
theorem dX8_keep_23 : decode cX8_keep 23 = .ok (.istore_n 2, 1) := by decide +kernel
theorem dX8_keep_24 : decode cX8_keep 24 = .ok (.aload_n 0, 1) := by decide +kernel
theorem dX8_keep_25 : decode cX8_keep 25 = .ok (.getfield 35, 3) := by decide +kernel
theorem dX8_keep_28 : decode cX8_keep 28 = .ok (.iload_n 1, 1) := by decide +kernel
theorem dX8_keep_29 : decode cX8_keep 29 = .ok (.aaload, 1) := by decide +kernel
theorem dX8_keep_30 : decode cX8_keep 30 = .ok (.aload_n 0, 1) := by decide +kernel
theorem dX8_keep_31 : decode cX8_keep 31 = .ok (.getfield 19, 3) := by decide +kernel
theorem dX8_keep_34 : decode cX8_keep 34 = .ok (.invokevirtual 99, 3) := by decide +kernel
theorem dX8_keep_37 : decode cX8_keep 37 = .ok (.aload_n 0, 1) := by decide +kernel
theorem dX8_keep_38 : decode cX8_keep 38 = .ok (.getfield 39, 3) := by decide +kernel
theorem dX8_keep_41 : decode cX8_keep 41 = .ok (.iload_n 1, 1) := by decide +kernel
theorem dX8_keep_42 : decode cX8_keep 42 = .ok (.iconst 1, 1) := by decide +kernel
theorem dX8_keep_43 : decode cX8_keep 43 = .ok (.bastore, 1) := by decide +kernel
theorem dX8_keep_44 : decode cX8_keep 44 = .ok (.iload_n 2, 1) := by decide +kernel
theorem dX8_keep_45 : decode cX8_keep 45 = .ok (.ireturn, 1) := by decide +kernel
theorem dX8_back_0 : decode cX8_back 0 = .ok (.iload_n 1, 1) := by decide +kernel
theorem dX8_back_1 : decode cX8_back 1 = .ok (.invokestatic 295, 3) := by decide +kernel
theorem dX8_back_4 : decode cX8_back 4 = .ok (.ifCond .ne 5, 3) := by decide +kernel
theorem dX8_back_7 : decode cX8_back 7 = .ok (.iconst (-1), 1) := by decide +kernel
theorem dX8_back_8 : decode cX8_back 8 = .ok (.ireturn, 1) := by decide +kernel
theorem dX8_back_9 : decode cX8_back 9 = .ok (.aload_n 0, 1) := by decide +kernel
theorem dX8_back_10 : decode cX8_back 10 = .ok (.getfield 39, 3) := by decide +kernel
theorem dX8_back_13 : decode cX8_back 13 = .ok (.iload_n 1, 1) := by decide +kernel
theorem dX8_back_14 : decode cX8_back 14 = .ok (.baload, 1) := by decide +kernel
theorem dX8_back_15 : decode cX8_back 15 = .ok (.ifCond .ne 6, 3) := by decide +kernel
theorem dX8_back_18 : decode cX8_back 18 = .ok (.bipush (-2), 2) := by decide +kernel
theorem dX8_back_20 : decode cX8_back 20 = .ok (.ireturn, 1) := by decide +kernel
theorem dX8_back_21 : decode cX8_back 21 = .ok (.aload_n 0, 1) := by decide +kernel
theorem dX8_back_22 : decode cX8_back 22 = .ok (.getfield 19, 3) := by decide +kernel
theorem dX8_back_25 : decode cX8_back 25 = .ok (.aload_n 0, 1) := by decide +kernel
theorem dX8_back_26 : decode cX8_back 26 = .ok (.getfield 35, 3) := by decide +kernel
theorem dX8_back_29 : decode cX8_back 29 = .ok (.iload_n 1, 1) := by decide +kernel
theorem dX8_back_30 : decode cX8_back 30 = .ok (.aaload, 1) := by decide +kernel
theorem dX8_back_31 : decode cX8_back 31 = .ok (.invokevirtual 99, 3) := by decide +kernel
theorem dX8_back_34 : decode cX8_back 34 = .ok (.aload_n 0, 1) := by decide +kernel
theorem dX8_back_35 : decode cX8_back 35 = .ok (.getfield 19, 3) := by decide +kernel
theorem dX8_back_38 : decode cX8_back 38 = .ok (.getfield 243, 3) := by decide +kernel
theorem dX8_back_41 : decode cX8_back 41 = .ok (.ireturn, 1) := by decide +kernel
theorem dX8_sheet_0 : decode cX8_sheet 0 = .ok (.iload_n 1, 1) := by decide +kernel
theorem dX8_sheet_1 : decode cX8_sheet 1 = .ok (.invokestatic 302, 3) := by decide +kernel
theorem dX8_sheet_4 : decode cX8_sheet 4 = .ok (.ifCond .eq 16, 3) := by decide +kernel
theorem dX8_sheet_7 : decode cX8_sheet 7 = .ok (.iload_n 2, 1) := by decide +kernel
theorem dX8_sheet_8 : decode cX8_sheet 8 = .ok (.invokestatic 305, 3) := by decide +kernel
theorem dX8_sheet_11 : decode cX8_sheet 11 = .ok (.ifCond .eq 9, 3) := by decide +kernel
theorem dX8_sheet_14 : decode cX8_sheet 14 = .ok (.iload_n 3, 1) := by decide +kernel
theorem dX8_sheet_15 : decode cX8_sheet 15 = .ok (.bipush 40, 2) := by decide +kernel
theorem dX8_sheet_17 : decode cX8_sheet 17 = .ok (.if_icmp .le 5, 3) := by decide +kernel
theorem dX8_sheet_20 : decode cX8_sheet 20 = .ok (.iconst (-1), 1) := by decide +kernel
theorem dX8_sheet_21 : decode cX8_sheet 21 = .ok (.ireturn, 1) := by decide +kernel
theorem dX8_sheet_22 : decode cX8_sheet 22 = .ok (.iload_n 3, 1) := by decide +kernel
theorem dX8_sheet_23 : decode cX8_sheet 23 = .ok (.ifCond .ge 6, 3) := by decide +kernel
theorem dX8_sheet_26 : decode cX8_sheet 26 = .ok (.bipush (-14), 2) := by decide +kernel
theorem dX8_sheet_28 : decode cX8_sheet 28 = .ok (.ireturn, 1) := by decide +kernel
theorem dX8_sheet_29 : decode cX8_sheet 29 = .ok (.aload_n 0, 1) := by decide +kernel
theorem dX8_sheet_30 : decode cX8_sheet 30 = .ok (.getfield 45, 3) := by decide +kernel
theorem dX8_sheet_33 : decode cX8_sheet 33 = .ok (.iload_n 1, 1) := by decide +kernel
theorem dX8_sheet_34 : decode cX8_sheet 34 = .ok (.aaload, 1) := by decide +kernel
theorem dX8_sheet_35 : decode cX8_sheet 35 = .ok (.iload_n 2, 1) := by decide +kernel
theorem dX8_sheet_36 : decode cX8_sheet 36 = .ok (.iload_n 3, 1) := by decide +kernel
theorem dX8_sheet_37 : decode cX8_sheet 37 = .ok (.invokevirtual 308, 3) := by decide +kernel
theorem dX8_sheet_40 : decode cX8_sheet 40 = .ok (.iconst 1, 1) := by decide +kernel
theorem dX8_sheet_41 : decode cX8_sheet 41 = .ok (.ireturn, 1) := by decide +kernel
theorem dX8_lay_0 : decode cX8_lay 0 = .ok (.iload_n 1, 1) := by decide +kernel
theorem dX8_lay_1 : decode cX8_lay 1 = .ok (.invokestatic 302, 3) := by decide +kernel
theorem dX8_lay_4 : decode cX8_lay 4 = .ok (.ifCond .ne 5, 3) := by decide +kernel
theorem dX8_lay_7 : decode cX8_lay 7 = .ok (.iconst (-1), 1) := by decide +kernel
theorem dX8_lay_8 : decode cX8_lay 8 = .ok (.ireturn, 1) := by decide +kernel
theorem dX8_lay_9 : decode cX8_lay 9 = .ok (.aload_n 0, 1) := by decide +kernel
theorem dX8_lay_10 : decode cX8_lay 10 = .ok (.getfield 45, 3) := by decide +kernel
theorem dX8_lay_13 : decode cX8_lay 13 = .ok (.iload_n 1, 1) := by decide +kernel
theorem dX8_lay_14 : decode cX8_lay 14 = .ok (.aaload, 1) := by decide +kernel
theorem dX8_lay_15 : decode cX8_lay 15 = .ok (.invokevirtual 311, 3) := by decide +kernel
theorem dX8_lay_18 : decode cX8_lay 18 = .ok (.ifCond .eq 6, 3) := by decide +kernel
theorem dX8_lay_21 : decode cX8_lay 21 = .ok (.bipush (-11), 2) := by decide +kernel
theorem dX8_lay_23 : decode cX8_lay 23 = .ok (.ireturn, 1) := by decide +kernel
theorem dX8_lay_24 : decode cX8_lay 24 = .ok (.aload_n 0, 1) := by decide +kernel
theorem dX8_lay_25 : decode cX8_lay 25 = .ok (.getfield 45, 3) := by decide +kernel
theorem dX8_lay_28 : decode cX8_lay 28 = .ok (.iload_n 1, 1) := by decide +kernel
theorem dX8_lay_29 : decode cX8_lay 29 = .ok (.aaload, 1) := by decide +kernel
theorem dX8_lay_30 : decode cX8_lay 30 = .ok (.iload_n 2, 1) := by decide +kernel
theorem dX8_lay_31 : decode cX8_lay 31 = .ok (.invokevirtual 315, 3) := by decide +kernel
theorem dX8_lay_34 : decode cX8_lay 34 = .ok (.ifCond .ne 6, 3) := by decide +kernel
theorem dX8_lay_37 : decode cX8_lay 37 = .ok (.bipush (-12), 2) := by decide +kernel
theorem dX8_lay_39 : decode cX8_lay 39 = .ok (.ireturn, 1) := by decide +kernel
theorem dX8_lay_40 : decode cX8_lay 40 = .ok (.aload_n 0, 1) := by decide +kernel
theorem dX8_lay_41 : decode cX8_lay 41 = .ok (.getfield 45, 3) := by decide +kernel
theorem dX8_lay_44 : decode cX8_lay 44 = .ok (.iload_n 1, 1) := by decide +kernel
theorem dX8_lay_45 : decode cX8_lay 45 = .ok (.aaload, 1) := by decide +kernel
theorem dX8_lay_46 : decode cX8_lay 46 = .ok (.iload_n 2, 1) := by decide +kernel
theorem dX8_lay_47 : decode cX8_lay 47 = .ok (.iload_n 3, 1) := by decide +kernel
theorem dX8_lay_48 : decode cX8_lay 48 = .ok (.invokevirtual 318, 3) := by decide +kernel
theorem dX8_lay_51 : decode cX8_lay 51 = .ok (.iconst 1, 1) := by decide +kernel
theorem dX8_lay_52 : decode cX8_lay 52 = .ok (.ireturn, 1) := by decide +kernel
theorem dX8_read_0 : decode cX8_read 0 = .ok (.iload_n 1, 1) := by decide +kernel
theorem dX8_read_1 : decode cX8_read 1 = .ok (.invokestatic 302, 3) := by decide +kernel
theorem dX8_read_4 : decode cX8_read 4 = .ok (.ifCond .eq 21, 3) := by decide +kernel
theorem dX8_read_7 : decode cX8_read 7 = .ok (.iload_n 2, 1) := by decide +kernel
theorem dX8_read_8 : decode cX8_read 8 = .ok (.invokestatic 305, 3) := by decide +kernel
theorem dX8_read_11 : decode cX8_read 11 = .ok (.ifCond .eq 14, 3) := by decide +kernel
theorem dX8_read_14 : decode cX8_read 14 = .ok (.iload 4, 2) := by decide +kernel
theorem dX8_read_16 : decode cX8_read 16 = .ok (.iconst 0, 1) := by decide +kernel
theorem dX8_read_17 : decode cX8_read 17 = .ok (.bipush 10, 2) := by decide +kernel
theorem dX8_read_19 : decode cX8_read 19 = .ok (.invokestatic 85, 3) := by decide +kernel
theorem dX8_read_22 : decode cX8_read 22 = .ok (.ifCond .ne 5, 3) := by decide +kernel
theorem dX8_read_25 : decode cX8_read 25 = .ok (.iconst (-1), 1) := by decide +kernel
theorem dX8_read_26 : decode cX8_read 26 = .ok (.ireturn, 1) := by decide +kernel
theorem dX8_read_27 : decode cX8_read 27 = .ok (.aload_n 0, 1) := by decide +kernel
theorem dX8_read_28 : decode cX8_read 28 = .ok (.getfield 45, 3) := by decide +kernel
theorem dX8_read_31 : decode cX8_read 31 = .ok (.iload_n 1, 1) := by decide +kernel
theorem dX8_read_32 : decode cX8_read 32 = .ok (.aaload, 1) := by decide +kernel
theorem dX8_read_33 : decode cX8_read 33 = .ok (.astore 5, 2) := by decide +kernel
theorem dX8_read_35 : decode cX8_read 35 = .ok (.iload 4, 2) := by decide +kernel
theorem dX8_read_37 : decode cX8_read 37 = .ok (.ifCond .ne 7, 3) := by decide +kernel
theorem dX8_read_40 : decode cX8_read 40 = .ok (.iconst 0, 1) := by decide +kernel
theorem dX8_read_41 : decode cX8_read 41 = .ok (.goto 9, 3) := by decide +kernel
theorem dX8_read_44 : decode cX8_read 44 = .ok (.aload 5, 2) := by decide +kernel
theorem dX8_read_46 : decode cX8_read 46 = .ok (.iload_n 2, 1) := by decide +kernel
theorem dX8_read_47 : decode cX8_read 47 = .ok (.invokevirtual 321, 3) := by decide +kernel
theorem dX8_read_50 : decode cX8_read 50 = .ok (.istore 6, 2) := by decide +kernel
theorem dX8_read_52 : decode cX8_read 52 = .ok (.iconst 0, 1) := by decide +kernel
theorem dX8_read_53 : decode cX8_read 53 = .ok (.istore 7, 2) := by decide +kernel
theorem dX8_read_55 : decode cX8_read 55 = .ok (.iconst 0, 1) := by decide +kernel
theorem dX8_read_56 : decode cX8_read 56 = .ok (.istore 8, 2) := by decide +kernel
theorem dX8_read_58 : decode cX8_read 58 = .ok (.iload 8, 2) := by decide +kernel
theorem dX8_read_60 : decode cX8_read 60 = .ok (.iload 4, 2) := by decide +kernel
theorem dX8_read_62 : decode cX8_read 62 = .ok (.if_icmp .ge 91, 3) := by decide +kernel
theorem dX8_read_65 : decode cX8_read 65 = .ok (.iload 6, 2) := by decide +kernel
theorem dX8_read_67 : decode cX8_read 67 = .ok (.ifCond .ne 86, 3) := by decide +kernel
theorem dX8_read_70 : decode cX8_read 70 = .ok (.iload_n 3, 1) := by decide +kernel
theorem dX8_read_71 : decode cX8_read 71 = .ok (.iconst 2, 1) := by decide +kernel
theorem dX8_read_72 : decode cX8_read 72 = .ok (.iload 8, 2) := by decide +kernel
theorem dX8_read_74 : decode cX8_read 74 = .ok (.imul, 1) := by decide +kernel
theorem dX8_read_75 : decode cX8_read 75 = .ok (.iadd, 1) := by decide +kernel
theorem dX8_read_76 : decode cX8_read 76 = .ok (.istore 9, 2) := by decide +kernel
theorem dX8_read_78 : decode cX8_read 78 = .ok (.aload 5, 2) := by decide +kernel
theorem dX8_read_80 : decode cX8_read 80 = .ok (.iload 9, 2) := by decide +kernel
theorem dX8_read_82 : decode cX8_read 82 = .ok (.invokevirtual 315, 3) := by decide +kernel
theorem dX8_read_85 : decode cX8_read 85 = .ok (.ifCond .eq 15, 3) := by decide +kernel
theorem dX8_read_88 : decode cX8_read 88 = .ok (.aload 5, 2) := by decide +kernel
theorem dX8_read_90 : decode cX8_read 90 = .ok (.iload 9, 2) := by decide +kernel
theorem dX8_read_92 : decode cX8_read 92 = .ok (.iconst 1, 1) := by decide +kernel
theorem dX8_read_93 : decode cX8_read 93 = .ok (.iadd, 1) := by decide +kernel
theorem dX8_read_94 : decode cX8_read 94 = .ok (.invokevirtual 315, 3) := by decide +kernel
theorem dX8_read_97 : decode cX8_read 97 = .ok (.ifCond .ne 9, 3) := by decide +kernel
theorem dX8_read_100 : decode cX8_read 100 = .ok (.iconst 2, 1) := by decide +kernel
theorem dX8_read_101 : decode cX8_read 101 = .ok (.istore 6, 2) := by decide +kernel
theorem dX8_read_103 : decode cX8_read 103 = .ok (.goto 44, 3) := by decide +kernel
theorem dX8_read_106 : decode cX8_read 106 = .ok (.aload_n 0, 1) := by decide +kernel
theorem dX8_read_107 : decode cX8_read 107 = .ok (.getfield 19, 3) := by decide +kernel
theorem dX8_read_110 : decode cX8_read 110 = .ok (.getfield 243, 3) := by decide +kernel
theorem dX8_read_113 : decode cX8_read 113 = .ok (.iload 8, 2) := by decide +kernel
theorem dX8_read_115 : decode cX8_read 115 = .ok (.iadd, 1) := by decide +kernel
theorem dX8_read_116 : decode cX8_read 116 = .ok (.aload 5, 2) := by decide +kernel
theorem dX8_read_118 : decode cX8_read 118 = .ok (.iload 9, 2) := by decide +kernel
theorem dX8_read_120 : decode cX8_read 120 = .ok (.invokevirtual 324, 3) := by decide +kernel
theorem dX8_read_123 : decode cX8_read 123 = .ok (.aload 5, 2) := by decide +kernel
theorem dX8_read_125 : decode cX8_read 125 = .ok (.iload 9, 2) := by decide +kernel
theorem dX8_read_127 : decode cX8_read 127 = .ok (.iconst 1, 1) := by decide +kernel
theorem dX8_read_128 : decode cX8_read 128 = .ok (.iadd, 1) := by decide +kernel
theorem dX8_read_129 : decode cX8_read 129 = .ok (.invokevirtual 324, 3) := by decide +kernel
theorem dX8_read_132 : decode cX8_read 132 = .ok (.invokestatic 246, 3) := by decide +kernel
theorem dX8_read_135 : decode cX8_read 135 = .ok (.ifCond .eq 9, 3) := by decide +kernel
theorem dX8_read_138 : decode cX8_read 138 = .ok (.bipush (-20), 2) := by decide +kernel
theorem dX8_read_140 : decode cX8_read 140 = .ok (.iload 8, 2) := by decide +kernel
theorem dX8_read_142 : decode cX8_read 142 = .ok (.isub, 1) := by decide +kernel
theorem dX8_read_143 : decode cX8_read 143 = .ok (.ireturn, 1) := by decide +kernel
theorem dX8_read_144 : decode cX8_read 144 = .ok (.iinc 7 1, 3) := by decide +kernel
theorem dX8_read_147 : decode cX8_read 147 = .ok (.iinc 8 1, 3) := by decide +kernel
theorem dX8_read_150 : decode cX8_read 150 = .ok (.goto (-92), 3) := by decide +kernel
theorem dX8_read_153 : decode cX8_read 153 = .ok (.iconst 0, 1) := by decide +kernel
theorem dX8_read_154 : decode cX8_read 154 = .ok (.istore 8, 2) := by decide +kernel
theorem dX8_read_156 : decode cX8_read 156 = .ok (.iload 8, 2) := by decide +kernel
theorem dX8_read_158 : decode cX8_read 158 = .ok (.iload 7, 2) := by decide +kernel
theorem dX8_read_160 : decode cX8_read 160 = .ok (.if_icmp .ge 42, 3) := by decide +kernel
theorem dX8_read_163 : decode cX8_read 163 = .ok (.aload_n 0, 1) := by decide +kernel
theorem dX8_read_164 : decode cX8_read 164 = .ok (.getfield 19, 3) := by decide +kernel
theorem dX8_read_167 : decode cX8_read 167 = .ok (.aload 5, 2) := by decide +kernel
theorem dX8_read_169 : decode cX8_read 169 = .ok (.iload_n 3, 1) := by decide +kernel
theorem dX8_read_170 : decode cX8_read 170 = .ok (.iconst 2, 1) := by decide +kernel
theorem dX8_read_171 : decode cX8_read 171 = .ok (.iload 8, 2) := by decide +kernel
theorem dX8_read_173 : decode cX8_read 173 = .ok (.imul, 1) := by decide +kernel
theorem dX8_read_174 : decode cX8_read 174 = .ok (.iadd, 1) := by decide +kernel
theorem dX8_read_175 : decode cX8_read 175 = .ok (.invokevirtual 324, 3) := by decide +kernel
theorem dX8_read_178 : decode cX8_read 178 = .ok (.aload 5, 2) := by decide +kernel
theorem dX8_read_180 : decode cX8_read 180 = .ok (.iload_n 3, 1) := by decide +kernel
theorem dX8_read_181 : decode cX8_read 181 = .ok (.iconst 2, 1) := by decide +kernel
theorem dX8_read_182 : decode cX8_read 182 = .ok (.iload 8, 2) := by decide +kernel
theorem dX8_read_184 : decode cX8_read 184 = .ok (.imul, 1) := by decide +kernel
theorem dX8_read_185 : decode cX8_read 185 = .ok (.iadd, 1) := by decide +kernel
theorem dX8_read_186 : decode cX8_read 186 = .ok (.iconst 1, 1) := by decide +kernel
theorem dX8_read_187 : decode cX8_read 187 = .ok (.iadd, 1) := by decide +kernel
theorem dX8_read_188 : decode cX8_read 188 = .ok (.invokevirtual 324, 3) := by decide +kernel
theorem dX8_read_191 : decode cX8_read 191 = .ok (.iconst 3, 1) := by decide +kernel
theorem dX8_read_192 : decode cX8_read 192 = .ok (.invokevirtual 249, 3) := by decide +kernel
theorem dX8_read_195 : decode cX8_read 195 = .ok (.pop, 1) := by decide +kernel
theorem dX8_read_196 : decode cX8_read 196 = .ok (.iinc 8 1, 3) := by decide +kernel
theorem dX8_read_199 : decode cX8_read 199 = .ok (.goto (-43), 3) := by decide +kernel
theorem dX8_read_202 : decode cX8_read 202 = .ok (.aload_n 0, 1) := by decide +kernel
theorem dX8_read_203 : decode cX8_read 203 = .ok (.iload 6, 2) := by decide +kernel
theorem dX8_read_205 : decode cX8_read 205 = .ok (.putfield 74, 3) := by decide +kernel
theorem dX8_read_208 : decode cX8_read 208 = .ok (.iload 7, 2) := by decide +kernel
theorem dX8_read_210 : decode cX8_read 210 = .ok (.ireturn, 1) := by decide +kernel
theorem dX8_torn_0 : decode cX8_torn 0 = .ok (.aload_n 0, 1) := by decide +kernel
theorem dX8_torn_1 : decode cX8_torn 1 = .ok (.getfield 74, 3) := by decide +kernel
theorem dX8_torn_4 : decode cX8_torn 4 = .ok (.ireturn, 1) := by decide +kernel
theorem dX8_count_0 : decode cX8_count 0 = .ok (.iload_n 1, 1) := by decide +kernel
theorem dX8_count_1 : decode cX8_count 1 = .ok (.tableswitch 149 0 7 #[47, 55, 63, 71, 79, 109, 117, 144], 47) := by decide +kernel
theorem dX8_count_48 : decode cX8_count 48 = .ok (.aload_n 0, 1) := by decide +kernel
theorem dX8_count_49 : decode cX8_count 49 = .ok (.getfield 19, 3) := by decide +kernel
theorem dX8_count_52 : decode cX8_count 52 = .ok (.getfield 192, 3) := by decide +kernel
theorem dX8_count_55 : decode cX8_count 55 = .ok (.ireturn, 1) := by decide +kernel
theorem dX8_count_56 : decode cX8_count 56 = .ok (.aload_n 0, 1) := by decide +kernel
theorem dX8_count_57 : decode cX8_count 57 = .ok (.getfield 19, 3) := by decide +kernel
theorem dX8_count_60 : decode cX8_count 60 = .ok (.getfield 243, 3) := by decide +kernel
theorem dX8_count_63 : decode cX8_count 63 = .ok (.ireturn, 1) := by decide +kernel
theorem dX8_count_64 : decode cX8_count 64 = .ok (.aload_n 0, 1) := by decide +kernel
theorem dX8_count_65 : decode cX8_count 65 = .ok (.getfield 19, 3) := by decide +kernel
theorem dX8_count_68 : decode cX8_count 68 = .ok (.getfield 273, 3) := by decide +kernel
theorem dX8_count_71 : decode cX8_count 71 = .ok (.ireturn, 1) := by decide +kernel
theorem dX8_count_72 : decode cX8_count 72 = .ok (.aload_n 0, 1) := by decide +kernel
theorem dX8_count_73 : decode cX8_count 73 = .ok (.getfield 19, 3) := by decide +kernel
theorem dX8_count_76 : decode cX8_count 76 = .ok (.invokevirtual 327, 3) := by decide +kernel
theorem dX8_count_79 : decode cX8_count 79 = .ok (.ireturn, 1) := by decide +kernel
theorem dX8_count_80 : decode cX8_count 80 = .ok (.aload_n 0, 1) := by decide +kernel
theorem dX8_count_81 : decode cX8_count 81 = .ok (.getfield 39, 3) := by decide +kernel
theorem dX8_count_84 : decode cX8_count 84 = .ok (.iconst 0, 1) := by decide +kernel
theorem dX8_count_85 : decode cX8_count 85 = .ok (.baload, 1) := by decide +kernel
theorem dX8_count_86 : decode cX8_count 86 = .ok (.ifCond .eq 7, 3) := by decide +kernel
theorem dX8_count_89 : decode cX8_count 89 = .ok (.iconst 1, 1) := by decide +kernel
theorem dX8_count_90 : decode cX8_count 90 = .ok (.goto 4, 3) := by decide +kernel
theorem dX8_count_93 : decode cX8_count 93 = .ok (.iconst 0, 1) := by decide +kernel
theorem dX8_count_94 : decode cX8_count 94 = .ok (.aload_n 0, 1) := by decide +kernel
theorem dX8_count_95 : decode cX8_count 95 = .ok (.getfield 39, 3) := by decide +kernel
theorem dX8_count_98 : decode cX8_count 98 = .ok (.iconst 1, 1) := by decide +kernel
theorem dX8_count_99 : decode cX8_count 99 = .ok (.baload, 1) := by decide +kernel
theorem dX8_count_100 : decode cX8_count 100 = .ok (.ifCond .eq 7, 3) := by decide +kernel
theorem dX8_count_103 : decode cX8_count 103 = .ok (.iconst 1, 1) := by decide +kernel
theorem dX8_count_104 : decode cX8_count 104 = .ok (.goto 4, 3) := by decide +kernel
theorem dX8_count_107 : decode cX8_count 107 = .ok (.iconst 0, 1) := by decide +kernel
theorem dX8_count_108 : decode cX8_count 108 = .ok (.iadd, 1) := by decide +kernel
theorem dX8_count_109 : decode cX8_count 109 = .ok (.ireturn, 1) := by decide +kernel
theorem dX8_count_110 : decode cX8_count 110 = .ok (.aload_n 0, 1) := by decide +kernel
theorem dX8_count_111 : decode cX8_count 111 = .ok (.getfield 10, 3) := by decide +kernel
theorem dX8_count_114 : decode cX8_count 114 = .ok (.getfield 82, 3) := by decide +kernel
theorem dX8_count_117 : decode cX8_count 117 = .ok (.ireturn, 1) := by decide +kernel
theorem dX8_count_118 : decode cX8_count 118 = .ok (.aload_n 0, 1) := by decide +kernel
theorem dX8_count_119 : decode cX8_count 119 = .ok (.getfield 45, 3) := by decide +kernel
theorem dX8_count_122 : decode cX8_count 122 = .ok (.iconst 0, 1) := by decide +kernel
theorem dX8_count_123 : decode cX8_count 123 = .ok (.aaload, 1) := by decide +kernel
theorem dX8_count_124 : decode cX8_count 124 = .ok (.invokevirtual 311, 3) := by decide +kernel
theorem dX8_count_127 : decode cX8_count 127 = .ok (.ifCond .eq 8, 3) := by decide +kernel
theorem dX8_count_130 : decode cX8_count 130 = .ok (.bipush (-4), 2) := by decide +kernel
theorem dX8_count_132 : decode cX8_count 132 = .ok (.goto 12, 3) := by decide +kernel
theorem dX8_count_135 : decode cX8_count 135 = .ok (.aload_n 0, 1) := by decide +kernel
theorem dX8_count_136 : decode cX8_count 136 = .ok (.getfield 45, 3) := by decide +kernel
theorem dX8_count_139 : decode cX8_count 139 = .ok (.iconst 0, 1) := by decide +kernel
theorem dX8_count_140 : decode cX8_count 140 = .ok (.aaload, 1) := by decide +kernel
theorem dX8_count_141 : decode cX8_count 141 = .ok (.getfield 330, 3) := by decide +kernel
theorem dX8_count_144 : decode cX8_count 144 = .ok (.ireturn, 1) := by decide +kernel
theorem dX8_count_145 : decode cX8_count 145 = .ok (.aload_n 0, 1) := by decide +kernel
theorem dX8_count_146 : decode cX8_count 146 = .ok (.getfield 67, 3) := by decide +kernel
theorem dX8_count_149 : decode cX8_count 149 = .ok (.ireturn, 1) := by decide +kernel
theorem dX8_count_150 : decode cX8_count 150 = .ok (.iconst (-1), 1) := by decide +kernel
theorem dX8_count_151 : decode cX8_count 151 = .ok (.ireturn, 1) := by decide +kernel
theorem dX8_within_0 : decode cX8_within 0 = .ok (.iload_n 0, 1) := by decide +kernel
theorem dX8_within_1 : decode cX8_within 1 = .ok (.iload_n 1, 1) := by decide +kernel
theorem dX8_within_2 : decode cX8_within 2 = .ok (.if_icmp .lt 12, 3) := by decide +kernel
theorem dX8_within_5 : decode cX8_within 5 = .ok (.iload_n 0, 1) := by decide +kernel
theorem dX8_within_6 : decode cX8_within 6 = .ok (.iload_n 2, 1) := by decide +kernel
theorem dX8_within_7 : decode cX8_within 7 = .ok (.if_icmp .gt 7, 3) := by decide +kernel
theorem dX8_within_10 : decode cX8_within 10 = .ok (.iconst 1, 1) := by decide +kernel
theorem dX8_within_11 : decode cX8_within 11 = .ok (.goto 4, 3) := by decide +kernel
theorem dX8_within_14 : decode cX8_within 14 = .ok (.iconst 0, 1) := by decide +kernel
theorem dX8_within_15 : decode cX8_within 15 = .ok (.ireturn, 1) := by decide +kernel
theorem dX8_isSlot_0 : decode cX8_isSlot 0 = .ok (.iload_n 0, 1) := by decide +kernel
theorem dX8_isSlot_1 : decode cX8_isSlot 1 = .ok (.iconst 0, 1) := by decide +kernel
theorem dX8_isSlot_2 : decode cX8_isSlot 2 = .ok (.iconst 1, 1) := by decide +kernel
theorem dX8_isSlot_3 : decode cX8_isSlot 3 = .ok (.invokestatic 85, 3) := by decide +kernel
theorem dX8_isSlot_6 : decode cX8_isSlot 6 = .ok (.ireturn, 1) := by decide +kernel
theorem dX8_isSize_0 : decode cX8_isSize 0 = .ok (.iload_n 0, 1) := by decide +kernel
theorem dX8_isSize_1 : decode cX8_isSize 1 = .ok (.iconst 1, 1) := by decide +kernel
theorem dX8_isSize_2 : decode cX8_isSize 2 = .ok (.bipush 40, 2) := by decide +kernel
theorem dX8_isSize_4 : decode cX8_isSize 4 = .ok (.invokestatic 85, 3) := by decide +kernel
theorem dX8_isSize_7 : decode cX8_isSize 7 = .ok (.ireturn, 1) := by decide +kernel
theorem dX8_isYears_0 : decode cX8_isYears 0 = .ok (.iload_n 0, 1) := by decide +kernel
theorem dX8_isYears_1 : decode cX8_isYears 1 = .ok (.iconst 1, 1) := by decide +kernel
theorem dX8_isYears_2 : decode cX8_isYears 2 = .ok (.iconst 4, 1) := by decide +kernel
theorem dX8_isYears_3 : decode cX8_isYears 3 = .ok (.invokestatic 85, 3) := by decide +kernel
theorem dX8_isYears_6 : decode cX8_isYears 6 = .ok (.ireturn, 1) := by decide +kernel
theorem dX8_isZeroOrOne_0 : decode cX8_isZeroOrOne 0 = .ok (.iload_n 0, 1) := by decide +kernel
theorem dX8_isZeroOrOne_1 : decode cX8_isZeroOrOne 1 = .ok (.ifCond .eq 8, 3) := by decide +kernel
theorem dX8_isZeroOrOne_4 : decode cX8_isZeroOrOne 4 = .ok (.iload_n 0, 1) := by decide +kernel
theorem dX8_isZeroOrOne_5 : decode cX8_isZeroOrOne 5 = .ok (.iconst 1, 1) := by decide +kernel
theorem dX8_isZeroOrOne_6 : decode cX8_isZeroOrOne 6 = .ok (.if_icmp .ne 7, 3) := by decide +kernel
theorem dX8_isZeroOrOne_9 : decode cX8_isZeroOrOne 9 = .ok (.iconst 1, 1) := by decide +kernel
theorem dX8_isZeroOrOne_10 : decode cX8_isZeroOrOne 10 = .ok (.goto 4, 3) := by decide +kernel
theorem dX8_isZeroOrOne_13 : decode cX8_isZeroOrOne 13 = .ok (.iconst 0, 1) := by decide +kernel
theorem dX8_isZeroOrOne_14 : decode cX8_isZeroOrOne 14 = .ok (.ireturn, 1) := by decide +kernel
theorem dX8_isImage_0 : decode cX8_isImage 0 = .ok (.iload_n 0, 1) := by decide +kernel
theorem dX8_isImage_1 : decode cX8_isImage 1 = .ok (.iconst 0, 1) := by decide +kernel
theorem dX8_isImage_2 : decode cX8_isImage 2 = .ok (.iconst 1, 1) := by decide +kernel
theorem dX8_isImage_3 : decode cX8_isImage 3 = .ok (.invokestatic 85, 3) := by decide +kernel
theorem dX8_isImage_6 : decode cX8_isImage 6 = .ok (.ireturn, 1) := by decide +kernel
theorem dX8_isSheet_0 : decode cX8_isSheet 0 = .ok (.iload_n 0, 1) := by decide +kernel
theorem dX8_isSheet_1 : decode cX8_isSheet 1 = .ok (.iconst 0, 1) := by decide +kernel
theorem dX8_isSheet_2 : decode cX8_isSheet 2 = .ok (.iconst 3, 1) := by decide +kernel
theorem dX8_isSheet_3 : decode cX8_isSheet 3 = .ok (.invokestatic 85, 3) := by decide +kernel
theorem dX8_isSheet_6 : decode cX8_isSheet 6 = .ok (.ireturn, 1) := by decide +kernel
theorem dX8_isLane_0 : decode cX8_isLane 0 = .ok (.iload_n 0, 1) := by decide +kernel
theorem dX8_isLane_1 : decode cX8_isLane 1 = .ok (.iconst 0, 1) := by decide +kernel
theorem dX8_isLane_2 : decode cX8_isLane 2 = .ok (.iconst 2, 1) := by decide +kernel
theorem dX8_isLane_3 : decode cX8_isLane 3 = .ok (.invokestatic 85, 3) := by decide +kernel
theorem dX8_isLane_6 : decode cX8_isLane 6 = .ok (.ireturn, 1) := by decide +kernel
theorem dX8_sewRefusal_0 : decode cX8_sewRefusal 0 = .ok (.iload_n 1, 1) := by decide +kernel
theorem dX8_sewRefusal_1 : decode cX8_sewRefusal 1 = .ok (.invokestatic 175, 3) := by decide +kernel
theorem dX8_sewRefusal_4 : decode cX8_sewRefusal 4 = .ok (.ifCond .eq 10, 3) := by decide +kernel
theorem dX8_sewRefusal_7 : decode cX8_sewRefusal 7 = .ok (.iload_n 2, 1) := by decide +kernel
theorem dX8_sewRefusal_8 : decode cX8_sewRefusal 8 = .ok (.invokestatic 270, 3) := by decide +kernel
theorem dX8_sewRefusal_11 : decode cX8_sewRefusal 11 = .ok (.ifCond .ne 5, 3) := by decide +kernel
theorem dX8_sewRefusal_14 : decode cX8_sewRefusal 14 = .ok (.iconst (-1), 1) := by decide +kernel
theorem dX8_sewRefusal_15 : decode cX8_sewRefusal 15 = .ok (.ireturn, 1) := by decide +kernel
theorem dX8_sewRefusal_16 : decode cX8_sewRefusal 16 = .ok (.iload_n 0, 1) := by decide +kernel
theorem dX8_sewRefusal_17 : decode cX8_sewRefusal 17 = .ok (.bipush 10, 2) := by decide +kernel
theorem dX8_sewRefusal_19 : decode cX8_sewRefusal 19 = .ok (.if_icmp .lt 8, 3) := by decide +kernel
theorem dX8_sewRefusal_22 : decode cX8_sewRefusal 22 = .ok (.bipush (-3), 2) := by decide +kernel
theorem dX8_sewRefusal_24 : decode cX8_sewRefusal 24 = .ok (.goto 4, 3) := by decide +kernel
theorem dX8_sewRefusal_27 : decode cX8_sewRefusal 27 = .ok (.iconst 0, 1) := by decide +kernel
theorem dX8_sewRefusal_28 : decode cX8_sewRefusal 28 = .ok (.ireturn, 1) := by decide +kernel
theorem dX8_dressAll_0 : decode cX8_dressAll 0 = .ok (.aload_n 0, 1) := by decide +kernel
theorem dX8_dressAll_1 : decode cX8_dressAll 1 = .ok (.getfield 52, 3) := by decide +kernel
theorem dX8_dressAll_4 : decode cX8_dressAll 4 = .ok (.aload_n 1, 1) := by decide +kernel
theorem dX8_dressAll_5 : decode cX8_dressAll 5 = .ok (.iload_n 2, 1) := by decide +kernel
theorem dX8_dressAll_6 : decode cX8_dressAll 6 = .ok (.aload_n 0, 1) := by decide +kernel
theorem dX8_dressAll_7 : decode cX8_dressAll 7 = .ok (.getfield 67, 3) := by decide +kernel
theorem dX8_dressAll_10 : decode cX8_dressAll 10 = .ok (.invokevirtual 264, 3) := by decide +kernel
theorem dX8_dressAll_13 : decode cX8_dressAll 13 = .ok (.aload_n 0, 1) := by decide +kernel
theorem dX8_dressAll_14 : decode cX8_dressAll 14 = .ok (.getfield 52, 3) := by decide +kernel
theorem dX8_dressAll_17 : decode cX8_dressAll 17 = .ok (.invokevirtual 267, 3) := by decide +kernel
theorem dX8_dressAll_20 : decode cX8_dressAll 20 = .ok (.aload_n 0, 1) := by decide +kernel
theorem dX8_dressAll_21 : decode cX8_dressAll 21 = .ok (.getfield 52, 3) := by decide +kernel
theorem dX8_dressAll_24 : decode cX8_dressAll 24 = .ok (.invokevirtual 331, 3) := by decide +kernel
theorem dX8_dressAll_27 : decode cX8_dressAll 27 = .ok (.aload_n 1, 1) := by decide +kernel
theorem dX8_dressAll_28 : decode cX8_dressAll 28 = .ok (.iload_n 2, 1) := by decide +kernel
theorem dX8_dressAll_29 : decode cX8_dressAll 29 = .ok (.invokevirtual 334, 3) := by decide +kernel
theorem dX8_dressAll_32 : decode cX8_dressAll 32 = .ok (.iconst 0, 1) := by decide +kernel
theorem dX8_dressAll_33 : decode cX8_dressAll 33 = .ok (.istore_n 3, 1) := by decide +kernel
theorem dX8_dressAll_34 : decode cX8_dressAll 34 = .ok (.iload_n 3, 1) := by decide +kernel
theorem dX8_dressAll_35 : decode cX8_dressAll 35 = .ok (.aload_n 1, 1) := by decide +kernel
theorem dX8_dressAll_36 : decode cX8_dressAll 36 = .ok (.getfield 192, 3) := by decide +kernel
theorem dX8_dressAll_39 : decode cX8_dressAll 39 = .ok (.if_icmp .ge 39, 3) := by decide +kernel
theorem dX8_dressAll_42 : decode cX8_dressAll 42 = .ok (.aload_n 0, 1) := by decide +kernel
theorem dX8_dressAll_43 : decode cX8_dressAll 43 = .ok (.getfield 52, 3) := by decide +kernel
theorem dX8_dressAll_46 : decode cX8_dressAll 46 = .ok (.iload_n 3, 1) := by decide +kernel
theorem dX8_dressAll_47 : decode cX8_dressAll 47 = .ok (.invokevirtual 195, 3) := by decide +kernel
theorem dX8_dressAll_50 : decode cX8_dressAll 50 = .ok (.istore 4, 2) := by decide +kernel
theorem dX8_dressAll_52 : decode cX8_dressAll 52 = .ok (.aload_n 1, 1) := by decide +kernel
theorem dX8_dressAll_53 : decode cX8_dressAll 53 = .ok (.iload 4, 2) := by decide +kernel
theorem dX8_dressAll_55 : decode cX8_dressAll 55 = .ok (.invokevirtual 129, 3) := by decide +kernel
theorem dX8_dressAll_58 : decode cX8_dressAll 58 = .ok (.ifCond .eq 14, 3) := by decide +kernel
theorem dX8_dressAll_61 : decode cX8_dressAll 61 = .ok (.aload_n 1, 1) := by decide +kernel
theorem dX8_dressAll_62 : decode cX8_dressAll 62 = .ok (.iload_n 3, 1) := by decide +kernel
theorem dX8_dressAll_63 : decode cX8_dressAll 63 = .ok (.iload 4, 2) := by decide +kernel
theorem dX8_dressAll_65 : decode cX8_dressAll 65 = .ok (.aload_n 0, 1) := by decide +kernel
theorem dX8_dressAll_66 : decode cX8_dressAll 66 = .ok (.getfield 67, 3) := by decide +kernel
theorem dX8_dressAll_69 : decode cX8_dressAll 69 = .ok (.invokevirtual 172, 3) := by decide +kernel
theorem dX8_dressAll_72 : decode cX8_dressAll 72 = .ok (.iinc 3 1, 3) := by decide +kernel
theorem dX8_dressAll_75 : decode cX8_dressAll 75 = .ok (.goto (-41), 3) := by decide +kernel
theorem dX8_dressAll_78 : decode cX8_dressAll 78 = .ok (.aload_n 1, 1) := by decide +kernel
theorem dX8_dressAll_79 : decode cX8_dressAll 79 = .ok (.getfield 192, 3) := by decide +kernel
theorem dX8_dressAll_82 : decode cX8_dressAll 82 = .ok (.aload_n 0, 1) := by decide +kernel
theorem dX8_dressAll_83 : decode cX8_dressAll 83 = .ok (.getfield 52, 3) := by decide +kernel
theorem dX8_dressAll_86 : decode cX8_dressAll 86 = .ok (.getfield 189, 3) := by decide +kernel
theorem dX8_dressAll_89 : decode cX8_dressAll 89 = .ok (.isub, 1) := by decide +kernel
theorem dX8_dressAll_90 : decode cX8_dressAll 90 = .ok (.ireturn, 1) := by decide +kernel
theorem dX8_newAhead_0 : decode cX8_newAhead 0 = .ok (.iconst 0, 1) := by decide +kernel
theorem dX8_newAhead_1 : decode cX8_newAhead 1 = .ok (.istore 4, 2) := by decide +kernel
theorem dX8_newAhead_3 : decode cX8_newAhead 3 = .ok (.iconst 0, 1) := by decide +kernel
theorem dX8_newAhead_4 : decode cX8_newAhead 4 = .ok (.istore 5, 2) := by decide +kernel
theorem dX8_newAhead_6 : decode cX8_newAhead 6 = .ok (.iload 5, 2) := by decide +kernel
theorem dX8_newAhead_8 : decode cX8_newAhead 8 = .ok (.iload_n 2, 1) := by decide +kernel
theorem dX8_newAhead_9 : decode cX8_newAhead 9 = .ok (.if_icmp .ge 64, 3) := by decide +kernel
theorem dX8_newAhead_12 : decode cX8_newAhead 12 = .ok (.iload 5, 2) := by decide +kernel
theorem dX8_newAhead_14 : decode cX8_newAhead 14 = .ok (.iconst 4, 1) := by decide +kernel
theorem dX8_newAhead_15 : decode cX8_newAhead 15 = .ok (.if_icmp .ge 58, 3) := by decide +kernel
theorem dX8_newAhead_18 : decode cX8_newAhead 18 = .ok (.aload_n 0, 1) := by decide +kernel
theorem dX8_newAhead_19 : decode cX8_newAhead 19 = .ok (.getfield 63, 3) := by decide +kernel
theorem dX8_newAhead_22 : decode cX8_newAhead 22 = .ok (.iload 5, 2) := by decide +kernel
theorem dX8_newAhead_24 : decode cX8_newAhead 24 = .ok (.aload_n 0, 1) := by decide +kernel
theorem dX8_newAhead_25 : decode cX8_newAhead 25 = .ok (.aload_n 0, 1) := by decide +kernel
theorem dX8_newAhead_26 : decode cX8_newAhead 26 = .ok (.getfield 23, 3) := by decide +kernel
theorem dX8_newAhead_29 : decode cX8_newAhead 29 = .ok (.iload_n 1, 1) := by decide +kernel
theorem dX8_newAhead_30 : decode cX8_newAhead 30 = .ok (.invokevirtual 198, 3) := by decide +kernel
theorem dX8_newAhead_33 : decode cX8_newAhead 33 = .ok (.iastore, 1) := by decide +kernel
theorem dX8_newAhead_34 : decode cX8_newAhead 34 = .ok (.iload 4, 2) := by decide +kernel
theorem dX8_newAhead_36 : decode cX8_newAhead 36 = .ok (.aload_n 0, 1) := by decide +kernel
theorem dX8_newAhead_37 : decode cX8_newAhead 37 = .ok (.getfield 63, 3) := by decide +kernel
theorem dX8_newAhead_40 : decode cX8_newAhead 40 = .ok (.iload 5, 2) := by decide +kernel
theorem dX8_newAhead_42 : decode cX8_newAhead 42 = .ok (.iaload, 1) := by decide +kernel
theorem dX8_newAhead_43 : decode cX8_newAhead 43 = .ok (.iadd, 1) := by decide +kernel
theorem dX8_newAhead_44 : decode cX8_newAhead 44 = .ok (.istore 4, 2) := by decide +kernel
theorem dX8_newAhead_46 : decode cX8_newAhead 46 = .ok (.aload_n 0, 1) := by decide +kernel
theorem dX8_newAhead_47 : decode cX8_newAhead 47 = .ok (.getfield 23, 3) := by decide +kernel
theorem dX8_newAhead_50 : decode cX8_newAhead 50 = .ok (.invokevirtual 206, 3) := by decide +kernel
theorem dX8_newAhead_53 : decode cX8_newAhead 53 = .ok (.pop, 1) := by decide +kernel
theorem dX8_newAhead_54 : decode cX8_newAhead 54 = .ok (.aload_n 0, 1) := by decide +kernel
theorem dX8_newAhead_55 : decode cX8_newAhead 55 = .ok (.getfield 23, 3) := by decide +kernel
theorem dX8_newAhead_58 : decode cX8_newAhead 58 = .ok (.iload_n 3, 1) := by decide +kernel
theorem dX8_newAhead_59 : decode cX8_newAhead 59 = .ok (.aload_n 0, 1) := by decide +kernel
theorem dX8_newAhead_60 : decode cX8_newAhead 60 = .ok (.getfield 67, 3) := by decide +kernel
theorem dX8_newAhead_63 : decode cX8_newAhead 63 = .ok (.invokevirtual 209, 3) := by decide +kernel
theorem dX8_newAhead_66 : decode cX8_newAhead 66 = .ok (.pop, 1) := by decide +kernel
theorem dX8_newAhead_67 : decode cX8_newAhead 67 = .ok (.iinc 5 1, 3) := by decide +kernel
theorem dX8_newAhead_70 : decode cX8_newAhead 70 = .ok (.goto (-64), 3) := by decide +kernel
theorem dX8_newAhead_73 : decode cX8_newAhead 73 = .ok (.iload 4, 2) := by decide +kernel
theorem dX8_newAhead_75 : decode cX8_newAhead 75 = .ok (.ireturn, 1) := by decide +kernel
theorem dX8_startCuts_0 : decode cX8_startCuts 0 = .ok (.aload_n 0, 1) := by decide +kernel
theorem dX8_startCuts_1 : decode cX8_startCuts 1 = .ok (.getfield 23, 3) := by decide +kernel
theorem dX8_startCuts_4 : decode cX8_startCuts 4 = .ok (.aload_n 0, 1) := by decide +kernel
theorem dX8_startCuts_5 : decode cX8_startCuts 5 = .ok (.getfield 19, 3) := by decide +kernel
theorem dX8_startCuts_8 : decode cX8_startCuts 8 = .ok (.invokevirtual 216, 3) := by decide +kernel
theorem dX8_startCuts_11 : decode cX8_startCuts 11 = .ok (.aload_n 0, 1) := by decide +kernel
theorem dX8_startCuts_12 : decode cX8_startCuts 12 = .ok (.aload_n 0, 1) := by decide +kernel
theorem dX8_startCuts_13 : decode cX8_startCuts 13 = .ok (.iload_n 1, 1) := by decide +kernel
theorem dX8_startCuts_14 : decode cX8_startCuts 14 = .ok (.iload_n 2, 1) := by decide +kernel
theorem dX8_startCuts_15 : decode cX8_startCuts 15 = .ok (.iload_n 3, 1) := by decide +kernel
theorem dX8_startCuts_16 : decode cX8_startCuts 16 = .ok (.invokevirtual 219, 3) := by decide +kernel
theorem dX8_startCuts_19 : decode cX8_startCuts 19 = .ok (.putfield 240, 3) := by decide +kernel
theorem dX8_startCuts_22 : decode cX8_startCuts 22 = .ok (.aload_n 0, 1) := by decide +kernel
theorem dX8_startCuts_23 : decode cX8_startCuts 23 = .ok (.bipush (-4), 2) := by decide +kernel
theorem dX8_startCuts_25 : decode cX8_startCuts 25 = .ok (.putfield 234, 3) := by decide +kernel
theorem dX8_startCuts_28 : decode cX8_startCuts 28 = .ok (.aload_n 0, 1) := by decide +kernel
theorem dX8_startCuts_29 : decode cX8_startCuts 29 = .ok (.iconst 0, 1) := by decide +kernel
theorem dX8_startCuts_30 : decode cX8_startCuts 30 = .ok (.putfield 237, 3) := by decide +kernel
theorem dX8_startCuts_33 : decode cX8_startCuts 33 = .ok (.return_, 1) := by decide +kernel
theorem dX8_tryCuts_0 : decode cX8_tryCuts 0 = .ok (.aload_n 0, 1) := by decide +kernel
theorem dX8_tryCuts_1 : decode cX8_tryCuts 1 = .ok (.getfield 19, 3) := by decide +kernel
theorem dX8_tryCuts_4 : decode cX8_tryCuts 4 = .ok (.getfield 132, 3) := by decide +kernel
theorem dX8_tryCuts_7 : decode cX8_tryCuts 7 = .ok (.iload_n 1, 1) := by decide +kernel
theorem dX8_tryCuts_8 : decode cX8_tryCuts 8 = .ok (.aaload, 1) := by decide +kernel
theorem dX8_tryCuts_9 : decode cX8_tryCuts 9 = .ok (.getfield 136, 3) := by decide +kernel
theorem dX8_tryCuts_12 : decode cX8_tryCuts 12 = .ok (.istore 4, 2) := by decide +kernel
theorem dX8_tryCuts_14 : decode cX8_tryCuts 14 = .ok (.aload_n 0, 1) := by decide +kernel
theorem dX8_tryCuts_15 : decode cX8_tryCuts 15 = .ok (.getfield 19, 3) := by decide +kernel
theorem dX8_tryCuts_18 : decode cX8_tryCuts 18 = .ok (.invokevirtual 337, 3) := by decide +kernel
theorem dX8_tryCuts_21 : decode cX8_tryCuts 21 = .ok (.istore 5, 2) := by decide +kernel
theorem dX8_tryCuts_23 : decode cX8_tryCuts 23 = .ok (.aload_n 0, 1) := by decide +kernel
theorem dX8_tryCuts_24 : decode cX8_tryCuts 24 = .ok (.getfield 19, 3) := by decide +kernel
theorem dX8_tryCuts_27 : decode cX8_tryCuts 27 = .ok (.getfield 132, 3) := by decide +kernel
theorem dX8_tryCuts_30 : decode cX8_tryCuts 30 = .ok (.iload_n 1, 1) := by decide +kernel
theorem dX8_tryCuts_31 : decode cX8_tryCuts 31 = .ok (.aaload, 1) := by decide +kernel
theorem dX8_tryCuts_32 : decode cX8_tryCuts 32 = .ok (.getfield 144, 3) := by decide +kernel
theorem dX8_tryCuts_35 : decode cX8_tryCuts 35 = .ok (.iconst 1, 1) := by decide +kernel
theorem dX8_tryCuts_36 : decode cX8_tryCuts 36 = .ok (.isub, 1) := by decide +kernel
theorem dX8_tryCuts_37 : decode cX8_tryCuts 37 = .ok (.istore 6, 2) := by decide +kernel
theorem dX8_tryCuts_39 : decode cX8_tryCuts 39 = .ok (.iload 6, 2) := by decide +kernel
theorem dX8_tryCuts_41 : decode cX8_tryCuts 41 = .ok (.iconst 1, 1) := by decide +kernel
theorem dX8_tryCuts_42 : decode cX8_tryCuts 42 = .ok (.if_icmp .lt 89, 3) := by decide +kernel
theorem dX8_tryCuts_45 : decode cX8_tryCuts 45 = .ok (.aload_n 0, 1) := by decide +kernel
theorem dX8_tryCuts_46 : decode cX8_tryCuts 46 = .ok (.getfield 240, 3) := by decide +kernel
theorem dX8_tryCuts_49 : decode cX8_tryCuts 49 = .ok (.ifCond .le 82, 3) := by decide +kernel
theorem dX8_tryCuts_52 : decode cX8_tryCuts 52 = .ok (.aload_n 0, 1) := by decide +kernel
theorem dX8_tryCuts_53 : decode cX8_tryCuts 53 = .ok (.getfield 23, 3) := by decide +kernel
theorem dX8_tryCuts_56 : decode cX8_tryCuts 56 = .ok (.aload_n 0, 1) := by decide +kernel
theorem dX8_tryCuts_57 : decode cX8_tryCuts 57 = .ok (.getfield 19, 3) := by decide +kernel
theorem dX8_tryCuts_60 : decode cX8_tryCuts 60 = .ok (.invokevirtual 216, 3) := by decide +kernel
theorem dX8_tryCuts_63 : decode cX8_tryCuts 63 = .ok (.aload_n 0, 1) := by decide +kernel
theorem dX8_tryCuts_64 : decode cX8_tryCuts 64 = .ok (.getfield 23, 3) := by decide +kernel
theorem dX8_tryCuts_67 : decode cX8_tryCuts 67 = .ok (.getfield 132, 3) := by decide +kernel
theorem dX8_tryCuts_70 : decode cX8_tryCuts 70 = .ok (.iload_n 1, 1) := by decide +kernel
theorem dX8_tryCuts_71 : decode cX8_tryCuts 71 = .ok (.aaload, 1) := by decide +kernel
theorem dX8_tryCuts_72 : decode cX8_tryCuts 72 = .ok (.iload 6, 2) := by decide +kernel
theorem dX8_tryCuts_74 : decode cX8_tryCuts 74 = .ok (.putfield 144, 3) := by decide +kernel
theorem dX8_tryCuts_77 : decode cX8_tryCuts 77 = .ok (.aload_n 0, 1) := by decide +kernel
theorem dX8_tryCuts_78 : decode cX8_tryCuts 78 = .ok (.iload 4, 2) := by decide +kernel
theorem dX8_tryCuts_80 : decode cX8_tryCuts 80 = .ok (.iload_n 2, 1) := by decide +kernel
theorem dX8_tryCuts_81 : decode cX8_tryCuts 81 = .ok (.iload_n 3, 1) := by decide +kernel
theorem dX8_tryCuts_82 : decode cX8_tryCuts 82 = .ok (.invokevirtual 219, 3) := by decide +kernel
theorem dX8_tryCuts_85 : decode cX8_tryCuts 85 = .ok (.istore 7, 2) := by decide +kernel
theorem dX8_tryCuts_87 : decode cX8_tryCuts 87 = .ok (.iload 7, 2) := by decide +kernel
theorem dX8_tryCuts_89 : decode cX8_tryCuts 89 = .ok (.aload_n 0, 1) := by decide +kernel
theorem dX8_tryCuts_90 : decode cX8_tryCuts 90 = .ok (.getfield 240, 3) := by decide +kernel
theorem dX8_tryCuts_93 : decode cX8_tryCuts 93 = .ok (.if_icmp .ge 20, 3) := by decide +kernel
theorem dX8_tryCuts_96 : decode cX8_tryCuts 96 = .ok (.aload_n 0, 1) := by decide +kernel
theorem dX8_tryCuts_97 : decode cX8_tryCuts 97 = .ok (.iload 7, 2) := by decide +kernel
theorem dX8_tryCuts_99 : decode cX8_tryCuts 99 = .ok (.putfield 240, 3) := by decide +kernel
theorem dX8_tryCuts_102 : decode cX8_tryCuts 102 = .ok (.aload_n 0, 1) := by decide +kernel
theorem dX8_tryCuts_103 : decode cX8_tryCuts 103 = .ok (.iload_n 1, 1) := by decide +kernel
theorem dX8_tryCuts_104 : decode cX8_tryCuts 104 = .ok (.putfield 234, 3) := by decide +kernel
theorem dX8_tryCuts_107 : decode cX8_tryCuts 107 = .ok (.aload_n 0, 1) := by decide +kernel
theorem dX8_tryCuts_108 : decode cX8_tryCuts 108 = .ok (.iload 6, 2) := by decide +kernel
theorem dX8_tryCuts_110 : decode cX8_tryCuts 110 = .ok (.putfield 237, 3) := by decide +kernel
theorem dX8_tryCuts_113 : decode cX8_tryCuts 113 = .ok (.iload 6, 2) := by decide +kernel
theorem dX8_tryCuts_115 : decode cX8_tryCuts 115 = .ok (.iconst 2, 1) := by decide +kernel
theorem dX8_tryCuts_116 : decode cX8_tryCuts 116 = .ok (.iadd, 1) := by decide +kernel
theorem dX8_tryCuts_117 : decode cX8_tryCuts 117 = .ok (.iload 5, 2) := by decide +kernel
theorem dX8_tryCuts_119 : decode cX8_tryCuts 119 = .ok (.if_icmp .ge 6, 3) := by decide +kernel
theorem dX8_tryCuts_122 : decode cX8_tryCuts 122 = .ok (.goto 9, 3) := by decide +kernel
theorem dX8_tryCuts_125 : decode cX8_tryCuts 125 = .ok (.iinc 6 (-1), 3) := by decide +kernel
theorem dX8_tryCuts_128 : decode cX8_tryCuts 128 = .ok (.goto (-89), 3) := by decide +kernel
theorem dX8_tryCuts_131 : decode cX8_tryCuts 131 = .ok (.return_, 1) := by decide +kernel
theorem dX9_init_0 : decode cX9_init 0 = .ok (.aload_n 0, 1) := by decide +kernel
theorem dX9_init_1 : decode cX9_init 1 = .ok (.invokespecial 1, 3) := by decide +kernel
theorem dX9_init_4 : decode cX9_init 4 = .ok (.aload_n 0, 1) := by decide +kernel
theorem dX9_init_5 : decode cX9_init 5 = .ok (.sipush 796, 3) := by decide +kernel
theorem dX9_init_8 : decode cX9_init 8 = .ok (.newarray .int, 2) := by decide +kernel
theorem dX9_init_10 : decode cX9_init 10 = .ok (.putfield 7, 3) := by decide +kernel
theorem dX9_init_13 : decode cX9_init 13 = .ok (.aload_n 0, 1) := by decide +kernel
theorem dX9_init_14 : decode cX9_init 14 = .ok (.iconst 2, 1) := by decide +kernel
theorem dX9_init_15 : decode cX9_init 15 = .ok (.newarray .boolean, 2) := by decide +kernel
theorem dX9_init_17 : decode cX9_init 17 = .ok (.putfield 13, 3) := by decide +kernel
theorem dX9_init_20 : decode cX9_init 20 = .ok (.aload_n 0, 1) := by decide +kernel
theorem dX9_init_21 : decode cX9_init 21 = .ok (.sipush 199, 3) := by decide +kernel
theorem dX9_init_24 : decode cX9_init 24 = .ok (.newarray .int, 2) := by decide +kernel
theorem dX9_init_26 : decode cX9_init 26 = .ok (.putfield 17, 3) := by decide +kernel
theorem dX9_init_29 : decode cX9_init 29 = .ok (.aload_n 0, 1) := by decide +kernel
theorem dX9_init_30 : decode cX9_init 30 = .ok (.sipush 400, 3) := by decide +kernel
theorem dX9_init_33 : decode cX9_init 33 = .ok (.newarray .int, 2) := by decide +kernel
theorem dX9_init_35 : decode cX9_init 35 = .ok (.putfield 20, 3) := by decide +kernel
theorem dX9_init_38 : decode cX9_init 38 = .ok (.aload_n 0, 1) := by decide +kernel
theorem dX9_init_39 : decode cX9_init 39 = .ok (.bipush 8, 2) := by decide +kernel
theorem dX9_init_41 : decode cX9_init 41 = .ok (.newarray .int, 2) := by decide +kernel
theorem dX9_init_43 : decode cX9_init 43 = .ok (.putfield 23, 3) := by decide +kernel
theorem dX9_init_46 : decode cX9_init 46 = .ok (.aload_n 0, 1) := by decide +kernel
theorem dX9_init_47 : decode cX9_init 47 = .ok (.bipush 8, 2) := by decide +kernel
theorem dX9_init_49 : decode cX9_init 49 = .ok (.newarray .int, 2) := by decide +kernel
theorem dX9_init_51 : decode cX9_init 51 = .ok (.putfield 26, 3) := by decide +kernel
theorem dX9_init_54 : decode cX9_init 54 = .ok (.aload_n 0, 1) := by decide +kernel
theorem dX9_init_55 : decode cX9_init 55 = .ok (.bipush 20, 2) := by decide +kernel
theorem dX9_init_57 : decode cX9_init 57 = .ok (.newarray .int, 2) := by decide +kernel
theorem dX9_init_59 : decode cX9_init 59 = .ok (.putfield 29, 3) := by decide +kernel
theorem dX9_init_62 : decode cX9_init 62 = .ok (.aload_n 0, 1) := by decide +kernel
theorem dX9_init_63 : decode cX9_init 63 = .ok (.bipush 20, 2) := by decide +kernel
theorem dX9_init_65 : decode cX9_init 65 = .ok (.newarray .int, 2) := by decide +kernel
theorem dX9_init_67 : decode cX9_init 67 = .ok (.putfield 32, 3) := by decide +kernel
theorem dX9_init_70 : decode cX9_init 70 = .ok (.aload_n 0, 1) := by decide +kernel
theorem dX9_init_71 : decode cX9_init 71 = .ok (.bipush 8, 2) := by decide +kernel
theorem dX9_init_73 : decode cX9_init 73 = .ok (.newarray .int, 2) := by decide +kernel
theorem dX9_init_75 : decode cX9_init 75 = .ok (.putfield 35, 3) := by decide +kernel
theorem dX9_init_78 : decode cX9_init 78 = .ok (.aload_n 0, 1) := by decide +kernel
theorem dX9_init_79 : decode cX9_init 79 = .ok (.bipush 8, 2) := by decide +kernel
theorem dX9_init_81 : decode cX9_init 81 = .ok (.newarray .int, 2) := by decide +kernel
theorem dX9_init_83 : decode cX9_init 83 = .ok (.putfield 38, 3) := by decide +kernel
theorem dX9_init_86 : decode cX9_init 86 = .ok (.aload_n 0, 1) := by decide +kernel
theorem dX9_init_87 : decode cX9_init 87 = .ok (.bipush 20, 2) := by decide +kernel
theorem dX9_init_89 : decode cX9_init 89 = .ok (.newarray .int, 2) := by decide +kernel
theorem dX9_init_91 : decode cX9_init 91 = .ok (.putfield 41, 3) := by decide +kernel
theorem dX9_init_94 : decode cX9_init 94 = .ok (.aload_n 0, 1) := by decide +kernel
theorem dX9_init_95 : decode cX9_init 95 = .ok (.iconst 4, 1) := by decide +kernel
theorem dX9_init_96 : decode cX9_init 96 = .ok (.newarray .int, 2) := by decide +kernel
theorem dX9_init_98 : decode cX9_init 98 = .ok (.putfield 44, 3) := by decide +kernel
theorem dX9_init_101 : decode cX9_init 101 = .ok (.aload_n 0, 1) := by decide +kernel
theorem dX9_init_102 : decode cX9_init 102 = .ok (.bipush 10, 2) := by decide +kernel
theorem dX9_init_104 : decode cX9_init 104 = .ok (.newarray .int, 2) := by decide +kernel
theorem dX9_init_106 : decode cX9_init 106 = .ok (.putfield 47, 3) := by decide +kernel
theorem dX9_init_109 : decode cX9_init 109 = .ok (.aload_n 0, 1) := by decide +kernel
theorem dX9_init_110 : decode cX9_init 110 = .ok (.bipush 7, 2) := by decide +kernel
theorem dX9_init_112 : decode cX9_init 112 = .ok (.newarray .int, 2) := by decide +kernel
theorem dX9_init_114 : decode cX9_init 114 = .ok (.putfield 50, 3) := by decide +kernel
theorem dX9_init_117 : decode cX9_init 117 = .ok (.aload_n 0, 1) := by decide +kernel
theorem dX9_init_118 : decode cX9_init 118 = .ok (.bipush 6, 2) := by decide +kernel
theorem dX9_init_120 : decode cX9_init 120 = .ok (.newarray .int, 2) := by decide +kernel
theorem dX9_init_122 : decode cX9_init 122 = .ok (.putfield 53, 3) := by decide +kernel
theorem dX9_init_125 : decode cX9_init 125 = .ok (.aload_n 0, 1) := by decide +kernel
theorem dX9_init_126 : decode cX9_init 126 = .ok (.iconst 4, 1) := by decide +kernel
theorem dX9_init_127 : decode cX9_init 127 = .ok (.newarray .int, 2) := by decide +kernel
theorem dX9_init_129 : decode cX9_init 129 = .ok (.putfield 56, 3) := by decide +kernel
theorem dX9_init_132 : decode cX9_init 132 = .ok (.aload_n 0, 1) := by decide +kernel
theorem dX9_init_133 : decode cX9_init 133 = .ok (.iconst 4, 1) := by decide +kernel
theorem dX9_init_134 : decode cX9_init 134 = .ok (.newarray .int, 2) := by decide +kernel
theorem dX9_init_136 : decode cX9_init 136 = .ok (.putfield 59, 3) := by decide +kernel
theorem dX9_init_139 : decode cX9_init 139 = .ok (.aload_n 0, 1) := by decide +kernel
theorem dX9_init_140 : decode cX9_init 140 = .ok (.sipush 160, 3) := by decide +kernel
theorem dX9_init_143 : decode cX9_init 143 = .ok (.newarray .int, 2) := by decide +kernel
theorem dX9_init_145 : decode cX9_init 145 = .ok (.putfield 62, 3) := by decide +kernel
theorem dX9_init_148 : decode cX9_init 148 = .ok (.iconst 0, 1) := by decide +kernel
theorem dX9_init_149 : decode cX9_init 149 = .ok (.istore_n 1, 1) := by decide +kernel
theorem dX9_init_150 : decode cX9_init 150 = .ok (.iload_n 1, 1) := by decide +kernel
theorem dX9_init_151 : decode cX9_init 151 = .ok (.iconst 4, 1) := by decide +kernel
theorem dX9_init_152 : decode cX9_init 152 = .ok (.if_icmp .ge 17, 3) := by decide +kernel
theorem dX9_init_155 : decode cX9_init 155 = .ok (.aload_n 0, 1) := by decide +kernel
theorem dX9_init_156 : decode cX9_init 156 = .ok (.getfield 56, 3) := by decide +kernel
theorem dX9_init_159 : decode cX9_init 159 = .ok (.iload_n 1, 1) := by decide +kernel
theorem dX9_init_160 : decode cX9_init 160 = .ok (.bipush (-4), 2) := by decide +kernel
theorem dX9_init_162 : decode cX9_init 162 = .ok (.iastore, 1) := by decide +kernel
theorem dX9_init_163 : decode cX9_init 163 = .ok (.iinc 1 1, 3) := by decide +kernel
theorem dX9_init_166 : decode cX9_init 166 = .ok (.goto (-16), 3) := by decide +kernel
theorem dX9_init_169 : decode cX9_init 169 = .ok (.aload_n 0, 1) := by decide +kernel
theorem dX9_init_170 : decode cX9_init 170 = .ok (.invokevirtual 65, 3) := by decide +kernel
theorem dX9_init_173 : decode cX9_init 173 = .ok (.aload_n 0, 1) := by decide +kernel
theorem dX9_init_174 : decode cX9_init 174 = .ok (.invokevirtual 68, 3) := by decide +kernel
theorem dX9_init_177 : decode cX9_init 177 = .ok (.return_, 1) := by decide +kernel
theorem dX9_in_0 : decode cX9_in 0 = .ok (.lload_n 0, 1) := by decide +kernel
theorem dX9_in_1 : decode cX9_in 1 = .ok (.lload_n 2, 1) := by decide +kernel
theorem dX9_in_2 : decode cX9_in 2 = .ok (.lcmp, 1) := by decide +kernel
theorem dX9_in_3 : decode cX9_in 3 = .ok (.ifCond .lt 14, 3) := by decide +kernel
theorem dX9_in_6 : decode cX9_in 6 = .ok (.lload_n 0, 1) := by decide +kernel
theorem dX9_in_7 : decode cX9_in 7 = .ok (.lload 4, 2) := by decide +kernel
theorem dX9_in_9 : decode cX9_in 9 = .ok (.lcmp, 1) := by decide +kernel
theorem dX9_in_10 : decode cX9_in 10 = .ok (.ifCond .gt 7, 3) := by decide +kernel
theorem dX9_in_13 : decode cX9_in 13 = .ok (.iconst 1, 1) := by decide +kernel
theorem dX9_in_14 : decode cX9_in 14 = .ok (.goto 4, 3) := by decide +kernel
theorem dX9_in_17 : decode cX9_in 17 = .ok (.iconst 0, 1) := by decide +kernel
theorem dX9_in_18 : decode cX9_in 18 = .ok (.ireturn, 1) := by decide +kernel
theorem dX9_flag_0 : decode cX9_flag 0 = .ok (.iload_n 0, 1) := by decide +kernel
theorem dX9_flag_1 : decode cX9_flag 1 = .ok (.ifCond .eq 7, 3) := by decide +kernel
theorem dX9_flag_4 : decode cX9_flag 4 = .ok (.iconst 1, 1) := by decide +kernel
theorem dX9_flag_5 : decode cX9_flag 5 = .ok (.goto 4, 3) := by decide +kernel
theorem dX9_flag_8 : decode cX9_flag 8 = .ok (.iconst 0, 1) := by decide +kernel
theorem dX9_flag_9 : decode cX9_flag 9 = .ok (.ireturn, 1) := by decide +kernel
theorem dX9_firstDraft_0 : decode cX9_firstDraft 0 = .ok (.iconst 0, 1) := by decide +kernel
theorem dX9_firstDraft_1 : decode cX9_firstDraft 1 = .ok (.istore_n 1, 1) := by decide +kernel
theorem dX9_firstDraft_2 : decode cX9_firstDraft 2 = .ok (.iload_n 1, 1) := by decide +kernel
theorem dX9_firstDraft_3 : decode cX9_firstDraft 3 = .ok (.sipush 199, 3) := by decide +kernel
theorem dX9_firstDraft_6 : decode cX9_firstDraft 6 = .ok (.if_icmp .ge 16, 3) := by decide +kernel
theorem dX9_firstDraft_9 : decode cX9_firstDraft 9 = .ok (.aload_n 0, 1) := by decide +kernel
theorem dX9_firstDraft_10 : decode cX9_firstDraft 10 = .ok (.getfield 17, 3) := by decide +kernel
theorem dX9_firstDraft_13 : decode cX9_firstDraft 13 = .ok (.iload_n 1, 1) := by decide +kernel
theorem dX9_firstDraft_14 : decode cX9_firstDraft 14 = .ok (.iconst 0, 1) := by decide +kernel
theorem dX9_firstDraft_15 : decode cX9_firstDraft 15 = .ok (.iastore, 1) := by decide +kernel
theorem dX9_firstDraft_16 : decode cX9_firstDraft 16 = .ok (.iinc 1 1, 3) := by decide +kernel
theorem dX9_firstDraft_19 : decode cX9_firstDraft 19 = .ok (.goto (-17), 3) := by decide +kernel
theorem dX9_firstDraft_22 : decode cX9_firstDraft 22 = .ok (.aload_n 0, 1) := by decide +kernel
theorem dX9_firstDraft_23 : decode cX9_firstDraft 23 = .ok (.iconst 2, 1) := by decide +kernel
theorem dX9_firstDraft_24 : decode cX9_firstDraft 24 = .ok (.putfield 71, 3) := by decide +kernel
theorem dX9_firstDraft_27 : decode cX9_firstDraft 27 = .ok (.aload_n 0, 1) := by decide +kernel
theorem dX9_firstDraft_28 : decode cX9_firstDraft 28 = .ok (.iconst 0, 1) := by decide +kernel
theorem dX9_firstDraft_29 : decode cX9_firstDraft 29 = .ok (.putfield 75, 3) := by decide +kernel
theorem dX9_firstDraft_32 : decode cX9_firstDraft 32 = .ok (.aload_n 0, 1) := by decide +kernel
theorem dX9_firstDraft_33 : decode cX9_firstDraft 33 = .ok (.bipush (-4), 2) := by decide +kernel
theorem dX9_firstDraft_35 : decode cX9_firstDraft 35 = .ok (.putfield 79, 3) := by decide +kernel
theorem dX9_firstDraft_38 : decode cX9_firstDraft 38 = .ok (.aload_n 0, 1) := by decide +kernel
theorem dX9_firstDraft_39 : decode cX9_firstDraft 39 = .ok (.bipush (-4), 2) := by decide +kernel
theorem dX9_firstDraft_41 : decode cX9_firstDraft 41 = .ok (.putfield 82, 3) := by decide +kernel
theorem dX9_firstDraft_44 : decode cX9_firstDraft 44 = .ok (.return_, 1) := by decide +kernel
theorem dX9_keepDraft_0 : decode cX9_keepDraft 0 = .ok (.iconst 0, 1) := by decide +kernel
theorem dX9_keepDraft_1 : decode cX9_keepDraft 1 = .ok (.istore_n 1, 1) := by decide +kernel
theorem dX9_keepDraft_2 : decode cX9_keepDraft 2 = .ok (.iload_n 1, 1) := by decide +kernel
theorem dX9_keepDraft_3 : decode cX9_keepDraft 3 = .ok (.sipush 199, 3) := by decide +kernel
theorem dX9_keepDraft_6 : decode cX9_keepDraft 6 = .ok (.if_icmp .ge 21, 3) := by decide +kernel
theorem dX9_keepDraft_9 : decode cX9_keepDraft 9 = .ok (.aload_n 0, 1) := by decide +kernel
theorem dX9_keepDraft_10 : decode cX9_keepDraft 10 = .ok (.getfield 7, 3) := by decide +kernel
theorem dX9_keepDraft_13 : decode cX9_keepDraft 13 = .ok (.iload_n 1, 1) := by decide +kernel
theorem dX9_keepDraft_14 : decode cX9_keepDraft 14 = .ok (.aload_n 0, 1) := by decide +kernel
theorem dX9_keepDraft_15 : decode cX9_keepDraft 15 = .ok (.getfield 17, 3) := by decide +kernel
theorem dX9_keepDraft_18 : decode cX9_keepDraft 18 = .ok (.iload_n 1, 1) := by decide +kernel
theorem dX9_keepDraft_19 : decode cX9_keepDraft 19 = .ok (.iaload, 1) := by decide +kernel
theorem dX9_keepDraft_20 : decode cX9_keepDraft 20 = .ok (.iastore, 1) := by decide +kernel
theorem dX9_keepDraft_21 : decode cX9_keepDraft 21 = .ok (.iinc 1 1, 3) := by decide +kernel
theorem dX9_keepDraft_24 : decode cX9_keepDraft 24 = .ok (.goto (-22), 3) := by decide +kernel
theorem dX9_keepDraft_27 : decode cX9_keepDraft 27 = .ok (.aload_n 0, 1) := by decide +kernel
theorem dX9_keepDraft_28 : decode cX9_keepDraft 28 = .ok (.aload_n 0, 1) := by decide +kernel
theorem dX9_keepDraft_29 : decode cX9_keepDraft 29 = .ok (.getfield 71, 3) := by decide +kernel
theorem dX9_keepDraft_32 : decode cX9_keepDraft 32 = .ok (.putfield 85, 3) := by decide +kernel
theorem dX9_keepDraft_35 : decode cX9_keepDraft 35 = .ok (.aload_n 0, 1) := by decide +kernel
theorem dX9_keepDraft_36 : decode cX9_keepDraft 36 = .ok (.getfield 13, 3) := by decide +kernel
theorem dX9_keepDraft_39 : decode cX9_keepDraft 39 = .ok (.iconst 0, 1) := by decide +kernel
theorem dX9_keepDraft_40 : decode cX9_keepDraft 40 = .ok (.iconst 0, 1) := by decide +kernel
theorem dX9_keepDraft_41 : decode cX9_keepDraft 41 = .ok (.bastore, 1) := by decide +kernel
theorem dX9_keepDraft_42 : decode cX9_keepDraft 42 = .ok (.aload_n 0, 1) := by decide +kernel
theorem dX9_keepDraft_43 : decode cX9_keepDraft 43 = .ok (.getfield 13, 3) := by decide +kernel
theorem dX9_keepDraft_46 : decode cX9_keepDraft 46 = .ok (.iconst 1, 1) := by decide +kernel
theorem dX9_keepDraft_47 : decode cX9_keepDraft 47 = .ok (.iconst 0, 1) := by decide +kernel
theorem dX9_keepDraft_48 : decode cX9_keepDraft 48 = .ok (.bastore, 1) := by decide +kernel
theorem dX9_keepDraft_49 : decode cX9_keepDraft 49 = .ok (.return_, 1) := by decide +kernel
theorem dX9_feed_0 : decode cX9_feed 0 = .ok (.aload_n 0, 1) := by decide +kernel
theorem dX9_feed_1 : decode cX9_feed 1 = .ok (.getfield 88, 3) := by decide +kernel
theorem dX9_feed_4 : decode cX9_feed 4 = .ok (.bipush 8, 2) := by decide +kernel
theorem dX9_feed_6 : decode cX9_feed 6 = .ok (.iadd, 1) := by decide +kernel
theorem dX9_feed_7 : decode cX9_feed 7 = .ok (.sipush 400, 3) := by decide +kernel
theorem dX9_feed_10 : decode cX9_feed 10 = .ok (.if_icmp .le 6, 3) := by decide +kernel
theorem dX9_feed_13 : decode cX9_feed 13 = .ok (.bipush (-3), 2) := by decide +kernel
theorem dX9_feed_15 : decode cX9_feed 15 = .ok (.ireturn, 1) := by decide +kernel
theorem dX9_feed_16 : decode cX9_feed 16 = .ok (.bipush 56, 2) := by decide +kernel
theorem dX9_feed_18 : decode cX9_feed 18 = .ok (.istore_n 3, 1) := by decide +kernel
theorem dX9_feed_19 : decode cX9_feed 19 = .ok (.iload_n 3, 1) := by decide +kernel
theorem dX9_feed_20 : decode cX9_feed 20 = .ok (.ifCond .lt 36, 3) := by decide +kernel
theorem dX9_feed_23 : decode cX9_feed 23 = .ok (.aload_n 0, 1) := by decide +kernel
theorem dX9_feed_24 : decode cX9_feed 24 = .ok (.getfield 20, 3) := by decide +kernel
theorem dX9_feed_27 : decode cX9_feed 27 = .ok (.aload_n 0, 1) := by decide +kernel
theorem dX9_feed_28 : decode cX9_feed 28 = .ok (.getfield 88, 3) := by decide +kernel
theorem dX9_feed_31 : decode cX9_feed 31 = .ok (.lload_n 1, 1) := by decide +kernel
theorem dX9_feed_32 : decode cX9_feed 32 = .ok (.iload_n 3, 1) := by decide +kernel
theorem dX9_feed_33 : decode cX9_feed 33 = .ok (.lshr, 1) := by decide +kernel
theorem dX9_feed_34 : decode cX9_feed 34 = .ok (.ldc2_w 91, 3) := by decide +kernel
theorem dX9_feed_37 : decode cX9_feed 37 = .ok (.land, 1) := by decide +kernel
theorem dX9_feed_38 : decode cX9_feed 38 = .ok (.l2i, 1) := by decide +kernel
theorem dX9_feed_39 : decode cX9_feed 39 = .ok (.iastore, 1) := by decide +kernel
theorem dX9_feed_40 : decode cX9_feed 40 = .ok (.aload_n 0, 1) := by decide +kernel
theorem dX9_feed_41 : decode cX9_feed 41 = .ok (.dup, 1) := by decide +kernel
theorem dX9_feed_42 : decode cX9_feed 42 = .ok (.getfield 88, 3) := by decide +kernel
theorem dX9_feed_45 : decode cX9_feed 45 = .ok (.iconst 1, 1) := by decide +kernel
theorem dX9_feed_46 : decode cX9_feed 46 = .ok (.iadd, 1) := by decide +kernel
theorem dX9_feed_47 : decode cX9_feed 47 = .ok (.putfield 88, 3) := by decide +kernel
theorem dX9_feed_50 : decode cX9_feed 50 = .ok (.iinc 3 (-8), 3) := by decide +kernel
theorem dX9_feed_53 : decode cX9_feed 53 = .ok (.goto (-34), 3) := by decide +kernel
theorem dX9_feed_56 : decode cX9_feed 56 = .ok (.aload_n 0, 1) := by decide +kernel
theorem dX9_feed_57 : decode cX9_feed 57 = .ok (.getfield 88, 3) := by decide +kernel
theorem dX9_feed_60 : decode cX9_feed 60 = .ok (.ireturn, 1) := by decide +kernel
theorem dX9_end_0 : decode cX9_end 0 = .ok (.iload_n 1, 1) := by decide +kernel
theorem dX9_end_1 : decode cX9_end 1 = .ok (.i2l, 1) := by decide +kernel
theorem dX9_end_2 : decode cX9_end 2 = .ok (.lconst 0, 1) := by decide +kernel
theorem dX9_end_3 : decode cX9_end 3 = .ok (.aload_n 0, 1) := by decide +kernel
theorem dX9_end_4 : decode cX9_end 4 = .ok (.getfield 88, 3) := by decide +kernel
theorem dX9_end_7 : decode cX9_end 7 = .ok (.i2l, 1) := by decide +kernel
theorem dX9_end_8 : decode cX9_end 8 = .ok (.invokestatic 93, 3) := by decide +kernel
theorem dX9_end_11 : decode cX9_end 11 = .ok (.ifCond .ne 5, 3) := by decide +kernel
theorem dX9_end_14 : decode cX9_end 14 = .ok (.iconst (-1), 1) := by decide +kernel
theorem dX9_end_15 : decode cX9_end 15 = .ok (.ireturn, 1) := by decide +kernel
theorem dX9_end_16 : decode cX9_end 16 = .ok (.aload_n 0, 1) := by decide +kernel
theorem dX9_end_17 : decode cX9_end 17 = .ok (.getfield 88, 3) := by decide +kernel
theorem dX9_end_20 : decode cX9_end 20 = .ok (.istore_n 2, 1) := by decide +kernel
theorem dX9_end_21 : decode cX9_end 21 = .ok (.aload_n 0, 1) := by decide +kernel
theorem dX9_end_22 : decode cX9_end 22 = .ok (.iload_n 1, 1) := by decide +kernel
theorem dX9_end_23 : decode cX9_end 23 = .ok (.putfield 88, 3) := by decide +kernel
theorem dX9_end_26 : decode cX9_end 26 = .ok (.iload_n 2, 1) := by decide +kernel
theorem dX9_end_27 : decode cX9_end 27 = .ok (.ireturn, 1) := by decide +kernel
theorem dX9_needs_0 : decode cX9_needs 0 = .ok (.iload_n 1, 1) := by decide +kernel
theorem dX9_needs_1 : decode cX9_needs 1 = .ok (.ifCond .ne 23, 3) := by decide +kernel
theorem dX9_needs_4 : decode cX9_needs 4 = .ok (.aload_n 0, 1) := by decide +kernel
theorem dX9_needs_5 : decode cX9_needs 5 = .ok (.getfield 97, 3) := by decide +kernel
theorem dX9_needs_8 : decode cX9_needs 8 = .ok (.ifCond .ne 16, 3) := by decide +kernel
theorem dX9_needs_11 : decode cX9_needs 11 = .ok (.aload_n 0, 1) := by decide +kernel
theorem dX9_needs_12 : decode cX9_needs 12 = .ok (.iload_n 2, 1) := by decide +kernel
theorem dX9_needs_13 : decode cX9_needs 13 = .ok (.putfield 97, 3) := by decide +kernel
theorem dX9_needs_16 : decode cX9_needs 16 = .ok (.aload_n 0, 1) := by decide +kernel
theorem dX9_needs_17 : decode cX9_needs 17 = .ok (.aload_n 0, 1) := by decide +kernel
theorem dX9_needs_18 : decode cX9_needs 18 = .ok (.getfield 100, 3) := by decide +kernel
theorem dX9_needs_21 : decode cX9_needs 21 = .ok (.putfield 103, 3) := by decide +kernel
theorem dX9_needs_24 : decode cX9_needs 24 = .ok (.return_, 1) := by decide +kernel
theorem dX9_look_0 : decode cX9_look 0 = .ok (.iload_n 1, 1) := by decide +kernel
theorem dX9_look_1 : decode cX9_look 1 = .ok (.aload_n 0, 1) := by decide +kernel
theorem dX9_look_2 : decode cX9_look 2 = .ok (.getfield 88, 3) := by decide +kernel
theorem dX9_look_5 : decode cX9_look 5 = .ok (.if_icmp .ge 12, 3) := by decide +kernel
theorem dX9_look_8 : decode cX9_look 8 = .ok (.aload_n 0, 1) := by decide +kernel
theorem dX9_look_9 : decode cX9_look 9 = .ok (.getfield 20, 3) := by decide +kernel
theorem dX9_look_12 : decode cX9_look 12 = .ok (.iload_n 1, 1) := by decide +kernel
theorem dX9_look_13 : decode cX9_look 13 = .ok (.iaload, 1) := by decide +kernel
theorem dX9_look_14 : decode cX9_look 14 = .ok (.goto 4, 3) := by decide +kernel
theorem dX9_look_17 : decode cX9_look 17 = .ok (.iconst (-1), 1) := by decide +kernel
theorem dX9_look_18 : decode cX9_look 18 = .ok (.ireturn, 1) := by decide +kernel
theorem dX9_is_0 : decode cX9_is 0 = .ok (.aload_n 0, 1) := by decide +kernel
theorem dX9_is_1 : decode cX9_is 1 = .ok (.getfield 106, 3) := by decide +kernel
theorem dX9_is_4 : decode cX9_is 4 = .ok (.aload_n 0, 1) := by decide +kernel
theorem dX9_is_5 : decode cX9_is 5 = .ok (.getfield 100, 3) := by decide +kernel
theorem dX9_is_8 : decode cX9_is 8 = .ok (.isub, 1) := by decide +kernel
theorem dX9_is_9 : decode cX9_is 9 = .ok (.iload_n 1, 1) := by decide +kernel
theorem dX9_is_10 : decode cX9_is 10 = .ok (.if_icmp .ne 68, 3) := by decide +kernel
theorem dX9_is_13 : decode cX9_is 13 = .ok (.aload_n 0, 1) := by decide +kernel
theorem dX9_is_14 : decode cX9_is 14 = .ok (.aload_n 0, 1) := by decide +kernel
theorem dX9_is_15 : decode cX9_is 15 = .ok (.getfield 100, 3) := by decide +kernel
theorem dX9_is_18 : decode cX9_is 18 = .ok (.invokevirtual 109, 3) := by decide +kernel
theorem dX9_is_21 : decode cX9_is 21 = .ok (.iload_n 2, 1) := by decide +kernel
theorem dX9_is_22 : decode cX9_is 22 = .ok (.if_icmp .ne 56, 3) := by decide +kernel
theorem dX9_is_25 : decode cX9_is 25 = .ok (.aload_n 0, 1) := by decide +kernel
theorem dX9_is_26 : decode cX9_is 26 = .ok (.aload_n 0, 1) := by decide +kernel
theorem dX9_is_27 : decode cX9_is 27 = .ok (.getfield 100, 3) := by decide +kernel
theorem dX9_is_30 : decode cX9_is 30 = .ok (.iconst 1, 1) := by decide +kernel
theorem dX9_is_31 : decode cX9_is 31 = .ok (.iadd, 1) := by decide +kernel
theorem dX9_is_32 : decode cX9_is 32 = .ok (.invokevirtual 109, 3) := by decide +kernel
theorem dX9_is_35 : decode cX9_is 35 = .ok (.iload_n 3, 1) := by decide +kernel
theorem dX9_is_36 : decode cX9_is 36 = .ok (.if_icmp .ne 42, 3) := by decide +kernel
theorem dX9_is_39 : decode cX9_is 39 = .ok (.aload_n 0, 1) := by decide +kernel
theorem dX9_is_40 : decode cX9_is 40 = .ok (.aload_n 0, 1) := by decide +kernel
theorem dX9_is_41 : decode cX9_is 41 = .ok (.getfield 100, 3) := by decide +kernel
theorem dX9_is_44 : decode cX9_is 44 = .ok (.iconst 2, 1) := by decide +kernel
theorem dX9_is_45 : decode cX9_is 45 = .ok (.iadd, 1) := by decide +kernel
theorem dX9_is_46 : decode cX9_is 46 = .ok (.invokevirtual 109, 3) := by decide +kernel
theorem dX9_is_49 : decode cX9_is 49 = .ok (.iload 4, 2) := by decide +kernel
theorem dX9_is_51 : decode cX9_is 51 = .ok (.if_icmp .ne 27, 3) := by decide +kernel
theorem dX9_is_54 : decode cX9_is 54 = .ok (.iload_n 1, 1) := by decide +kernel
theorem dX9_is_55 : decode cX9_is 55 = .ok (.iconst 4, 1) := by decide +kernel
theorem dX9_is_56 : decode cX9_is 56 = .ok (.if_icmp .lt 18, 3) := by decide +kernel
theorem dX9_is_59 : decode cX9_is 59 = .ok (.aload_n 0, 1) := by decide +kernel
theorem dX9_is_60 : decode cX9_is 60 = .ok (.aload_n 0, 1) := by decide +kernel
theorem dX9_is_61 : decode cX9_is 61 = .ok (.getfield 100, 3) := by decide +kernel
theorem dX9_is_64 : decode cX9_is 64 = .ok (.iconst 3, 1) := by decide +kernel
theorem dX9_is_65 : decode cX9_is 65 = .ok (.iadd, 1) := by decide +kernel
theorem dX9_is_66 : decode cX9_is 66 = .ok (.invokevirtual 109, 3) := by decide +kernel
theorem dX9_is_69 : decode cX9_is 69 = .ok (.iload 5, 2) := by decide +kernel
theorem dX9_is_71 : decode cX9_is 71 = .ok (.if_icmp .ne 7, 3) := by decide +kernel
theorem dX9_is_74 : decode cX9_is 74 = .ok (.iconst 1, 1) := by decide +kernel
theorem dX9_is_75 : decode cX9_is 75 = .ok (.goto 4, 3) := by decide +kernel
theorem dX9_is_78 : decode cX9_is 78 = .ok (.iconst 0, 1) := by decide +kernel
theorem dX9_is_79 : decode cX9_is 79 = .ok (.ireturn, 1) := by decide +kernel
theorem dX9_ends_0 : decode cX9_ends 0 = .ok (.aload_n 0, 1) := by decide +kernel
theorem dX9_ends_1 : decode cX9_ends 1 = .ok (.aload_n 0, 1) := by decide +kernel
theorem dX9_ends_2 : decode cX9_ends 2 = .ok (.getfield 100, 3) := by decide +kernel
theorem dX9_ends_5 : decode cX9_ends 5 = .ok (.iconst 4, 1) := by decide +kernel
theorem dX9_ends_6 : decode cX9_ends 6 = .ok (.iadd, 1) := by decide +kernel
theorem dX9_ends_7 : decode cX9_ends 7 = .ok (.invokevirtual 109, 3) := by decide +kernel
theorem dX9_ends_10 : decode cX9_ends 10 = .ok (.iload_n 1, 1) := by decide +kernel
theorem dX9_ends_11 : decode cX9_ends 11 = .ok (.if_icmp .ne 25, 3) := by decide +kernel
theorem dX9_ends_14 : decode cX9_ends 14 = .ok (.iload_n 2, 1) := by decide +kernel
theorem dX9_ends_15 : decode cX9_ends 15 = .ok (.ifCond .eq 17, 3) := by decide +kernel
theorem dX9_ends_18 : decode cX9_ends 18 = .ok (.aload_n 0, 1) := by decide +kernel
theorem dX9_ends_19 : decode cX9_ends 19 = .ok (.aload_n 0, 1) := by decide +kernel
theorem dX9_ends_20 : decode cX9_ends 20 = .ok (.getfield 100, 3) := by decide +kernel
theorem dX9_ends_23 : decode cX9_ends 23 = .ok (.iconst 5, 1) := by decide +kernel
theorem dX9_ends_24 : decode cX9_ends 24 = .ok (.iadd, 1) := by decide +kernel
theorem dX9_ends_25 : decode cX9_ends 25 = .ok (.invokevirtual 109, 3) := by decide +kernel
theorem dX9_ends_28 : decode cX9_ends 28 = .ok (.iload_n 2, 1) := by decide +kernel
theorem dX9_ends_29 : decode cX9_ends 29 = .ok (.if_icmp .ne 7, 3) := by decide +kernel
theorem dX9_ends_32 : decode cX9_ends 32 = .ok (.iconst 1, 1) := by decide +kernel
theorem dX9_ends_33 : decode cX9_ends 33 = .ok (.goto 4, 3) := by decide +kernel
theorem dX9_ends_36 : decode cX9_ends 36 = .ok (.iconst 0, 1) := by decide +kernel
theorem dX9_ends_37 : decode cX9_ends 37 = .ok (.ireturn, 1) := by decide +kernel
theorem dX9_lineNow_0 : decode cX9_lineNow 0 = .ok (.aload_n 0, 1) := by decide +kernel
theorem dX9_lineNow_1 : decode cX9_lineNow 1 = .ok (.iconst 4, 1) := by decide +kernel
theorem dX9_lineNow_2 : decode cX9_lineNow 2 = .ok (.bipush 99, 2) := by decide +kernel
theorem dX9_lineNow_4 : decode cX9_lineNow 4 = .ok (.bipush 111, 2) := by decide +kernel
theorem dX9_lineNow_6 : decode cX9_lineNow 6 = .ok (.bipush 97, 2) := by decide +kernel
theorem dX9_lineNow_8 : decode cX9_lineNow 8 = .ok (.bipush 116, 2) := by decide +kernel
theorem dX9_lineNow_10 : decode cX9_lineNow 10 = .ok (.invokevirtual 113, 3) := by decide +kernel
theorem dX9_lineNow_13 : decode cX9_lineNow 13 = .ok (.ifCond .eq 5, 3) := by decide +kernel
theorem dX9_lineNow_16 : decode cX9_lineNow 16 = .ok (.iconst 0, 1) := by decide +kernel
theorem dX9_lineNow_17 : decode cX9_lineNow 17 = .ok (.ireturn, 1) := by decide +kernel
theorem dX9_lineNow_18 : decode cX9_lineNow 18 = .ok (.aload_n 0, 1) := by decide +kernel
theorem dX9_lineNow_19 : decode cX9_lineNow 19 = .ok (.iconst 5, 1) := by decide +kernel
theorem dX9_lineNow_20 : decode cX9_lineNow 20 = .ok (.bipush 98, 2) := by decide +kernel
theorem dX9_lineNow_22 : decode cX9_lineNow 22 = .ok (.bipush 111, 2) := by decide +kernel
theorem dX9_lineNow_24 : decode cX9_lineNow 24 = .ok (.bipush 111, 2) := by decide +kernel
theorem dX9_lineNow_26 : decode cX9_lineNow 26 = .ok (.bipush 116, 2) := by decide +kernel
theorem dX9_lineNow_28 : decode cX9_lineNow 28 = .ok (.invokevirtual 113, 3) := by decide +kernel
theorem dX9_lineNow_31 : decode cX9_lineNow 31 = .ok (.ifCond .eq 15, 3) := by decide +kernel
theorem dX9_lineNow_34 : decode cX9_lineNow 34 = .ok (.aload_n 0, 1) := by decide +kernel
theorem dX9_lineNow_35 : decode cX9_lineNow 35 = .ok (.bipush 115, 2) := by decide +kernel
theorem dX9_lineNow_37 : decode cX9_lineNow 37 = .ok (.iconst 0, 1) := by decide +kernel
theorem dX9_lineNow_38 : decode cX9_lineNow 38 = .ok (.invokevirtual 117, 3) := by decide +kernel
theorem dX9_lineNow_41 : decode cX9_lineNow 41 = .ok (.ifCond .eq 5, 3) := by decide +kernel
theorem dX9_lineNow_44 : decode cX9_lineNow 44 = .ok (.iconst 1, 1) := by decide +kernel
theorem dX9_lineNow_45 : decode cX9_lineNow 45 = .ok (.ireturn, 1) := by decide +kernel
theorem dX9_lineNow_46 : decode cX9_lineNow 46 = .ok (.aload_n 0, 1) := by decide +kernel
theorem dX9_lineNow_47 : decode cX9_lineNow 47 = .ok (.iconst 5, 1) := by decide +kernel
theorem dX9_lineNow_48 : decode cX9_lineNow 48 = .ok (.bipush 115, 2) := by decide +kernel
theorem dX9_lineNow_50 : decode cX9_lineNow 50 = .ok (.bipush 108, 2) := by decide +kernel
theorem dX9_lineNow_52 : decode cX9_lineNow 52 = .ok (.bipush 97, 2) := by decide +kernel
theorem dX9_lineNow_54 : decode cX9_lineNow 54 = .ok (.bipush 99, 2) := by decide +kernel
theorem dX9_lineNow_56 : decode cX9_lineNow 56 = .ok (.invokevirtual 113, 3) := by decide +kernel
theorem dX9_lineNow_59 : decode cX9_lineNow 59 = .ok (.ifCond .eq 15, 3) := by decide +kernel
theorem dX9_lineNow_62 : decode cX9_lineNow 62 = .ok (.aload_n 0, 1) := by decide +kernel
theorem dX9_lineNow_63 : decode cX9_lineNow 63 = .ok (.bipush 107, 2) := by decide +kernel
theorem dX9_lineNow_65 : decode cX9_lineNow 65 = .ok (.iconst 0, 1) := by decide +kernel
theorem dX9_lineNow_66 : decode cX9_lineNow 66 = .ok (.invokevirtual 117, 3) := by decide +kernel
theorem dX9_lineNow_69 : decode cX9_lineNow 69 = .ok (.ifCond .eq 5, 3) := by decide +kernel
theorem dX9_lineNow_72 : decode cX9_lineNow 72 = .ok (.iconst 2, 1) := by decide +kernel
theorem dX9_lineNow_73 : decode cX9_lineNow 73 = .ok (.ireturn, 1) := by decide +kernel
theorem dX9_lineNow_74 : decode cX9_lineNow 74 = .ok (.aload_n 0, 1) := by decide +kernel
theorem dX9_lineNow_75 : decode cX9_lineNow 75 = .ok (.iconst 5, 1) := by decide +kernel
theorem dX9_lineNow_76 : decode cX9_lineNow 76 = .ok (.bipush 99, 2) := by decide +kernel
theorem dX9_lineNow_78 : decode cX9_lineNow 78 = .ok (.bipush 104, 2) := by decide +kernel
theorem dX9_lineNow_80 : decode cX9_lineNow 80 = .ok (.bipush 105, 2) := by decide +kernel
theorem dX9_lineNow_82 : decode cX9_lineNow 82 = .ok (.bipush 108, 2) := by decide +kernel
theorem dX9_lineNow_84 : decode cX9_lineNow 84 = .ok (.invokevirtual 113, 3) := by decide +kernel
theorem dX9_lineNow_87 : decode cX9_lineNow 87 = .ok (.ifCond .eq 15, 3) := by decide +kernel
theorem dX9_lineNow_90 : decode cX9_lineNow 90 = .ok (.aload_n 0, 1) := by decide +kernel
theorem dX9_lineNow_91 : decode cX9_lineNow 91 = .ok (.bipush 100, 2) := by decide +kernel
theorem dX9_lineNow_93 : decode cX9_lineNow 93 = .ok (.iconst 0, 1) := by decide +kernel
theorem dX9_lineNow_94 : decode cX9_lineNow 94 = .ok (.invokevirtual 117, 3) := by decide +kernel
theorem dX9_lineNow_97 : decode cX9_lineNow 97 = .ok (.ifCond .eq 5, 3) := by decide +kernel
theorem dX9_lineNow_100 : decode cX9_lineNow 100 = .ok (.iconst 3, 1) := by decide +kernel
theorem dX9_lineNow_101 : decode cX9_lineNow 101 = .ok (.ireturn, 1) := by decide +kernel
theorem dX9_lineNow_102 : decode cX9_lineNow 102 = .ok (.aload_n 0, 1) := by decide +kernel
theorem dX9_lineNow_103 : decode cX9_lineNow 103 = .ok (.iconst 4, 1) := by decide +kernel
theorem dX9_lineNow_104 : decode cX9_lineNow 104 = .ok (.bipush 108, 2) := by decide +kernel
theorem dX9_lineNow_106 : decode cX9_lineNow 106 = .ok (.bipush 105, 2) := by decide +kernel
theorem dX9_lineNow_108 : decode cX9_lineNow 108 = .ok (.bipush 107, 2) := by decide +kernel
theorem dX9_lineNow_110 : decode cX9_lineNow 110 = .ok (.bipush 101, 2) := by decide +kernel
theorem dX9_lineNow_112 : decode cX9_lineNow 112 = .ok (.invokevirtual 113, 3) := by decide +kernel
theorem dX9_lineNow_115 : decode cX9_lineNow 115 = .ok (.ifCond .eq 7, 3) := by decide +kernel
theorem dX9_lineNow_118 : decode cX9_lineNow 118 = .ok (.iconst 4, 1) := by decide +kernel
theorem dX9_lineNow_119 : decode cX9_lineNow 119 = .ok (.goto 25, 3) := by decide +kernel
theorem dX9_lineNow_122 : decode cX9_lineNow 122 = .ok (.aload_n 0, 1) := by decide +kernel
theorem dX9_lineNow_123 : decode cX9_lineNow 123 = .ok (.iconst 4, 1) := by decide +kernel
theorem dX9_lineNow_124 : decode cX9_lineNow 124 = .ok (.bipush 109, 2) := by decide +kernel
theorem dX9_lineNow_126 : decode cX9_lineNow 126 = .ok (.bipush 97, 2) := by decide +kernel
theorem dX9_lineNow_128 : decode cX9_lineNow 128 = .ok (.bipush 114, 2) := by decide +kernel
theorem dX9_lineNow_130 : decode cX9_lineNow 130 = .ok (.bipush 107, 2) := by decide +kernel
theorem dX9_lineNow_132 : decode cX9_lineNow 132 = .ok (.invokevirtual 113, 3) := by decide +kernel
theorem dX9_lineNow_135 : decode cX9_lineNow 135 = .ok (.ifCond .eq 7, 3) := by decide +kernel
theorem dX9_lineNow_138 : decode cX9_lineNow 138 = .ok (.iconst 5, 1) := by decide +kernel
theorem dX9_lineNow_139 : decode cX9_lineNow 139 = .ok (.goto 5, 3) := by decide +kernel
theorem dX9_lineNow_142 : decode cX9_lineNow 142 = .ok (.bipush (-4), 2) := by decide +kernel
theorem dX9_lineNow_144 : decode cX9_lineNow 144 = .ok (.ireturn, 1) := by decide +kernel
theorem dX9_kindNow_0 : decode cX9_kindNow 0 = .ok (.aload_n 0, 1) := by decide +kernel
theorem dX9_kindNow_1 : decode cX9_kindNow 1 = .ok (.iconst 5, 1) := by decide +kernel
theorem dX9_kindNow_2 : decode cX9_kindNow 2 = .ok (.bipush 112, 2) := by decide +kernel
theorem dX9_kindNow_4 : decode cX9_kindNow 4 = .ok (.bipush 108, 2) := by decide +kernel
theorem dX9_kindNow_6 : decode cX9_kindNow 6 = .ok (.bipush 97, 2) := by decide +kernel
theorem dX9_kindNow_8 : decode cX9_kindNow 8 = .ok (.bipush 105, 2) := by decide +kernel
theorem dX9_kindNow_10 : decode cX9_kindNow 10 = .ok (.invokevirtual 113, 3) := by decide +kernel
theorem dX9_kindNow_13 : decode cX9_kindNow 13 = .ok (.ifCond .eq 15, 3) := by decide +kernel
theorem dX9_kindNow_16 : decode cX9_kindNow 16 = .ok (.aload_n 0, 1) := by decide +kernel
theorem dX9_kindNow_17 : decode cX9_kindNow 17 = .ok (.bipush 110, 2) := by decide +kernel
theorem dX9_kindNow_19 : decode cX9_kindNow 19 = .ok (.iconst 0, 1) := by decide +kernel
theorem dX9_kindNow_20 : decode cX9_kindNow 20 = .ok (.invokevirtual 117, 3) := by decide +kernel
theorem dX9_kindNow_23 : decode cX9_kindNow 23 = .ok (.ifCond .eq 5, 3) := by decide +kernel
theorem dX9_kindNow_26 : decode cX9_kindNow 26 = .ok (.iconst 0, 1) := by decide +kernel
theorem dX9_kindNow_27 : decode cX9_kindNow 27 = .ok (.ireturn, 1) := by decide +kernel
theorem dX9_kindNow_28 : decode cX9_kindNow 28 = .ok (.aload_n 0, 1) := by decide +kernel
theorem dX9_kindNow_29 : decode cX9_kindNow 29 = .ok (.bipush 6, 2) := by decide +kernel
theorem dX9_kindNow_31 : decode cX9_kindNow 31 = .ok (.bipush 116, 2) := by decide +kernel
theorem dX9_kindNow_33 : decode cX9_kindNow 33 = .ok (.bipush 117, 2) := by decide +kernel
theorem dX9_kindNow_35 : decode cX9_kindNow 35 = .ok (.bipush 114, 2) := by decide +kernel
theorem dX9_kindNow_37 : decode cX9_kindNow 37 = .ok (.bipush 110, 2) := by decide +kernel
theorem dX9_kindNow_39 : decode cX9_kindNow 39 = .ok (.invokevirtual 113, 3) := by decide +kernel
theorem dX9_kindNow_42 : decode cX9_kindNow 42 = .ok (.ifCond .eq 16, 3) := by decide +kernel
theorem dX9_kindNow_45 : decode cX9_kindNow 45 = .ok (.aload_n 0, 1) := by decide +kernel
theorem dX9_kindNow_46 : decode cX9_kindNow 46 = .ok (.bipush 101, 2) := by decide +kernel
theorem dX9_kindNow_48 : decode cX9_kindNow 48 = .ok (.bipush 100, 2) := by decide +kernel
theorem dX9_kindNow_50 : decode cX9_kindNow 50 = .ok (.invokevirtual 117, 3) := by decide +kernel
theorem dX9_kindNow_53 : decode cX9_kindNow 53 = .ok (.ifCond .eq 5, 3) := by decide +kernel
theorem dX9_kindNow_56 : decode cX9_kindNow 56 = .ok (.iconst 1, 1) := by decide +kernel
theorem dX9_kindNow_57 : decode cX9_kindNow 57 = .ok (.ireturn, 1) := by decide +kernel
theorem dX9_kindNow_58 : decode cX9_kindNow 58 = .ok (.aload_n 0, 1) := by decide +kernel
theorem dX9_kindNow_59 : decode cX9_kindNow 59 = .ok (.iconst 3, 1) := by decide +kernel
theorem dX9_kindNow_60 : decode cX9_kindNow 60 = .ok (.bipush 108, 2) := by decide +kernel
theorem dX9_kindNow_62 : decode cX9_kindNow 62 = .ok (.bipush 101, 2) := by decide +kernel
theorem dX9_kindNow_64 : decode cX9_kindNow 64 = .ok (.bipush 116, 2) := by decide +kernel
theorem dX9_kindNow_66 : decode cX9_kindNow 66 = .ok (.iconst 0, 1) := by decide +kernel
theorem dX9_kindNow_67 : decode cX9_kindNow 67 = .ok (.invokevirtual 113, 3) := by decide +kernel
theorem dX9_kindNow_70 : decode cX9_kindNow 70 = .ok (.ifCond .eq 5, 3) := by decide +kernel
theorem dX9_kindNow_73 : decode cX9_kindNow 73 = .ok (.iconst 2, 1) := by decide +kernel
theorem dX9_kindNow_74 : decode cX9_kindNow 74 = .ok (.ireturn, 1) := by decide +kernel
theorem dX9_kindNow_75 : decode cX9_kindNow 75 = .ok (.aload_n 0, 1) := by decide +kernel
theorem dX9_kindNow_76 : decode cX9_kindNow 76 = .ok (.iconst 4, 1) := by decide +kernel
theorem dX9_kindNow_77 : decode cX9_kindNow 77 = .ok (.bipush 98, 2) := by decide +kernel
theorem dX9_kindNow_79 : decode cX9_kindNow 79 = .ok (.bipush 111, 2) := by decide +kernel
theorem dX9_kindNow_81 : decode cX9_kindNow 81 = .ok (.bipush 116, 2) := by decide +kernel
theorem dX9_kindNow_83 : decode cX9_kindNow 83 = .ok (.bipush 104, 2) := by decide +kernel
theorem dX9_kindNow_85 : decode cX9_kindNow 85 = .ok (.invokevirtual 113, 3) := by decide +kernel
theorem dX9_kindNow_88 : decode cX9_kindNow 88 = .ok (.ifCond .eq 7, 3) := by decide +kernel
theorem dX9_kindNow_91 : decode cX9_kindNow 91 = .ok (.iconst 3, 1) := by decide +kernel
theorem dX9_kindNow_92 : decode cX9_kindNow 92 = .ok (.goto 25, 3) := by decide +kernel
theorem dX9_kindNow_95 : decode cX9_kindNow 95 = .ok (.aload_n 0, 1) := by decide +kernel
theorem dX9_kindNow_96 : decode cX9_kindNow 96 = .ok (.iconst 4, 1) := by decide +kernel
theorem dX9_kindNow_97 : decode cX9_kindNow 97 = .ok (.bipush 107, 2) := by decide +kernel
theorem dX9_kindNow_99 : decode cX9_kindNow 99 = .ok (.bipush 101, 2) := by decide +kernel
theorem dX9_kindNow_101 : decode cX9_kindNow 101 = .ok (.bipush 112, 2) := by decide +kernel
theorem dX9_kindNow_103 : decode cX9_kindNow 103 = .ok (.bipush 116, 2) := by decide +kernel
theorem dX9_kindNow_105 : decode cX9_kindNow 105 = .ok (.invokevirtual 113, 3) := by decide +kernel
theorem dX9_kindNow_108 : decode cX9_kindNow 108 = .ok (.ifCond .eq 7, 3) := by decide +kernel
theorem dX9_kindNow_111 : decode cX9_kindNow 111 = .ok (.iconst 4, 1) := by decide +kernel
theorem dX9_kindNow_112 : decode cX9_kindNow 112 = .ok (.goto 5, 3) := by decide +kernel
theorem dX9_kindNow_115 : decode cX9_kindNow 115 = .ok (.bipush (-4), 2) := by decide +kernel
theorem dX9_kindNow_117 : decode cX9_kindNow 117 = .ok (.ireturn, 1) := by decide +kernel
theorem dX9_next_0 : decode cX9_next 0 = .ok (.aload_n 0, 1) := by decide +kernel
theorem dX9_next_1 : decode cX9_next 1 = .ok (.getfield 97, 3) := by decide +kernel
theorem dX9_next_4 : decode cX9_next 4 = .ok (.ifCond .le 4, 3) := by decide +kernel
theorem dX9_next_7 : decode cX9_next 7 = .ok (.return_, 1) := by decide +kernel
theorem dX9_next_8 : decode cX9_next 8 = .ok (.aload_n 0, 1) := by decide +kernel
theorem dX9_next_9 : decode cX9_next 9 = .ok (.aload_n 0, 1) := by decide +kernel
theorem dX9_next_10 : decode cX9_next 10 = .ok (.getfield 106, 3) := by decide +kernel
theorem dX9_next_13 : decode cX9_next 13 = .ok (.invokevirtual 109, 3) := by decide +kernel
theorem dX9_next_16 : decode cX9_next 16 = .ok (.bipush 32, 2) := by decide +kernel
theorem dX9_next_18 : decode cX9_next 18 = .ok (.if_icmp .ne 16, 3) := by decide +kernel
theorem dX9_next_21 : decode cX9_next 21 = .ok (.aload_n 0, 1) := by decide +kernel
theorem dX9_next_22 : decode cX9_next 22 = .ok (.dup, 1) := by decide +kernel
theorem dX9_next_23 : decode cX9_next 23 = .ok (.getfield 106, 3) := by decide +kernel
theorem dX9_next_26 : decode cX9_next 26 = .ok (.iconst 1, 1) := by decide +kernel
theorem dX9_next_27 : decode cX9_next 27 = .ok (.iadd, 1) := by decide +kernel
theorem dX9_next_28 : decode cX9_next 28 = .ok (.putfield 106, 3) := by decide +kernel
theorem dX9_next_31 : decode cX9_next 31 = .ok (.goto (-23), 3) := by decide +kernel
theorem dX9_next_34 : decode cX9_next 34 = .ok (.aload_n 0, 1) := by decide +kernel
theorem dX9_next_35 : decode cX9_next 35 = .ok (.aload_n 0, 1) := by decide +kernel
theorem dX9_next_36 : decode cX9_next 36 = .ok (.getfield 106, 3) := by decide +kernel
theorem dX9_next_39 : decode cX9_next 39 = .ok (.putfield 100, 3) := by decide +kernel
theorem dX9_next_42 : decode cX9_next 42 = .ok (.aload_n 0, 1) := by decide +kernel
theorem dX9_next_43 : decode cX9_next 43 = .ok (.aload_n 0, 1) := by decide +kernel
theorem dX9_next_44 : decode cX9_next 44 = .ok (.getfield 106, 3) := by decide +kernel
theorem dX9_next_47 : decode cX9_next 47 = .ok (.invokevirtual 109, 3) := by decide +kernel
theorem dX9_next_50 : decode cX9_next 50 = .ok (.istore_n 1, 1) := by decide +kernel
theorem dX9_next_51 : decode cX9_next 51 = .ok (.iload_n 1, 1) := by decide +kernel
theorem dX9_next_52 : decode cX9_next 52 = .ok (.ifCond .ge 11, 3) := by decide +kernel
theorem dX9_next_55 : decode cX9_next 55 = .ok (.aload_n 0, 1) := by decide +kernel
theorem dX9_next_56 : decode cX9_next 56 = .ok (.iconst 0, 1) := by decide +kernel
theorem dX9_next_57 : decode cX9_next 57 = .ok (.putfield 121, 3) := by decide +kernel
theorem dX9_next_60 : decode cX9_next 60 = .ok (.goto 214, 3) := by decide +kernel
theorem dX9_next_63 : decode cX9_next 63 = .ok (.iload_n 1, 1) := by decide +kernel
theorem dX9_next_64 : decode cX9_next 64 = .ok (.i2l, 1) := by decide +kernel
theorem dX9_next_65 : decode cX9_next 65 = .ok (.ldc2_w 124, 3) := by decide +kernel
theorem dX9_next_68 : decode cX9_next 68 = .ok (.ldc2_w 126, 3) := by decide +kernel
theorem dX9_next_71 : decode cX9_next 71 = .ok (.invokestatic 93, 3) := by decide +kernel
theorem dX9_next_74 : decode cX9_next 74 = .ok (.ifCond .eq 42, 3) := by decide +kernel
theorem dX9_next_77 : decode cX9_next 77 = .ok (.aload_n 0, 1) := by decide +kernel
theorem dX9_next_78 : decode cX9_next 78 = .ok (.iconst 1, 1) := by decide +kernel
theorem dX9_next_79 : decode cX9_next 79 = .ok (.putfield 121, 3) := by decide +kernel
theorem dX9_next_82 : decode cX9_next 82 = .ok (.aload_n 0, 1) := by decide +kernel
theorem dX9_next_83 : decode cX9_next 83 = .ok (.aload_n 0, 1) := by decide +kernel
theorem dX9_next_84 : decode cX9_next 84 = .ok (.getfield 106, 3) := by decide +kernel
theorem dX9_next_87 : decode cX9_next 87 = .ok (.invokevirtual 109, 3) := by decide +kernel
theorem dX9_next_90 : decode cX9_next 90 = .ok (.i2l, 1) := by decide +kernel
theorem dX9_next_91 : decode cX9_next 91 = .ok (.ldc2_w 124, 3) := by decide +kernel
theorem dX9_next_94 : decode cX9_next 94 = .ok (.ldc2_w 126, 3) := by decide +kernel
theorem dX9_next_97 : decode cX9_next 97 = .ok (.invokestatic 93, 3) := by decide +kernel
theorem dX9_next_100 : decode cX9_next 100 = .ok (.ifCond .eq 174, 3) := by decide +kernel
theorem dX9_next_103 : decode cX9_next 103 = .ok (.aload_n 0, 1) := by decide +kernel
theorem dX9_next_104 : decode cX9_next 104 = .ok (.dup, 1) := by decide +kernel
theorem dX9_next_105 : decode cX9_next 105 = .ok (.getfield 106, 3) := by decide +kernel
theorem dX9_next_108 : decode cX9_next 108 = .ok (.iconst 1, 1) := by decide +kernel
theorem dX9_next_109 : decode cX9_next 109 = .ok (.iadd, 1) := by decide +kernel
theorem dX9_next_110 : decode cX9_next 110 = .ok (.putfield 106, 3) := by decide +kernel
theorem dX9_next_113 : decode cX9_next 113 = .ok (.goto (-31), 3) := by decide +kernel
theorem dX9_next_116 : decode cX9_next 116 = .ok (.iload_n 1, 1) := by decide +kernel
theorem dX9_next_117 : decode cX9_next 117 = .ok (.i2l, 1) := by decide +kernel
theorem dX9_next_118 : decode cX9_next 118 = .ok (.ldc2_w 128, 3) := by decide +kernel
theorem dX9_next_121 : decode cX9_next 121 = .ok (.ldc2_w 130, 3) := by decide +kernel
theorem dX9_next_124 : decode cX9_next 124 = .ok (.invokestatic 93, 3) := by decide +kernel
theorem dX9_next_127 : decode cX9_next 127 = .ok (.ifCond .eq 116, 3) := by decide +kernel
theorem dX9_next_130 : decode cX9_next 130 = .ok (.aload_n 0, 1) := by decide +kernel
theorem dX9_next_131 : decode cX9_next 131 = .ok (.iconst 2, 1) := by decide +kernel
theorem dX9_next_132 : decode cX9_next 132 = .ok (.putfield 121, 3) := by decide +kernel
theorem dX9_next_135 : decode cX9_next 135 = .ok (.aload_n 0, 1) := by decide +kernel
theorem dX9_next_136 : decode cX9_next 136 = .ok (.iconst 0, 1) := by decide +kernel
theorem dX9_next_137 : decode cX9_next 137 = .ok (.putfield 132, 3) := by decide +kernel
theorem dX9_next_140 : decode cX9_next 140 = .ok (.aload_n 0, 1) := by decide +kernel
theorem dX9_next_141 : decode cX9_next 141 = .ok (.aload_n 0, 1) := by decide +kernel
theorem dX9_next_142 : decode cX9_next 142 = .ok (.getfield 106, 3) := by decide +kernel
theorem dX9_next_145 : decode cX9_next 145 = .ok (.invokevirtual 109, 3) := by decide +kernel
theorem dX9_next_148 : decode cX9_next 148 = .ok (.i2l, 1) := by decide +kernel
theorem dX9_next_149 : decode cX9_next 149 = .ok (.ldc2_w 128, 3) := by decide +kernel
theorem dX9_next_152 : decode cX9_next 152 = .ok (.ldc2_w 130, 3) := by decide +kernel
theorem dX9_next_155 : decode cX9_next 155 = .ok (.invokestatic 93, 3) := by decide +kernel
theorem dX9_next_158 : decode cX9_next 158 = .ok (.ifCond .eq 59, 3) := by decide +kernel
theorem dX9_next_161 : decode cX9_next 161 = .ok (.aload_n 0, 1) := by decide +kernel
theorem dX9_next_162 : decode cX9_next 162 = .ok (.aload_n 0, 1) := by decide +kernel
theorem dX9_next_163 : decode cX9_next 163 = .ok (.getfield 106, 3) := by decide +kernel
theorem dX9_next_166 : decode cX9_next 166 = .ok (.aload_n 0, 1) := by decide +kernel
theorem dX9_next_167 : decode cX9_next 167 = .ok (.getfield 100, 3) := by decide +kernel
theorem dX9_next_170 : decode cX9_next 170 = .ok (.isub, 1) := by decide +kernel
theorem dX9_next_171 : decode cX9_next 171 = .ok (.iconst 2, 1) := by decide +kernel
theorem dX9_next_172 : decode cX9_next 172 = .ok (.if_icmp .ge 25, 3) := by decide +kernel
theorem dX9_next_175 : decode cX9_next 175 = .ok (.bipush 10, 2) := by decide +kernel
theorem dX9_next_177 : decode cX9_next 177 = .ok (.aload_n 0, 1) := by decide +kernel
theorem dX9_next_178 : decode cX9_next 178 = .ok (.getfield 132, 3) := by decide +kernel
theorem dX9_next_181 : decode cX9_next 181 = .ok (.imul, 1) := by decide +kernel
theorem dX9_next_182 : decode cX9_next 182 = .ok (.aload_n 0, 1) := by decide +kernel
theorem dX9_next_183 : decode cX9_next 183 = .ok (.aload_n 0, 1) := by decide +kernel
theorem dX9_next_184 : decode cX9_next 184 = .ok (.getfield 106, 3) := by decide +kernel
theorem dX9_next_187 : decode cX9_next 187 = .ok (.invokevirtual 109, 3) := by decide +kernel
theorem dX9_next_190 : decode cX9_next 190 = .ok (.iadd, 1) := by decide +kernel
theorem dX9_next_191 : decode cX9_next 191 = .ok (.bipush 48, 2) := by decide +kernel
theorem dX9_next_193 : decode cX9_next 193 = .ok (.isub, 1) := by decide +kernel
theorem dX9_next_194 : decode cX9_next 194 = .ok (.goto 7, 3) := by decide +kernel
theorem dX9_next_197 : decode cX9_next 197 = .ok (.aload_n 0, 1) := by decide +kernel
theorem dX9_next_198 : decode cX9_next 198 = .ok (.getfield 132, 3) := by decide +kernel
theorem dX9_next_201 : decode cX9_next 201 = .ok (.putfield 132, 3) := by decide +kernel
theorem dX9_next_204 : decode cX9_next 204 = .ok (.aload_n 0, 1) := by decide +kernel
theorem dX9_next_205 : decode cX9_next 205 = .ok (.dup, 1) := by decide +kernel
theorem dX9_next_206 : decode cX9_next 206 = .ok (.getfield 106, 3) := by decide +kernel
theorem dX9_next_209 : decode cX9_next 209 = .ok (.iconst 1, 1) := by decide +kernel
theorem dX9_next_210 : decode cX9_next 210 = .ok (.iadd, 1) := by decide +kernel
theorem dX9_next_211 : decode cX9_next 211 = .ok (.putfield 106, 3) := by decide +kernel
theorem dX9_next_214 : decode cX9_next 214 = .ok (.goto (-74), 3) := by decide +kernel
theorem dX9_next_217 : decode cX9_next 217 = .ok (.aload_n 0, 1) := by decide +kernel
theorem dX9_next_218 : decode cX9_next 218 = .ok (.aload_n 0, 1) := by decide +kernel
theorem dX9_next_219 : decode cX9_next 219 = .ok (.getfield 106, 3) := by decide +kernel
theorem dX9_next_222 : decode cX9_next 222 = .ok (.aload_n 0, 1) := by decide +kernel
theorem dX9_next_223 : decode cX9_next 223 = .ok (.getfield 100, 3) := by decide +kernel
theorem dX9_next_226 : decode cX9_next 226 = .ok (.isub, 1) := by decide +kernel
theorem dX9_next_227 : decode cX9_next 227 = .ok (.iconst 2, 1) := by decide +kernel
theorem dX9_next_228 : decode cX9_next 228 = .ok (.if_icmp .gt 7, 3) := by decide +kernel
theorem dX9_next_231 : decode cX9_next 231 = .ok (.iconst 1, 1) := by decide +kernel
theorem dX9_next_232 : decode cX9_next 232 = .ok (.goto 4, 3) := by decide +kernel
theorem dX9_next_235 : decode cX9_next 235 = .ok (.iconst 0, 1) := by decide +kernel
theorem dX9_next_236 : decode cX9_next 236 = .ok (.iconst 1, 1) := by decide +kernel
theorem dX9_next_237 : decode cX9_next 237 = .ok (.invokevirtual 135, 3) := by decide +kernel
theorem dX9_next_240 : decode cX9_next 240 = .ok (.goto 34, 3) := by decide +kernel
theorem dX9_next_243 : decode cX9_next 243 = .ok (.aload_n 0, 1) := by decide +kernel
theorem dX9_next_244 : decode cX9_next 244 = .ok (.iconst 3, 1) := by decide +kernel
theorem dX9_next_245 : decode cX9_next 245 = .ok (.putfield 121, 3) := by decide +kernel
theorem dX9_next_248 : decode cX9_next 248 = .ok (.aload_n 0, 1) := by decide +kernel
theorem dX9_next_249 : decode cX9_next 249 = .ok (.iload_n 1, 1) := by decide +kernel
theorem dX9_next_250 : decode cX9_next 250 = .ok (.bipush 59, 2) := by decide +kernel
theorem dX9_next_252 : decode cX9_next 252 = .ok (.if_icmp .ne 7, 3) := by decide +kernel
theorem dX9_next_255 : decode cX9_next 255 = .ok (.iconst 1, 1) := by decide +kernel
theorem dX9_next_256 : decode cX9_next 256 = .ok (.goto 4, 3) := by decide +kernel
theorem dX9_next_259 : decode cX9_next 259 = .ok (.iconst 0, 1) := by decide +kernel
theorem dX9_next_260 : decode cX9_next 260 = .ok (.iconst 1, 1) := by decide +kernel
theorem dX9_next_261 : decode cX9_next 261 = .ok (.invokevirtual 135, 3) := by decide +kernel
theorem dX9_next_264 : decode cX9_next 264 = .ok (.aload_n 0, 1) := by decide +kernel
theorem dX9_next_265 : decode cX9_next 265 = .ok (.dup, 1) := by decide +kernel
theorem dX9_next_266 : decode cX9_next 266 = .ok (.getfield 106, 3) := by decide +kernel
theorem dX9_next_269 : decode cX9_next 269 = .ok (.iconst 1, 1) := by decide +kernel
theorem dX9_next_270 : decode cX9_next 270 = .ok (.iadd, 1) := by decide +kernel
theorem dX9_next_271 : decode cX9_next 271 = .ok (.putfield 106, 3) := by decide +kernel
theorem dX9_next_274 : decode cX9_next 274 = .ok (.return_, 1) := by decide +kernel
theorem dX9_readNumber_0 : decode cX9_readNumber 0 = .ok (.aload_n 0, 1) := by decide +kernel
theorem dX9_readNumber_1 : decode cX9_readNumber 1 = .ok (.getfield 97, 3) := by decide +kernel
theorem dX9_readNumber_4 : decode cX9_readNumber 4 = .ok (.ifCond .ne 21, 3) := by decide +kernel
theorem dX9_readNumber_7 : decode cX9_readNumber 7 = .ok (.aload_n 0, 1) := by decide +kernel
theorem dX9_readNumber_8 : decode cX9_readNumber 8 = .ok (.aload_n 0, 1) := by decide +kernel
theorem dX9_readNumber_9 : decode cX9_readNumber 9 = .ok (.getfield 121, 3) := by decide +kernel
theorem dX9_readNumber_12 : decode cX9_readNumber 12 = .ok (.iconst 2, 1) := by decide +kernel
theorem dX9_readNumber_13 : decode cX9_readNumber 13 = .ok (.if_icmp .ne 7, 3) := by decide +kernel
theorem dX9_readNumber_16 : decode cX9_readNumber 16 = .ok (.iconst 1, 1) := by decide +kernel
theorem dX9_readNumber_17 : decode cX9_readNumber 17 = .ok (.goto 4, 3) := by decide +kernel
theorem dX9_readNumber_20 : decode cX9_readNumber 20 = .ok (.iconst 0, 1) := by decide +kernel
theorem dX9_readNumber_21 : decode cX9_readNumber 21 = .ok (.iconst 2, 1) := by decide +kernel
theorem dX9_readNumber_22 : decode cX9_readNumber 22 = .ok (.invokevirtual 135, 3) := by decide +kernel
theorem dX9_readNumber_25 : decode cX9_readNumber 25 = .ok (.aload_n 0, 1) := by decide +kernel
theorem dX9_readNumber_26 : decode cX9_readNumber 26 = .ok (.getfield 97, 3) := by decide +kernel
theorem dX9_readNumber_29 : decode cX9_readNumber 29 = .ok (.ifCond .ne 20, 3) := by decide +kernel
theorem dX9_readNumber_32 : decode cX9_readNumber 32 = .ok (.aload_n 0, 1) := by decide +kernel
theorem dX9_readNumber_33 : decode cX9_readNumber 33 = .ok (.aload_n 0, 1) := by decide +kernel
theorem dX9_readNumber_34 : decode cX9_readNumber 34 = .ok (.getfield 132, 3) := by decide +kernel
theorem dX9_readNumber_37 : decode cX9_readNumber 37 = .ok (.i2l, 1) := by decide +kernel
theorem dX9_readNumber_38 : decode cX9_readNumber 38 = .ok (.iload_n 1, 1) := by decide +kernel
theorem dX9_readNumber_39 : decode cX9_readNumber 39 = .ok (.i2l, 1) := by decide +kernel
theorem dX9_readNumber_40 : decode cX9_readNumber 40 = .ok (.iload_n 2, 1) := by decide +kernel
theorem dX9_readNumber_41 : decode cX9_readNumber 41 = .ok (.i2l, 1) := by decide +kernel
theorem dX9_readNumber_42 : decode cX9_readNumber 42 = .ok (.invokestatic 93, 3) := by decide +kernel
theorem dX9_readNumber_45 : decode cX9_readNumber 45 = .ok (.iconst 3, 1) := by decide +kernel
theorem dX9_readNumber_46 : decode cX9_readNumber 46 = .ok (.invokevirtual 135, 3) := by decide +kernel
theorem dX9_readNumber_49 : decode cX9_readNumber 49 = .ok (.aload_n 0, 1) := by decide +kernel
theorem dX9_readNumber_50 : decode cX9_readNumber 50 = .ok (.getfield 97, 3) := by decide +kernel
theorem dX9_readNumber_53 : decode cX9_readNumber 53 = .ok (.ifCond .ne 10, 3) := by decide +kernel
theorem dX9_readNumber_56 : decode cX9_readNumber 56 = .ok (.aload_n 0, 1) := by decide +kernel
theorem dX9_readNumber_57 : decode cX9_readNumber 57 = .ok (.getfield 132, 3) := by decide +kernel
theorem dX9_readNumber_60 : decode cX9_readNumber 60 = .ok (.goto 4, 3) := by decide +kernel
theorem dX9_readNumber_63 : decode cX9_readNumber 63 = .ok (.iconst 0, 1) := by decide +kernel
theorem dX9_readNumber_64 : decode cX9_readNumber 64 = .ok (.istore_n 3, 1) := by decide +kernel
theorem dX9_readNumber_65 : decode cX9_readNumber 65 = .ok (.aload_n 0, 1) := by decide +kernel
theorem dX9_readNumber_66 : decode cX9_readNumber 66 = .ok (.invokevirtual 139, 3) := by decide +kernel
theorem dX9_readNumber_69 : decode cX9_readNumber 69 = .ok (.iload_n 3, 1) := by decide +kernel
theorem dX9_readNumber_70 : decode cX9_readNumber 70 = .ok (.ireturn, 1) := by decide +kernel
theorem dX9_readChildOf_0 : decode cX9_readChildOf 0 = .ok (.aload_n 0, 1) := by decide +kernel
theorem dX9_readChildOf_1 : decode cX9_readChildOf 1 = .ok (.iconst 0, 1) := by decide +kernel
theorem dX9_readChildOf_2 : decode cX9_readChildOf 2 = .ok (.bipush 7, 2) := by decide +kernel
theorem dX9_readChildOf_4 : decode cX9_readChildOf 4 = .ok (.invokevirtual 142, 3) := by decide +kernel
theorem dX9_readChildOf_7 : decode cX9_readChildOf 7 = .ok (.istore_n 1, 1) := by decide +kernel
theorem dX9_readChildOf_8 : decode cX9_readChildOf 8 = .ok (.aload_n 0, 1) := by decide +kernel
theorem dX9_readChildOf_9 : decode cX9_readChildOf 9 = .ok (.iload_n 1, 1) := by decide +kernel
theorem dX9_readChildOf_10 : decode cX9_readChildOf 10 = .ok (.aload_n 0, 1) := by decide +kernel
theorem dX9_readChildOf_11 : decode cX9_readChildOf 11 = .ok (.getfield 79, 3) := by decide +kernel
theorem dX9_readChildOf_14 : decode cX9_readChildOf 14 = .ok (.if_icmp .le 7, 3) := by decide +kernel
theorem dX9_readChildOf_17 : decode cX9_readChildOf 17 = .ok (.iload_n 1, 1) := by decide +kernel
theorem dX9_readChildOf_18 : decode cX9_readChildOf 18 = .ok (.goto 7, 3) := by decide +kernel
theorem dX9_readChildOf_21 : decode cX9_readChildOf 21 = .ok (.aload_n 0, 1) := by decide +kernel
theorem dX9_readChildOf_22 : decode cX9_readChildOf 22 = .ok (.getfield 79, 3) := by decide +kernel
theorem dX9_readChildOf_25 : decode cX9_readChildOf 25 = .ok (.putfield 79, 3) := by decide +kernel
theorem dX9_readChildOf_28 : decode cX9_readChildOf 28 = .ok (.iload_n 1, 1) := by decide +kernel
theorem dX9_readChildOf_29 : decode cX9_readChildOf 29 = .ok (.ireturn, 1) := by decide +kernel
theorem dX9_readChild_0 : decode cX9_readChild 0 = .ok (.iconst 1, 1) := by decide +kernel
theorem dX9_readChild_1 : decode cX9_readChild 1 = .ok (.iconst 5, 1) := by decide +kernel
theorem dX9_readChild_2 : decode cX9_readChild 2 = .ok (.aload_n 0, 1) := by decide +kernel
theorem dX9_readChild_3 : decode cX9_readChild 3 = .ok (.getfield 17, 3) := by decide +kernel
theorem dX9_readChild_6 : decode cX9_readChild 6 = .ok (.iconst 0, 1) := by decide +kernel
theorem dX9_readChild_7 : decode cX9_readChild 7 = .ok (.iaload, 1) := by decide +kernel
theorem dX9_readChild_8 : decode cX9_readChild 8 = .ok (.imul, 1) := by decide +kernel
theorem dX9_readChild_9 : decode cX9_readChild 9 = .ok (.iadd, 1) := by decide +kernel
theorem dX9_readChild_10 : decode cX9_readChild 10 = .ok (.istore_n 1, 1) := by decide +kernel
theorem dX9_readChild_11 : decode cX9_readChild 11 = .ok (.aload_n 0, 1) := by decide +kernel
theorem dX9_readChild_12 : decode cX9_readChild 12 = .ok (.getfield 17, 3) := by decide +kernel
theorem dX9_readChild_15 : decode cX9_readChild 15 = .ok (.iload_n 1, 1) := by decide +kernel
theorem dX9_readChild_16 : decode cX9_readChild 16 = .ok (.aload_n 0, 1) := by decide +kernel
theorem dX9_readChild_17 : decode cX9_readChild 17 = .ok (.iconst 1, 1) := by decide +kernel
theorem dX9_readChild_18 : decode cX9_readChild 18 = .ok (.bipush 40, 2) := by decide +kernel
theorem dX9_readChild_20 : decode cX9_readChild 20 = .ok (.invokevirtual 142, 3) := by decide +kernel
theorem dX9_readChild_23 : decode cX9_readChild 23 = .ok (.iastore, 1) := by decide +kernel
theorem dX9_readChild_24 : decode cX9_readChild 24 = .ok (.aload_n 0, 1) := by decide +kernel
theorem dX9_readChild_25 : decode cX9_readChild 25 = .ok (.getfield 17, 3) := by decide +kernel
theorem dX9_readChild_28 : decode cX9_readChild 28 = .ok (.iload_n 1, 1) := by decide +kernel
theorem dX9_readChild_29 : decode cX9_readChild 29 = .ok (.iconst 1, 1) := by decide +kernel
theorem dX9_readChild_30 : decode cX9_readChild 30 = .ok (.iadd, 1) := by decide +kernel
theorem dX9_readChild_31 : decode cX9_readChild 31 = .ok (.aload_n 0, 1) := by decide +kernel
theorem dX9_readChild_32 : decode cX9_readChild 32 = .ok (.iconst 0, 1) := by decide +kernel
theorem dX9_readChild_33 : decode cX9_readChild 33 = .ok (.iconst 4, 1) := by decide +kernel
theorem dX9_readChild_34 : decode cX9_readChild 34 = .ok (.invokevirtual 142, 3) := by decide +kernel
theorem dX9_readChild_37 : decode cX9_readChild 37 = .ok (.iastore, 1) := by decide +kernel
theorem dX9_readChild_38 : decode cX9_readChild 38 = .ok (.aload_n 0, 1) := by decide +kernel
theorem dX9_readChild_39 : decode cX9_readChild 39 = .ok (.getfield 17, 3) := by decide +kernel
theorem dX9_readChild_42 : decode cX9_readChild 42 = .ok (.iload_n 1, 1) := by decide +kernel
theorem dX9_readChild_43 : decode cX9_readChild 43 = .ok (.iconst 2, 1) := by decide +kernel
theorem dX9_readChild_44 : decode cX9_readChild 44 = .ok (.iadd, 1) := by decide +kernel
theorem dX9_readChild_45 : decode cX9_readChild 45 = .ok (.aload_n 0, 1) := by decide +kernel
theorem dX9_readChild_46 : decode cX9_readChild 46 = .ok (.aload_n 0, 1) := by decide +kernel
theorem dX9_readChild_47 : decode cX9_readChild 47 = .ok (.getfield 17, 3) := by decide +kernel
theorem dX9_readChild_50 : decode cX9_readChild 50 = .ok (.iload_n 1, 1) := by decide +kernel
theorem dX9_readChild_51 : decode cX9_readChild 51 = .ok (.iconst 1, 1) := by decide +kernel
theorem dX9_readChild_52 : decode cX9_readChild 52 = .ok (.iadd, 1) := by decide +kernel
theorem dX9_readChild_53 : decode cX9_readChild 53 = .ok (.iaload, 1) := by decide +kernel
theorem dX9_readChild_54 : decode cX9_readChild 54 = .ok (.iconst 4, 1) := by decide +kernel
theorem dX9_readChild_55 : decode cX9_readChild 55 = .ok (.invokevirtual 142, 3) := by decide +kernel
theorem dX9_readChild_58 : decode cX9_readChild 58 = .ok (.iastore, 1) := by decide +kernel
theorem dX9_readChild_59 : decode cX9_readChild 59 = .ok (.aload_n 0, 1) := by decide +kernel
theorem dX9_readChild_60 : decode cX9_readChild 60 = .ok (.getfield 17, 3) := by decide +kernel
theorem dX9_readChild_63 : decode cX9_readChild 63 = .ok (.iload_n 1, 1) := by decide +kernel
theorem dX9_readChild_64 : decode cX9_readChild 64 = .ok (.iconst 3, 1) := by decide +kernel
theorem dX9_readChild_65 : decode cX9_readChild 65 = .ok (.iadd, 1) := by decide +kernel
theorem dX9_readChild_66 : decode cX9_readChild 66 = .ok (.bipush (-4), 2) := by decide +kernel
theorem dX9_readChild_68 : decode cX9_readChild 68 = .ok (.iastore, 1) := by decide +kernel
theorem dX9_readChild_69 : decode cX9_readChild 69 = .ok (.aload_n 0, 1) := by decide +kernel
theorem dX9_readChild_70 : decode cX9_readChild 70 = .ok (.getfield 17, 3) := by decide +kernel
theorem dX9_readChild_73 : decode cX9_readChild 73 = .ok (.iload_n 1, 1) := by decide +kernel
theorem dX9_readChild_74 : decode cX9_readChild 74 = .ok (.iconst 4, 1) := by decide +kernel
theorem dX9_readChild_75 : decode cX9_readChild 75 = .ok (.iadd, 1) := by decide +kernel
theorem dX9_readChild_76 : decode cX9_readChild 76 = .ok (.bipush (-4), 2) := by decide +kernel
theorem dX9_readChild_78 : decode cX9_readChild 78 = .ok (.iastore, 1) := by decide +kernel
theorem dX9_readChild_79 : decode cX9_readChild 79 = .ok (.aload_n 0, 1) := by decide +kernel
theorem dX9_readChild_80 : decode cX9_readChild 80 = .ok (.getfield 17, 3) := by decide +kernel
theorem dX9_readChild_83 : decode cX9_readChild 83 = .ok (.iconst 0, 1) := by decide +kernel
theorem dX9_readChild_84 : decode cX9_readChild 84 = .ok (.dup2, 1) := by decide +kernel
theorem dX9_readChild_85 : decode cX9_readChild 85 = .ok (.iaload, 1) := by decide +kernel
theorem dX9_readChild_86 : decode cX9_readChild 86 = .ok (.iconst 1, 1) := by decide +kernel
theorem dX9_readChild_87 : decode cX9_readChild 87 = .ok (.iadd, 1) := by decide +kernel
theorem dX9_readChild_88 : decode cX9_readChild 88 = .ok (.iastore, 1) := by decide +kernel
theorem dX9_readChild_89 : decode cX9_readChild 89 = .ok (.return_, 1) := by decide +kernel
theorem dX9_readThing_0 : decode cX9_readThing 0 = .ok (.bipush 42, 2) := by decide +kernel
theorem dX9_readThing_2 : decode cX9_readThing 2 = .ok (.bipush 7, 2) := by decide +kernel
theorem dX9_readThing_4 : decode cX9_readThing 4 = .ok (.aload_n 0, 1) := by decide +kernel
theorem dX9_readThing_5 : decode cX9_readThing 5 = .ok (.getfield 17, 3) := by decide +kernel
theorem dX9_readThing_8 : decode cX9_readThing 8 = .ok (.bipush 41, 2) := by decide +kernel
theorem dX9_readThing_10 : decode cX9_readThing 10 = .ok (.iaload, 1) := by decide +kernel
theorem dX9_readThing_11 : decode cX9_readThing 11 = .ok (.imul, 1) := by decide +kernel
theorem dX9_readThing_12 : decode cX9_readThing 12 = .ok (.iadd, 1) := by decide +kernel
theorem dX9_readThing_13 : decode cX9_readThing 13 = .ok (.istore_n 2, 1) := by decide +kernel
theorem dX9_readThing_14 : decode cX9_readThing 14 = .ok (.aload_n 0, 1) := by decide +kernel
theorem dX9_readThing_15 : decode cX9_readThing 15 = .ok (.getfield 97, 3) := by decide +kernel
theorem dX9_readThing_18 : decode cX9_readThing 18 = .ok (.ifCond .ne 18, 3) := by decide +kernel
theorem dX9_readThing_21 : decode cX9_readThing 21 = .ok (.aload_n 0, 1) := by decide +kernel
theorem dX9_readThing_22 : decode cX9_readThing 22 = .ok (.getfield 121, 3) := by decide +kernel
theorem dX9_readThing_25 : decode cX9_readThing 25 = .ok (.iconst 1, 1) := by decide +kernel
theorem dX9_readThing_26 : decode cX9_readThing 26 = .ok (.if_icmp .ne 10, 3) := by decide +kernel
theorem dX9_readThing_29 : decode cX9_readThing 29 = .ok (.aload_n 0, 1) := by decide +kernel
theorem dX9_readThing_30 : decode cX9_readThing 30 = .ok (.invokevirtual 146, 3) := by decide +kernel
theorem dX9_readThing_33 : decode cX9_readThing 33 = .ok (.goto 5, 3) := by decide +kernel
theorem dX9_readThing_36 : decode cX9_readThing 36 = .ok (.bipush (-4), 2) := by decide +kernel
theorem dX9_readThing_38 : decode cX9_readThing 38 = .ok (.istore_n 3, 1) := by decide +kernel
theorem dX9_readThing_39 : decode cX9_readThing 39 = .ok (.aload_n 0, 1) := by decide +kernel
theorem dX9_readThing_40 : decode cX9_readThing 40 = .ok (.iload_n 3, 1) := by decide +kernel
theorem dX9_readThing_41 : decode cX9_readThing 41 = .ok (.bipush (-4), 2) := by decide +kernel
theorem dX9_readThing_43 : decode cX9_readThing 43 = .ok (.if_icmp .eq 7, 3) := by decide +kernel
theorem dX9_readThing_46 : decode cX9_readThing 46 = .ok (.iconst 1, 1) := by decide +kernel
theorem dX9_readThing_47 : decode cX9_readThing 47 = .ok (.goto 4, 3) := by decide +kernel
theorem dX9_readThing_50 : decode cX9_readThing 50 = .ok (.iconst 0, 1) := by decide +kernel
theorem dX9_readThing_51 : decode cX9_readThing 51 = .ok (.iconst 2, 1) := by decide +kernel
theorem dX9_readThing_52 : decode cX9_readThing 52 = .ok (.invokevirtual 135, 3) := by decide +kernel
theorem dX9_readThing_55 : decode cX9_readThing 55 = .ok (.aload_n 0, 1) := by decide +kernel
theorem dX9_readThing_56 : decode cX9_readThing 56 = .ok (.invokevirtual 139, 3) := by decide +kernel
theorem dX9_readThing_59 : decode cX9_readThing 59 = .ok (.aload_n 0, 1) := by decide +kernel
theorem dX9_readThing_60 : decode cX9_readThing 60 = .ok (.getfield 17, 3) := by decide +kernel
theorem dX9_readThing_63 : decode cX9_readThing 63 = .ok (.iload_n 2, 1) := by decide +kernel
theorem dX9_readThing_64 : decode cX9_readThing 64 = .ok (.iconst 0, 1) := by decide +kernel
theorem dX9_readThing_65 : decode cX9_readThing 65 = .ok (.iadd, 1) := by decide +kernel
theorem dX9_readThing_66 : decode cX9_readThing 66 = .ok (.iload_n 1, 1) := by decide +kernel
theorem dX9_readThing_67 : decode cX9_readThing 67 = .ok (.iastore, 1) := by decide +kernel
theorem dX9_readThing_68 : decode cX9_readThing 68 = .ok (.aload_n 0, 1) := by decide +kernel
theorem dX9_readThing_69 : decode cX9_readThing 69 = .ok (.getfield 17, 3) := by decide +kernel
theorem dX9_readThing_72 : decode cX9_readThing 72 = .ok (.iload_n 2, 1) := by decide +kernel
theorem dX9_readThing_73 : decode cX9_readThing 73 = .ok (.iconst 1, 1) := by decide +kernel
theorem dX9_readThing_74 : decode cX9_readThing 74 = .ok (.iadd, 1) := by decide +kernel
theorem dX9_readThing_75 : decode cX9_readThing 75 = .ok (.iload_n 3, 1) := by decide +kernel
theorem dX9_readThing_76 : decode cX9_readThing 76 = .ok (.iastore, 1) := by decide +kernel
theorem dX9_readThing_77 : decode cX9_readThing 77 = .ok (.aload_n 0, 1) := by decide +kernel
theorem dX9_readThing_78 : decode cX9_readThing 78 = .ok (.getfield 17, 3) := by decide +kernel
theorem dX9_readThing_81 : decode cX9_readThing 81 = .ok (.iload_n 2, 1) := by decide +kernel
theorem dX9_readThing_82 : decode cX9_readThing 82 = .ok (.bipush 6, 2) := by decide +kernel
theorem dX9_readThing_84 : decode cX9_readThing 84 = .ok (.iadd, 1) := by decide +kernel
theorem dX9_readThing_85 : decode cX9_readThing 85 = .ok (.iload_n 3, 1) := by decide +kernel
theorem dX9_readThing_86 : decode cX9_readThing 86 = .ok (.iconst 4, 1) := by decide +kernel
theorem dX9_readThing_87 : decode cX9_readThing 87 = .ok (.if_icmp .ne 10, 3) := by decide +kernel
theorem dX9_readThing_90 : decode cX9_readThing 90 = .ok (.aload_n 0, 1) := by decide +kernel
theorem dX9_readThing_91 : decode cX9_readThing 91 = .ok (.invokevirtual 150, 3) := by decide +kernel
theorem dX9_readThing_94 : decode cX9_readThing 94 = .ok (.goto 5, 3) := by decide +kernel
theorem dX9_readThing_97 : decode cX9_readThing 97 = .ok (.bipush (-4), 2) := by decide +kernel
theorem dX9_readThing_99 : decode cX9_readThing 99 = .ok (.iastore, 1) := by decide +kernel
theorem dX9_readThing_100 : decode cX9_readThing 100 = .ok (.aload_n 0, 1) := by decide +kernel
theorem dX9_readThing_101 : decode cX9_readThing 101 = .ok (.getfield 17, 3) := by decide +kernel
theorem dX9_readThing_104 : decode cX9_readThing 104 = .ok (.iload_n 2, 1) := by decide +kernel
theorem dX9_readThing_105 : decode cX9_readThing 105 = .ok (.iconst 2, 1) := by decide +kernel
theorem dX9_readThing_106 : decode cX9_readThing 106 = .ok (.iadd, 1) := by decide +kernel
theorem dX9_readThing_107 : decode cX9_readThing 107 = .ok (.aload_n 0, 1) := by decide +kernel
theorem dX9_readThing_108 : decode cX9_readThing 108 = .ok (.iconst 1, 1) := by decide +kernel
theorem dX9_readThing_109 : decode cX9_readThing 109 = .ok (.bipush 40, 2) := by decide +kernel
theorem dX9_readThing_111 : decode cX9_readThing 111 = .ok (.invokevirtual 142, 3) := by decide +kernel
theorem dX9_readThing_114 : decode cX9_readThing 114 = .ok (.iastore, 1) := by decide +kernel
theorem dX9_readThing_115 : decode cX9_readThing 115 = .ok (.aload_n 0, 1) := by decide +kernel
theorem dX9_readThing_116 : decode cX9_readThing 116 = .ok (.getfield 17, 3) := by decide +kernel
theorem dX9_readThing_119 : decode cX9_readThing 119 = .ok (.iload_n 2, 1) := by decide +kernel
theorem dX9_readThing_120 : decode cX9_readThing 120 = .ok (.iconst 3, 1) := by decide +kernel
theorem dX9_readThing_121 : decode cX9_readThing 121 = .ok (.iadd, 1) := by decide +kernel
theorem dX9_readThing_122 : decode cX9_readThing 122 = .ok (.aload_n 0, 1) := by decide +kernel
theorem dX9_readThing_123 : decode cX9_readThing 123 = .ok (.iconst 1, 1) := by decide +kernel
theorem dX9_readThing_124 : decode cX9_readThing 124 = .ok (.bipush 9, 2) := by decide +kernel
theorem dX9_readThing_126 : decode cX9_readThing 126 = .ok (.invokevirtual 142, 3) := by decide +kernel
theorem dX9_readThing_129 : decode cX9_readThing 129 = .ok (.iastore, 1) := by decide +kernel
theorem dX9_readThing_130 : decode cX9_readThing 130 = .ok (.aload_n 0, 1) := by decide +kernel
theorem dX9_readThing_131 : decode cX9_readThing 131 = .ok (.getfield 17, 3) := by decide +kernel
theorem dX9_readThing_134 : decode cX9_readThing 134 = .ok (.iload_n 2, 1) := by decide +kernel
theorem dX9_readThing_135 : decode cX9_readThing 135 = .ok (.iconst 4, 1) := by decide +kernel
theorem dX9_readThing_136 : decode cX9_readThing 136 = .ok (.iadd, 1) := by decide +kernel
theorem dX9_readThing_137 : decode cX9_readThing 137 = .ok (.iconst 0, 1) := by decide +kernel
theorem dX9_readThing_138 : decode cX9_readThing 138 = .ok (.iastore, 1) := by decide +kernel
theorem dX9_readThing_139 : decode cX9_readThing 139 = .ok (.aload_n 0, 1) := by decide +kernel
theorem dX9_readThing_140 : decode cX9_readThing 140 = .ok (.getfield 17, 3) := by decide +kernel
theorem dX9_readThing_143 : decode cX9_readThing 143 = .ok (.iload_n 2, 1) := by decide +kernel
theorem dX9_readThing_144 : decode cX9_readThing 144 = .ok (.iconst 5, 1) := by decide +kernel
theorem dX9_readThing_145 : decode cX9_readThing 145 = .ok (.iadd, 1) := by decide +kernel
theorem dX9_readThing_146 : decode cX9_readThing 146 = .ok (.iconst 0, 1) := by decide +kernel
theorem dX9_readThing_147 : decode cX9_readThing 147 = .ok (.iastore, 1) := by decide +kernel
theorem dX9_readThing_148 : decode cX9_readThing 148 = .ok (.aload_n 0, 1) := by decide +kernel
theorem dX9_readThing_149 : decode cX9_readThing 149 = .ok (.getfield 17, 3) := by decide +kernel
theorem dX9_readThing_152 : decode cX9_readThing 152 = .ok (.bipush 41, 2) := by decide +kernel
theorem dX9_readThing_154 : decode cX9_readThing 154 = .ok (.dup2, 1) := by decide +kernel
theorem dX9_readThing_155 : decode cX9_readThing 155 = .ok (.iaload, 1) := by decide +kernel
theorem dX9_readThing_156 : decode cX9_readThing 156 = .ok (.iconst 1, 1) := by decide +kernel
theorem dX9_readThing_157 : decode cX9_readThing 157 = .ok (.iadd, 1) := by decide +kernel
theorem dX9_readThing_158 : decode cX9_readThing 158 = .ok (.iastore, 1) := by decide +kernel
theorem dX9_readThing_159 : decode cX9_readThing 159 = .ok (.return_, 1) := by decide +kernel
theorem dX9_readLike_0 : decode cX9_readLike 0 = .ok (.aload_n 0, 1) := by decide +kernel
theorem dX9_readLike_1 : decode cX9_readLike 1 = .ok (.invokevirtual 150, 3) := by decide +kernel
theorem dX9_readLike_4 : decode cX9_readLike 4 = .ok (.istore_n 1, 1) := by decide +kernel
theorem dX9_readLike_5 : decode cX9_readLike 5 = .ok (.aload_n 0, 1) := by decide +kernel
theorem dX9_readLike_6 : decode cX9_readLike 6 = .ok (.iconst 0, 1) := by decide +kernel
theorem dX9_readLike_7 : decode cX9_readLike 7 = .ok (.bipush 9, 2) := by decide +kernel
theorem dX9_readLike_9 : decode cX9_readLike 9 = .ok (.invokevirtual 142, 3) := by decide +kernel
theorem dX9_readLike_12 : decode cX9_readLike 12 = .ok (.istore_n 2, 1) := by decide +kernel
theorem dX9_readLike_13 : decode cX9_readLike 13 = .ok (.aload_n 0, 1) := by decide +kernel
theorem dX9_readLike_14 : decode cX9_readLike 14 = .ok (.iload_n 2, 1) := by decide +kernel
theorem dX9_readLike_15 : decode cX9_readLike 15 = .ok (.aload_n 0, 1) := by decide +kernel
theorem dX9_readLike_16 : decode cX9_readLike 16 = .ok (.getfield 82, 3) := by decide +kernel
theorem dX9_readLike_19 : decode cX9_readLike 19 = .ok (.if_icmp .le 7, 3) := by decide +kernel
theorem dX9_readLike_22 : decode cX9_readLike 22 = .ok (.iload_n 2, 1) := by decide +kernel
theorem dX9_readLike_23 : decode cX9_readLike 23 = .ok (.goto 7, 3) := by decide +kernel
theorem dX9_readLike_26 : decode cX9_readLike 26 = .ok (.aload_n 0, 1) := by decide +kernel
theorem dX9_readLike_27 : decode cX9_readLike 27 = .ok (.getfield 82, 3) := by decide +kernel
theorem dX9_readLike_30 : decode cX9_readLike 30 = .ok (.putfield 82, 3) := by decide +kernel
theorem dX9_readLike_33 : decode cX9_readLike 33 = .ok (.aload_n 0, 1) := by decide +kernel
theorem dX9_readLike_34 : decode cX9_readLike 34 = .ok (.iconst 0, 1) := by decide +kernel
theorem dX9_readLike_35 : decode cX9_readLike 35 = .ok (.bipush 9, 2) := by decide +kernel
theorem dX9_readLike_37 : decode cX9_readLike 37 = .ok (.invokevirtual 142, 3) := by decide +kernel
theorem dX9_readLike_40 : decode cX9_readLike 40 = .ok (.istore_n 3, 1) := by decide +kernel
theorem dX9_readLike_41 : decode cX9_readLike 41 = .ok (.aload_n 0, 1) := by decide +kernel
theorem dX9_readLike_42 : decode cX9_readLike 42 = .ok (.getfield 17, 3) := by decide +kernel
theorem dX9_readLike_45 : decode cX9_readLike 45 = .ok (.bipush 119, 2) := by decide +kernel
theorem dX9_readLike_47 : decode cX9_readLike 47 = .ok (.bipush 10, 2) := by decide +kernel
theorem dX9_readLike_49 : decode cX9_readLike 49 = .ok (.iload_n 1, 1) := by decide +kernel
theorem dX9_readLike_50 : decode cX9_readLike 50 = .ok (.imul, 1) := by decide +kernel
theorem dX9_readLike_51 : decode cX9_readLike 51 = .ok (.iadd, 1) := by decide +kernel
theorem dX9_readLike_52 : decode cX9_readLike 52 = .ok (.iload_n 2, 1) := by decide +kernel
theorem dX9_readLike_53 : decode cX9_readLike 53 = .ok (.iadd, 1) := by decide +kernel
theorem dX9_readLike_54 : decode cX9_readLike 54 = .ok (.iload_n 3, 1) := by decide +kernel
theorem dX9_readLike_55 : decode cX9_readLike 55 = .ok (.iastore, 1) := by decide +kernel
theorem dX9_readLike_56 : decode cX9_readLike 56 = .ok (.return_, 1) := by decide +kernel
theorem dX9_readLineOf_0 : decode cX9_readLineOf 0 = .ok (.iload_n 1, 1) := by decide +kernel
theorem dX9_readLineOf_1 : decode cX9_readLineOf 1 = .ok (.tableswitch 94 2 5 #[31, 44, 51, 58], 31) := by decide +kernel
theorem dX9_readLineOf_32 : decode cX9_readLineOf 32 = .ok (.aload_n 0, 1) := by decide +kernel
theorem dX9_readLineOf_33 : decode cX9_readLineOf 33 = .ok (.aload_n 0, 1) := by decide +kernel
theorem dX9_readLineOf_34 : decode cX9_readLineOf 34 = .ok (.iconst 0, 1) := by decide +kernel
theorem dX9_readLineOf_35 : decode cX9_readLineOf 35 = .ok (.iconst 4, 1) := by decide +kernel
theorem dX9_readLineOf_36 : decode cX9_readLineOf 36 = .ok (.invokevirtual 142, 3) := by decide +kernel
theorem dX9_readLineOf_39 : decode cX9_readLineOf 39 = .ok (.putfield 71, 3) := by decide +kernel
theorem dX9_readLineOf_42 : decode cX9_readLineOf 42 = .ok (.goto 58, 3) := by decide +kernel
theorem dX9_readLineOf_45 : decode cX9_readLineOf 45 = .ok (.aload_n 0, 1) := by decide +kernel
theorem dX9_readLineOf_46 : decode cX9_readLineOf 46 = .ok (.invokevirtual 153, 3) := by decide +kernel
theorem dX9_readLineOf_49 : decode cX9_readLineOf 49 = .ok (.goto 51, 3) := by decide +kernel
theorem dX9_readLineOf_52 : decode cX9_readLineOf 52 = .ok (.aload_n 0, 1) := by decide +kernel
theorem dX9_readLineOf_53 : decode cX9_readLineOf 53 = .ok (.invokevirtual 156, 3) := by decide +kernel
theorem dX9_readLineOf_56 : decode cX9_readLineOf 56 = .ok (.goto 44, 3) := by decide +kernel
theorem dX9_readLineOf_59 : decode cX9_readLineOf 59 = .ok (.aload_n 0, 1) := by decide +kernel
theorem dX9_readLineOf_60 : decode cX9_readLineOf 60 = .ok (.getfield 17, 3) := by decide +kernel
theorem dX9_readLineOf_63 : decode cX9_readLineOf 63 = .ok (.bipush 113, 2) := by decide +kernel
theorem dX9_readLineOf_65 : decode cX9_readLineOf 65 = .ok (.aload_n 0, 1) := by decide +kernel
theorem dX9_readLineOf_66 : decode cX9_readLineOf 66 = .ok (.getfield 17, 3) := by decide +kernel
theorem dX9_readLineOf_69 : decode cX9_readLineOf 69 = .ok (.bipush 112, 2) := by decide +kernel
theorem dX9_readLineOf_71 : decode cX9_readLineOf 71 = .ok (.iaload, 1) := by decide +kernel
theorem dX9_readLineOf_72 : decode cX9_readLineOf 72 = .ok (.iadd, 1) := by decide +kernel
theorem dX9_readLineOf_73 : decode cX9_readLineOf 73 = .ok (.aload_n 0, 1) := by decide +kernel
theorem dX9_readLineOf_74 : decode cX9_readLineOf 74 = .ok (.iconst 1, 1) := by decide +kernel
theorem dX9_readLineOf_75 : decode cX9_readLineOf 75 = .ok (.bipush 40, 2) := by decide +kernel
theorem dX9_readLineOf_77 : decode cX9_readLineOf 77 = .ok (.invokevirtual 142, 3) := by decide +kernel
theorem dX9_readLineOf_80 : decode cX9_readLineOf 80 = .ok (.iastore, 1) := by decide +kernel
theorem dX9_readLineOf_81 : decode cX9_readLineOf 81 = .ok (.aload_n 0, 1) := by decide +kernel
theorem dX9_readLineOf_82 : decode cX9_readLineOf 82 = .ok (.getfield 17, 3) := by decide +kernel
theorem dX9_readLineOf_85 : decode cX9_readLineOf 85 = .ok (.bipush 112, 2) := by decide +kernel
theorem dX9_readLineOf_87 : decode cX9_readLineOf 87 = .ok (.dup2, 1) := by decide +kernel
theorem dX9_readLineOf_88 : decode cX9_readLineOf 88 = .ok (.iaload, 1) := by decide +kernel
theorem dX9_readLineOf_89 : decode cX9_readLineOf 89 = .ok (.iconst 1, 1) := by decide +kernel
theorem dX9_readLineOf_90 : decode cX9_readLineOf 90 = .ok (.iadd, 1) := by decide +kernel
theorem dX9_readLineOf_91 : decode cX9_readLineOf 91 = .ok (.iastore, 1) := by decide +kernel
theorem dX9_readLineOf_92 : decode cX9_readLineOf 92 = .ok (.goto 8, 3) := by decide +kernel
theorem dX9_readLineOf_95 : decode cX9_readLineOf 95 = .ok (.aload_n 0, 1) := by decide +kernel
theorem dX9_readLineOf_96 : decode cX9_readLineOf 96 = .ok (.iload_n 1, 1) := by decide +kernel
theorem dX9_readLineOf_97 : decode cX9_readLineOf 97 = .ok (.invokevirtual 159, 3) := by decide +kernel
theorem dX9_readLineOf_100 : decode cX9_readLineOf 100 = .ok (.return_, 1) := by decide +kernel
theorem dX9_readLine_0 : decode cX9_readLine 0 = .ok (.aload_n 0, 1) := by decide +kernel
theorem dX9_readLine_1 : decode cX9_readLine 1 = .ok (.getfield 121, 3) := by decide +kernel
theorem dX9_readLine_4 : decode cX9_readLine 4 = .ok (.iconst 1, 1) := by decide +kernel
theorem dX9_readLine_5 : decode cX9_readLine 5 = .ok (.if_icmp .ne 10, 3) := by decide +kernel
theorem dX9_readLine_8 : decode cX9_readLine 8 = .ok (.aload_n 0, 1) := by decide +kernel
theorem dX9_readLine_9 : decode cX9_readLine 9 = .ok (.invokevirtual 163, 3) := by decide +kernel
theorem dX9_readLine_12 : decode cX9_readLine 12 = .ok (.goto 5, 3) := by decide +kernel
theorem dX9_readLine_15 : decode cX9_readLine 15 = .ok (.bipush (-4), 2) := by decide +kernel
theorem dX9_readLine_17 : decode cX9_readLine 17 = .ok (.istore_n 1, 1) := by decide +kernel
theorem dX9_readLine_18 : decode cX9_readLine 18 = .ok (.aload_n 0, 1) := by decide +kernel
theorem dX9_readLine_19 : decode cX9_readLine 19 = .ok (.iload_n 1, 1) := by decide +kernel
theorem dX9_readLine_20 : decode cX9_readLine 20 = .ok (.bipush (-4), 2) := by decide +kernel
theorem dX9_readLine_22 : decode cX9_readLine 22 = .ok (.if_icmp .eq 7, 3) := by decide +kernel
theorem dX9_readLine_25 : decode cX9_readLine 25 = .ok (.iconst 1, 1) := by decide +kernel
theorem dX9_readLine_26 : decode cX9_readLine 26 = .ok (.goto 4, 3) := by decide +kernel
theorem dX9_readLine_29 : decode cX9_readLine 29 = .ok (.iconst 0, 1) := by decide +kernel
theorem dX9_readLine_30 : decode cX9_readLine 30 = .ok (.iconst 2, 1) := by decide +kernel
theorem dX9_readLine_31 : decode cX9_readLine 31 = .ok (.invokevirtual 135, 3) := by decide +kernel
theorem dX9_readLine_34 : decode cX9_readLine 34 = .ok (.aload_n 0, 1) := by decide +kernel
theorem dX9_readLine_35 : decode cX9_readLine 35 = .ok (.iload_n 1, 1) := by decide +kernel
theorem dX9_readLine_36 : decode cX9_readLine 36 = .ok (.iconst 3, 1) := by decide +kernel
theorem dX9_readLine_37 : decode cX9_readLine 37 = .ok (.if_icmp .ne 14, 3) := by decide +kernel
theorem dX9_readLine_40 : decode cX9_readLine 40 = .ok (.aload_n 0, 1) := by decide +kernel
theorem dX9_readLine_41 : decode cX9_readLine 41 = .ok (.getfield 17, 3) := by decide +kernel
theorem dX9_readLine_44 : decode cX9_readLine 44 = .ok (.iconst 0, 1) := by decide +kernel
theorem dX9_readLine_45 : decode cX9_readLine 45 = .ok (.iaload, 1) := by decide +kernel
theorem dX9_readLine_46 : decode cX9_readLine 46 = .ok (.bipush 8, 2) := by decide +kernel
theorem dX9_readLine_48 : decode cX9_readLine 48 = .ok (.if_icmp .ge 45, 3) := by decide +kernel
theorem dX9_readLine_51 : decode cX9_readLine 51 = .ok (.iload_n 1, 1) := by decide +kernel
theorem dX9_readLine_52 : decode cX9_readLine 52 = .ok (.ifCond .eq 8, 3) := by decide +kernel
theorem dX9_readLine_55 : decode cX9_readLine 55 = .ok (.iload_n 1, 1) := by decide +kernel
theorem dX9_readLine_56 : decode cX9_readLine 56 = .ok (.iconst 1, 1) := by decide +kernel
theorem dX9_readLine_57 : decode cX9_readLine 57 = .ok (.if_icmp .ne 15, 3) := by decide +kernel
theorem dX9_readLine_60 : decode cX9_readLine 60 = .ok (.aload_n 0, 1) := by decide +kernel
theorem dX9_readLine_61 : decode cX9_readLine 61 = .ok (.getfield 17, 3) := by decide +kernel
theorem dX9_readLine_64 : decode cX9_readLine 64 = .ok (.bipush 41, 2) := by decide +kernel
theorem dX9_readLine_66 : decode cX9_readLine 66 = .ok (.iaload, 1) := by decide +kernel
theorem dX9_readLine_67 : decode cX9_readLine 67 = .ok (.bipush 10, 2) := by decide +kernel
theorem dX9_readLine_69 : decode cX9_readLine 69 = .ok (.if_icmp .ge 24, 3) := by decide +kernel
theorem dX9_readLine_72 : decode cX9_readLine 72 = .ok (.iload_n 1, 1) := by decide +kernel
theorem dX9_readLine_73 : decode cX9_readLine 73 = .ok (.iconst 5, 1) := by decide +kernel
theorem dX9_readLine_74 : decode cX9_readLine 74 = .ok (.if_icmp .ne 15, 3) := by decide +kernel
theorem dX9_readLine_77 : decode cX9_readLine 77 = .ok (.aload_n 0, 1) := by decide +kernel
theorem dX9_readLine_78 : decode cX9_readLine 78 = .ok (.getfield 17, 3) := by decide +kernel
theorem dX9_readLine_81 : decode cX9_readLine 81 = .ok (.bipush 112, 2) := by decide +kernel
theorem dX9_readLine_83 : decode cX9_readLine 83 = .ok (.iaload, 1) := by decide +kernel
theorem dX9_readLine_84 : decode cX9_readLine 84 = .ok (.bipush 6, 2) := by decide +kernel
theorem dX9_readLine_86 : decode cX9_readLine 86 = .ok (.if_icmp .ge 7, 3) := by decide +kernel
theorem dX9_readLine_89 : decode cX9_readLine 89 = .ok (.iconst 1, 1) := by decide +kernel
theorem dX9_readLine_90 : decode cX9_readLine 90 = .ok (.goto 4, 3) := by decide +kernel
theorem dX9_readLine_93 : decode cX9_readLine 93 = .ok (.iconst 0, 1) := by decide +kernel
theorem dX9_readLine_94 : decode cX9_readLine 94 = .ok (.iconst 5, 1) := by decide +kernel
theorem dX9_readLine_95 : decode cX9_readLine 95 = .ok (.invokevirtual 135, 3) := by decide +kernel
theorem dX9_readLine_98 : decode cX9_readLine 98 = .ok (.aload_n 0, 1) := by decide +kernel
theorem dX9_readLine_99 : decode cX9_readLine 99 = .ok (.iload_n 1, 1) := by decide +kernel
theorem dX9_readLine_100 : decode cX9_readLine 100 = .ok (.iconst 2, 1) := by decide +kernel
theorem dX9_readLine_101 : decode cX9_readLine 101 = .ok (.if_icmp .ne 10, 3) := by decide +kernel
theorem dX9_readLine_104 : decode cX9_readLine 104 = .ok (.aload_n 0, 1) := by decide +kernel
theorem dX9_readLine_105 : decode cX9_readLine 105 = .ok (.getfield 75, 3) := by decide +kernel
theorem dX9_readLine_108 : decode cX9_readLine 108 = .ok (.ifCond .ne 7, 3) := by decide +kernel
theorem dX9_readLine_111 : decode cX9_readLine 111 = .ok (.iconst 1, 1) := by decide +kernel
theorem dX9_readLine_112 : decode cX9_readLine 112 = .ok (.goto 4, 3) := by decide +kernel
theorem dX9_readLine_115 : decode cX9_readLine 115 = .ok (.iconst 0, 1) := by decide +kernel
theorem dX9_readLine_116 : decode cX9_readLine 116 = .ok (.iconst 4, 1) := by decide +kernel
theorem dX9_readLine_117 : decode cX9_readLine 117 = .ok (.invokevirtual 135, 3) := by decide +kernel
theorem dX9_readLine_120 : decode cX9_readLine 120 = .ok (.aload_n 0, 1) := by decide +kernel
theorem dX9_readLine_121 : decode cX9_readLine 121 = .ok (.aload_n 0, 1) := by decide +kernel
theorem dX9_readLine_122 : decode cX9_readLine 122 = .ok (.getfield 75, 3) := by decide +kernel
theorem dX9_readLine_125 : decode cX9_readLine 125 = .ok (.ifCond .ne 8, 3) := by decide +kernel
theorem dX9_readLine_128 : decode cX9_readLine 128 = .ok (.iload_n 1, 1) := by decide +kernel
theorem dX9_readLine_129 : decode cX9_readLine 129 = .ok (.iconst 2, 1) := by decide +kernel
theorem dX9_readLine_130 : decode cX9_readLine 130 = .ok (.if_icmp .ne 7, 3) := by decide +kernel
theorem dX9_readLine_133 : decode cX9_readLine 133 = .ok (.iconst 1, 1) := by decide +kernel
theorem dX9_readLine_134 : decode cX9_readLine 134 = .ok (.goto 4, 3) := by decide +kernel
theorem dX9_readLine_137 : decode cX9_readLine 137 = .ok (.iconst 0, 1) := by decide +kernel
theorem dX9_readLine_138 : decode cX9_readLine 138 = .ok (.putfield 75, 3) := by decide +kernel
theorem dX9_readLine_141 : decode cX9_readLine 141 = .ok (.aload_n 0, 1) := by decide +kernel
theorem dX9_readLine_142 : decode cX9_readLine 142 = .ok (.invokevirtual 139, 3) := by decide +kernel
theorem dX9_readLine_145 : decode cX9_readLine 145 = .ok (.aload_n 0, 1) := by decide +kernel
theorem dX9_readLine_146 : decode cX9_readLine 146 = .ok (.getfield 97, 3) := by decide +kernel
theorem dX9_readLine_149 : decode cX9_readLine 149 = .ok (.ifCond .le 4, 3) := by decide +kernel
theorem dX9_readLine_152 : decode cX9_readLine 152 = .ok (.return_, 1) := by decide +kernel
theorem dX9_readLine_153 : decode cX9_readLine 153 = .ok (.aload_n 0, 1) := by decide +kernel
theorem dX9_readLine_154 : decode cX9_readLine 154 = .ok (.iload_n 1, 1) := by decide +kernel
theorem dX9_readLine_155 : decode cX9_readLine 155 = .ok (.invokevirtual 166, 3) := by decide +kernel
theorem dX9_readLine_158 : decode cX9_readLine 158 = .ok (.aload_n 0, 1) := by decide +kernel
theorem dX9_readLine_159 : decode cX9_readLine 159 = .ok (.getfield 97, 3) := by decide +kernel
theorem dX9_readLine_162 : decode cX9_readLine 162 = .ok (.ifCond .ne 21, 3) := by decide +kernel
theorem dX9_readLine_165 : decode cX9_readLine 165 = .ok (.aload_n 0, 1) := by decide +kernel
theorem dX9_readLine_166 : decode cX9_readLine 166 = .ok (.aload_n 0, 1) := by decide +kernel
theorem dX9_readLine_167 : decode cX9_readLine 167 = .ok (.getfield 121, 3) := by decide +kernel
theorem dX9_readLine_170 : decode cX9_readLine 170 = .ok (.iconst 3, 1) := by decide +kernel
theorem dX9_readLine_171 : decode cX9_readLine 171 = .ok (.if_icmp .ne 7, 3) := by decide +kernel
theorem dX9_readLine_174 : decode cX9_readLine 174 = .ok (.iconst 1, 1) := by decide +kernel
theorem dX9_readLine_175 : decode cX9_readLine 175 = .ok (.goto 4, 3) := by decide +kernel
theorem dX9_readLine_178 : decode cX9_readLine 178 = .ok (.iconst 0, 1) := by decide +kernel
theorem dX9_readLine_179 : decode cX9_readLine 179 = .ok (.iconst 2, 1) := by decide +kernel
theorem dX9_readLine_180 : decode cX9_readLine 180 = .ok (.invokevirtual 135, 3) := by decide +kernel
theorem dX9_readLine_183 : decode cX9_readLine 183 = .ok (.aload_n 0, 1) := by decide +kernel
theorem dX9_readLine_184 : decode cX9_readLine 184 = .ok (.invokevirtual 139, 3) := by decide +kernel
theorem dX9_readLine_187 : decode cX9_readLine 187 = .ok (.return_, 1) := by decide +kernel
theorem dX9_text_0 : decode cX9_text 0 = .ok (.iconst 0, 1) := by decide +kernel
theorem dX9_text_1 : decode cX9_text 1 = .ok (.istore_n 1, 1) := by decide +kernel
theorem dX9_text_2 : decode cX9_text 2 = .ok (.aload_n 0, 1) := by decide +kernel
theorem dX9_text_3 : decode cX9_text 3 = .ok (.iconst 0, 1) := by decide +kernel
theorem dX9_text_4 : decode cX9_text 4 = .ok (.putfield 97, 3) := by decide +kernel
theorem dX9_text_7 : decode cX9_text 7 = .ok (.aload_n 0, 1) := by decide +kernel
theorem dX9_text_8 : decode cX9_text 8 = .ok (.iconst 0, 1) := by decide +kernel
theorem dX9_text_9 : decode cX9_text 9 = .ok (.putfield 106, 3) := by decide +kernel
theorem dX9_text_12 : decode cX9_text 12 = .ok (.aload_n 0, 1) := by decide +kernel
theorem dX9_text_13 : decode cX9_text 13 = .ok (.invokevirtual 65, 3) := by decide +kernel
theorem dX9_text_16 : decode cX9_text 16 = .ok (.aload_n 0, 1) := by decide +kernel
theorem dX9_text_17 : decode cX9_text 17 = .ok (.invokevirtual 139, 3) := by decide +kernel
theorem dX9_text_20 : decode cX9_text 20 = .ok (.aload_n 0, 1) := by decide +kernel
theorem dX9_text_21 : decode cX9_text 21 = .ok (.getfield 97, 3) := by decide +kernel
theorem dX9_text_24 : decode cX9_text 24 = .ok (.ifCond .ne 20, 3) := by decide +kernel
theorem dX9_text_27 : decode cX9_text 27 = .ok (.aload_n 0, 1) := by decide +kernel
theorem dX9_text_28 : decode cX9_text 28 = .ok (.getfield 121, 3) := by decide +kernel
theorem dX9_text_31 : decode cX9_text 31 = .ok (.ifCond .eq 13, 3) := by decide +kernel
theorem dX9_text_34 : decode cX9_text 34 = .ok (.aload_n 0, 1) := by decide +kernel
theorem dX9_text_35 : decode cX9_text 35 = .ok (.invokevirtual 169, 3) := by decide +kernel
theorem dX9_text_38 : decode cX9_text 38 = .ok (.iinc 1 1, 3) := by decide +kernel
theorem dX9_text_41 : decode cX9_text 41 = .ok (.goto (-21), 3) := by decide +kernel
theorem dX9_text_44 : decode cX9_text 44 = .ok (.aload_n 0, 1) := by decide +kernel
theorem dX9_text_45 : decode cX9_text 45 = .ok (.getfield 97, 3) := by decide +kernel
theorem dX9_text_48 : decode cX9_text 48 = .ok (.ifCond .ne 41, 3) := by decide +kernel
theorem dX9_text_51 : decode cX9_text 51 = .ok (.aload_n 0, 1) := by decide +kernel
theorem dX9_text_52 : decode cX9_text 52 = .ok (.aload_n 0, 1) := by decide +kernel
theorem dX9_text_53 : decode cX9_text 53 = .ok (.getfield 79, 3) := by decide +kernel
theorem dX9_text_56 : decode cX9_text 56 = .ok (.aload_n 0, 1) := by decide +kernel
theorem dX9_text_57 : decode cX9_text 57 = .ok (.getfield 17, 3) := by decide +kernel
theorem dX9_text_60 : decode cX9_text 60 = .ok (.iconst 0, 1) := by decide +kernel
theorem dX9_text_61 : decode cX9_text 61 = .ok (.iaload, 1) := by decide +kernel
theorem dX9_text_62 : decode cX9_text 62 = .ok (.if_icmp .ge 21, 3) := by decide +kernel
theorem dX9_text_65 : decode cX9_text 65 = .ok (.aload_n 0, 1) := by decide +kernel
theorem dX9_text_66 : decode cX9_text 66 = .ok (.getfield 82, 3) := by decide +kernel
theorem dX9_text_69 : decode cX9_text 69 = .ok (.aload_n 0, 1) := by decide +kernel
theorem dX9_text_70 : decode cX9_text 70 = .ok (.getfield 17, 3) := by decide +kernel
theorem dX9_text_73 : decode cX9_text 73 = .ok (.bipush 41, 2) := by decide +kernel
theorem dX9_text_75 : decode cX9_text 75 = .ok (.iaload, 1) := by decide +kernel
theorem dX9_text_76 : decode cX9_text 76 = .ok (.if_icmp .ge 7, 3) := by decide +kernel
theorem dX9_text_79 : decode cX9_text 79 = .ok (.iconst 1, 1) := by decide +kernel
theorem dX9_text_80 : decode cX9_text 80 = .ok (.goto 4, 3) := by decide +kernel
theorem dX9_text_83 : decode cX9_text 83 = .ok (.iconst 0, 1) := by decide +kernel
theorem dX9_text_84 : decode cX9_text 84 = .ok (.bipush 6, 2) := by decide +kernel
theorem dX9_text_86 : decode cX9_text 86 = .ok (.invokevirtual 135, 3) := by decide +kernel
theorem dX9_text_89 : decode cX9_text 89 = .ok (.aload_n 0, 1) := by decide +kernel
theorem dX9_text_90 : decode cX9_text 90 = .ok (.iconst 0, 1) := by decide +kernel
theorem dX9_text_91 : decode cX9_text 91 = .ok (.putfield 88, 3) := by decide +kernel
theorem dX9_text_94 : decode cX9_text 94 = .ok (.aload_n 0, 1) := by decide +kernel
theorem dX9_text_95 : decode cX9_text 95 = .ok (.getfield 97, 3) := by decide +kernel
theorem dX9_text_98 : decode cX9_text 98 = .ok (.ifCond .le 11, 3) := by decide +kernel
theorem dX9_text_101 : decode cX9_text 101 = .ok (.bipush (-10), 2) := by decide +kernel
theorem dX9_text_103 : decode cX9_text 103 = .ok (.aload_n 0, 1) := by decide +kernel
theorem dX9_text_104 : decode cX9_text 104 = .ok (.getfield 103, 3) := by decide +kernel
theorem dX9_text_107 : decode cX9_text 107 = .ok (.isub, 1) := by decide +kernel
theorem dX9_text_108 : decode cX9_text 108 = .ok (.ireturn, 1) := by decide +kernel
theorem dX9_text_109 : decode cX9_text 109 = .ok (.aload_n 0, 1) := by decide +kernel
theorem dX9_text_110 : decode cX9_text 110 = .ok (.invokevirtual 68, 3) := by decide +kernel
theorem dX9_text_113 : decode cX9_text 113 = .ok (.iload_n 1, 1) := by decide +kernel
theorem dX9_text_114 : decode cX9_text 114 = .ok (.ireturn, 1) := by decide +kernel
theorem dX9_fault_0 : decode cX9_fault 0 = .ok (.aload_n 0, 1) := by decide +kernel
theorem dX9_fault_1 : decode cX9_fault 1 = .ok (.getfield 97, 3) := by decide +kernel
theorem dX9_fault_4 : decode cX9_fault 4 = .ok (.ireturn, 1) := by decide +kernel
theorem dX9_isChild_0 : decode cX9_isChild 0 = .ok (.iload_n 1, 1) := by decide +kernel
theorem dX9_isChild_1 : decode cX9_isChild 1 = .ok (.i2l, 1) := by decide +kernel
theorem dX9_isChild_2 : decode cX9_isChild 2 = .ok (.lconst 0, 1) := by decide +kernel
theorem dX9_isChild_3 : decode cX9_isChild 3 = .ok (.aload_n 0, 1) := by decide +kernel
theorem dX9_isChild_4 : decode cX9_isChild 4 = .ok (.getfield 7, 3) := by decide +kernel
theorem dX9_isChild_7 : decode cX9_isChild 7 = .ok (.iconst 0, 1) := by decide +kernel
theorem dX9_isChild_8 : decode cX9_isChild 8 = .ok (.iaload, 1) := by decide +kernel
theorem dX9_isChild_9 : decode cX9_isChild 9 = .ok (.iconst 1, 1) := by decide +kernel
theorem dX9_isChild_10 : decode cX9_isChild 10 = .ok (.isub, 1) := by decide +kernel
theorem dX9_isChild_11 : decode cX9_isChild 11 = .ok (.i2l, 1) := by decide +kernel
theorem dX9_isChild_12 : decode cX9_isChild 12 = .ok (.invokestatic 93, 3) := by decide +kernel
theorem dX9_isChild_15 : decode cX9_isChild 15 = .ok (.ireturn, 1) := by decide +kernel
theorem dX9_isThing_0 : decode cX9_isThing 0 = .ok (.iload_n 1, 1) := by decide +kernel
theorem dX9_isThing_1 : decode cX9_isThing 1 = .ok (.i2l, 1) := by decide +kernel
theorem dX9_isThing_2 : decode cX9_isThing 2 = .ok (.lconst 0, 1) := by decide +kernel
theorem dX9_isThing_3 : decode cX9_isThing 3 = .ok (.aload_n 0, 1) := by decide +kernel
theorem dX9_isThing_4 : decode cX9_isThing 4 = .ok (.getfield 7, 3) := by decide +kernel
theorem dX9_isThing_7 : decode cX9_isThing 7 = .ok (.bipush 41, 2) := by decide +kernel
theorem dX9_isThing_9 : decode cX9_isThing 9 = .ok (.iaload, 1) := by decide +kernel
theorem dX9_isThing_10 : decode cX9_isThing 10 = .ok (.iconst 1, 1) := by decide +kernel
theorem dX9_isThing_11 : decode cX9_isThing 11 = .ok (.isub, 1) := by decide +kernel
theorem dX9_isThing_12 : decode cX9_isThing 12 = .ok (.i2l, 1) := by decide +kernel
theorem dX9_isThing_13 : decode cX9_isThing 13 = .ok (.invokestatic 93, 3) := by decide +kernel
theorem dX9_isThing_16 : decode cX9_isThing 16 = .ok (.ireturn, 1) := by decide +kernel
theorem dX9_isSlot_0 : decode cX9_isSlot 0 = .ok (.iload_n 0, 1) := by decide +kernel
theorem dX9_isSlot_1 : decode cX9_isSlot 1 = .ok (.i2l, 1) := by decide +kernel
theorem dX9_isSlot_2 : decode cX9_isSlot 2 = .ok (.lconst 0, 1) := by decide +kernel
theorem dX9_isSlot_3 : decode cX9_isSlot 3 = .ok (.lconst 1, 1) := by decide +kernel
theorem dX9_isSlot_4 : decode cX9_isSlot 4 = .ok (.invokestatic 93, 3) := by decide +kernel
theorem dX9_isSlot_7 : decode cX9_isSlot 7 = .ok (.ireturn, 1) := by decide +kernel
theorem dX9_of_0 : decode cX9_of 0 = .ok (.aload_n 0, 1) := by decide +kernel
theorem dX9_of_1 : decode cX9_of 1 = .ok (.getfield 7, 3) := by decide +kernel
theorem dX9_of_4 : decode cX9_of 4 = .ok (.bipush 42, 2) := by decide +kernel
theorem dX9_of_6 : decode cX9_of 6 = .ok (.bipush 7, 2) := by decide +kernel
theorem dX9_of_8 : decode cX9_of 8 = .ok (.iload_n 1, 1) := by decide +kernel
theorem dX9_of_9 : decode cX9_of 9 = .ok (.imul, 1) := by decide +kernel
theorem dX9_of_10 : decode cX9_of 10 = .ok (.iadd, 1) := by decide +kernel
theorem dX9_of_11 : decode cX9_of 11 = .ok (.iload_n 2, 1) := by decide +kernel
theorem dX9_of_12 : decode cX9_of 12 = .ok (.iadd, 1) := by decide +kernel
theorem dX9_of_13 : decode cX9_of 13 = .ok (.iaload, 1) := by decide +kernel
theorem dX9_of_14 : decode cX9_of 14 = .ok (.ireturn, 1) := by decide +kernel
theorem dX9_worn_0 : decode cX9_worn 0 = .ok (.aload_n 0, 1) := by decide +kernel
theorem dX9_worn_1 : decode cX9_worn 1 = .ok (.getfield 7, 3) := by decide +kernel
theorem dX9_worn_4 : decode cX9_worn 4 = .ok (.iconst 1, 1) := by decide +kernel
theorem dX9_worn_5 : decode cX9_worn 5 = .ok (.iconst 5, 1) := by decide +kernel
theorem dX9_worn_6 : decode cX9_worn 6 = .ok (.iload_n 1, 1) := by decide +kernel
theorem dX9_worn_7 : decode cX9_worn 7 = .ok (.imul, 1) := by decide +kernel
theorem dX9_worn_8 : decode cX9_worn 8 = .ok (.iadd, 1) := by decide +kernel
theorem dX9_worn_9 : decode cX9_worn 9 = .ok (.iconst 3, 1) := by decide +kernel
theorem dX9_worn_10 : decode cX9_worn 10 = .ok (.iadd, 1) := by decide +kernel
theorem dX9_worn_11 : decode cX9_worn 11 = .ok (.iload_n 2, 1) := by decide +kernel
theorem dX9_worn_12 : decode cX9_worn 12 = .ok (.iadd, 1) := by decide +kernel
theorem dX9_worn_13 : decode cX9_worn 13 = .ok (.iaload, 1) := by decide +kernel
theorem dX9_worn_14 : decode cX9_worn 14 = .ok (.ireturn, 1) := by decide +kernel
theorem dX9_whoWears_0 : decode cX9_whoWears 0 = .ok (.bipush (-4), 2) := by decide +kernel
theorem dX9_whoWears_2 : decode cX9_whoWears 2 = .ok (.istore_n 2, 1) := by decide +kernel
theorem dX9_whoWears_3 : decode cX9_whoWears 3 = .ok (.iconst 0, 1) := by decide +kernel
theorem dX9_whoWears_4 : decode cX9_whoWears 4 = .ok (.istore_n 3, 1) := by decide +kernel
theorem dX9_whoWears_5 : decode cX9_whoWears 5 = .ok (.iload_n 3, 1) := by decide +kernel
theorem dX9_whoWears_6 : decode cX9_whoWears 6 = .ok (.aload_n 0, 1) := by decide +kernel
theorem dX9_whoWears_7 : decode cX9_whoWears 7 = .ok (.getfield 7, 3) := by decide +kernel
theorem dX9_whoWears_10 : decode cX9_whoWears 10 = .ok (.iconst 0, 1) := by decide +kernel
theorem dX9_whoWears_11 : decode cX9_whoWears 11 = .ok (.iaload, 1) := by decide +kernel
theorem dX9_whoWears_12 : decode cX9_whoWears 12 = .ok (.if_icmp .ge 30, 3) := by decide +kernel
theorem dX9_whoWears_15 : decode cX9_whoWears 15 = .ok (.aload_n 0, 1) := by decide +kernel
theorem dX9_whoWears_16 : decode cX9_whoWears 16 = .ok (.iload_n 3, 1) := by decide +kernel
theorem dX9_whoWears_17 : decode cX9_whoWears 17 = .ok (.aload_n 0, 1) := by decide +kernel
theorem dX9_whoWears_18 : decode cX9_whoWears 18 = .ok (.iload_n 1, 1) := by decide +kernel
theorem dX9_whoWears_19 : decode cX9_whoWears 19 = .ok (.iconst 0, 1) := by decide +kernel
theorem dX9_whoWears_20 : decode cX9_whoWears 20 = .ok (.invokevirtual 172, 3) := by decide +kernel
theorem dX9_whoWears_23 : decode cX9_whoWears 23 = .ok (.invokevirtual 175, 3) := by decide +kernel
theorem dX9_whoWears_26 : decode cX9_whoWears 26 = .ok (.iload_n 1, 1) := by decide +kernel
theorem dX9_whoWears_27 : decode cX9_whoWears 27 = .ok (.if_icmp .ne 7, 3) := by decide +kernel
theorem dX9_whoWears_30 : decode cX9_whoWears 30 = .ok (.iload_n 3, 1) := by decide +kernel
theorem dX9_whoWears_31 : decode cX9_whoWears 31 = .ok (.goto 4, 3) := by decide +kernel
theorem dX9_whoWears_34 : decode cX9_whoWears 34 = .ok (.iload_n 2, 1) := by decide +kernel
theorem dX9_whoWears_35 : decode cX9_whoWears 35 = .ok (.istore_n 2, 1) := by decide +kernel
theorem dX9_whoWears_36 : decode cX9_whoWears 36 = .ok (.iinc 3 1, 3) := by decide +kernel
theorem dX9_whoWears_39 : decode cX9_whoWears 39 = .ok (.goto (-34), 3) := by decide +kernel
theorem dX9_whoWears_42 : decode cX9_whoWears 42 = .ok (.iload_n 2, 1) := by decide +kernel
theorem dX9_whoWears_43 : decode cX9_whoWears 43 = .ok (.ireturn, 1) := by decide +kernel
theorem dX9_child_0 : decode cX9_child 0 = .ok (.aload_n 0, 1) := by decide +kernel
theorem dX9_child_1 : decode cX9_child 1 = .ok (.iload_n 1, 1) := by decide +kernel
theorem dX9_child_2 : decode cX9_child 2 = .ok (.invokevirtual 178, 3) := by decide +kernel
theorem dX9_child_5 : decode cX9_child 5 = .ok (.ifCond .ne 5, 3) := by decide +kernel
theorem dX9_child_8 : decode cX9_child 8 = .ok (.iconst (-1), 1) := by decide +kernel
theorem dX9_child_9 : decode cX9_child 9 = .ok (.ireturn, 1) := by decide +kernel
theorem dX9_child_10 : decode cX9_child 10 = .ok (.iload_n 2, 1) := by decide +kernel
theorem dX9_child_11 : decode cX9_child 11 = .ok (.i2l, 1) := by decide +kernel
theorem dX9_child_12 : decode cX9_child 12 = .ok (.lconst 0, 1) := by decide +kernel
theorem dX9_child_13 : decode cX9_child 13 = .ok (.ldc2_w 182, 3) := by decide +kernel
theorem dX9_child_16 : decode cX9_child 16 = .ok (.invokestatic 93, 3) := by decide +kernel
theorem dX9_child_19 : decode cX9_child 19 = .ok (.ifCond .eq 18, 3) := by decide +kernel
theorem dX9_child_22 : decode cX9_child 22 = .ok (.aload_n 0, 1) := by decide +kernel
theorem dX9_child_23 : decode cX9_child 23 = .ok (.getfield 7, 3) := by decide +kernel
theorem dX9_child_26 : decode cX9_child 26 = .ok (.iconst 1, 1) := by decide +kernel
theorem dX9_child_27 : decode cX9_child 27 = .ok (.iconst 5, 1) := by decide +kernel
theorem dX9_child_28 : decode cX9_child 28 = .ok (.iload_n 1, 1) := by decide +kernel
theorem dX9_child_29 : decode cX9_child 29 = .ok (.imul, 1) := by decide +kernel
theorem dX9_child_30 : decode cX9_child 30 = .ok (.iadd, 1) := by decide +kernel
theorem dX9_child_31 : decode cX9_child 31 = .ok (.iload_n 2, 1) := by decide +kernel
theorem dX9_child_32 : decode cX9_child 32 = .ok (.iadd, 1) := by decide +kernel
theorem dX9_child_33 : decode cX9_child 33 = .ok (.iaload, 1) := by decide +kernel
theorem dX9_child_34 : decode cX9_child 34 = .ok (.goto 30, 3) := by decide +kernel
theorem dX9_child_37 : decode cX9_child 37 = .ok (.iload_n 2, 1) := by decide +kernel
theorem dX9_child_38 : decode cX9_child 38 = .ok (.i2l, 1) := by decide +kernel
theorem dX9_child_39 : decode cX9_child 39 = .ok (.ldc2_w 184, 3) := by decide +kernel
theorem dX9_child_42 : decode cX9_child 42 = .ok (.ldc2_w 186, 3) := by decide +kernel
theorem dX9_child_45 : decode cX9_child 45 = .ok (.invokestatic 93, 3) := by decide +kernel
theorem dX9_child_48 : decode cX9_child 48 = .ok (.ifCond .eq 15, 3) := by decide +kernel
theorem dX9_child_51 : decode cX9_child 51 = .ok (.aload_n 0, 1) := by decide +kernel
theorem dX9_child_52 : decode cX9_child 52 = .ok (.iload_n 1, 1) := by decide +kernel
theorem dX9_child_53 : decode cX9_child 53 = .ok (.iload_n 2, 1) := by decide +kernel
theorem dX9_child_54 : decode cX9_child 54 = .ok (.bipush 10, 2) := by decide +kernel
theorem dX9_child_56 : decode cX9_child 56 = .ok (.isub, 1) := by decide +kernel
theorem dX9_child_57 : decode cX9_child 57 = .ok (.invokevirtual 175, 3) := by decide +kernel
theorem dX9_child_60 : decode cX9_child 60 = .ok (.goto 4, 3) := by decide +kernel
theorem dX9_child_63 : decode cX9_child 63 = .ok (.iconst (-1), 1) := by decide +kernel
theorem dX9_child_64 : decode cX9_child 64 = .ok (.ireturn, 1) := by decide +kernel
theorem dX9_thing_0 : decode cX9_thing 0 = .ok (.aload_n 0, 1) := by decide +kernel
theorem dX9_thing_1 : decode cX9_thing 1 = .ok (.iload_n 1, 1) := by decide +kernel
theorem dX9_thing_2 : decode cX9_thing 2 = .ok (.invokevirtual 188, 3) := by decide +kernel
theorem dX9_thing_5 : decode cX9_thing 5 = .ok (.ifCond .ne 7, 3) := by decide +kernel
theorem dX9_thing_8 : decode cX9_thing 8 = .ok (.iconst (-1), 1) := by decide +kernel
theorem dX9_thing_9 : decode cX9_thing 9 = .ok (.goto 39, 3) := by decide +kernel
theorem dX9_thing_12 : decode cX9_thing 12 = .ok (.iload_n 2, 1) := by decide +kernel
theorem dX9_thing_13 : decode cX9_thing 13 = .ok (.i2l, 1) := by decide +kernel
theorem dX9_thing_14 : decode cX9_thing 14 = .ok (.lconst 0, 1) := by decide +kernel
theorem dX9_thing_15 : decode cX9_thing 15 = .ok (.ldc2_w 191, 3) := by decide +kernel
theorem dX9_thing_18 : decode cX9_thing 18 = .ok (.invokestatic 93, 3) := by decide +kernel
theorem dX9_thing_21 : decode cX9_thing 21 = .ok (.ifCond .eq 12, 3) := by decide +kernel
theorem dX9_thing_24 : decode cX9_thing 24 = .ok (.aload_n 0, 1) := by decide +kernel
theorem dX9_thing_25 : decode cX9_thing 25 = .ok (.iload_n 1, 1) := by decide +kernel
theorem dX9_thing_26 : decode cX9_thing 26 = .ok (.iload_n 2, 1) := by decide +kernel
theorem dX9_thing_27 : decode cX9_thing 27 = .ok (.invokevirtual 172, 3) := by decide +kernel
theorem dX9_thing_30 : decode cX9_thing 30 = .ok (.goto 18, 3) := by decide +kernel
theorem dX9_thing_33 : decode cX9_thing 33 = .ok (.iload_n 2, 1) := by decide +kernel
theorem dX9_thing_34 : decode cX9_thing 34 = .ok (.bipush 7, 2) := by decide +kernel
theorem dX9_thing_36 : decode cX9_thing 36 = .ok (.if_icmp .ne 11, 3) := by decide +kernel
theorem dX9_thing_39 : decode cX9_thing 39 = .ok (.aload_n 0, 1) := by decide +kernel
theorem dX9_thing_40 : decode cX9_thing 40 = .ok (.iload_n 1, 1) := by decide +kernel
theorem dX9_thing_41 : decode cX9_thing 41 = .ok (.invokevirtual 193, 3) := by decide +kernel
theorem dX9_thing_44 : decode cX9_thing 44 = .ok (.goto 4, 3) := by decide +kernel
theorem dX9_thing_47 : decode cX9_thing 47 = .ok (.iconst (-1), 1) := by decide +kernel
theorem dX9_thing_48 : decode cX9_thing 48 = .ok (.ireturn, 1) := by decide +kernel
theorem dX9_slack_0 : decode cX9_slack 0 = .ok (.iload_n 1, 1) := by decide +kernel
theorem dX9_slack_1 : decode cX9_slack 1 = .ok (.i2l, 1) := by decide +kernel
theorem dX9_slack_2 : decode cX9_slack 2 = .ok (.lconst 0, 1) := by decide +kernel
theorem dX9_slack_3 : decode cX9_slack 3 = .ok (.ldc2_w 196, 3) := by decide +kernel
theorem dX9_slack_6 : decode cX9_slack 6 = .ok (.invokestatic 93, 3) := by decide +kernel
theorem dX9_slack_9 : decode cX9_slack 9 = .ok (.ifCond .ne 5, 3) := by decide +kernel
theorem dX9_slack_12 : decode cX9_slack 12 = .ok (.iconst (-1), 1) := by decide +kernel
theorem dX9_slack_13 : decode cX9_slack 13 = .ok (.ireturn, 1) := by decide +kernel
theorem dX9_slack_14 : decode cX9_slack 14 = .ok (.aload_n 0, 1) := by decide +kernel
theorem dX9_slack_15 : decode cX9_slack 15 = .ok (.getfield 85, 3) := by decide +kernel
theorem dX9_slack_18 : decode cX9_slack 18 = .ok (.istore_n 2, 1) := by decide +kernel
theorem dX9_slack_19 : decode cX9_slack 19 = .ok (.aload_n 0, 1) := by decide +kernel
theorem dX9_slack_20 : decode cX9_slack 20 = .ok (.iload_n 1, 1) := by decide +kernel
theorem dX9_slack_21 : decode cX9_slack 21 = .ok (.putfield 85, 3) := by decide +kernel
theorem dX9_slack_24 : decode cX9_slack 24 = .ok (.iload_n 2, 1) := by decide +kernel
theorem dX9_slack_25 : decode cX9_slack 25 = .ok (.ireturn, 1) := by decide +kernel
theorem dX9_like_0 : decode cX9_like 0 = .ok (.aload_n 0, 1) := by decide +kernel
theorem dX9_like_1 : decode cX9_like 1 = .ok (.iload_n 1, 1) := by decide +kernel
theorem dX9_like_2 : decode cX9_like 2 = .ok (.invokevirtual 178, 3) := by decide +kernel
theorem dX9_like_5 : decode cX9_like 5 = .ok (.ifCond .eq 23, 3) := by decide +kernel
theorem dX9_like_8 : decode cX9_like 8 = .ok (.aload_n 0, 1) := by decide +kernel
theorem dX9_like_9 : decode cX9_like 9 = .ok (.iload_n 2, 1) := by decide +kernel
theorem dX9_like_10 : decode cX9_like 10 = .ok (.invokevirtual 188, 3) := by decide +kernel
theorem dX9_like_13 : decode cX9_like 13 = .ok (.ifCond .eq 15, 3) := by decide +kernel
theorem dX9_like_16 : decode cX9_like 16 = .ok (.iload_n 3, 1) := by decide +kernel
theorem dX9_like_17 : decode cX9_like 17 = .ok (.i2l, 1) := by decide +kernel
theorem dX9_like_18 : decode cX9_like 18 = .ok (.lconst 0, 1) := by decide +kernel
theorem dX9_like_19 : decode cX9_like 19 = .ok (.ldc2_w 198, 3) := by decide +kernel
theorem dX9_like_22 : decode cX9_like 22 = .ok (.invokestatic 93, 3) := by decide +kernel
theorem dX9_like_25 : decode cX9_like 25 = .ok (.ifCond .ne 5, 3) := by decide +kernel
theorem dX9_like_28 : decode cX9_like 28 = .ok (.iconst (-1), 1) := by decide +kernel
theorem dX9_like_29 : decode cX9_like 29 = .ok (.ireturn, 1) := by decide +kernel
theorem dX9_like_30 : decode cX9_like 30 = .ok (.aload_n 0, 1) := by decide +kernel
theorem dX9_like_31 : decode cX9_like 31 = .ok (.getfield 7, 3) := by decide +kernel
theorem dX9_like_34 : decode cX9_like 34 = .ok (.bipush 119, 2) := by decide +kernel
theorem dX9_like_36 : decode cX9_like 36 = .ok (.bipush 10, 2) := by decide +kernel
theorem dX9_like_38 : decode cX9_like 38 = .ok (.iload_n 1, 1) := by decide +kernel
theorem dX9_like_39 : decode cX9_like 39 = .ok (.imul, 1) := by decide +kernel
theorem dX9_like_40 : decode cX9_like 40 = .ok (.iadd, 1) := by decide +kernel
theorem dX9_like_41 : decode cX9_like 41 = .ok (.iload_n 2, 1) := by decide +kernel
theorem dX9_like_42 : decode cX9_like 42 = .ok (.iadd, 1) := by decide +kernel
theorem dX9_like_43 : decode cX9_like 43 = .ok (.iaload, 1) := by decide +kernel
theorem dX9_like_44 : decode cX9_like 44 = .ok (.istore 4, 2) := by decide +kernel
theorem dX9_like_46 : decode cX9_like 46 = .ok (.aload_n 0, 1) := by decide +kernel
theorem dX9_like_47 : decode cX9_like 47 = .ok (.getfield 7, 3) := by decide +kernel
theorem dX9_like_50 : decode cX9_like 50 = .ok (.bipush 119, 2) := by decide +kernel
theorem dX9_like_52 : decode cX9_like 52 = .ok (.bipush 10, 2) := by decide +kernel
theorem dX9_like_54 : decode cX9_like 54 = .ok (.iload_n 1, 1) := by decide +kernel
theorem dX9_like_55 : decode cX9_like 55 = .ok (.imul, 1) := by decide +kernel
theorem dX9_like_56 : decode cX9_like 56 = .ok (.iadd, 1) := by decide +kernel
theorem dX9_like_57 : decode cX9_like 57 = .ok (.iload_n 2, 1) := by decide +kernel
theorem dX9_like_58 : decode cX9_like 58 = .ok (.iadd, 1) := by decide +kernel
theorem dX9_like_59 : decode cX9_like 59 = .ok (.iload_n 3, 1) := by decide +kernel
theorem dX9_like_60 : decode cX9_like 60 = .ok (.iastore, 1) := by decide +kernel
theorem dX9_like_61 : decode cX9_like 61 = .ok (.iload 4, 2) := by decide +kernel
theorem dX9_like_63 : decode cX9_like 63 = .ok (.ireturn, 1) := by decide +kernel
theorem dX9_isOut_0 : decode cX9_isOut 0 = .ok (.aload_n 0, 1) := by decide +kernel
theorem dX9_isOut_1 : decode cX9_isOut 1 = .ok (.iload_n 1, 1) := by decide +kernel
theorem dX9_isOut_2 : decode cX9_isOut 2 = .ok (.iconst 1, 1) := by decide +kernel
theorem dX9_isOut_3 : decode cX9_isOut 3 = .ok (.invokevirtual 172, 3) := by decide +kernel
theorem dX9_isOut_6 : decode cX9_isOut 6 = .ok (.iconst 1, 1) := by decide +kernel
theorem dX9_isOut_7 : decode cX9_isOut 7 = .ok (.if_icmp .eq 13, 3) := by decide +kernel
theorem dX9_isOut_10 : decode cX9_isOut 10 = .ok (.aload_n 0, 1) := by decide +kernel
theorem dX9_isOut_11 : decode cX9_isOut 11 = .ok (.iload_n 1, 1) := by decide +kernel
theorem dX9_isOut_12 : decode cX9_isOut 12 = .ok (.iconst 1, 1) := by decide +kernel
theorem dX9_isOut_13 : decode cX9_isOut 13 = .ok (.invokevirtual 172, 3) := by decide +kernel
theorem dX9_isOut_16 : decode cX9_isOut 16 = .ok (.iconst 3, 1) := by decide +kernel
theorem dX9_isOut_17 : decode cX9_isOut 17 = .ok (.if_icmp .ne 7, 3) := by decide +kernel
theorem dX9_isOut_20 : decode cX9_isOut 20 = .ok (.iconst 2, 1) := by decide +kernel
theorem dX9_isOut_21 : decode cX9_isOut 21 = .ok (.goto 4, 3) := by decide +kernel
theorem dX9_isOut_24 : decode cX9_isOut 24 = .ok (.iconst 1, 1) := by decide +kernel
theorem dX9_isOut_25 : decode cX9_isOut 25 = .ok (.istore_n 2, 1) := by decide +kernel
theorem dX9_isOut_26 : decode cX9_isOut 26 = .ok (.aload_n 0, 1) := by decide +kernel
theorem dX9_isOut_27 : decode cX9_isOut 27 = .ok (.iload_n 1, 1) := by decide +kernel
theorem dX9_isOut_28 : decode cX9_isOut 28 = .ok (.iconst 4, 1) := by decide +kernel
theorem dX9_isOut_29 : decode cX9_isOut 29 = .ok (.invokevirtual 172, 3) := by decide +kernel
theorem dX9_isOut_32 : decode cX9_isOut 32 = .ok (.iload_n 2, 1) := by decide +kernel
theorem dX9_isOut_33 : decode cX9_isOut 33 = .ok (.aload_n 0, 1) := by decide +kernel
theorem dX9_isOut_34 : decode cX9_isOut 34 = .ok (.iload_n 1, 1) := by decide +kernel
theorem dX9_isOut_35 : decode cX9_isOut 35 = .ok (.iconst 3, 1) := by decide +kernel
theorem dX9_isOut_36 : decode cX9_isOut 36 = .ok (.invokevirtual 172, 3) := by decide +kernel
theorem dX9_isOut_39 : decode cX9_isOut 39 = .ok (.imul, 1) := by decide +kernel
theorem dX9_isOut_40 : decode cX9_isOut 40 = .ok (.if_icmp .lt 7, 3) := by decide +kernel
theorem dX9_isOut_43 : decode cX9_isOut 43 = .ok (.iconst 1, 1) := by decide +kernel
theorem dX9_isOut_44 : decode cX9_isOut 44 = .ok (.goto 4, 3) := by decide +kernel
theorem dX9_isOut_47 : decode cX9_isOut 47 = .ok (.iconst 0, 1) := by decide +kernel
theorem dX9_isOut_48 : decode cX9_isOut 48 = .ok (.ireturn, 1) := by decide +kernel
theorem dX9_fitOf_0 : decode cX9_fitOf 0 = .ok (.aload_n 0, 1) := by decide +kernel
theorem dX9_fitOf_1 : decode cX9_fitOf 1 = .ok (.getfield 7, 3) := by decide +kernel
theorem dX9_fitOf_4 : decode cX9_fitOf 4 = .ok (.iload_n 1, 1) := by decide +kernel
theorem dX9_fitOf_5 : decode cX9_fitOf 5 = .ok (.iconst 1, 1) := by decide +kernel
theorem dX9_fitOf_6 : decode cX9_fitOf 6 = .ok (.iadd, 1) := by decide +kernel
theorem dX9_fitOf_7 : decode cX9_fitOf 7 = .ok (.iaload, 1) := by decide +kernel
theorem dX9_fitOf_8 : decode cX9_fitOf 8 = .ok (.istore 4, 2) := by decide +kernel
theorem dX9_fitOf_10 : decode cX9_fitOf 10 = .ok (.iload 4, 2) := by decide +kernel
theorem dX9_fitOf_12 : decode cX9_fitOf 12 = .ok (.iconst 1, 1) := by decide +kernel
theorem dX9_fitOf_13 : decode cX9_fitOf 13 = .ok (.if_icmp .eq 9, 3) := by decide +kernel
theorem dX9_fitOf_16 : decode cX9_fitOf 16 = .ok (.iload 4, 2) := by decide +kernel
theorem dX9_fitOf_18 : decode cX9_fitOf 18 = .ok (.iconst 3, 1) := by decide +kernel
theorem dX9_fitOf_19 : decode cX9_fitOf 19 = .ok (.if_icmp .ne 7, 3) := by decide +kernel
theorem dX9_fitOf_22 : decode cX9_fitOf 22 = .ok (.iconst 2, 1) := by decide +kernel
theorem dX9_fitOf_23 : decode cX9_fitOf 23 = .ok (.goto 4, 3) := by decide +kernel
theorem dX9_fitOf_26 : decode cX9_fitOf 26 = .ok (.iconst 1, 1) := by decide +kernel
theorem dX9_fitOf_27 : decode cX9_fitOf 27 = .ok (.istore 5, 2) := by decide +kernel
theorem dX9_fitOf_29 : decode cX9_fitOf 29 = .ok (.aload_n 0, 1) := by decide +kernel
theorem dX9_fitOf_30 : decode cX9_fitOf 30 = .ok (.getfield 7, 3) := by decide +kernel
theorem dX9_fitOf_33 : decode cX9_fitOf 33 = .ok (.iload_n 1, 1) := by decide +kernel
theorem dX9_fitOf_34 : decode cX9_fitOf 34 = .ok (.iconst 4, 1) := by decide +kernel
theorem dX9_fitOf_35 : decode cX9_fitOf 35 = .ok (.iadd, 1) := by decide +kernel
theorem dX9_fitOf_36 : decode cX9_fitOf 36 = .ok (.iaload, 1) := by decide +kernel
theorem dX9_fitOf_37 : decode cX9_fitOf 37 = .ok (.iload 5, 2) := by decide +kernel
theorem dX9_fitOf_39 : decode cX9_fitOf 39 = .ok (.aload_n 0, 1) := by decide +kernel
theorem dX9_fitOf_40 : decode cX9_fitOf 40 = .ok (.getfield 7, 3) := by decide +kernel
theorem dX9_fitOf_43 : decode cX9_fitOf 43 = .ok (.iload_n 1, 1) := by decide +kernel
theorem dX9_fitOf_44 : decode cX9_fitOf 44 = .ok (.iconst 3, 1) := by decide +kernel
theorem dX9_fitOf_45 : decode cX9_fitOf 45 = .ok (.iadd, 1) := by decide +kernel
theorem dX9_fitOf_46 : decode cX9_fitOf 46 = .ok (.iaload, 1) := by decide +kernel
theorem dX9_fitOf_47 : decode cX9_fitOf 47 = .ok (.imul, 1) := by decide +kernel
theorem dX9_fitOf_48 : decode cX9_fitOf 48 = .ok (.if_icmp .ge 22, 3) := by decide +kernel
theorem dX9_fitOf_51 : decode cX9_fitOf 51 = .ok (.iload 4, 2) := by decide +kernel
theorem dX9_fitOf_53 : decode cX9_fitOf 53 = .ok (.iconst 4, 1) := by decide +kernel
theorem dX9_fitOf_54 : decode cX9_fitOf 54 = .ok (.if_icmp .ne 18, 3) := by decide +kernel
theorem dX9_fitOf_57 : decode cX9_fitOf 57 = .ok (.aload_n 0, 1) := by decide +kernel
theorem dX9_fitOf_58 : decode cX9_fitOf 58 = .ok (.getfield 7, 3) := by decide +kernel
theorem dX9_fitOf_61 : decode cX9_fitOf 61 = .ok (.iload_n 1, 1) := by decide +kernel
theorem dX9_fitOf_62 : decode cX9_fitOf 62 = .ok (.bipush 6, 2) := by decide +kernel
theorem dX9_fitOf_64 : decode cX9_fitOf 64 = .ok (.iadd, 1) := by decide +kernel
theorem dX9_fitOf_65 : decode cX9_fitOf 65 = .ok (.iaload, 1) := by decide +kernel
theorem dX9_fitOf_66 : decode cX9_fitOf 66 = .ok (.iload_n 2, 1) := by decide +kernel
theorem dX9_fitOf_67 : decode cX9_fitOf 67 = .ok (.if_icmp .eq 5, 3) := by decide +kernel
theorem dX9_fitOf_70 : decode cX9_fitOf 70 = .ok (.iconst 0, 1) := by decide +kernel
theorem dX9_fitOf_71 : decode cX9_fitOf 71 = .ok (.ireturn, 1) := by decide +kernel
theorem dX9_fitOf_72 : decode cX9_fitOf 72 = .ok (.aload_n 0, 1) := by decide +kernel
theorem dX9_fitOf_73 : decode cX9_fitOf 73 = .ok (.getfield 7, 3) := by decide +kernel
theorem dX9_fitOf_76 : decode cX9_fitOf 76 = .ok (.iload_n 1, 1) := by decide +kernel
theorem dX9_fitOf_77 : decode cX9_fitOf 77 = .ok (.iconst 2, 1) := by decide +kernel
theorem dX9_fitOf_78 : decode cX9_fitOf 78 = .ok (.iadd, 1) := by decide +kernel
theorem dX9_fitOf_79 : decode cX9_fitOf 79 = .ok (.iaload, 1) := by decide +kernel
theorem dX9_fitOf_80 : decode cX9_fitOf 80 = .ok (.i2l, 1) := by decide +kernel
theorem dX9_fitOf_81 : decode cX9_fitOf 81 = .ok (.iload_n 3, 1) := by decide +kernel
theorem dX9_fitOf_82 : decode cX9_fitOf 82 = .ok (.i2l, 1) := by decide +kernel
theorem dX9_fitOf_83 : decode cX9_fitOf 83 = .ok (.iload_n 3, 1) := by decide +kernel
theorem dX9_fitOf_84 : decode cX9_fitOf 84 = .ok (.aload_n 0, 1) := by decide +kernel
theorem dX9_fitOf_85 : decode cX9_fitOf 85 = .ok (.getfield 85, 3) := by decide +kernel
theorem dX9_fitOf_88 : decode cX9_fitOf 88 = .ok (.iadd, 1) := by decide +kernel
theorem dX9_fitOf_89 : decode cX9_fitOf 89 = .ok (.i2l, 1) := by decide +kernel
theorem dX9_fitOf_90 : decode cX9_fitOf 90 = .ok (.invokestatic 93, 3) := by decide +kernel
theorem dX9_fitOf_93 : decode cX9_fitOf 93 = .ok (.ifCond .eq 5, 3) := by decide +kernel
theorem dX9_fitOf_96 : decode cX9_fitOf 96 = .ok (.iconst 1, 1) := by decide +kernel
theorem dX9_fitOf_97 : decode cX9_fitOf 97 = .ok (.ireturn, 1) := by decide +kernel
theorem dX9_fitOf_98 : decode cX9_fitOf 98 = .ok (.iload 4, 2) := by decide +kernel
theorem dX9_fitOf_100 : decode cX9_fitOf 100 = .ok (.i2l, 1) := by decide +kernel
theorem dX9_fitOf_101 : decode cX9_fitOf 101 = .ok (.ldc2_w 182, 3) := by decide +kernel
theorem dX9_fitOf_104 : decode cX9_fitOf 104 = .ok (.ldc2_w 200, 3) := by decide +kernel
theorem dX9_fitOf_107 : decode cX9_fitOf 107 = .ok (.invokestatic 93, 3) := by decide +kernel
theorem dX9_fitOf_110 : decode cX9_fitOf 110 = .ok (.ifCond .eq 44, 3) := by decide +kernel
theorem dX9_fitOf_113 : decode cX9_fitOf 113 = .ok (.aload_n 0, 1) := by decide +kernel
theorem dX9_fitOf_114 : decode cX9_fitOf 114 = .ok (.getfield 7, 3) := by decide +kernel
theorem dX9_fitOf_117 : decode cX9_fitOf 117 = .ok (.iload_n 1, 1) := by decide +kernel
theorem dX9_fitOf_118 : decode cX9_fitOf 118 = .ok (.iconst 5, 1) := by decide +kernel
theorem dX9_fitOf_119 : decode cX9_fitOf 119 = .ok (.iadd, 1) := by decide +kernel
theorem dX9_fitOf_120 : decode cX9_fitOf 120 = .ok (.iaload, 1) := by decide +kernel
theorem dX9_fitOf_121 : decode cX9_fitOf 121 = .ok (.ifCond .ne 33, 3) := by decide +kernel
theorem dX9_fitOf_124 : decode cX9_fitOf 124 = .ok (.aload_n 0, 1) := by decide +kernel
theorem dX9_fitOf_125 : decode cX9_fitOf 125 = .ok (.getfield 7, 3) := by decide +kernel
theorem dX9_fitOf_128 : decode cX9_fitOf 128 = .ok (.iload_n 1, 1) := by decide +kernel
theorem dX9_fitOf_129 : decode cX9_fitOf 129 = .ok (.iconst 2, 1) := by decide +kernel
theorem dX9_fitOf_130 : decode cX9_fitOf 130 = .ok (.iadd, 1) := by decide +kernel
theorem dX9_fitOf_131 : decode cX9_fitOf 131 = .ok (.iaload, 1) := by decide +kernel
theorem dX9_fitOf_132 : decode cX9_fitOf 132 = .ok (.iconst 2, 1) := by decide +kernel
theorem dX9_fitOf_133 : decode cX9_fitOf 133 = .ok (.iadd, 1) := by decide +kernel
theorem dX9_fitOf_134 : decode cX9_fitOf 134 = .ok (.i2l, 1) := by decide +kernel
theorem dX9_fitOf_135 : decode cX9_fitOf 135 = .ok (.iload_n 3, 1) := by decide +kernel
theorem dX9_fitOf_136 : decode cX9_fitOf 136 = .ok (.i2l, 1) := by decide +kernel
theorem dX9_fitOf_137 : decode cX9_fitOf 137 = .ok (.iload_n 3, 1) := by decide +kernel
theorem dX9_fitOf_138 : decode cX9_fitOf 138 = .ok (.aload_n 0, 1) := by decide +kernel
theorem dX9_fitOf_139 : decode cX9_fitOf 139 = .ok (.getfield 85, 3) := by decide +kernel
theorem dX9_fitOf_142 : decode cX9_fitOf 142 = .ok (.iadd, 1) := by decide +kernel
theorem dX9_fitOf_143 : decode cX9_fitOf 143 = .ok (.i2l, 1) := by decide +kernel
theorem dX9_fitOf_144 : decode cX9_fitOf 144 = .ok (.invokestatic 93, 3) := by decide +kernel
theorem dX9_fitOf_147 : decode cX9_fitOf 147 = .ok (.ifCond .eq 7, 3) := by decide +kernel
theorem dX9_fitOf_150 : decode cX9_fitOf 150 = .ok (.iconst 2, 1) := by decide +kernel
theorem dX9_fitOf_151 : decode cX9_fitOf 151 = .ok (.goto 4, 3) := by decide +kernel
theorem dX9_fitOf_154 : decode cX9_fitOf 154 = .ok (.iconst 0, 1) := by decide +kernel
theorem dX9_fitOf_155 : decode cX9_fitOf 155 = .ok (.ireturn, 1) := by decide +kernel
theorem dX9_fitNow_0 : decode cX9_fitNow 0 = .ok (.aload_n 0, 1) := by decide +kernel
theorem dX9_fitNow_1 : decode cX9_fitNow 1 = .ok (.bipush 42, 2) := by decide +kernel
theorem dX9_fitNow_3 : decode cX9_fitNow 3 = .ok (.bipush 7, 2) := by decide +kernel
theorem dX9_fitNow_5 : decode cX9_fitNow 5 = .ok (.iload_n 2, 1) := by decide +kernel
theorem dX9_fitNow_6 : decode cX9_fitNow 6 = .ok (.imul, 1) := by decide +kernel
theorem dX9_fitNow_7 : decode cX9_fitNow 7 = .ok (.iadd, 1) := by decide +kernel
theorem dX9_fitNow_8 : decode cX9_fitNow 8 = .ok (.iload_n 1, 1) := by decide +kernel
theorem dX9_fitNow_9 : decode cX9_fitNow 9 = .ok (.aload_n 0, 1) := by decide +kernel
theorem dX9_fitNow_10 : decode cX9_fitNow 10 = .ok (.getfield 7, 3) := by decide +kernel
theorem dX9_fitNow_13 : decode cX9_fitNow 13 = .ok (.iconst 1, 1) := by decide +kernel
theorem dX9_fitNow_14 : decode cX9_fitNow 14 = .ok (.iconst 5, 1) := by decide +kernel
theorem dX9_fitNow_15 : decode cX9_fitNow 15 = .ok (.iload_n 1, 1) := by decide +kernel
theorem dX9_fitNow_16 : decode cX9_fitNow 16 = .ok (.imul, 1) := by decide +kernel
theorem dX9_fitNow_17 : decode cX9_fitNow 17 = .ok (.iadd, 1) := by decide +kernel
theorem dX9_fitNow_18 : decode cX9_fitNow 18 = .ok (.iaload, 1) := by decide +kernel
theorem dX9_fitNow_19 : decode cX9_fitNow 19 = .ok (.invokevirtual 202, 3) := by decide +kernel
theorem dX9_fitNow_22 : decode cX9_fitNow 22 = .ok (.ireturn, 1) := by decide +kernel
theorem dX9_fits_0 : decode cX9_fits 0 = .ok (.aload_n 0, 1) := by decide +kernel
theorem dX9_fits_1 : decode cX9_fits 1 = .ok (.iload_n 1, 1) := by decide +kernel
theorem dX9_fits_2 : decode cX9_fits 2 = .ok (.invokevirtual 178, 3) := by decide +kernel
theorem dX9_fits_5 : decode cX9_fits 5 = .ok (.ifCond .eq 20, 3) := by decide +kernel
theorem dX9_fits_8 : decode cX9_fits 8 = .ok (.aload_n 0, 1) := by decide +kernel
theorem dX9_fits_9 : decode cX9_fits 9 = .ok (.iload_n 2, 1) := by decide +kernel
theorem dX9_fits_10 : decode cX9_fits 10 = .ok (.invokevirtual 188, 3) := by decide +kernel
theorem dX9_fits_13 : decode cX9_fits 13 = .ok (.ifCond .eq 12, 3) := by decide +kernel
theorem dX9_fits_16 : decode cX9_fits 16 = .ok (.aload_n 0, 1) := by decide +kernel
theorem dX9_fits_17 : decode cX9_fits 17 = .ok (.iload_n 1, 1) := by decide +kernel
theorem dX9_fits_18 : decode cX9_fits 18 = .ok (.iload_n 2, 1) := by decide +kernel
theorem dX9_fits_19 : decode cX9_fits 19 = .ok (.invokevirtual 206, 3) := by decide +kernel
theorem dX9_fits_22 : decode cX9_fits 22 = .ok (.goto 4, 3) := by decide +kernel
theorem dX9_fits_25 : decode cX9_fits 25 = .ok (.iconst (-1), 1) := by decide +kernel
theorem dX9_fits_26 : decode cX9_fits 26 = .ok (.ireturn, 1) := by decide +kernel
theorem dX9_takesOff_0 : decode cX9_takesOff 0 = .ok (.aload_n 0, 1) := by decide +kernel
theorem dX9_takesOff_1 : decode cX9_takesOff 1 = .ok (.getfield 7, 3) := by decide +kernel
theorem dX9_takesOff_4 : decode cX9_takesOff 4 = .ok (.iconst 1, 1) := by decide +kernel
theorem dX9_takesOff_5 : decode cX9_takesOff 5 = .ok (.iconst 5, 1) := by decide +kernel
theorem dX9_takesOff_6 : decode cX9_takesOff 6 = .ok (.iload_n 1, 1) := by decide +kernel
theorem dX9_takesOff_7 : decode cX9_takesOff 7 = .ok (.imul, 1) := by decide +kernel
theorem dX9_takesOff_8 : decode cX9_takesOff 8 = .ok (.iadd, 1) := by decide +kernel
theorem dX9_takesOff_9 : decode cX9_takesOff 9 = .ok (.iconst 3, 1) := by decide +kernel
theorem dX9_takesOff_10 : decode cX9_takesOff 10 = .ok (.iadd, 1) := by decide +kernel
theorem dX9_takesOff_11 : decode cX9_takesOff 11 = .ok (.iload_n 2, 1) := by decide +kernel
theorem dX9_takesOff_12 : decode cX9_takesOff 12 = .ok (.iadd, 1) := by decide +kernel
theorem dX9_takesOff_13 : decode cX9_takesOff 13 = .ok (.bipush (-4), 2) := by decide +kernel
theorem dX9_takesOff_15 : decode cX9_takesOff 15 = .ok (.iastore, 1) := by decide +kernel
theorem dX9_takesOff_16 : decode cX9_takesOff 16 = .ok (.return_, 1) := by decide +kernel
theorem dX9_putsOn_0 : decode cX9_putsOn 0 = .ok (.aload_n 0, 1) := by decide +kernel
theorem dX9_putsOn_1 : decode cX9_putsOn 1 = .ok (.iload_n 1, 1) := by decide +kernel
theorem dX9_putsOn_2 : decode cX9_putsOn 2 = .ok (.iload_n 2, 1) := by decide +kernel
theorem dX9_putsOn_3 : decode cX9_putsOn 3 = .ok (.invokevirtual 206, 3) := by decide +kernel
theorem dX9_putsOn_6 : decode cX9_putsOn 6 = .ok (.iconst 2, 1) := by decide +kernel
theorem dX9_putsOn_7 : decode cX9_putsOn 7 = .ok (.if_icmp .ne 36, 3) := by decide +kernel
theorem dX9_putsOn_10 : decode cX9_putsOn 10 = .ok (.aload_n 0, 1) := by decide +kernel
theorem dX9_putsOn_11 : decode cX9_putsOn 11 = .ok (.getfield 7, 3) := by decide +kernel
theorem dX9_putsOn_14 : decode cX9_putsOn 14 = .ok (.bipush 42, 2) := by decide +kernel
theorem dX9_putsOn_16 : decode cX9_putsOn 16 = .ok (.bipush 7, 2) := by decide +kernel
theorem dX9_putsOn_18 : decode cX9_putsOn 18 = .ok (.iload_n 2, 1) := by decide +kernel
theorem dX9_putsOn_19 : decode cX9_putsOn 19 = .ok (.imul, 1) := by decide +kernel
theorem dX9_putsOn_20 : decode cX9_putsOn 20 = .ok (.iadd, 1) := by decide +kernel
theorem dX9_putsOn_21 : decode cX9_putsOn 21 = .ok (.iconst 2, 1) := by decide +kernel
theorem dX9_putsOn_22 : decode cX9_putsOn 22 = .ok (.iadd, 1) := by decide +kernel
theorem dX9_putsOn_23 : decode cX9_putsOn 23 = .ok (.dup2, 1) := by decide +kernel
theorem dX9_putsOn_24 : decode cX9_putsOn 24 = .ok (.iaload, 1) := by decide +kernel
theorem dX9_putsOn_25 : decode cX9_putsOn 25 = .ok (.iconst 2, 1) := by decide +kernel
theorem dX9_putsOn_26 : decode cX9_putsOn 26 = .ok (.iadd, 1) := by decide +kernel
theorem dX9_putsOn_27 : decode cX9_putsOn 27 = .ok (.iastore, 1) := by decide +kernel
theorem dX9_putsOn_28 : decode cX9_putsOn 28 = .ok (.aload_n 0, 1) := by decide +kernel
theorem dX9_putsOn_29 : decode cX9_putsOn 29 = .ok (.getfield 7, 3) := by decide +kernel
theorem dX9_putsOn_32 : decode cX9_putsOn 32 = .ok (.bipush 42, 2) := by decide +kernel
theorem dX9_putsOn_34 : decode cX9_putsOn 34 = .ok (.bipush 7, 2) := by decide +kernel
theorem dX9_putsOn_36 : decode cX9_putsOn 36 = .ok (.iload_n 2, 1) := by decide +kernel
theorem dX9_putsOn_37 : decode cX9_putsOn 37 = .ok (.imul, 1) := by decide +kernel
theorem dX9_putsOn_38 : decode cX9_putsOn 38 = .ok (.iadd, 1) := by decide +kernel
theorem dX9_putsOn_39 : decode cX9_putsOn 39 = .ok (.iconst 5, 1) := by decide +kernel
theorem dX9_putsOn_40 : decode cX9_putsOn 40 = .ok (.iadd, 1) := by decide +kernel
theorem dX9_putsOn_41 : decode cX9_putsOn 41 = .ok (.iconst 1, 1) := by decide +kernel
theorem dX9_putsOn_42 : decode cX9_putsOn 42 = .ok (.iastore, 1) := by decide +kernel
theorem dX9_putsOn_43 : decode cX9_putsOn 43 = .ok (.aload_n 0, 1) := by decide +kernel
theorem dX9_putsOn_44 : decode cX9_putsOn 44 = .ok (.getfield 7, 3) := by decide +kernel
theorem dX9_putsOn_47 : decode cX9_putsOn 47 = .ok (.iconst 1, 1) := by decide +kernel
theorem dX9_putsOn_48 : decode cX9_putsOn 48 = .ok (.iconst 5, 1) := by decide +kernel
theorem dX9_putsOn_49 : decode cX9_putsOn 49 = .ok (.iload_n 1, 1) := by decide +kernel
theorem dX9_putsOn_50 : decode cX9_putsOn 50 = .ok (.imul, 1) := by decide +kernel
theorem dX9_putsOn_51 : decode cX9_putsOn 51 = .ok (.iadd, 1) := by decide +kernel
theorem dX9_putsOn_52 : decode cX9_putsOn 52 = .ok (.iconst 3, 1) := by decide +kernel
