theorem dX0_init_0 : decode cX0_init 0 = .ok (.aload_n 0, 1) := by decide +kernel
theorem dX0_init_1 : decode cX0_init 1 = .ok (.invokespecial 3, 3) := by decide +kernel
theorem dX0_init_4 : decode cX0_init 4 = .ok (.return_, 1) := by decide +kernel
theorem dX0_become_0 : decode cX0_become 0 = .ok (.aload_n 0, 1) := by decide +kernel
theorem dX0_become_1 : decode cX0_become 1 = .ok (.aload_n 1, 1) := by decide +kernel
theorem dX0_become_2 : decode cX0_become 2 = .ok (.getfield 9, 3) := by decide +kernel
theorem dX0_become_5 : decode cX0_become 5 = .ok (.putfield 9, 3) := by decide +kernel
theorem dX0_become_8 : decode cX0_become 8 = .ok (.aload_n 0, 1) := by decide +kernel
theorem dX0_become_9 : decode cX0_become 9 = .ok (.aload_n 1, 1) := by decide +kernel
theorem dX0_become_10 : decode cX0_become 10 = .ok (.getfield 15, 3) := by decide +kernel
theorem dX0_become_13 : decode cX0_become 13 = .ok (.putfield 15, 3) := by decide +kernel
theorem dX0_become_16 : decode cX0_become 16 = .ok (.aload_n 0, 1) := by decide +kernel
theorem dX0_become_17 : decode cX0_become 17 = .ok (.aload_n 1, 1) := by decide +kernel
theorem dX0_become_18 : decode cX0_become 18 = .ok (.getfield 18, 3) := by decide +kernel
theorem dX0_become_21 : decode cX0_become 21 = .ok (.putfield 18, 3) := by decide +kernel
theorem dX0_become_24 : decode cX0_become 24 = .ok (.return_, 1) := by decide +kernel
theorem dX0_grow_0 : decode cX0_grow 0 = .ok (.aload_n 0, 1) := by decide +kernel
theorem dX0_grow_1 : decode cX0_grow 1 = .ok (.bipush 40, 2) := by decide +kernel
theorem dX0_grow_3 : decode cX0_grow 3 = .ok (.aload_n 0, 1) := by decide +kernel
theorem dX0_grow_4 : decode cX0_grow 4 = .ok (.getfield 9, 3) := by decide +kernel
theorem dX0_grow_7 : decode cX0_grow 7 = .ok (.iload_n 1, 1) := by decide +kernel
theorem dX0_grow_8 : decode cX0_grow 8 = .ok (.ifCond .eq 10, 3) := by decide +kernel
theorem dX0_grow_11 : decode cX0_grow 11 = .ok (.aload_n 0, 1) := by decide +kernel
theorem dX0_grow_12 : decode cX0_grow 12 = .ok (.getfield 18, 3) := by decide +kernel
theorem dX0_grow_15 : decode cX0_grow 15 = .ok (.goto 7, 3) := by decide +kernel
theorem dX0_grow_18 : decode cX0_grow 18 = .ok (.aload_n 0, 1) := by decide +kernel
theorem dX0_grow_19 : decode cX0_grow 19 = .ok (.getfield 15, 3) := by decide +kernel
theorem dX0_grow_22 : decode cX0_grow 22 = .ok (.iadd, 1) := by decide +kernel
theorem dX0_grow_23 : decode cX0_grow 23 = .ok (.invokestatic 21, 3) := by decide +kernel
theorem dX0_grow_26 : decode cX0_grow 26 = .ok (.putfield 9, 3) := by decide +kernel
theorem dX0_grow_29 : decode cX0_grow 29 = .ok (.return_, 1) := by decide +kernel
theorem dX1_init_0 : decode cX1_init 0 = .ok (.aload_n 0, 1) := by decide +kernel
theorem dX1_init_1 : decode cX1_init 1 = .ok (.invokespecial 3, 3) := by decide +kernel
theorem dX1_init_4 : decode cX1_init 4 = .ok (.aload_n 0, 1) := by decide +kernel
theorem dX1_init_5 : decode cX1_init 5 = .ok (.bipush 8, 2) := by decide +kernel
theorem dX1_init_7 : decode cX1_init 7 = .ok (.newarray .int, 2) := by decide +kernel
theorem dX1_init_9 : decode cX1_init 9 = .ok (.putfield 9, 3) := by decide +kernel
theorem dX1_init_12 : decode cX1_init 12 = .ok (.aload_n 0, 1) := by decide +kernel
theorem dX1_init_13 : decode cX1_init 13 = .ok (.bipush 8, 2) := by decide +kernel
theorem dX1_init_15 : decode cX1_init 15 = .ok (.newarray .int, 2) := by decide +kernel
theorem dX1_init_17 : decode cX1_init 17 = .ok (.putfield 15, 3) := by decide +kernel
theorem dX1_init_20 : decode cX1_init 20 = .ok (.aload_n 0, 1) := by decide +kernel
theorem dX1_init_21 : decode cX1_init 21 = .ok (.bipush 20, 2) := by decide +kernel
theorem dX1_init_23 : decode cX1_init 23 = .ok (.newarray .int, 2) := by decide +kernel
theorem dX1_init_25 : decode cX1_init 25 = .ok (.putfield 18, 3) := by decide +kernel
theorem dX1_init_28 : decode cX1_init 28 = .ok (.aload_n 0, 1) := by decide +kernel
theorem dX1_init_29 : decode cX1_init 29 = .ok (.bipush 20, 2) := by decide +kernel
theorem dX1_init_31 : decode cX1_init 31 = .ok (.newarray .int, 2) := by decide +kernel
theorem dX1_init_33 : decode cX1_init 33 = .ok (.putfield 21, 3) := by decide +kernel
theorem dX1_init_36 : decode cX1_init 36 = .ok (.aload_n 0, 1) := by decide +kernel
theorem dX1_init_37 : decode cX1_init 37 = .ok (.bipush 8, 2) := by decide +kernel
theorem dX1_init_39 : decode cX1_init 39 = .ok (.newarray .int, 2) := by decide +kernel
theorem dX1_init_41 : decode cX1_init 41 = .ok (.putfield 24, 3) := by decide +kernel
theorem dX1_init_44 : decode cX1_init 44 = .ok (.return_, 1) := by decide +kernel
theorem dX1_make_0 : decode cX1_make 0 = .ok (.aload_n 0, 1) := by decide +kernel
theorem dX1_make_1 : decode cX1_make 1 = .ok (.aload_n 1, 1) := by decide +kernel
theorem dX1_make_2 : decode cX1_make 2 = .ok (.iload_n 2, 1) := by decide +kernel
theorem dX1_make_3 : decode cX1_make 3 = .ok (.iload_n 3, 1) := by decide +kernel
theorem dX1_make_4 : decode cX1_make 4 = .ok (.invokevirtual 27, 3) := by decide +kernel
theorem dX1_make_7 : decode cX1_make 7 = .ok (.aload_n 0, 1) := by decide +kernel
theorem dX1_make_8 : decode cX1_make 8 = .ok (.invokevirtual 31, 3) := by decide +kernel
theorem dX1_make_11 : decode cX1_make 11 = .ok (.aload_n 0, 1) := by decide +kernel
theorem dX1_make_12 : decode cX1_make 12 = .ok (.invokevirtual 34, 3) := by decide +kernel
theorem dX1_make_15 : decode cX1_make 15 = .ok (.return_, 1) := by decide +kernel
theorem dX1_begin_0 : decode cX1_begin 0 = .ok (.aload_n 0, 1) := by decide +kernel
theorem dX1_begin_1 : decode cX1_begin 1 = .ok (.aload_n 1, 1) := by decide +kernel
theorem dX1_begin_2 : decode cX1_begin 2 = .ok (.getfield 37, 3) := by decide +kernel
theorem dX1_begin_5 : decode cX1_begin 5 = .ok (.putfield 43, 3) := by decide +kernel
theorem dX1_begin_8 : decode cX1_begin 8 = .ok (.aload_n 0, 1) := by decide +kernel
theorem dX1_begin_9 : decode cX1_begin 9 = .ok (.aload_n 1, 1) := by decide +kernel
theorem dX1_begin_10 : decode cX1_begin 10 = .ok (.getfield 44, 3) := by decide +kernel
theorem dX1_begin_13 : decode cX1_begin 13 = .ok (.putfield 47, 3) := by decide +kernel
theorem dX1_begin_16 : decode cX1_begin 16 = .ok (.aload_n 0, 1) := by decide +kernel
theorem dX1_begin_17 : decode cX1_begin 17 = .ok (.iconst 0, 1) := by decide +kernel
theorem dX1_begin_18 : decode cX1_begin 18 = .ok (.putfield 48, 3) := by decide +kernel
theorem dX1_begin_21 : decode cX1_begin 21 = .ok (.aload_n 0, 1) := by decide +kernel
theorem dX1_begin_22 : decode cX1_begin 22 = .ok (.getfield 18, 3) := by decide +kernel
theorem dX1_begin_25 : decode cX1_begin 25 = .ok (.bipush (-4), 2) := by decide +kernel
theorem dX1_begin_27 : decode cX1_begin 27 = .ok (.invokestatic 51, 3) := by decide +kernel
theorem dX1_begin_30 : decode cX1_begin 30 = .ok (.iconst 0, 1) := by decide +kernel
theorem dX1_begin_31 : decode cX1_begin 31 = .ok (.istore 4, 2) := by decide +kernel
theorem dX1_begin_33 : decode cX1_begin 33 = .ok (.iload 4, 2) := by decide +kernel
theorem dX1_begin_35 : decode cX1_begin 35 = .ok (.aload_n 0, 1) := by decide +kernel
theorem dX1_begin_36 : decode cX1_begin 36 = .ok (.getfield 43, 3) := by decide +kernel
theorem dX1_begin_39 : decode cX1_begin 39 = .ok (.if_icmp .ge 101, 3) := by decide +kernel
theorem dX1_begin_42 : decode cX1_begin 42 = .ok (.aload_n 0, 1) := by decide +kernel
theorem dX1_begin_43 : decode cX1_begin 43 = .ok (.getfield 15, 3) := by decide +kernel
theorem dX1_begin_46 : decode cX1_begin 46 = .ok (.iload 4, 2) := by decide +kernel
theorem dX1_begin_48 : decode cX1_begin 48 = .ok (.bipush (-4), 2) := by decide +kernel
theorem dX1_begin_50 : decode cX1_begin 50 = .ok (.iastore, 1) := by decide +kernel
theorem dX1_begin_51 : decode cX1_begin 51 = .ok (.aload_n 0, 1) := by decide +kernel
theorem dX1_begin_52 : decode cX1_begin 52 = .ok (.getfield 9, 3) := by decide +kernel
theorem dX1_begin_55 : decode cX1_begin 55 = .ok (.iload 4, 2) := by decide +kernel
theorem dX1_begin_57 : decode cX1_begin 57 = .ok (.iconst 0, 1) := by decide +kernel
theorem dX1_begin_58 : decode cX1_begin 58 = .ok (.iastore, 1) := by decide +kernel
theorem dX1_begin_59 : decode cX1_begin 59 = .ok (.aload_n 1, 1) := by decide +kernel
theorem dX1_begin_60 : decode cX1_begin 60 = .ok (.getfield 57, 3) := by decide +kernel
theorem dX1_begin_63 : decode cX1_begin 63 = .ok (.iload 4, 2) := by decide +kernel
theorem dX1_begin_65 : decode cX1_begin 65 = .ok (.aaload, 1) := by decide +kernel
theorem dX1_begin_66 : decode cX1_begin 66 = .ok (.getfield 61, 3) := by decide +kernel
theorem dX1_begin_69 : decode cX1_begin 69 = .ok (.istore 5, 2) := by decide +kernel
theorem dX1_begin_71 : decode cX1_begin 71 = .ok (.iconst 0, 1) := by decide +kernel
theorem dX1_begin_72 : decode cX1_begin 72 = .ok (.istore 6, 2) := by decide +kernel
theorem dX1_begin_74 : decode cX1_begin 74 = .ok (.iload 6, 2) := by decide +kernel
theorem dX1_begin_76 : decode cX1_begin 76 = .ok (.aload_n 0, 1) := by decide +kernel
theorem dX1_begin_77 : decode cX1_begin 77 = .ok (.getfield 47, 3) := by decide +kernel
theorem dX1_begin_80 : decode cX1_begin 80 = .ok (.if_icmp .ge 54, 3) := by decide +kernel
theorem dX1_begin_83 : decode cX1_begin 83 = .ok (.aload_n 1, 1) := by decide +kernel
theorem dX1_begin_84 : decode cX1_begin 84 = .ok (.getfield 66, 3) := by decide +kernel
theorem dX1_begin_87 : decode cX1_begin 87 = .ok (.iload 6, 2) := by decide +kernel
theorem dX1_begin_89 : decode cX1_begin 89 = .ok (.aaload, 1) := by decide +kernel
theorem dX1_begin_90 : decode cX1_begin 90 = .ok (.astore 7, 2) := by decide +kernel
theorem dX1_begin_92 : decode cX1_begin 92 = .ok (.aload 7, 2) := by decide +kernel
theorem dX1_begin_94 : decode cX1_begin 94 = .ok (.getfield 70, 3) := by decide +kernel
theorem dX1_begin_97 : decode cX1_begin 97 = .ok (.iload_n 2, 1) := by decide +kernel
theorem dX1_begin_98 : decode cX1_begin 98 = .ok (.if_icmp .ne 30, 3) := by decide +kernel
theorem dX1_begin_101 : decode cX1_begin 101 = .ok (.aload 7, 2) := by decide +kernel
theorem dX1_begin_103 : decode cX1_begin 103 = .ok (.iload 4, 2) := by decide +kernel
theorem dX1_begin_105 : decode cX1_begin 105 = .ok (.iload 5, 2) := by decide +kernel
theorem dX1_begin_107 : decode cX1_begin 107 = .ok (.iload_n 3, 1) := by decide +kernel
theorem dX1_begin_108 : decode cX1_begin 108 = .ok (.invokevirtual 75, 3) := by decide +kernel
theorem dX1_begin_111 : decode cX1_begin 111 = .ok (.ifCond .eq 17, 3) := by decide +kernel
theorem dX1_begin_114 : decode cX1_begin 114 = .ok (.aload_n 0, 1) := by decide +kernel
theorem dX1_begin_115 : decode cX1_begin 115 = .ok (.getfield 9, 3) := by decide +kernel
theorem dX1_begin_118 : decode cX1_begin 118 = .ok (.iload 4, 2) := by decide +kernel
theorem dX1_begin_120 : decode cX1_begin 120 = .ok (.dup2, 1) := by decide +kernel
theorem dX1_begin_121 : decode cX1_begin 121 = .ok (.iaload, 1) := by decide +kernel
theorem dX1_begin_122 : decode cX1_begin 122 = .ok (.iconst 1, 1) := by decide +kernel
theorem dX1_begin_123 : decode cX1_begin 123 = .ok (.iload 6, 2) := by decide +kernel
theorem dX1_begin_125 : decode cX1_begin 125 = .ok (.ishl, 1) := by decide +kernel
theorem dX1_begin_126 : decode cX1_begin 126 = .ok (.ior, 1) := by decide +kernel
theorem dX1_begin_127 : decode cX1_begin 127 = .ok (.iastore, 1) := by decide +kernel
theorem dX1_begin_128 : decode cX1_begin 128 = .ok (.iinc 6 1, 3) := by decide +kernel
theorem dX1_begin_131 : decode cX1_begin 131 = .ok (.goto (-57), 3) := by decide +kernel
theorem dX1_begin_134 : decode cX1_begin 134 = .ok (.iinc 4 1, 3) := by decide +kernel
theorem dX1_begin_137 : decode cX1_begin 137 = .ok (.goto (-104), 3) := by decide +kernel
theorem dX1_begin_140 : decode cX1_begin 140 = .ok (.return_, 1) := by decide +kernel
theorem dX1_addLent_0 : decode cX1_addLent 0 = .ok (.aload_n 0, 1) := by decide +kernel
theorem dX1_addLent_1 : decode cX1_addLent 1 = .ok (.bipush 10, 2) := by decide +kernel
theorem dX1_addLent_3 : decode cX1_addLent 3 = .ok (.aload_n 2, 1) := by decide +kernel
theorem dX1_addLent_4 : decode cX1_addLent 4 = .ok (.getfield 44, 3) := by decide +kernel
theorem dX1_addLent_7 : decode cX1_addLent 7 = .ok (.iadd, 1) := by decide +kernel
theorem dX1_addLent_8 : decode cX1_addLent 8 = .ok (.putfield 47, 3) := by decide +kernel
theorem dX1_addLent_11 : decode cX1_addLent 11 = .ok (.iconst 0, 1) := by decide +kernel
theorem dX1_addLent_12 : decode cX1_addLent 12 = .ok (.istore 5, 2) := by decide +kernel
theorem dX1_addLent_14 : decode cX1_addLent 14 = .ok (.iload 5, 2) := by decide +kernel
theorem dX1_addLent_16 : decode cX1_addLent 16 = .ok (.aload_n 0, 1) := by decide +kernel
theorem dX1_addLent_17 : decode cX1_addLent 17 = .ok (.getfield 43, 3) := by decide +kernel
theorem dX1_addLent_20 : decode cX1_addLent 20 = .ok (.if_icmp .ge 85, 3) := by decide +kernel
theorem dX1_addLent_23 : decode cX1_addLent 23 = .ok (.aload_n 1, 1) := by decide +kernel
theorem dX1_addLent_24 : decode cX1_addLent 24 = .ok (.getfield 57, 3) := by decide +kernel
theorem dX1_addLent_27 : decode cX1_addLent 27 = .ok (.iload 5, 2) := by decide +kernel
theorem dX1_addLent_29 : decode cX1_addLent 29 = .ok (.aaload, 1) := by decide +kernel
theorem dX1_addLent_30 : decode cX1_addLent 30 = .ok (.getfield 61, 3) := by decide +kernel
theorem dX1_addLent_33 : decode cX1_addLent 33 = .ok (.istore 6, 2) := by decide +kernel
theorem dX1_addLent_35 : decode cX1_addLent 35 = .ok (.iconst 0, 1) := by decide +kernel
theorem dX1_addLent_36 : decode cX1_addLent 36 = .ok (.istore 7, 2) := by decide +kernel
theorem dX1_addLent_38 : decode cX1_addLent 38 = .ok (.iload 7, 2) := by decide +kernel
theorem dX1_addLent_40 : decode cX1_addLent 40 = .ok (.aload_n 2, 1) := by decide +kernel
theorem dX1_addLent_41 : decode cX1_addLent 41 = .ok (.getfield 44, 3) := by decide +kernel
theorem dX1_addLent_44 : decode cX1_addLent 44 = .ok (.if_icmp .ge 55, 3) := by decide +kernel
theorem dX1_addLent_47 : decode cX1_addLent 47 = .ok (.iload_n 3, 1) := by decide +kernel
theorem dX1_addLent_48 : decode cX1_addLent 48 = .ok (.iload 7, 2) := by decide +kernel
theorem dX1_addLent_50 : decode cX1_addLent 50 = .ok (.ishr, 1) := by decide +kernel
theorem dX1_addLent_51 : decode cX1_addLent 51 = .ok (.iconst 1, 1) := by decide +kernel
theorem dX1_addLent_52 : decode cX1_addLent 52 = .ok (.iand, 1) := by decide +kernel
theorem dX1_addLent_53 : decode cX1_addLent 53 = .ok (.iconst 1, 1) := by decide +kernel
theorem dX1_addLent_54 : decode cX1_addLent 54 = .ok (.if_icmp .ne 39, 3) := by decide +kernel
theorem dX1_addLent_57 : decode cX1_addLent 57 = .ok (.aload_n 2, 1) := by decide +kernel
theorem dX1_addLent_58 : decode cX1_addLent 58 = .ok (.getfield 66, 3) := by decide +kernel
theorem dX1_addLent_61 : decode cX1_addLent 61 = .ok (.iload 7, 2) := by decide +kernel
theorem dX1_addLent_63 : decode cX1_addLent 63 = .ok (.aaload, 1) := by decide +kernel
theorem dX1_addLent_64 : decode cX1_addLent 64 = .ok (.iload 5, 2) := by decide +kernel
theorem dX1_addLent_66 : decode cX1_addLent 66 = .ok (.iload 6, 2) := by decide +kernel
theorem dX1_addLent_68 : decode cX1_addLent 68 = .ok (.iload 4, 2) := by decide +kernel
theorem dX1_addLent_70 : decode cX1_addLent 70 = .ok (.invokevirtual 75, 3) := by decide +kernel
theorem dX1_addLent_73 : decode cX1_addLent 73 = .ok (.ifCond .eq 20, 3) := by decide +kernel
theorem dX1_addLent_76 : decode cX1_addLent 76 = .ok (.aload_n 0, 1) := by decide +kernel
theorem dX1_addLent_77 : decode cX1_addLent 77 = .ok (.getfield 9, 3) := by decide +kernel
theorem dX1_addLent_80 : decode cX1_addLent 80 = .ok (.iload 5, 2) := by decide +kernel
theorem dX1_addLent_82 : decode cX1_addLent 82 = .ok (.dup2, 1) := by decide +kernel
theorem dX1_addLent_83 : decode cX1_addLent 83 = .ok (.iaload, 1) := by decide +kernel
theorem dX1_addLent_84 : decode cX1_addLent 84 = .ok (.iconst 1, 1) := by decide +kernel
theorem dX1_addLent_85 : decode cX1_addLent 85 = .ok (.bipush 10, 2) := by decide +kernel
theorem dX1_addLent_87 : decode cX1_addLent 87 = .ok (.iload 7, 2) := by decide +kernel
theorem dX1_addLent_89 : decode cX1_addLent 89 = .ok (.iadd, 1) := by decide +kernel
theorem dX1_addLent_90 : decode cX1_addLent 90 = .ok (.ishl, 1) := by decide +kernel
theorem dX1_addLent_91 : decode cX1_addLent 91 = .ok (.ior, 1) := by decide +kernel
theorem dX1_addLent_92 : decode cX1_addLent 92 = .ok (.iastore, 1) := by decide +kernel
theorem dX1_addLent_93 : decode cX1_addLent 93 = .ok (.iinc 7 1, 3) := by decide +kernel
theorem dX1_addLent_96 : decode cX1_addLent 96 = .ok (.goto (-58), 3) := by decide +kernel
theorem dX1_addLent_99 : decode cX1_addLent 99 = .ok (.iinc 5 1, 3) := by decide +kernel
theorem dX1_addLent_102 : decode cX1_addLent 102 = .ok (.goto (-88), 3) := by decide +kernel
theorem dX1_addLent_105 : decode cX1_addLent 105 = .ok (.return_, 1) := by decide +kernel
theorem dX1_warmAll_0 : decode cX1_warmAll 0 = .ok (.iconst 0, 1) := by decide +kernel
theorem dX1_warmAll_1 : decode cX1_warmAll 1 = .ok (.istore_n 1, 1) := by decide +kernel
theorem dX1_warmAll_2 : decode cX1_warmAll 2 = .ok (.iload_n 1, 1) := by decide +kernel
theorem dX1_warmAll_3 : decode cX1_warmAll 3 = .ok (.aload_n 0, 1) := by decide +kernel
theorem dX1_warmAll_4 : decode cX1_warmAll 4 = .ok (.getfield 43, 3) := by decide +kernel
theorem dX1_warmAll_7 : decode cX1_warmAll 7 = .ok (.if_icmp .ge 40, 3) := by decide +kernel
theorem dX1_warmAll_10 : decode cX1_warmAll 10 = .ok (.aload_n 0, 1) := by decide +kernel
theorem dX1_warmAll_11 : decode cX1_warmAll 11 = .ok (.iconst 0, 1) := by decide +kernel
theorem dX1_warmAll_12 : decode cX1_warmAll 12 = .ok (.iconst 0, 1) := by decide +kernel
theorem dX1_warmAll_13 : decode cX1_warmAll 13 = .ok (.invokevirtual 79, 3) := by decide +kernel
theorem dX1_warmAll_16 : decode cX1_warmAll 16 = .ok (.istore_n 2, 1) := by decide +kernel
theorem dX1_warmAll_17 : decode cX1_warmAll 17 = .ok (.iload_n 2, 1) := by decide +kernel
theorem dX1_warmAll_18 : decode cX1_warmAll 18 = .ok (.bipush (-4), 2) := by decide +kernel
theorem dX1_warmAll_20 : decode cX1_warmAll 20 = .ok (.if_icmp .ne 6, 3) := by decide +kernel
theorem dX1_warmAll_23 : decode cX1_warmAll 23 = .ok (.goto 24, 3) := by decide +kernel
theorem dX1_warmAll_26 : decode cX1_warmAll 26 = .ok (.aload_n 0, 1) := by decide +kernel
theorem dX1_warmAll_27 : decode cX1_warmAll 27 = .ok (.iload_n 2, 1) := by decide +kernel
theorem dX1_warmAll_28 : decode cX1_warmAll 28 = .ok (.invokevirtual 83, 3) := by decide +kernel
theorem dX1_warmAll_31 : decode cX1_warmAll 31 = .ok (.aload_n 0, 1) := by decide +kernel
theorem dX1_warmAll_32 : decode cX1_warmAll 32 = .ok (.dup, 1) := by decide +kernel
theorem dX1_warmAll_33 : decode cX1_warmAll 33 = .ok (.getfield 48, 3) := by decide +kernel
theorem dX1_warmAll_36 : decode cX1_warmAll 36 = .ok (.iconst 1, 1) := by decide +kernel
theorem dX1_warmAll_37 : decode cX1_warmAll 37 = .ok (.iadd, 1) := by decide +kernel
theorem dX1_warmAll_38 : decode cX1_warmAll 38 = .ok (.putfield 48, 3) := by decide +kernel
theorem dX1_warmAll_41 : decode cX1_warmAll 41 = .ok (.iinc 1 1, 3) := by decide +kernel
theorem dX1_warmAll_44 : decode cX1_warmAll 44 = .ok (.goto (-42), 3) := by decide +kernel
theorem dX1_warmAll_47 : decode cX1_warmAll 47 = .ok (.return_, 1) := by decide +kernel
theorem dX1_thingOf_0 : decode cX1_thingOf 0 = .ok (.iload_n 1, 1) := by decide +kernel
theorem dX1_thingOf_1 : decode cX1_thingOf 1 = .ok (.ifCond .lt 20, 3) := by decide +kernel
theorem dX1_thingOf_4 : decode cX1_thingOf 4 = .ok (.iload_n 1, 1) := by decide +kernel
theorem dX1_thingOf_5 : decode cX1_thingOf 5 = .ok (.aload_n 0, 1) := by decide +kernel
theorem dX1_thingOf_6 : decode cX1_thingOf 6 = .ok (.getfield 43, 3) := by decide +kernel
theorem dX1_thingOf_9 : decode cX1_thingOf 9 = .ok (.if_icmp .ge 12, 3) := by decide +kernel
theorem dX1_thingOf_12 : decode cX1_thingOf 12 = .ok (.aload_n 0, 1) := by decide +kernel
theorem dX1_thingOf_13 : decode cX1_thingOf 13 = .ok (.getfield 15, 3) := by decide +kernel
theorem dX1_thingOf_16 : decode cX1_thingOf 16 = .ok (.iload_n 1, 1) := by decide +kernel
theorem dX1_thingOf_17 : decode cX1_thingOf 17 = .ok (.iaload, 1) := by decide +kernel
theorem dX1_thingOf_18 : decode cX1_thingOf 18 = .ok (.goto 5, 3) := by decide +kernel
theorem dX1_thingOf_21 : decode cX1_thingOf 21 = .ok (.bipush (-4), 2) := by decide +kernel
theorem dX1_thingOf_23 : decode cX1_thingOf 23 = .ok (.ireturn, 1) := by decide +kernel
theorem dX1_leftOf_0 : decode cX1_leftOf 0 = .ok (.iconst 0, 1) := by decide +kernel
theorem dX1_leftOf_1 : decode cX1_leftOf 1 = .ok (.istore 4, 2) := by decide +kernel
theorem dX1_leftOf_3 : decode cX1_leftOf 3 = .ok (.iconst 0, 1) := by decide +kernel
theorem dX1_leftOf_4 : decode cX1_leftOf 4 = .ok (.istore 5, 2) := by decide +kernel
theorem dX1_leftOf_6 : decode cX1_leftOf 6 = .ok (.iload 5, 2) := by decide +kernel
theorem dX1_leftOf_8 : decode cX1_leftOf 8 = .ok (.aload_n 1, 1) := by decide +kernel
theorem dX1_leftOf_9 : decode cX1_leftOf 9 = .ok (.getfield 44, 3) := by decide +kernel
theorem dX1_leftOf_12 : decode cX1_leftOf 12 = .ok (.if_icmp .ge 69, 3) := by decide +kernel
theorem dX1_leftOf_15 : decode cX1_leftOf 15 = .ok (.aload_n 1, 1) := by decide +kernel
theorem dX1_leftOf_16 : decode cX1_leftOf 16 = .ok (.getfield 66, 3) := by decide +kernel
theorem dX1_leftOf_19 : decode cX1_leftOf 19 = .ok (.iload 5, 2) := by decide +kernel
theorem dX1_leftOf_21 : decode cX1_leftOf 21 = .ok (.aaload, 1) := by decide +kernel
theorem dX1_leftOf_22 : decode cX1_leftOf 22 = .ok (.astore 6, 2) := by decide +kernel
theorem dX1_leftOf_24 : decode cX1_leftOf 24 = .ok (.aload 6, 2) := by decide +kernel
theorem dX1_leftOf_26 : decode cX1_leftOf 26 = .ok (.getfield 70, 3) := by decide +kernel
theorem dX1_leftOf_29 : decode cX1_leftOf 29 = .ok (.iload_n 2, 1) := by decide +kernel
theorem dX1_leftOf_30 : decode cX1_leftOf 30 = .ok (.if_icmp .ne 45, 3) := by decide +kernel
theorem dX1_leftOf_33 : decode cX1_leftOf 33 = .ok (.aload_n 0, 1) := by decide +kernel
theorem dX1_leftOf_34 : decode cX1_leftOf 34 = .ok (.getfield 18, 3) := by decide +kernel
theorem dX1_leftOf_37 : decode cX1_leftOf 37 = .ok (.iload 5, 2) := by decide +kernel
theorem dX1_leftOf_39 : decode cX1_leftOf 39 = .ok (.iaload, 1) := by decide +kernel
theorem dX1_leftOf_40 : decode cX1_leftOf 40 = .ok (.bipush (-4), 2) := by decide +kernel
theorem dX1_leftOf_42 : decode cX1_leftOf 42 = .ok (.if_icmp .ne 33, 3) := by decide +kernel
theorem dX1_leftOf_45 : decode cX1_leftOf 45 = .ok (.aload 6, 2) := by decide +kernel
theorem dX1_leftOf_47 : decode cX1_leftOf 47 = .ok (.invokevirtual 87, 3) := by decide +kernel
theorem dX1_leftOf_50 : decode cX1_leftOf 50 = .ok (.ifCond .ne 25, 3) := by decide +kernel
theorem dX1_leftOf_53 : decode cX1_leftOf 53 = .ok (.iload_n 3, 1) := by decide +kernel
theorem dX1_leftOf_54 : decode cX1_leftOf 54 = .ok (.ifCond .ne 12, 3) := by decide +kernel
theorem dX1_leftOf_57 : decode cX1_leftOf 57 = .ok (.aload 6, 2) := by decide +kernel
theorem dX1_leftOf_59 : decode cX1_leftOf 59 = .ok (.getfield 91, 3) := by decide +kernel
theorem dX1_leftOf_62 : decode cX1_leftOf 62 = .ok (.iconst 4, 1) := by decide +kernel
theorem dX1_leftOf_63 : decode cX1_leftOf 63 = .ok (.if_icmp .eq 12, 3) := by decide +kernel
theorem dX1_leftOf_66 : decode cX1_leftOf 66 = .ok (.iload 4, 2) := by decide +kernel
theorem dX1_leftOf_68 : decode cX1_leftOf 68 = .ok (.iconst 1, 1) := by decide +kernel
theorem dX1_leftOf_69 : decode cX1_leftOf 69 = .ok (.iload 5, 2) := by decide +kernel
theorem dX1_leftOf_71 : decode cX1_leftOf 71 = .ok (.ishl, 1) := by decide +kernel
theorem dX1_leftOf_72 : decode cX1_leftOf 72 = .ok (.ior, 1) := by decide +kernel
theorem dX1_leftOf_73 : decode cX1_leftOf 73 = .ok (.istore 4, 2) := by decide +kernel
theorem dX1_leftOf_75 : decode cX1_leftOf 75 = .ok (.iinc 5 1, 3) := by decide +kernel
theorem dX1_leftOf_78 : decode cX1_leftOf 78 = .ok (.goto (-72), 3) := by decide +kernel
theorem dX1_leftOf_81 : decode cX1_leftOf 81 = .ok (.iload 4, 2) := by decide +kernel
theorem dX1_leftOf_83 : decode cX1_leftOf 83 = .ok (.ireturn, 1) := by decide +kernel
theorem dX1_seekFree_0 : decode cX1_seekFree 0 = .ok (.iconst 0, 1) := by decide +kernel
theorem dX1_seekFree_1 : decode cX1_seekFree 1 = .ok (.istore_n 3, 1) := by decide +kernel
theorem dX1_seekFree_2 : decode cX1_seekFree 2 = .ok (.iload_n 1, 1) := by decide +kernel
theorem dX1_seekFree_3 : decode cX1_seekFree 3 = .ok (.istore 4, 2) := by decide +kernel
theorem dX1_seekFree_5 : decode cX1_seekFree 5 = .ok (.iload 4, 2) := by decide +kernel
theorem dX1_seekFree_7 : decode cX1_seekFree 7 = .ok (.aload_n 0, 1) := by decide +kernel
theorem dX1_seekFree_8 : decode cX1_seekFree 8 = .ok (.getfield 43, 3) := by decide +kernel
theorem dX1_seekFree_11 : decode cX1_seekFree 11 = .ok (.if_icmp .ge 32, 3) := by decide +kernel
theorem dX1_seekFree_14 : decode cX1_seekFree 14 = .ok (.aload_n 0, 1) := by decide +kernel
theorem dX1_seekFree_15 : decode cX1_seekFree 15 = .ok (.getfield 15, 3) := by decide +kernel
theorem dX1_seekFree_18 : decode cX1_seekFree 18 = .ok (.iload 4, 2) := by decide +kernel
theorem dX1_seekFree_20 : decode cX1_seekFree 20 = .ok (.iaload, 1) := by decide +kernel
theorem dX1_seekFree_21 : decode cX1_seekFree 21 = .ok (.bipush (-4), 2) := by decide +kernel
theorem dX1_seekFree_23 : decode cX1_seekFree 23 = .ok (.if_icmp .ne 14, 3) := by decide +kernel
theorem dX1_seekFree_26 : decode cX1_seekFree 26 = .ok (.aload_n 0, 1) := by decide +kernel
theorem dX1_seekFree_27 : decode cX1_seekFree 27 = .ok (.getfield 24, 3) := by decide +kernel
theorem dX1_seekFree_30 : decode cX1_seekFree 30 = .ok (.iload_n 3, 1) := by decide +kernel
theorem dX1_seekFree_31 : decode cX1_seekFree 31 = .ok (.iload 4, 2) := by decide +kernel
theorem dX1_seekFree_33 : decode cX1_seekFree 33 = .ok (.iastore, 1) := by decide +kernel
theorem dX1_seekFree_34 : decode cX1_seekFree 34 = .ok (.iinc 3 1, 3) := by decide +kernel
theorem dX1_seekFree_37 : decode cX1_seekFree 37 = .ok (.iinc 4 1, 3) := by decide +kernel
theorem dX1_seekFree_40 : decode cX1_seekFree 40 = .ok (.goto (-35), 3) := by decide +kernel
theorem dX1_seekFree_43 : decode cX1_seekFree 43 = .ok (.iload_n 2, 1) := by decide +kernel
theorem dX1_seekFree_44 : decode cX1_seekFree 44 = .ok (.istore 4, 2) := by decide +kernel
theorem dX1_seekFree_46 : decode cX1_seekFree 46 = .ok (.iconst 0, 1) := by decide +kernel
theorem dX1_seekFree_47 : decode cX1_seekFree 47 = .ok (.istore 5, 2) := by decide +kernel
theorem dX1_seekFree_49 : decode cX1_seekFree 49 = .ok (.iload 5, 2) := by decide +kernel
theorem dX1_seekFree_51 : decode cX1_seekFree 51 = .ok (.iload_n 3, 1) := by decide +kernel
theorem dX1_seekFree_52 : decode cX1_seekFree 52 = .ok (.if_icmp .ge 115, 3) := by decide +kernel
theorem dX1_seekFree_55 : decode cX1_seekFree 55 = .ok (.aload_n 0, 1) := by decide +kernel
theorem dX1_seekFree_56 : decode cX1_seekFree 56 = .ok (.getfield 9, 3) := by decide +kernel
theorem dX1_seekFree_59 : decode cX1_seekFree 59 = .ok (.aload_n 0, 1) := by decide +kernel
theorem dX1_seekFree_60 : decode cX1_seekFree 60 = .ok (.getfield 24, 3) := by decide +kernel
theorem dX1_seekFree_63 : decode cX1_seekFree 63 = .ok (.iload 5, 2) := by decide +kernel
theorem dX1_seekFree_65 : decode cX1_seekFree 65 = .ok (.iaload, 1) := by decide +kernel
theorem dX1_seekFree_66 : decode cX1_seekFree 66 = .ok (.iaload, 1) := by decide +kernel
theorem dX1_seekFree_67 : decode cX1_seekFree 67 = .ok (.iload 4, 2) := by decide +kernel
theorem dX1_seekFree_69 : decode cX1_seekFree 69 = .ok (.iconst (-1), 1) := by decide +kernel
theorem dX1_seekFree_70 : decode cX1_seekFree 70 = .ok (.ixor, 1) := by decide +kernel
theorem dX1_seekFree_71 : decode cX1_seekFree 71 = .ok (.iand, 1) := by decide +kernel
theorem dX1_seekFree_72 : decode cX1_seekFree 72 = .ok (.istore 6, 2) := by decide +kernel
theorem dX1_seekFree_74 : decode cX1_seekFree 74 = .ok (.iload 4, 2) := by decide +kernel
theorem dX1_seekFree_76 : decode cX1_seekFree 76 = .ok (.iload 6, 2) := by decide +kernel
theorem dX1_seekFree_78 : decode cX1_seekFree 78 = .ok (.ior, 1) := by decide +kernel
theorem dX1_seekFree_79 : decode cX1_seekFree 79 = .ok (.istore 4, 2) := by decide +kernel
theorem dX1_seekFree_81 : decode cX1_seekFree 81 = .ok (.iconst 0, 1) := by decide +kernel
theorem dX1_seekFree_82 : decode cX1_seekFree 82 = .ok (.istore 7, 2) := by decide +kernel
theorem dX1_seekFree_84 : decode cX1_seekFree 84 = .ok (.iload 7, 2) := by decide +kernel
theorem dX1_seekFree_86 : decode cX1_seekFree 86 = .ok (.aload_n 0, 1) := by decide +kernel
theorem dX1_seekFree_87 : decode cX1_seekFree 87 = .ok (.getfield 47, 3) := by decide +kernel
theorem dX1_seekFree_90 : decode cX1_seekFree 90 = .ok (.if_icmp .ge 71, 3) := by decide +kernel
theorem dX1_seekFree_93 : decode cX1_seekFree 93 = .ok (.iload 6, 2) := by decide +kernel
theorem dX1_seekFree_95 : decode cX1_seekFree 95 = .ok (.iload 7, 2) := by decide +kernel
theorem dX1_seekFree_97 : decode cX1_seekFree 97 = .ok (.ishr, 1) := by decide +kernel
theorem dX1_seekFree_98 : decode cX1_seekFree 98 = .ok (.iconst 1, 1) := by decide +kernel
theorem dX1_seekFree_99 : decode cX1_seekFree 99 = .ok (.iand, 1) := by decide +kernel
theorem dX1_seekFree_100 : decode cX1_seekFree 100 = .ok (.iconst 1, 1) := by decide +kernel
theorem dX1_seekFree_101 : decode cX1_seekFree 101 = .ok (.if_icmp .ne 54, 3) := by decide +kernel
theorem dX1_seekFree_104 : decode cX1_seekFree 104 = .ok (.aload_n 0, 1) := by decide +kernel
theorem dX1_seekFree_105 : decode cX1_seekFree 105 = .ok (.getfield 21, 3) := by decide +kernel
theorem dX1_seekFree_108 : decode cX1_seekFree 108 = .ok (.iload 7, 2) := by decide +kernel
theorem dX1_seekFree_110 : decode cX1_seekFree 110 = .ok (.aload_n 0, 1) := by decide +kernel
theorem dX1_seekFree_111 : decode cX1_seekFree 111 = .ok (.getfield 24, 3) := by decide +kernel
theorem dX1_seekFree_114 : decode cX1_seekFree 114 = .ok (.iload 5, 2) := by decide +kernel
theorem dX1_seekFree_116 : decode cX1_seekFree 116 = .ok (.iaload, 1) := by decide +kernel
theorem dX1_seekFree_117 : decode cX1_seekFree 117 = .ok (.iastore, 1) := by decide +kernel
theorem dX1_seekFree_118 : decode cX1_seekFree 118 = .ok (.aload_n 0, 1) := by decide +kernel
theorem dX1_seekFree_119 : decode cX1_seekFree 119 = .ok (.getfield 18, 3) := by decide +kernel
theorem dX1_seekFree_122 : decode cX1_seekFree 122 = .ok (.iload 7, 2) := by decide +kernel
theorem dX1_seekFree_124 : decode cX1_seekFree 124 = .ok (.iaload, 1) := by decide +kernel
theorem dX1_seekFree_125 : decode cX1_seekFree 125 = .ok (.bipush (-4), 2) := by decide +kernel
theorem dX1_seekFree_127 : decode cX1_seekFree 127 = .ok (.if_icmp .ne 6, 3) := by decide +kernel
theorem dX1_seekFree_130 : decode cX1_seekFree 130 = .ok (.iload 7, 2) := by decide +kernel
theorem dX1_seekFree_132 : decode cX1_seekFree 132 = .ok (.ireturn, 1) := by decide +kernel
theorem dX1_seekFree_133 : decode cX1_seekFree 133 = .ok (.iload_n 3, 1) := by decide +kernel
theorem dX1_seekFree_134 : decode cX1_seekFree 134 = .ok (.bipush 8, 2) := by decide +kernel
theorem dX1_seekFree_136 : decode cX1_seekFree 136 = .ok (.if_icmp .ge 19, 3) := by decide +kernel
theorem dX1_seekFree_139 : decode cX1_seekFree 139 = .ok (.aload_n 0, 1) := by decide +kernel
theorem dX1_seekFree_140 : decode cX1_seekFree 140 = .ok (.getfield 24, 3) := by decide +kernel
theorem dX1_seekFree_143 : decode cX1_seekFree 143 = .ok (.iload_n 3, 1) := by decide +kernel
theorem dX1_seekFree_144 : decode cX1_seekFree 144 = .ok (.aload_n 0, 1) := by decide +kernel
theorem dX1_seekFree_145 : decode cX1_seekFree 145 = .ok (.getfield 18, 3) := by decide +kernel
theorem dX1_seekFree_148 : decode cX1_seekFree 148 = .ok (.iload 7, 2) := by decide +kernel
theorem dX1_seekFree_150 : decode cX1_seekFree 150 = .ok (.iaload, 1) := by decide +kernel
theorem dX1_seekFree_151 : decode cX1_seekFree 151 = .ok (.iastore, 1) := by decide +kernel
theorem dX1_seekFree_152 : decode cX1_seekFree 152 = .ok (.iinc 3 1, 3) := by decide +kernel
theorem dX1_seekFree_155 : decode cX1_seekFree 155 = .ok (.iinc 7 1, 3) := by decide +kernel
theorem dX1_seekFree_158 : decode cX1_seekFree 158 = .ok (.goto (-74), 3) := by decide +kernel
theorem dX1_seekFree_161 : decode cX1_seekFree 161 = .ok (.iinc 5 1, 3) := by decide +kernel
theorem dX1_seekFree_164 : decode cX1_seekFree 164 = .ok (.goto (-115), 3) := by decide +kernel
theorem dX1_seekFree_167 : decode cX1_seekFree 167 = .ok (.bipush (-4), 2) := by decide +kernel
theorem dX1_seekFree_169 : decode cX1_seekFree 169 = .ok (.ireturn, 1) := by decide +kernel
theorem dX1_passAlong_0 : decode cX1_passAlong 0 = .ok (.iload_n 1, 1) := by decide +kernel
theorem dX1_passAlong_1 : decode cX1_passAlong 1 = .ok (.istore_n 2, 1) := by decide +kernel
theorem dX1_passAlong_2 : decode cX1_passAlong 2 = .ok (.iconst 0, 1) := by decide +kernel
theorem dX1_passAlong_3 : decode cX1_passAlong 3 = .ok (.istore_n 3, 1) := by decide +kernel
theorem dX1_passAlong_4 : decode cX1_passAlong 4 = .ok (.iload_n 3, 1) := by decide +kernel
theorem dX1_passAlong_5 : decode cX1_passAlong 5 = .ok (.bipush 8, 2) := by decide +kernel
theorem dX1_passAlong_7 : decode cX1_passAlong 7 = .ok (.if_icmp .ge 42, 3) := by decide +kernel
theorem dX1_passAlong_10 : decode cX1_passAlong 10 = .ok (.iload_n 2, 1) := by decide +kernel
theorem dX1_passAlong_11 : decode cX1_passAlong 11 = .ok (.bipush (-4), 2) := by decide +kernel
theorem dX1_passAlong_13 : decode cX1_passAlong 13 = .ok (.if_icmp .eq 36, 3) := by decide +kernel
theorem dX1_passAlong_16 : decode cX1_passAlong 16 = .ok (.aload_n 0, 1) := by decide +kernel
theorem dX1_passAlong_17 : decode cX1_passAlong 17 = .ok (.getfield 21, 3) := by decide +kernel
theorem dX1_passAlong_20 : decode cX1_passAlong 20 = .ok (.iload_n 2, 1) := by decide +kernel
theorem dX1_passAlong_21 : decode cX1_passAlong 21 = .ok (.iaload, 1) := by decide +kernel
theorem dX1_passAlong_22 : decode cX1_passAlong 22 = .ok (.istore 4, 2) := by decide +kernel
theorem dX1_passAlong_24 : decode cX1_passAlong 24 = .ok (.aload_n 0, 1) := by decide +kernel
theorem dX1_passAlong_25 : decode cX1_passAlong 25 = .ok (.getfield 15, 3) := by decide +kernel
theorem dX1_passAlong_28 : decode cX1_passAlong 28 = .ok (.iload 4, 2) := by decide +kernel
theorem dX1_passAlong_30 : decode cX1_passAlong 30 = .ok (.iaload, 1) := by decide +kernel
theorem dX1_passAlong_31 : decode cX1_passAlong 31 = .ok (.istore 5, 2) := by decide +kernel
theorem dX1_passAlong_33 : decode cX1_passAlong 33 = .ok (.aload_n 0, 1) := by decide +kernel
theorem dX1_passAlong_34 : decode cX1_passAlong 34 = .ok (.iload 4, 2) := by decide +kernel
theorem dX1_passAlong_36 : decode cX1_passAlong 36 = .ok (.iload_n 2, 1) := by decide +kernel
theorem dX1_passAlong_37 : decode cX1_passAlong 37 = .ok (.invokevirtual 94, 3) := by decide +kernel
theorem dX1_passAlong_40 : decode cX1_passAlong 40 = .ok (.iload 5, 2) := by decide +kernel
theorem dX1_passAlong_42 : decode cX1_passAlong 42 = .ok (.istore_n 2, 1) := by decide +kernel
theorem dX1_passAlong_43 : decode cX1_passAlong 43 = .ok (.iinc 3 1, 3) := by decide +kernel
theorem dX1_passAlong_46 : decode cX1_passAlong 46 = .ok (.goto (-42), 3) := by decide +kernel
theorem dX1_passAlong_49 : decode cX1_passAlong 49 = .ok (.return_, 1) := by decide +kernel
theorem dX1_putInOrder_0 : decode cX1_putInOrder 0 = .ok (.iconst 0, 1) := by decide +kernel
theorem dX1_putInOrder_1 : decode cX1_putInOrder 1 = .ok (.istore_n 1, 1) := by decide +kernel
theorem dX1_putInOrder_2 : decode cX1_putInOrder 2 = .ok (.iconst 0, 1) := by decide +kernel
theorem dX1_putInOrder_3 : decode cX1_putInOrder 3 = .ok (.istore_n 2, 1) := by decide +kernel
theorem dX1_putInOrder_4 : decode cX1_putInOrder 4 = .ok (.iload_n 2, 1) := by decide +kernel
theorem dX1_putInOrder_5 : decode cX1_putInOrder 5 = .ok (.aload_n 0, 1) := by decide +kernel
theorem dX1_putInOrder_6 : decode cX1_putInOrder 6 = .ok (.getfield 43, 3) := by decide +kernel
theorem dX1_putInOrder_9 : decode cX1_putInOrder 9 = .ok (.if_icmp .ge 80, 3) := by decide +kernel
theorem dX1_putInOrder_12 : decode cX1_putInOrder 12 = .ok (.aload_n 0, 1) := by decide +kernel
theorem dX1_putInOrder_13 : decode cX1_putInOrder 13 = .ok (.getfield 9, 3) := by decide +kernel
theorem dX1_putInOrder_16 : decode cX1_putInOrder 16 = .ok (.iload_n 2, 1) := by decide +kernel
theorem dX1_putInOrder_17 : decode cX1_putInOrder 17 = .ok (.iaload, 1) := by decide +kernel
theorem dX1_putInOrder_18 : decode cX1_putInOrder 18 = .ok (.iload_n 1, 1) := by decide +kernel
theorem dX1_putInOrder_19 : decode cX1_putInOrder 19 = .ok (.iconst (-1), 1) := by decide +kernel
theorem dX1_putInOrder_20 : decode cX1_putInOrder 20 = .ok (.ixor, 1) := by decide +kernel
theorem dX1_putInOrder_21 : decode cX1_putInOrder 21 = .ok (.iand, 1) := by decide +kernel
theorem dX1_putInOrder_22 : decode cX1_putInOrder 22 = .ok (.istore_n 3, 1) := by decide +kernel
theorem dX1_putInOrder_23 : decode cX1_putInOrder 23 = .ok (.iconst 0, 1) := by decide +kernel
theorem dX1_putInOrder_24 : decode cX1_putInOrder 24 = .ok (.istore 4, 2) := by decide +kernel
theorem dX1_putInOrder_26 : decode cX1_putInOrder 26 = .ok (.iload 4, 2) := by decide +kernel
theorem dX1_putInOrder_28 : decode cX1_putInOrder 28 = .ok (.aload_n 0, 1) := by decide +kernel
theorem dX1_putInOrder_29 : decode cX1_putInOrder 29 = .ok (.getfield 47, 3) := by decide +kernel
theorem dX1_putInOrder_32 : decode cX1_putInOrder 32 = .ok (.if_icmp .ge 51, 3) := by decide +kernel
theorem dX1_putInOrder_35 : decode cX1_putInOrder 35 = .ok (.iload_n 3, 1) := by decide +kernel
theorem dX1_putInOrder_36 : decode cX1_putInOrder 36 = .ok (.iload 4, 2) := by decide +kernel
theorem dX1_putInOrder_38 : decode cX1_putInOrder 38 = .ok (.ishr, 1) := by decide +kernel
theorem dX1_putInOrder_39 : decode cX1_putInOrder 39 = .ok (.iconst 1, 1) := by decide +kernel
theorem dX1_putInOrder_40 : decode cX1_putInOrder 40 = .ok (.iand, 1) := by decide +kernel
theorem dX1_putInOrder_41 : decode cX1_putInOrder 41 = .ok (.iconst 1, 1) := by decide +kernel
theorem dX1_putInOrder_42 : decode cX1_putInOrder 42 = .ok (.if_icmp .ne 35, 3) := by decide +kernel
theorem dX1_putInOrder_45 : decode cX1_putInOrder 45 = .ok (.aload_n 0, 1) := by decide +kernel
theorem dX1_putInOrder_46 : decode cX1_putInOrder 46 = .ok (.getfield 15, 3) := by decide +kernel
theorem dX1_putInOrder_49 : decode cX1_putInOrder 49 = .ok (.iload_n 2, 1) := by decide +kernel
theorem dX1_putInOrder_50 : decode cX1_putInOrder 50 = .ok (.iaload, 1) := by decide +kernel
theorem dX1_putInOrder_51 : decode cX1_putInOrder 51 = .ok (.iload 4, 2) := by decide +kernel
theorem dX1_putInOrder_53 : decode cX1_putInOrder 53 = .ok (.if_icmp .eq 14, 3) := by decide +kernel
theorem dX1_putInOrder_56 : decode cX1_putInOrder 56 = .ok (.aload_n 0, 1) := by decide +kernel
theorem dX1_putInOrder_57 : decode cX1_putInOrder 57 = .ok (.iload_n 2, 1) := by decide +kernel
theorem dX1_putInOrder_58 : decode cX1_putInOrder 58 = .ok (.iload 4, 2) := by decide +kernel
theorem dX1_putInOrder_60 : decode cX1_putInOrder 60 = .ok (.iload_n 1, 1) := by decide +kernel
theorem dX1_putInOrder_61 : decode cX1_putInOrder 61 = .ok (.invokevirtual 98, 3) := by decide +kernel
theorem dX1_putInOrder_64 : decode cX1_putInOrder 64 = .ok (.ifCond .eq 13, 3) := by decide +kernel
theorem dX1_putInOrder_67 : decode cX1_putInOrder 67 = .ok (.iload_n 1, 1) := by decide +kernel
theorem dX1_putInOrder_68 : decode cX1_putInOrder 68 = .ok (.iconst 1, 1) := by decide +kernel
theorem dX1_putInOrder_69 : decode cX1_putInOrder 69 = .ok (.iload 4, 2) := by decide +kernel
theorem dX1_putInOrder_71 : decode cX1_putInOrder 71 = .ok (.ishl, 1) := by decide +kernel
theorem dX1_putInOrder_72 : decode cX1_putInOrder 72 = .ok (.ior, 1) := by decide +kernel
theorem dX1_putInOrder_73 : decode cX1_putInOrder 73 = .ok (.istore_n 1, 1) := by decide +kernel
theorem dX1_putInOrder_74 : decode cX1_putInOrder 74 = .ok (.goto 9, 3) := by decide +kernel
theorem dX1_putInOrder_77 : decode cX1_putInOrder 77 = .ok (.iinc 4 1, 3) := by decide +kernel
theorem dX1_putInOrder_80 : decode cX1_putInOrder 80 = .ok (.goto (-54), 3) := by decide +kernel
theorem dX1_putInOrder_83 : decode cX1_putInOrder 83 = .ok (.iinc 2 1, 3) := by decide +kernel
theorem dX1_putInOrder_86 : decode cX1_putInOrder 86 = .ok (.goto (-82), 3) := by decide +kernel
theorem dX1_putInOrder_89 : decode cX1_putInOrder 89 = .ok (.return_, 1) := by decide +kernel
theorem dX1_canHave_0 : decode cX1_canHave 0 = .ok (.aload_n 0, 1) := by decide +kernel
theorem dX1_canHave_1 : decode cX1_canHave 1 = .ok (.getfield 18, 3) := by decide +kernel
theorem dX1_canHave_4 : decode cX1_canHave 4 = .ok (.iload_n 2, 1) := by decide +kernel
theorem dX1_canHave_5 : decode cX1_canHave 5 = .ok (.iaload, 1) := by decide +kernel
theorem dX1_canHave_6 : decode cX1_canHave 6 = .ok (.istore 4, 2) := by decide +kernel
theorem dX1_canHave_8 : decode cX1_canHave 8 = .ok (.aload_n 0, 1) := by decide +kernel
theorem dX1_canHave_9 : decode cX1_canHave 9 = .ok (.getfield 15, 3) := by decide +kernel
theorem dX1_canHave_12 : decode cX1_canHave 12 = .ok (.iload_n 1, 1) := by decide +kernel
theorem dX1_canHave_13 : decode cX1_canHave 13 = .ok (.iaload, 1) := by decide +kernel
theorem dX1_canHave_14 : decode cX1_canHave 14 = .ok (.istore 5, 2) := by decide +kernel
theorem dX1_canHave_16 : decode cX1_canHave 16 = .ok (.aload_n 0, 1) := by decide +kernel
theorem dX1_canHave_17 : decode cX1_canHave 17 = .ok (.iload_n 1, 1) := by decide +kernel
theorem dX1_canHave_18 : decode cX1_canHave 18 = .ok (.iload_n 2, 1) := by decide +kernel
theorem dX1_canHave_19 : decode cX1_canHave 19 = .ok (.invokevirtual 94, 3) := by decide +kernel
theorem dX1_canHave_22 : decode cX1_canHave 22 = .ok (.iload 5, 2) := by decide +kernel
theorem dX1_canHave_24 : decode cX1_canHave 24 = .ok (.bipush (-4), 2) := by decide +kernel
theorem dX1_canHave_26 : decode cX1_canHave 26 = .ok (.if_icmp .eq 12, 3) := by decide +kernel
theorem dX1_canHave_29 : decode cX1_canHave 29 = .ok (.aload_n 0, 1) := by decide +kernel
theorem dX1_canHave_30 : decode cX1_canHave 30 = .ok (.getfield 18, 3) := by decide +kernel
theorem dX1_canHave_33 : decode cX1_canHave 33 = .ok (.iload 5, 2) := by decide +kernel
theorem dX1_canHave_35 : decode cX1_canHave 35 = .ok (.bipush (-4), 2) := by decide +kernel
theorem dX1_canHave_37 : decode cX1_canHave 37 = .ok (.iastore, 1) := by decide +kernel
theorem dX1_canHave_38 : decode cX1_canHave 38 = .ok (.iload 4, 2) := by decide +kernel
theorem dX1_canHave_40 : decode cX1_canHave 40 = .ok (.bipush (-4), 2) := by decide +kernel
theorem dX1_canHave_42 : decode cX1_canHave 42 = .ok (.if_icmp .ne 5, 3) := by decide +kernel
theorem dX1_canHave_45 : decode cX1_canHave 45 = .ok (.iconst 1, 1) := by decide +kernel
theorem dX1_canHave_46 : decode cX1_canHave 46 = .ok (.ireturn, 1) := by decide +kernel
theorem dX1_canHave_47 : decode cX1_canHave 47 = .ok (.aload_n 0, 1) := by decide +kernel
theorem dX1_canHave_48 : decode cX1_canHave 48 = .ok (.getfield 15, 3) := by decide +kernel
theorem dX1_canHave_51 : decode cX1_canHave 51 = .ok (.iload 4, 2) := by decide +kernel
theorem dX1_canHave_53 : decode cX1_canHave 53 = .ok (.bipush (-4), 2) := by decide +kernel
theorem dX1_canHave_55 : decode cX1_canHave 55 = .ok (.iastore, 1) := by decide +kernel
theorem dX1_canHave_56 : decode cX1_canHave 56 = .ok (.iload 5, 2) := by decide +kernel
theorem dX1_canHave_58 : decode cX1_canHave 58 = .ok (.bipush (-4), 2) := by decide +kernel
theorem dX1_canHave_60 : decode cX1_canHave 60 = .ok (.if_icmp .ne 5, 3) := by decide +kernel
theorem dX1_canHave_63 : decode cX1_canHave 63 = .ok (.iconst 1, 1) := by decide +kernel
theorem dX1_canHave_64 : decode cX1_canHave 64 = .ok (.ireturn, 1) := by decide +kernel
theorem dX1_canHave_65 : decode cX1_canHave 65 = .ok (.aload_n 0, 1) := by decide +kernel
theorem dX1_canHave_66 : decode cX1_canHave 66 = .ok (.iload_n 1, 1) := by decide +kernel
theorem dX1_canHave_67 : decode cX1_canHave 67 = .ok (.iconst 1, 1) := by decide +kernel
theorem dX1_canHave_68 : decode cX1_canHave 68 = .ok (.iadd, 1) := by decide +kernel
theorem dX1_canHave_69 : decode cX1_canHave 69 = .ok (.iload_n 3, 1) := by decide +kernel
theorem dX1_canHave_70 : decode cX1_canHave 70 = .ok (.iconst 1, 1) := by decide +kernel
theorem dX1_canHave_71 : decode cX1_canHave 71 = .ok (.iload_n 2, 1) := by decide +kernel
theorem dX1_canHave_72 : decode cX1_canHave 72 = .ok (.ishl, 1) := by decide +kernel
theorem dX1_canHave_73 : decode cX1_canHave 73 = .ok (.ior, 1) := by decide +kernel
theorem dX1_canHave_74 : decode cX1_canHave 74 = .ok (.invokevirtual 79, 3) := by decide +kernel
theorem dX1_canHave_77 : decode cX1_canHave 77 = .ok (.istore 6, 2) := by decide +kernel
theorem dX1_canHave_79 : decode cX1_canHave 79 = .ok (.iload 6, 2) := by decide +kernel
theorem dX1_canHave_81 : decode cX1_canHave 81 = .ok (.bipush (-4), 2) := by decide +kernel
theorem dX1_canHave_83 : decode cX1_canHave 83 = .ok (.if_icmp .eq 11, 3) := by decide +kernel
theorem dX1_canHave_86 : decode cX1_canHave 86 = .ok (.aload_n 0, 1) := by decide +kernel
theorem dX1_canHave_87 : decode cX1_canHave 87 = .ok (.iload 6, 2) := by decide +kernel
theorem dX1_canHave_89 : decode cX1_canHave 89 = .ok (.invokevirtual 83, 3) := by decide +kernel
theorem dX1_canHave_92 : decode cX1_canHave 92 = .ok (.iconst 1, 1) := by decide +kernel
theorem dX1_canHave_93 : decode cX1_canHave 93 = .ok (.ireturn, 1) := by decide +kernel
theorem dX1_canHave_94 : decode cX1_canHave 94 = .ok (.aload_n 0, 1) := by decide +kernel
theorem dX1_canHave_95 : decode cX1_canHave 95 = .ok (.iload 4, 2) := by decide +kernel
theorem dX1_canHave_97 : decode cX1_canHave 97 = .ok (.iload_n 2, 1) := by decide +kernel
theorem dX1_canHave_98 : decode cX1_canHave 98 = .ok (.invokevirtual 94, 3) := by decide +kernel
theorem dX1_canHave_101 : decode cX1_canHave 101 = .ok (.aload_n 0, 1) := by decide +kernel
theorem dX1_canHave_102 : decode cX1_canHave 102 = .ok (.iload_n 1, 1) := by decide +kernel
theorem dX1_canHave_103 : decode cX1_canHave 103 = .ok (.iload 5, 2) := by decide +kernel
theorem dX1_canHave_105 : decode cX1_canHave 105 = .ok (.invokevirtual 94, 3) := by decide +kernel
theorem dX1_canHave_108 : decode cX1_canHave 108 = .ok (.iconst 0, 1) := by decide +kernel
theorem dX1_canHave_109 : decode cX1_canHave 109 = .ok (.ireturn, 1) := by decide +kernel
theorem dX1_give_0 : decode cX1_give 0 = .ok (.aload_n 0, 1) := by decide +kernel
theorem dX1_give_1 : decode cX1_give 1 = .ok (.getfield 15, 3) := by decide +kernel
theorem dX1_give_4 : decode cX1_give 4 = .ok (.iload_n 1, 1) := by decide +kernel
theorem dX1_give_5 : decode cX1_give 5 = .ok (.iload_n 2, 1) := by decide +kernel
theorem dX1_give_6 : decode cX1_give 6 = .ok (.iastore, 1) := by decide +kernel
theorem dX1_give_7 : decode cX1_give 7 = .ok (.aload_n 0, 1) := by decide +kernel
theorem dX1_give_8 : decode cX1_give 8 = .ok (.getfield 18, 3) := by decide +kernel
theorem dX1_give_11 : decode cX1_give 11 = .ok (.iload_n 2, 1) := by decide +kernel
theorem dX1_give_12 : decode cX1_give 12 = .ok (.iload_n 1, 1) := by decide +kernel
theorem dX1_give_13 : decode cX1_give 13 = .ok (.iastore, 1) := by decide +kernel
theorem dX1_give_14 : decode cX1_give 14 = .ok (.return_, 1) := by decide +kernel
theorem dX2_init_0 : decode cX2_init 0 = .ok (.aload_n 0, 1) := by decide +kernel
theorem dX2_init_1 : decode cX2_init 1 = .ok (.invokespecial 3, 3) := by decide +kernel
theorem dX2_init_4 : decode cX2_init 4 = .ok (.aload_n 0, 1) := by decide +kernel
theorem dX2_init_5 : decode cX2_init 5 = .ok (.bipush 6, 2) := by decide +kernel
theorem dX2_init_7 : decode cX2_init 7 = .ok (.newarray .int, 2) := by decide +kernel
theorem dX2_init_9 : decode cX2_init 9 = .ok (.putfield 9, 3) := by decide +kernel
theorem dX2_init_12 : decode cX2_init 12 = .ok (.aload_n 0, 1) := by decide +kernel
theorem dX2_init_13 : decode cX2_init 13 = .ok (.sipush 256, 3) := by decide +kernel
theorem dX2_init_16 : decode cX2_init 16 = .ok (.newarray .int, 2) := by decide +kernel
theorem dX2_init_18 : decode cX2_init 18 = .ok (.putfield 15, 3) := by decide +kernel
theorem dX2_init_21 : decode cX2_init 21 = .ok (.aload_n 0, 1) := by decide +kernel
theorem dX2_init_22 : decode cX2_init 22 = .ok (.sipush 256, 3) := by decide +kernel
theorem dX2_init_25 : decode cX2_init 25 = .ok (.newarray .int, 2) := by decide +kernel
theorem dX2_init_27 : decode cX2_init 27 = .ok (.putfield 18, 3) := by decide +kernel
theorem dX2_init_30 : decode cX2_init 30 = .ok (.return_, 1) := by decide +kernel
theorem dX2_trace_0 : decode cX2_trace 0 = .ok (.aload_n 0, 1) := by decide +kernel
theorem dX2_trace_1 : decode cX2_trace 1 = .ok (.aload_n 1, 1) := by decide +kernel
theorem dX2_trace_2 : decode cX2_trace 2 = .ok (.getfield 21, 3) := by decide +kernel
theorem dX2_trace_5 : decode cX2_trace 5 = .ok (.putfield 27, 3) := by decide +kernel
theorem dX2_trace_8 : decode cX2_trace 8 = .ok (.aload_n 0, 1) := by decide +kernel
theorem dX2_trace_9 : decode cX2_trace 9 = .ok (.aload_n 1, 1) := by decide +kernel
theorem dX2_trace_10 : decode cX2_trace 10 = .ok (.getfield 28, 3) := by decide +kernel
theorem dX2_trace_13 : decode cX2_trace 13 = .ok (.putfield 31, 3) := by decide +kernel
theorem dX2_trace_16 : decode cX2_trace 16 = .ok (.iconst 0, 1) := by decide +kernel
theorem dX2_trace_17 : decode cX2_trace 17 = .ok (.istore_n 3, 1) := by decide +kernel
theorem dX2_trace_18 : decode cX2_trace 18 = .ok (.iload_n 3, 1) := by decide +kernel
theorem dX2_trace_19 : decode cX2_trace 19 = .ok (.aload_n 0, 1) := by decide +kernel
theorem dX2_trace_20 : decode cX2_trace 20 = .ok (.getfield 31, 3) := by decide +kernel
theorem dX2_trace_23 : decode cX2_trace 23 = .ok (.if_icmp .ge 21, 3) := by decide +kernel
theorem dX2_trace_26 : decode cX2_trace 26 = .ok (.aload_n 0, 1) := by decide +kernel
theorem dX2_trace_27 : decode cX2_trace 27 = .ok (.getfield 9, 3) := by decide +kernel
theorem dX2_trace_30 : decode cX2_trace 30 = .ok (.iload_n 3, 1) := by decide +kernel
theorem dX2_trace_31 : decode cX2_trace 31 = .ok (.aload_n 1, 1) := by decide +kernel
theorem dX2_trace_32 : decode cX2_trace 32 = .ok (.iload_n 3, 1) := by decide +kernel
theorem dX2_trace_33 : decode cX2_trace 33 = .ok (.iload_n 2, 1) := by decide +kernel
theorem dX2_trace_34 : decode cX2_trace 34 = .ok (.invokestatic 32, 3) := by decide +kernel
theorem dX2_trace_37 : decode cX2_trace 37 = .ok (.iastore, 1) := by decide +kernel
theorem dX2_trace_38 : decode cX2_trace 38 = .ok (.iinc 3 1, 3) := by decide +kernel
theorem dX2_trace_41 : decode cX2_trace 41 = .ok (.goto (-23), 3) := by decide +kernel
theorem dX2_trace_44 : decode cX2_trace 44 = .ok (.iconst 1, 1) := by decide +kernel
theorem dX2_trace_45 : decode cX2_trace 45 = .ok (.aload_n 0, 1) := by decide +kernel
theorem dX2_trace_46 : decode cX2_trace 46 = .ok (.getfield 27, 3) := by decide +kernel
theorem dX2_trace_49 : decode cX2_trace 49 = .ok (.ishl, 1) := by decide +kernel
theorem dX2_trace_50 : decode cX2_trace 50 = .ok (.iconst 1, 1) := by decide +kernel
theorem dX2_trace_51 : decode cX2_trace 51 = .ok (.isub, 1) := by decide +kernel
theorem dX2_trace_52 : decode cX2_trace 52 = .ok (.istore_n 3, 1) := by decide +kernel
theorem dX2_trace_53 : decode cX2_trace 53 = .ok (.iload_n 3, 1) := by decide +kernel
theorem dX2_trace_54 : decode cX2_trace 54 = .ok (.ifCond .lt 20, 3) := by decide +kernel
theorem dX2_trace_57 : decode cX2_trace 57 = .ok (.aload_n 0, 1) := by decide +kernel
theorem dX2_trace_58 : decode cX2_trace 58 = .ok (.getfield 15, 3) := by decide +kernel
theorem dX2_trace_61 : decode cX2_trace 61 = .ok (.iload_n 3, 1) := by decide +kernel
theorem dX2_trace_62 : decode cX2_trace 62 = .ok (.aload_n 0, 1) := by decide +kernel
theorem dX2_trace_63 : decode cX2_trace 63 = .ok (.iload_n 3, 1) := by decide +kernel
theorem dX2_trace_64 : decode cX2_trace 64 = .ok (.invokevirtual 36, 3) := by decide +kernel
theorem dX2_trace_67 : decode cX2_trace 67 = .ok (.iastore, 1) := by decide +kernel
theorem dX2_trace_68 : decode cX2_trace 68 = .ok (.iinc 3 (-1), 3) := by decide +kernel
theorem dX2_trace_71 : decode cX2_trace 71 = .ok (.goto (-18), 3) := by decide +kernel
theorem dX2_trace_74 : decode cX2_trace 74 = .ok (.return_, 1) := by decide +kernel
theorem dX2_fittingMark_0 : decode cX2_fittingMark 0 = .ok (.iconst 0, 1) := by decide +kernel
theorem dX2_fittingMark_1 : decode cX2_fittingMark 1 = .ok (.istore_n 3, 1) := by decide +kernel
theorem dX2_fittingMark_2 : decode cX2_fittingMark 2 = .ok (.iconst 0, 1) := by decide +kernel
theorem dX2_fittingMark_3 : decode cX2_fittingMark 3 = .ok (.istore 4, 2) := by decide +kernel
theorem dX2_fittingMark_5 : decode cX2_fittingMark 5 = .ok (.iload 4, 2) := by decide +kernel
theorem dX2_fittingMark_7 : decode cX2_fittingMark 7 = .ok (.aload_n 0, 1) := by decide +kernel
theorem dX2_fittingMark_8 : decode cX2_fittingMark 8 = .ok (.getfield 21, 3) := by decide +kernel
theorem dX2_fittingMark_11 : decode cX2_fittingMark 11 = .ok (.if_icmp .ge 63, 3) := by decide +kernel
theorem dX2_fittingMark_14 : decode cX2_fittingMark 14 = .ok (.aload_n 0, 1) := by decide +kernel
theorem dX2_fittingMark_15 : decode cX2_fittingMark 15 = .ok (.getfield 40, 3) := by decide +kernel
theorem dX2_fittingMark_18 : decode cX2_fittingMark 18 = .ok (.iload 4, 2) := by decide +kernel
theorem dX2_fittingMark_20 : decode cX2_fittingMark 20 = .ok (.aaload, 1) := by decide +kernel
theorem dX2_fittingMark_21 : decode cX2_fittingMark 21 = .ok (.astore 5, 2) := by decide +kernel
theorem dX2_fittingMark_23 : decode cX2_fittingMark 23 = .ok (.bipush 40, 2) := by decide +kernel
theorem dX2_fittingMark_25 : decode cX2_fittingMark 25 = .ok (.aload 5, 2) := by decide +kernel
theorem dX2_fittingMark_27 : decode cX2_fittingMark 27 = .ok (.getfield 44, 3) := by decide +kernel
theorem dX2_fittingMark_30 : decode cX2_fittingMark 30 = .ok (.iload_n 1, 1) := by decide +kernel
theorem dX2_fittingMark_31 : decode cX2_fittingMark 31 = .ok (.aload 5, 2) := by decide +kernel
theorem dX2_fittingMark_33 : decode cX2_fittingMark 33 = .ok (.getfield 49, 3) := by decide +kernel
theorem dX2_fittingMark_36 : decode cX2_fittingMark 36 = .ok (.imul, 1) := by decide +kernel
theorem dX2_fittingMark_37 : decode cX2_fittingMark 37 = .ok (.iadd, 1) := by decide +kernel
theorem dX2_fittingMark_38 : decode cX2_fittingMark 38 = .ok (.invokestatic 52, 3) := by decide +kernel
theorem dX2_fittingMark_41 : decode cX2_fittingMark 41 = .ok (.istore 6, 2) := by decide +kernel
theorem dX2_fittingMark_43 : decode cX2_fittingMark 43 = .ok (.aload_n 0, 1) := by decide +kernel
theorem dX2_fittingMark_44 : decode cX2_fittingMark 44 = .ok (.getfield 58, 3) := by decide +kernel
theorem dX2_fittingMark_47 : decode cX2_fittingMark 47 = .ok (.iload_n 1, 1) := by decide +kernel
theorem dX2_fittingMark_48 : decode cX2_fittingMark 48 = .ok (.iaload, 1) := by decide +kernel
theorem dX2_fittingMark_49 : decode cX2_fittingMark 49 = .ok (.iload 6, 2) := by decide +kernel
theorem dX2_fittingMark_51 : decode cX2_fittingMark 51 = .ok (.iload 6, 2) := by decide +kernel
theorem dX2_fittingMark_53 : decode cX2_fittingMark 53 = .ok (.iload_n 2, 1) := by decide +kernel
theorem dX2_fittingMark_54 : decode cX2_fittingMark 54 = .ok (.iadd, 1) := by decide +kernel
theorem dX2_fittingMark_55 : decode cX2_fittingMark 55 = .ok (.invokestatic 61, 3) := by decide +kernel
theorem dX2_fittingMark_58 : decode cX2_fittingMark 58 = .ok (.ifCond .eq 10, 3) := by decide +kernel
theorem dX2_fittingMark_61 : decode cX2_fittingMark 61 = .ok (.iload_n 3, 1) := by decide +kernel
theorem dX2_fittingMark_62 : decode cX2_fittingMark 62 = .ok (.iconst 1, 1) := by decide +kernel
theorem dX2_fittingMark_63 : decode cX2_fittingMark 63 = .ok (.iload 4, 2) := by decide +kernel
theorem dX2_fittingMark_65 : decode cX2_fittingMark 65 = .ok (.ishl, 1) := by decide +kernel
theorem dX2_fittingMark_66 : decode cX2_fittingMark 66 = .ok (.ior, 1) := by decide +kernel
theorem dX2_fittingMark_67 : decode cX2_fittingMark 67 = .ok (.istore_n 3, 1) := by decide +kernel
theorem dX2_fittingMark_68 : decode cX2_fittingMark 68 = .ok (.iinc 4 1, 3) := by decide +kernel
theorem dX2_fittingMark_71 : decode cX2_fittingMark 71 = .ok (.goto (-66), 3) := by decide +kernel
theorem dX2_fittingMark_74 : decode cX2_fittingMark 74 = .ok (.iload_n 3, 1) := by decide +kernel
theorem dX2_fittingMark_75 : decode cX2_fittingMark 75 = .ok (.ireturn, 1) := by decide +kernel
theorem dX2_endingsBehind_0 : decode cX2_endingsBehind 0 = .ok (.iload_n 1, 1) := by decide +kernel
theorem dX2_endingsBehind_1 : decode cX2_endingsBehind 1 = .ok (.invokestatic 65, 3) := by decide +kernel
theorem dX2_endingsBehind_4 : decode cX2_endingsBehind 4 = .ok (.istore_n 2, 1) := by decide +kernel
theorem dX2_endingsBehind_5 : decode cX2_endingsBehind 5 = .ok (.iload_n 2, 1) := by decide +kernel
theorem dX2_endingsBehind_6 : decode cX2_endingsBehind 6 = .ok (.aload_n 0, 1) := by decide +kernel
theorem dX2_endingsBehind_7 : decode cX2_endingsBehind 7 = .ok (.getfield 31, 3) := by decide +kernel
theorem dX2_endingsBehind_10 : decode cX2_endingsBehind 10 = .ok (.if_icmp .lt 17, 3) := by decide +kernel
theorem dX2_endingsBehind_13 : decode cX2_endingsBehind 13 = .ok (.iload_n 2, 1) := by decide +kernel
theorem dX2_endingsBehind_14 : decode cX2_endingsBehind 14 = .ok (.aload_n 0, 1) := by decide +kernel
theorem dX2_endingsBehind_15 : decode cX2_endingsBehind 15 = .ok (.getfield 31, 3) := by decide +kernel
theorem dX2_endingsBehind_18 : decode cX2_endingsBehind 18 = .ok (.if_icmp .ne 7, 3) := by decide +kernel
theorem dX2_endingsBehind_21 : decode cX2_endingsBehind 21 = .ok (.iconst 1, 1) := by decide +kernel
theorem dX2_endingsBehind_22 : decode cX2_endingsBehind 22 = .ok (.goto 4, 3) := by decide +kernel
theorem dX2_endingsBehind_25 : decode cX2_endingsBehind 25 = .ok (.iconst 0, 1) := by decide +kernel
theorem dX2_endingsBehind_26 : decode cX2_endingsBehind 26 = .ok (.ireturn, 1) := by decide +kernel
theorem dX2_endingsBehind_27 : decode cX2_endingsBehind 27 = .ok (.iconst 0, 1) := by decide +kernel
theorem dX2_endingsBehind_28 : decode cX2_endingsBehind 28 = .ok (.istore_n 3, 1) := by decide +kernel
theorem dX2_endingsBehind_29 : decode cX2_endingsBehind 29 = .ok (.iconst 0, 1) := by decide +kernel
theorem dX2_endingsBehind_30 : decode cX2_endingsBehind 30 = .ok (.istore 4, 2) := by decide +kernel
theorem dX2_endingsBehind_32 : decode cX2_endingsBehind 32 = .ok (.iload 4, 2) := by decide +kernel
theorem dX2_endingsBehind_34 : decode cX2_endingsBehind 34 = .ok (.aload_n 0, 1) := by decide +kernel
theorem dX2_endingsBehind_35 : decode cX2_endingsBehind 35 = .ok (.getfield 27, 3) := by decide +kernel
theorem dX2_endingsBehind_38 : decode cX2_endingsBehind 38 = .ok (.if_icmp .ge 34, 3) := by decide +kernel
theorem dX2_endingsBehind_41 : decode cX2_endingsBehind 41 = .ok (.aload_n 0, 1) := by decide +kernel
theorem dX2_endingsBehind_42 : decode cX2_endingsBehind 42 = .ok (.iload 4, 2) := by decide +kernel
theorem dX2_endingsBehind_44 : decode cX2_endingsBehind 44 = .ok (.iload_n 2, 1) := by decide +kernel
theorem dX2_endingsBehind_45 : decode cX2_endingsBehind 45 = .ok (.iload_n 1, 1) := by decide +kernel
theorem dX2_endingsBehind_46 : decode cX2_endingsBehind 46 = .ok (.invokevirtual 70, 3) := by decide +kernel
theorem dX2_endingsBehind_49 : decode cX2_endingsBehind 49 = .ok (.ifCond .eq 17, 3) := by decide +kernel
theorem dX2_endingsBehind_52 : decode cX2_endingsBehind 52 = .ok (.iload_n 3, 1) := by decide +kernel
theorem dX2_endingsBehind_53 : decode cX2_endingsBehind 53 = .ok (.aload_n 0, 1) := by decide +kernel
theorem dX2_endingsBehind_54 : decode cX2_endingsBehind 54 = .ok (.getfield 15, 3) := by decide +kernel
theorem dX2_endingsBehind_57 : decode cX2_endingsBehind 57 = .ok (.iload_n 1, 1) := by decide +kernel
theorem dX2_endingsBehind_58 : decode cX2_endingsBehind 58 = .ok (.iconst 1, 1) := by decide +kernel
theorem dX2_endingsBehind_59 : decode cX2_endingsBehind 59 = .ok (.iload 4, 2) := by decide +kernel
theorem dX2_endingsBehind_61 : decode cX2_endingsBehind 61 = .ok (.ishl, 1) := by decide +kernel
theorem dX2_endingsBehind_62 : decode cX2_endingsBehind 62 = .ok (.ior, 1) := by decide +kernel
theorem dX2_endingsBehind_63 : decode cX2_endingsBehind 63 = .ok (.iaload, 1) := by decide +kernel
theorem dX2_endingsBehind_64 : decode cX2_endingsBehind 64 = .ok (.iadd, 1) := by decide +kernel
theorem dX2_endingsBehind_65 : decode cX2_endingsBehind 65 = .ok (.istore_n 3, 1) := by decide +kernel
theorem dX2_endingsBehind_66 : decode cX2_endingsBehind 66 = .ok (.iinc 4 1, 3) := by decide +kernel
theorem dX2_endingsBehind_69 : decode cX2_endingsBehind 69 = .ok (.goto (-37), 3) := by decide +kernel
theorem dX2_endingsBehind_72 : decode cX2_endingsBehind 72 = .ok (.iload_n 3, 1) := by decide +kernel
theorem dX2_endingsBehind_73 : decode cX2_endingsBehind 73 = .ok (.ireturn, 1) := by decide +kernel
theorem dX2_canFollow_0 : decode cX2_canFollow 0 = .ok (.aload_n 0, 1) := by decide +kernel
theorem dX2_canFollow_1 : decode cX2_canFollow 1 = .ok (.getfield 9, 3) := by decide +kernel
theorem dX2_canFollow_4 : decode cX2_canFollow 4 = .ok (.iload_n 2, 1) := by decide +kernel
theorem dX2_canFollow_5 : decode cX2_canFollow 5 = .ok (.iaload, 1) := by decide +kernel
theorem dX2_canFollow_6 : decode cX2_canFollow 6 = .ok (.iload_n 3, 1) := by decide +kernel
theorem dX2_canFollow_7 : decode cX2_canFollow 7 = .ok (.iconst (-1), 1) := by decide +kernel
theorem dX2_canFollow_8 : decode cX2_canFollow 8 = .ok (.ixor, 1) := by decide +kernel
theorem dX2_canFollow_9 : decode cX2_canFollow 9 = .ok (.iand, 1) := by decide +kernel
theorem dX2_canFollow_10 : decode cX2_canFollow 10 = .ok (.iconst 1, 1) := by decide +kernel
theorem dX2_canFollow_11 : decode cX2_canFollow 11 = .ok (.iload_n 1, 1) := by decide +kernel
theorem dX2_canFollow_12 : decode cX2_canFollow 12 = .ok (.ishl, 1) := by decide +kernel
theorem dX2_canFollow_13 : decode cX2_canFollow 13 = .ok (.iand, 1) := by decide +kernel
theorem dX2_canFollow_14 : decode cX2_canFollow 14 = .ok (.ifCond .eq 7, 3) := by decide +kernel
theorem dX2_canFollow_17 : decode cX2_canFollow 17 = .ok (.iconst 1, 1) := by decide +kernel
theorem dX2_canFollow_18 : decode cX2_canFollow 18 = .ok (.goto 4, 3) := by decide +kernel
theorem dX2_canFollow_21 : decode cX2_canFollow 21 = .ok (.iconst 0, 1) := by decide +kernel
theorem dX2_canFollow_22 : decode cX2_canFollow 22 = .ok (.ireturn, 1) := by decide +kernel
theorem dX2_howMany_0 : decode cX2_howMany 0 = .ok (.aload_n 0, 1) := by decide +kernel
theorem dX2_howMany_1 : decode cX2_howMany 1 = .ok (.getfield 15, 3) := by decide +kernel
theorem dX2_howMany_4 : decode cX2_howMany 4 = .ok (.iconst 0, 1) := by decide +kernel
theorem dX2_howMany_5 : decode cX2_howMany 5 = .ok (.iaload, 1) := by decide +kernel
theorem dX2_howMany_6 : decode cX2_howMany 6 = .ok (.ireturn, 1) := by decide +kernel
theorem dX2_inFirst_0 : decode cX2_inFirst 0 = .ok (.iconst 0, 1) := by decide +kernel
theorem dX2_inFirst_1 : decode cX2_inFirst 1 = .ok (.istore_n 2, 1) := by decide +kernel
theorem dX2_inFirst_2 : decode cX2_inFirst 2 = .ok (.iconst 0, 1) := by decide +kernel
theorem dX2_inFirst_3 : decode cX2_inFirst 3 = .ok (.istore_n 3, 1) := by decide +kernel
theorem dX2_inFirst_4 : decode cX2_inFirst 4 = .ok (.iload_n 3, 1) := by decide +kernel
theorem dX2_inFirst_5 : decode cX2_inFirst 5 = .ok (.aload_n 0, 1) := by decide +kernel
theorem dX2_inFirst_6 : decode cX2_inFirst 6 = .ok (.getfield 31, 3) := by decide +kernel
theorem dX2_inFirst_9 : decode cX2_inFirst 9 = .ok (.if_icmp .ge 39, 3) := by decide +kernel
theorem dX2_inFirst_12 : decode cX2_inFirst 12 = .ok (.aload_n 0, 1) := by decide +kernel
theorem dX2_inFirst_13 : decode cX2_inFirst 13 = .ok (.iload_n 2, 1) := by decide +kernel
theorem dX2_inFirst_14 : decode cX2_inFirst 14 = .ok (.iload_n 3, 1) := by decide +kernel
theorem dX2_inFirst_15 : decode cX2_inFirst 15 = .ok (.invokevirtual 73, 3) := by decide +kernel
theorem dX2_inFirst_18 : decode cX2_inFirst 18 = .ok (.istore 4, 2) := by decide +kernel
theorem dX2_inFirst_20 : decode cX2_inFirst 20 = .ok (.iload 4, 2) := by decide +kernel
theorem dX2_inFirst_22 : decode cX2_inFirst 22 = .ok (.bipush (-4), 2) := by decide +kernel
theorem dX2_inFirst_24 : decode cX2_inFirst 24 = .ok (.if_icmp .eq 8, 3) := by decide +kernel
theorem dX2_inFirst_27 : decode cX2_inFirst 27 = .ok (.iload_n 3, 1) := by decide +kernel
theorem dX2_inFirst_28 : decode cX2_inFirst 28 = .ok (.iload_n 1, 1) := by decide +kernel
theorem dX2_inFirst_29 : decode cX2_inFirst 29 = .ok (.if_icmp .ne 6, 3) := by decide +kernel
theorem dX2_inFirst_32 : decode cX2_inFirst 32 = .ok (.iload 4, 2) := by decide +kernel
theorem dX2_inFirst_34 : decode cX2_inFirst 34 = .ok (.ireturn, 1) := by decide +kernel
theorem dX2_inFirst_35 : decode cX2_inFirst 35 = .ok (.iload_n 2, 1) := by decide +kernel
theorem dX2_inFirst_36 : decode cX2_inFirst 36 = .ok (.iconst 1, 1) := by decide +kernel
theorem dX2_inFirst_37 : decode cX2_inFirst 37 = .ok (.iload 4, 2) := by decide +kernel
theorem dX2_inFirst_39 : decode cX2_inFirst 39 = .ok (.ishl, 1) := by decide +kernel
theorem dX2_inFirst_40 : decode cX2_inFirst 40 = .ok (.ior, 1) := by decide +kernel
theorem dX2_inFirst_41 : decode cX2_inFirst 41 = .ok (.istore_n 2, 1) := by decide +kernel
theorem dX2_inFirst_42 : decode cX2_inFirst 42 = .ok (.iinc 3 1, 3) := by decide +kernel
theorem dX2_inFirst_45 : decode cX2_inFirst 45 = .ok (.goto (-41), 3) := by decide +kernel
theorem dX2_inFirst_48 : decode cX2_inFirst 48 = .ok (.bipush (-4), 2) := by decide +kernel
theorem dX2_inFirst_50 : decode cX2_inFirst 50 = .ok (.ireturn, 1) := by decide +kernel
theorem dX2_firstBehind_0 : decode cX2_firstBehind 0 = .ok (.iconst 0, 1) := by decide +kernel
theorem dX2_firstBehind_1 : decode cX2_firstBehind 1 = .ok (.istore_n 3, 1) := by decide +kernel
theorem dX2_firstBehind_2 : decode cX2_firstBehind 2 = .ok (.iload_n 3, 1) := by decide +kernel
theorem dX2_firstBehind_3 : decode cX2_firstBehind 3 = .ok (.aload_n 0, 1) := by decide +kernel
theorem dX2_firstBehind_4 : decode cX2_firstBehind 4 = .ok (.getfield 27, 3) := by decide +kernel
theorem dX2_firstBehind_7 : decode cX2_firstBehind 7 = .ok (.if_icmp .ge 34, 3) := by decide +kernel
theorem dX2_firstBehind_10 : decode cX2_firstBehind 10 = .ok (.aload_n 0, 1) := by decide +kernel
theorem dX2_firstBehind_11 : decode cX2_firstBehind 11 = .ok (.iload_n 3, 1) := by decide +kernel
theorem dX2_firstBehind_12 : decode cX2_firstBehind 12 = .ok (.iload_n 2, 1) := by decide +kernel
theorem dX2_firstBehind_13 : decode cX2_firstBehind 13 = .ok (.iload_n 1, 1) := by decide +kernel
theorem dX2_firstBehind_14 : decode cX2_firstBehind 14 = .ok (.invokevirtual 70, 3) := by decide +kernel
theorem dX2_firstBehind_17 : decode cX2_firstBehind 17 = .ok (.ifCond .eq 18, 3) := by decide +kernel
theorem dX2_firstBehind_20 : decode cX2_firstBehind 20 = .ok (.aload_n 0, 1) := by decide +kernel
theorem dX2_firstBehind_21 : decode cX2_firstBehind 21 = .ok (.getfield 15, 3) := by decide +kernel
theorem dX2_firstBehind_24 : decode cX2_firstBehind 24 = .ok (.iload_n 1, 1) := by decide +kernel
theorem dX2_firstBehind_25 : decode cX2_firstBehind 25 = .ok (.iconst 1, 1) := by decide +kernel
theorem dX2_firstBehind_26 : decode cX2_firstBehind 26 = .ok (.iload_n 3, 1) := by decide +kernel
theorem dX2_firstBehind_27 : decode cX2_firstBehind 27 = .ok (.ishl, 1) := by decide +kernel
theorem dX2_firstBehind_28 : decode cX2_firstBehind 28 = .ok (.ior, 1) := by decide +kernel
theorem dX2_firstBehind_29 : decode cX2_firstBehind 29 = .ok (.iaload, 1) := by decide +kernel
theorem dX2_firstBehind_30 : decode cX2_firstBehind 30 = .ok (.ifCond .le 5, 3) := by decide +kernel
theorem dX2_firstBehind_33 : decode cX2_firstBehind 33 = .ok (.iload_n 3, 1) := by decide +kernel
theorem dX2_firstBehind_34 : decode cX2_firstBehind 34 = .ok (.ireturn, 1) := by decide +kernel
theorem dX2_firstBehind_35 : decode cX2_firstBehind 35 = .ok (.iinc 3 1, 3) := by decide +kernel
theorem dX2_firstBehind_38 : decode cX2_firstBehind 38 = .ok (.goto (-36), 3) := by decide +kernel
theorem dX2_firstBehind_41 : decode cX2_firstBehind 41 = .ok (.bipush (-4), 2) := by decide +kernel
theorem dX2_firstBehind_43 : decode cX2_firstBehind 43 = .ok (.ireturn, 1) := by decide +kernel
theorem dX2_firstOnes_0 : decode cX2_firstOnes 0 = .ok (.iconst 0, 1) := by decide +kernel
theorem dX2_firstOnes_1 : decode cX2_firstOnes 1 = .ok (.istore_n 1, 1) := by decide +kernel
theorem dX2_firstOnes_2 : decode cX2_firstOnes 2 = .ok (.iconst 0, 1) := by decide +kernel
theorem dX2_firstOnes_3 : decode cX2_firstOnes 3 = .ok (.istore_n 2, 1) := by decide +kernel
theorem dX2_firstOnes_4 : decode cX2_firstOnes 4 = .ok (.iload_n 2, 1) := by decide +kernel
theorem dX2_firstOnes_5 : decode cX2_firstOnes 5 = .ok (.aload_n 0, 1) := by decide +kernel
theorem dX2_firstOnes_6 : decode cX2_firstOnes 6 = .ok (.getfield 27, 3) := by decide +kernel
theorem dX2_firstOnes_9 : decode cX2_firstOnes 9 = .ok (.if_icmp .ge 36, 3) := by decide +kernel
theorem dX2_firstOnes_12 : decode cX2_firstOnes 12 = .ok (.aload_n 0, 1) := by decide +kernel
theorem dX2_firstOnes_13 : decode cX2_firstOnes 13 = .ok (.iload_n 2, 1) := by decide +kernel
theorem dX2_firstOnes_14 : decode cX2_firstOnes 14 = .ok (.iconst 0, 1) := by decide +kernel
theorem dX2_firstOnes_15 : decode cX2_firstOnes 15 = .ok (.iconst 0, 1) := by decide +kernel
theorem dX2_firstOnes_16 : decode cX2_firstOnes 16 = .ok (.invokevirtual 70, 3) := by decide +kernel
theorem dX2_firstOnes_19 : decode cX2_firstOnes 19 = .ok (.ifCond .eq 20, 3) := by decide +kernel
theorem dX2_firstOnes_22 : decode cX2_firstOnes 22 = .ok (.aload_n 0, 1) := by decide +kernel
theorem dX2_firstOnes_23 : decode cX2_firstOnes 23 = .ok (.getfield 15, 3) := by decide +kernel
theorem dX2_firstOnes_26 : decode cX2_firstOnes 26 = .ok (.iconst 1, 1) := by decide +kernel
theorem dX2_firstOnes_27 : decode cX2_firstOnes 27 = .ok (.iload_n 2, 1) := by decide +kernel
theorem dX2_firstOnes_28 : decode cX2_firstOnes 28 = .ok (.ishl, 1) := by decide +kernel
theorem dX2_firstOnes_29 : decode cX2_firstOnes 29 = .ok (.iaload, 1) := by decide +kernel
theorem dX2_firstOnes_30 : decode cX2_firstOnes 30 = .ok (.ifCond .le 9, 3) := by decide +kernel
theorem dX2_firstOnes_33 : decode cX2_firstOnes 33 = .ok (.iload_n 1, 1) := by decide +kernel
theorem dX2_firstOnes_34 : decode cX2_firstOnes 34 = .ok (.iconst 1, 1) := by decide +kernel
theorem dX2_firstOnes_35 : decode cX2_firstOnes 35 = .ok (.iload_n 2, 1) := by decide +kernel
theorem dX2_firstOnes_36 : decode cX2_firstOnes 36 = .ok (.ishl, 1) := by decide +kernel
theorem dX2_firstOnes_37 : decode cX2_firstOnes 37 = .ok (.ior, 1) := by decide +kernel
theorem dX2_firstOnes_38 : decode cX2_firstOnes 38 = .ok (.istore_n 1, 1) := by decide +kernel
theorem dX2_firstOnes_39 : decode cX2_firstOnes 39 = .ok (.iinc 2 1, 3) := by decide +kernel
theorem dX2_firstOnes_42 : decode cX2_firstOnes 42 = .ok (.goto (-38), 3) := by decide +kernel
theorem dX2_firstOnes_45 : decode cX2_firstOnes 45 = .ok (.iload_n 1, 1) := by decide +kernel
theorem dX2_firstOnes_46 : decode cX2_firstOnes 46 = .ok (.ireturn, 1) := by decide +kernel
theorem dX2_lastOnes_0 : decode cX2_lastOnes 0 = .ok (.aload_n 0, 1) := by decide +kernel
theorem dX2_lastOnes_1 : decode cX2_lastOnes 1 = .ok (.getfield 18, 3) := by decide +kernel
theorem dX2_lastOnes_4 : decode cX2_lastOnes 4 = .ok (.iconst 0, 1) := by decide +kernel
theorem dX2_lastOnes_5 : decode cX2_lastOnes 5 = .ok (.invokestatic 76, 3) := by decide +kernel
theorem dX2_lastOnes_8 : decode cX2_lastOnes 8 = .ok (.aload_n 0, 1) := by decide +kernel
theorem dX2_lastOnes_9 : decode cX2_lastOnes 9 = .ok (.getfield 18, 3) := by decide +kernel
theorem dX2_lastOnes_12 : decode cX2_lastOnes 12 = .ok (.iconst 0, 1) := by decide +kernel
theorem dX2_lastOnes_13 : decode cX2_lastOnes 13 = .ok (.iconst 1, 1) := by decide +kernel
theorem dX2_lastOnes_14 : decode cX2_lastOnes 14 = .ok (.iastore, 1) := by decide +kernel
theorem dX2_lastOnes_15 : decode cX2_lastOnes 15 = .ok (.iconst 0, 1) := by decide +kernel
theorem dX2_lastOnes_16 : decode cX2_lastOnes 16 = .ok (.istore_n 1, 1) := by decide +kernel
theorem dX2_lastOnes_17 : decode cX2_lastOnes 17 = .ok (.iconst 0, 1) := by decide +kernel
theorem dX2_lastOnes_18 : decode cX2_lastOnes 18 = .ok (.istore_n 2, 1) := by decide +kernel
theorem dX2_lastOnes_19 : decode cX2_lastOnes 19 = .ok (.iload_n 2, 1) := by decide +kernel
theorem dX2_lastOnes_20 : decode cX2_lastOnes 20 = .ok (.iconst 1, 1) := by decide +kernel
theorem dX2_lastOnes_21 : decode cX2_lastOnes 21 = .ok (.aload_n 0, 1) := by decide +kernel
theorem dX2_lastOnes_22 : decode cX2_lastOnes 22 = .ok (.getfield 27, 3) := by decide +kernel
theorem dX2_lastOnes_25 : decode cX2_lastOnes 25 = .ok (.ishl, 1) := by decide +kernel
theorem dX2_lastOnes_26 : decode cX2_lastOnes 26 = .ok (.if_icmp .ge 94, 3) := by decide +kernel
theorem dX2_lastOnes_29 : decode cX2_lastOnes 29 = .ok (.iload_n 2, 1) := by decide +kernel
theorem dX2_lastOnes_30 : decode cX2_lastOnes 30 = .ok (.invokestatic 65, 3) := by decide +kernel
theorem dX2_lastOnes_33 : decode cX2_lastOnes 33 = .ok (.istore_n 3, 1) := by decide +kernel
theorem dX2_lastOnes_34 : decode cX2_lastOnes 34 = .ok (.iconst 0, 1) := by decide +kernel
theorem dX2_lastOnes_35 : decode cX2_lastOnes 35 = .ok (.istore 4, 2) := by decide +kernel
theorem dX2_lastOnes_37 : decode cX2_lastOnes 37 = .ok (.iload 4, 2) := by decide +kernel
theorem dX2_lastOnes_39 : decode cX2_lastOnes 39 = .ok (.aload_n 0, 1) := by decide +kernel
theorem dX2_lastOnes_40 : decode cX2_lastOnes 40 = .ok (.getfield 27, 3) := by decide +kernel
theorem dX2_lastOnes_43 : decode cX2_lastOnes 43 = .ok (.if_icmp .ge 71, 3) := by decide +kernel
theorem dX2_lastOnes_46 : decode cX2_lastOnes 46 = .ok (.aload_n 0, 1) := by decide +kernel
theorem dX2_lastOnes_47 : decode cX2_lastOnes 47 = .ok (.getfield 18, 3) := by decide +kernel
theorem dX2_lastOnes_50 : decode cX2_lastOnes 50 = .ok (.iload_n 2, 1) := by decide +kernel
theorem dX2_lastOnes_51 : decode cX2_lastOnes 51 = .ok (.iaload, 1) := by decide +kernel
theorem dX2_lastOnes_52 : decode cX2_lastOnes 52 = .ok (.iconst 1, 1) := by decide +kernel
theorem dX2_lastOnes_53 : decode cX2_lastOnes 53 = .ok (.if_icmp .ne 61, 3) := by decide +kernel
theorem dX2_lastOnes_56 : decode cX2_lastOnes 56 = .ok (.iload_n 3, 1) := by decide +kernel
theorem dX2_lastOnes_57 : decode cX2_lastOnes 57 = .ok (.aload_n 0, 1) := by decide +kernel
theorem dX2_lastOnes_58 : decode cX2_lastOnes 58 = .ok (.getfield 31, 3) := by decide +kernel
theorem dX2_lastOnes_61 : decode cX2_lastOnes 61 = .ok (.if_icmp .ge 53, 3) := by decide +kernel
theorem dX2_lastOnes_64 : decode cX2_lastOnes 64 = .ok (.aload_n 0, 1) := by decide +kernel
theorem dX2_lastOnes_65 : decode cX2_lastOnes 65 = .ok (.iload 4, 2) := by decide +kernel
theorem dX2_lastOnes_67 : decode cX2_lastOnes 67 = .ok (.iload_n 3, 1) := by decide +kernel
theorem dX2_lastOnes_68 : decode cX2_lastOnes 68 = .ok (.iload_n 2, 1) := by decide +kernel
theorem dX2_lastOnes_69 : decode cX2_lastOnes 69 = .ok (.invokevirtual 70, 3) := by decide +kernel
theorem dX2_lastOnes_72 : decode cX2_lastOnes 72 = .ok (.ifCond .eq 36, 3) := by decide +kernel
theorem dX2_lastOnes_75 : decode cX2_lastOnes 75 = .ok (.aload_n 0, 1) := by decide +kernel
theorem dX2_lastOnes_76 : decode cX2_lastOnes 76 = .ok (.getfield 18, 3) := by decide +kernel
theorem dX2_lastOnes_79 : decode cX2_lastOnes 79 = .ok (.iload_n 2, 1) := by decide +kernel
theorem dX2_lastOnes_80 : decode cX2_lastOnes 80 = .ok (.iconst 1, 1) := by decide +kernel
theorem dX2_lastOnes_81 : decode cX2_lastOnes 81 = .ok (.iload 4, 2) := by decide +kernel
theorem dX2_lastOnes_83 : decode cX2_lastOnes 83 = .ok (.ishl, 1) := by decide +kernel
theorem dX2_lastOnes_84 : decode cX2_lastOnes 84 = .ok (.ior, 1) := by decide +kernel
theorem dX2_lastOnes_85 : decode cX2_lastOnes 85 = .ok (.iconst 1, 1) := by decide +kernel
theorem dX2_lastOnes_86 : decode cX2_lastOnes 86 = .ok (.iastore, 1) := by decide +kernel
theorem dX2_lastOnes_87 : decode cX2_lastOnes 87 = .ok (.iload_n 1, 1) := by decide +kernel
theorem dX2_lastOnes_88 : decode cX2_lastOnes 88 = .ok (.iload_n 3, 1) := by decide +kernel
theorem dX2_lastOnes_89 : decode cX2_lastOnes 89 = .ok (.aload_n 0, 1) := by decide +kernel
theorem dX2_lastOnes_90 : decode cX2_lastOnes 90 = .ok (.getfield 31, 3) := by decide +kernel
theorem dX2_lastOnes_93 : decode cX2_lastOnes 93 = .ok (.iconst 1, 1) := by decide +kernel
theorem dX2_lastOnes_94 : decode cX2_lastOnes 94 = .ok (.isub, 1) := by decide +kernel
theorem dX2_lastOnes_95 : decode cX2_lastOnes 95 = .ok (.if_icmp .ne 10, 3) := by decide +kernel
theorem dX2_lastOnes_98 : decode cX2_lastOnes 98 = .ok (.iconst 1, 1) := by decide +kernel
theorem dX2_lastOnes_99 : decode cX2_lastOnes 99 = .ok (.iload 4, 2) := by decide +kernel
theorem dX2_lastOnes_101 : decode cX2_lastOnes 101 = .ok (.ishl, 1) := by decide +kernel
theorem dX2_lastOnes_102 : decode cX2_lastOnes 102 = .ok (.goto 4, 3) := by decide +kernel
theorem dX2_lastOnes_105 : decode cX2_lastOnes 105 = .ok (.iconst 0, 1) := by decide +kernel
theorem dX2_lastOnes_106 : decode cX2_lastOnes 106 = .ok (.ior, 1) := by decide +kernel
theorem dX2_lastOnes_107 : decode cX2_lastOnes 107 = .ok (.istore_n 1, 1) := by decide +kernel
theorem dX2_lastOnes_108 : decode cX2_lastOnes 108 = .ok (.iinc 4 1, 3) := by decide +kernel
theorem dX2_lastOnes_111 : decode cX2_lastOnes 111 = .ok (.goto (-74), 3) := by decide +kernel
theorem dX2_lastOnes_114 : decode cX2_lastOnes 114 = .ok (.iinc 2 1, 3) := by decide +kernel
theorem dX2_lastOnes_117 : decode cX2_lastOnes 117 = .ok (.goto (-98), 3) := by decide +kernel
theorem dX2_lastOnes_120 : decode cX2_lastOnes 120 = .ok (.iload_n 1, 1) := by decide +kernel
theorem dX2_lastOnes_121 : decode cX2_lastOnes 121 = .ok (.ireturn, 1) := by decide +kernel
theorem dX3_init_0 : decode cX3_init 0 = .ok (.aload_n 0, 1) := by decide +kernel
theorem dX3_init_1 : decode cX3_init 1 = .ok (.invokespecial 3, 3) := by decide +kernel
theorem dX3_init_4 : decode cX3_init 4 = .ok (.aload_n 0, 1) := by decide +kernel
theorem dX3_init_5 : decode cX3_init 5 = .ok (.aload_n 1, 1) := by decide +kernel
theorem dX3_init_6 : decode cX3_init 6 = .ok (.putfield 9, 3) := by decide +kernel
theorem dX3_init_9 : decode cX3_init 9 = .ok (.aload_n 0, 1) := by decide +kernel
theorem dX3_init_10 : decode cX3_init 10 = .ok (.aload_n 2, 1) := by decide +kernel
theorem dX3_init_11 : decode cX3_init 11 = .ok (.putfield 15, 3) := by decide +kernel
theorem dX3_init_14 : decode cX3_init 14 = .ok (.return_, 1) := by decide +kernel
theorem dX3_readAll_0 : decode cX3_readAll 0 = .ok (.aload_n 0, 1) := by decide +kernel
theorem dX3_readAll_1 : decode cX3_readAll 1 = .ok (.getfield 15, 3) := by decide +kernel
theorem dX3_readAll_4 : decode cX3_readAll 4 = .ok (.invokevirtual 19, 3) := by decide +kernel
theorem dX3_readAll_7 : decode cX3_readAll 7 = .ok (.aload_n 0, 1) := by decide +kernel
theorem dX3_readAll_8 : decode cX3_readAll 8 = .ok (.iconst 0, 1) := by decide +kernel
theorem dX3_readAll_9 : decode cX3_readAll 9 = .ok (.putfield 24, 3) := by decide +kernel
theorem dX3_readAll_12 : decode cX3_readAll 12 = .ok (.aload_n 0, 1) := by decide +kernel
theorem dX3_readAll_13 : decode cX3_readAll 13 = .ok (.iconst 2, 1) := by decide +kernel
theorem dX3_readAll_14 : decode cX3_readAll 14 = .ok (.putfield 28, 3) := by decide +kernel
theorem dX3_readAll_17 : decode cX3_readAll 17 = .ok (.aload_n 0, 1) := by decide +kernel
theorem dX3_readAll_18 : decode cX3_readAll 18 = .ok (.iconst 0, 1) := by decide +kernel
theorem dX3_readAll_19 : decode cX3_readAll 19 = .ok (.putfield 31, 3) := by decide +kernel
theorem dX3_readAll_22 : decode cX3_readAll 22 = .ok (.aload_n 0, 1) := by decide +kernel
theorem dX3_readAll_23 : decode cX3_readAll 23 = .ok (.iconst 0, 1) := by decide +kernel
theorem dX3_readAll_24 : decode cX3_readAll 24 = .ok (.putfield 35, 3) := by decide +kernel
theorem dX3_readAll_27 : decode cX3_readAll 27 = .ok (.aload_n 0, 1) := by decide +kernel
theorem dX3_readAll_28 : decode cX3_readAll 28 = .ok (.iconst 0, 1) := by decide +kernel
theorem dX3_readAll_29 : decode cX3_readAll 29 = .ok (.putfield 38, 3) := by decide +kernel
theorem dX3_readAll_32 : decode cX3_readAll 32 = .ok (.aload_n 0, 1) := by decide +kernel
theorem dX3_readAll_33 : decode cX3_readAll 33 = .ok (.iconst 0, 1) := by decide +kernel
theorem dX3_readAll_34 : decode cX3_readAll 34 = .ok (.putfield 41, 3) := by decide +kernel
theorem dX3_readAll_37 : decode cX3_readAll 37 = .ok (.aload_n 0, 1) := by decide +kernel
theorem dX3_readAll_38 : decode cX3_readAll 38 = .ok (.iconst 0, 1) := by decide +kernel
theorem dX3_readAll_39 : decode cX3_readAll 39 = .ok (.putfield 44, 3) := by decide +kernel
theorem dX3_readAll_42 : decode cX3_readAll 42 = .ok (.iconst 0, 1) := by decide +kernel
theorem dX3_readAll_43 : decode cX3_readAll 43 = .ok (.istore_n 1, 1) := by decide +kernel
theorem dX3_readAll_44 : decode cX3_readAll 44 = .ok (.iload_n 1, 1) := by decide +kernel
theorem dX3_readAll_45 : decode cX3_readAll 45 = .ok (.sipush 400, 3) := by decide +kernel
theorem dX3_readAll_48 : decode cX3_readAll 48 = .ok (.if_icmp .gt 30, 3) := by decide +kernel
theorem dX3_readAll_51 : decode cX3_readAll 51 = .ok (.aload_n 0, 1) := by decide +kernel
theorem dX3_readAll_52 : decode cX3_readAll 52 = .ok (.invokevirtual 47, 3) := by decide +kernel
theorem dX3_readAll_55 : decode cX3_readAll 55 = .ok (.aload_n 0, 1) := by decide +kernel
theorem dX3_readAll_56 : decode cX3_readAll 56 = .ok (.getfield 50, 3) := by decide +kernel
theorem dX3_readAll_59 : decode cX3_readAll 59 = .ok (.ifCond .eq 19, 3) := by decide +kernel
theorem dX3_readAll_62 : decode cX3_readAll 62 = .ok (.aload_n 0, 1) := by decide +kernel
theorem dX3_readAll_63 : decode cX3_readAll 63 = .ok (.invokevirtual 53, 3) := by decide +kernel
theorem dX3_readAll_66 : decode cX3_readAll 66 = .ok (.ifCond .ne 6, 3) := by decide +kernel
theorem dX3_readAll_69 : decode cX3_readAll 69 = .ok (.goto 9, 3) := by decide +kernel
theorem dX3_readAll_72 : decode cX3_readAll 72 = .ok (.iinc 1 1, 3) := by decide +kernel
theorem dX3_readAll_75 : decode cX3_readAll 75 = .ok (.goto (-31), 3) := by decide +kernel
theorem dX3_readAll_78 : decode cX3_readAll 78 = .ok (.aload_n 0, 1) := by decide +kernel
theorem dX3_readAll_79 : decode cX3_readAll 79 = .ok (.getfield 41, 3) := by decide +kernel
theorem dX3_readAll_82 : decode cX3_readAll 82 = .ok (.ifCond .ne 38, 3) := by decide +kernel
theorem dX3_readAll_85 : decode cX3_readAll 85 = .ok (.aload_n 0, 1) := by decide +kernel
theorem dX3_readAll_86 : decode cX3_readAll 86 = .ok (.getfield 35, 3) := by decide +kernel
theorem dX3_readAll_89 : decode cX3_readAll 89 = .ok (.aload_n 0, 1) := by decide +kernel
theorem dX3_readAll_90 : decode cX3_readAll 90 = .ok (.getfield 15, 3) := by decide +kernel
theorem dX3_readAll_93 : decode cX3_readAll 93 = .ok (.getfield 57, 3) := by decide +kernel
theorem dX3_readAll_96 : decode cX3_readAll 96 = .ok (.if_icmp .gt 17, 3) := by decide +kernel
theorem dX3_readAll_99 : decode cX3_readAll 99 = .ok (.aload_n 0, 1) := by decide +kernel
theorem dX3_readAll_100 : decode cX3_readAll 100 = .ok (.getfield 38, 3) := by decide +kernel
theorem dX3_readAll_103 : decode cX3_readAll 103 = .ok (.aload_n 0, 1) := by decide +kernel
theorem dX3_readAll_104 : decode cX3_readAll 104 = .ok (.getfield 15, 3) := by decide +kernel
theorem dX3_readAll_107 : decode cX3_readAll 107 = .ok (.getfield 60, 3) := by decide +kernel
theorem dX3_readAll_110 : decode cX3_readAll 110 = .ok (.if_icmp .le 10, 3) := by decide +kernel
theorem dX3_readAll_113 : decode cX3_readAll 113 = .ok (.aload_n 0, 1) := by decide +kernel
theorem dX3_readAll_114 : decode cX3_readAll 114 = .ok (.bipush 6, 2) := by decide +kernel
theorem dX3_readAll_116 : decode cX3_readAll 116 = .ok (.invokevirtual 63, 3) := by decide +kernel
theorem dX3_readAll_119 : decode cX3_readAll 119 = .ok (.pop, 1) := by decide +kernel
theorem dX3_readAll_120 : decode cX3_readAll 120 = .ok (.iload_n 1, 1) := by decide +kernel
theorem dX3_readAll_121 : decode cX3_readAll 121 = .ok (.ireturn, 1) := by decide +kernel
theorem dX3_refuse_0 : decode cX3_refuse 0 = .ok (.aload_n 0, 1) := by decide +kernel
theorem dX3_refuse_1 : decode cX3_refuse 1 = .ok (.iload_n 1, 1) := by decide +kernel
theorem dX3_refuse_2 : decode cX3_refuse 2 = .ok (.putfield 41, 3) := by decide +kernel
theorem dX3_refuse_5 : decode cX3_refuse 5 = .ok (.aload_n 0, 1) := by decide +kernel
theorem dX3_refuse_6 : decode cX3_refuse 6 = .ok (.aload_n 0, 1) := by decide +kernel
theorem dX3_refuse_7 : decode cX3_refuse 7 = .ok (.getfield 67, 3) := by decide +kernel
theorem dX3_refuse_10 : decode cX3_refuse 10 = .ok (.putfield 44, 3) := by decide +kernel
theorem dX3_refuse_13 : decode cX3_refuse 13 = .ok (.iconst 0, 1) := by decide +kernel
theorem dX3_refuse_14 : decode cX3_refuse 14 = .ok (.ireturn, 1) := by decide +kernel
theorem dX3_takeLine_0 : decode cX3_takeLine 0 = .ok (.aload_n 0, 1) := by decide +kernel
theorem dX3_takeLine_1 : decode cX3_takeLine 1 = .ok (.getfield 50, 3) := by decide +kernel
theorem dX3_takeLine_4 : decode cX3_takeLine 4 = .ok (.iconst 1, 1) := by decide +kernel
theorem dX3_takeLine_5 : decode cX3_takeLine 5 = .ok (.if_icmp .eq 21, 3) := by decide +kernel
theorem dX3_takeLine_8 : decode cX3_takeLine 8 = .ok (.aload_n 0, 1) := by decide +kernel
theorem dX3_takeLine_9 : decode cX3_takeLine 9 = .ok (.aload_n 0, 1) := by decide +kernel
theorem dX3_takeLine_10 : decode cX3_takeLine 10 = .ok (.getfield 50, 3) := by decide +kernel
theorem dX3_takeLine_13 : decode cX3_takeLine 13 = .ok (.iconst 4, 1) := by decide +kernel
theorem dX3_takeLine_14 : decode cX3_takeLine 14 = .ok (.if_icmp .ne 7, 3) := by decide +kernel
theorem dX3_takeLine_17 : decode cX3_takeLine 17 = .ok (.iconst 1, 1) := by decide +kernel
theorem dX3_takeLine_18 : decode cX3_takeLine 18 = .ok (.goto 4, 3) := by decide +kernel
theorem dX3_takeLine_21 : decode cX3_takeLine 21 = .ok (.iconst 2, 1) := by decide +kernel
theorem dX3_takeLine_22 : decode cX3_takeLine 22 = .ok (.invokevirtual 63, 3) := by decide +kernel
theorem dX3_takeLine_25 : decode cX3_takeLine 25 = .ok (.ireturn, 1) := by decide +kernel
theorem dX3_takeLine_26 : decode cX3_takeLine 26 = .ok (.aload_n 0, 1) := by decide +kernel
theorem dX3_takeLine_27 : decode cX3_takeLine 27 = .ok (.ldc 70, 2) := by decide +kernel
theorem dX3_takeLine_29 : decode cX3_takeLine 29 = .ok (.invokevirtual 72, 3) := by decide +kernel
theorem dX3_takeLine_32 : decode cX3_takeLine 32 = .ok (.ifCond .eq 8, 3) := by decide +kernel
theorem dX3_takeLine_35 : decode cX3_takeLine 35 = .ok (.aload_n 0, 1) := by decide +kernel
theorem dX3_takeLine_36 : decode cX3_takeLine 36 = .ok (.invokevirtual 76, 3) := by decide +kernel
theorem dX3_takeLine_39 : decode cX3_takeLine 39 = .ok (.ireturn, 1) := by decide +kernel
theorem dX3_takeLine_40 : decode cX3_takeLine 40 = .ok (.aload_n 0, 1) := by decide +kernel
theorem dX3_takeLine_41 : decode cX3_takeLine 41 = .ok (.ldc 79, 2) := by decide +kernel
theorem dX3_takeLine_43 : decode cX3_takeLine 43 = .ok (.invokevirtual 72, 3) := by decide +kernel
theorem dX3_takeLine_46 : decode cX3_takeLine 46 = .ok (.ifCond .eq 8, 3) := by decide +kernel
theorem dX3_takeLine_49 : decode cX3_takeLine 49 = .ok (.aload_n 0, 1) := by decide +kernel
theorem dX3_takeLine_50 : decode cX3_takeLine 50 = .ok (.invokevirtual 81, 3) := by decide +kernel
theorem dX3_takeLine_53 : decode cX3_takeLine 53 = .ok (.ireturn, 1) := by decide +kernel
theorem dX3_takeLine_54 : decode cX3_takeLine 54 = .ok (.aload_n 0, 1) := by decide +kernel
theorem dX3_takeLine_55 : decode cX3_takeLine 55 = .ok (.ldc 84, 2) := by decide +kernel
theorem dX3_takeLine_57 : decode cX3_takeLine 57 = .ok (.invokevirtual 72, 3) := by decide +kernel
theorem dX3_takeLine_60 : decode cX3_takeLine 60 = .ok (.ifCond .eq 9, 3) := by decide +kernel
theorem dX3_takeLine_63 : decode cX3_takeLine 63 = .ok (.aload_n 0, 1) := by decide +kernel
theorem dX3_takeLine_64 : decode cX3_takeLine 64 = .ok (.iconst 0, 1) := by decide +kernel
theorem dX3_takeLine_65 : decode cX3_takeLine 65 = .ok (.invokevirtual 86, 3) := by decide +kernel
theorem dX3_takeLine_68 : decode cX3_takeLine 68 = .ok (.ireturn, 1) := by decide +kernel
theorem dX3_takeLine_69 : decode cX3_takeLine 69 = .ok (.aload_n 0, 1) := by decide +kernel
theorem dX3_takeLine_70 : decode cX3_takeLine 70 = .ok (.ldc 89, 2) := by decide +kernel
theorem dX3_takeLine_72 : decode cX3_takeLine 72 = .ok (.invokevirtual 72, 3) := by decide +kernel
theorem dX3_takeLine_75 : decode cX3_takeLine 75 = .ok (.ifCond .eq 9, 3) := by decide +kernel
theorem dX3_takeLine_78 : decode cX3_takeLine 78 = .ok (.aload_n 0, 1) := by decide +kernel
theorem dX3_takeLine_79 : decode cX3_takeLine 79 = .ok (.iconst 1, 1) := by decide +kernel
theorem dX3_takeLine_80 : decode cX3_takeLine 80 = .ok (.invokevirtual 86, 3) := by decide +kernel
theorem dX3_takeLine_83 : decode cX3_takeLine 83 = .ok (.ireturn, 1) := by decide +kernel
theorem dX3_takeLine_84 : decode cX3_takeLine 84 = .ok (.aload_n 0, 1) := by decide +kernel
theorem dX3_takeLine_85 : decode cX3_takeLine 85 = .ok (.ldc 91, 2) := by decide +kernel
theorem dX3_takeLine_87 : decode cX3_takeLine 87 = .ok (.invokevirtual 72, 3) := by decide +kernel
theorem dX3_takeLine_90 : decode cX3_takeLine 90 = .ok (.ifCond .eq 8, 3) := by decide +kernel
theorem dX3_takeLine_93 : decode cX3_takeLine 93 = .ok (.aload_n 0, 1) := by decide +kernel
theorem dX3_takeLine_94 : decode cX3_takeLine 94 = .ok (.invokevirtual 93, 3) := by decide +kernel
theorem dX3_takeLine_97 : decode cX3_takeLine 97 = .ok (.ireturn, 1) := by decide +kernel
theorem dX3_takeLine_98 : decode cX3_takeLine 98 = .ok (.aload_n 0, 1) := by decide +kernel
theorem dX3_takeLine_99 : decode cX3_takeLine 99 = .ok (.ldc 96, 2) := by decide +kernel
theorem dX3_takeLine_101 : decode cX3_takeLine 101 = .ok (.invokevirtual 72, 3) := by decide +kernel
theorem dX3_takeLine_104 : decode cX3_takeLine 104 = .ok (.ifCond .eq 10, 3) := by decide +kernel
theorem dX3_takeLine_107 : decode cX3_takeLine 107 = .ok (.aload_n 0, 1) := by decide +kernel
theorem dX3_takeLine_108 : decode cX3_takeLine 108 = .ok (.invokevirtual 98, 3) := by decide +kernel
theorem dX3_takeLine_111 : decode cX3_takeLine 111 = .ok (.goto 8, 3) := by decide +kernel
theorem dX3_takeLine_114 : decode cX3_takeLine 114 = .ok (.aload_n 0, 1) := by decide +kernel
theorem dX3_takeLine_115 : decode cX3_takeLine 115 = .ok (.iconst 2, 1) := by decide +kernel
theorem dX3_takeLine_116 : decode cX3_takeLine 116 = .ok (.invokevirtual 63, 3) := by decide +kernel
theorem dX3_takeLine_119 : decode cX3_takeLine 119 = .ok (.ireturn, 1) := by decide +kernel
theorem dX3_takeSlack_0 : decode cX3_takeSlack 0 = .ok (.aload_n 0, 1) := by decide +kernel
theorem dX3_takeSlack_1 : decode cX3_takeSlack 1 = .ok (.getfield 31, 3) := by decide +kernel
theorem dX3_takeSlack_4 : decode cX3_takeSlack 4 = .ok (.ifCond .eq 9, 3) := by decide +kernel
theorem dX3_takeSlack_7 : decode cX3_takeSlack 7 = .ok (.aload_n 0, 1) := by decide +kernel
theorem dX3_takeSlack_8 : decode cX3_takeSlack 8 = .ok (.iconst 4, 1) := by decide +kernel
theorem dX3_takeSlack_9 : decode cX3_takeSlack 9 = .ok (.invokevirtual 63, 3) := by decide +kernel
theorem dX3_takeSlack_12 : decode cX3_takeSlack 12 = .ok (.ireturn, 1) := by decide +kernel
theorem dX3_takeSlack_13 : decode cX3_takeSlack 13 = .ok (.aload_n 0, 1) := by decide +kernel
theorem dX3_takeSlack_14 : decode cX3_takeSlack 14 = .ok (.iconst 1, 1) := by decide +kernel
theorem dX3_takeSlack_15 : decode cX3_takeSlack 15 = .ok (.putfield 31, 3) := by decide +kernel
theorem dX3_takeSlack_18 : decode cX3_takeSlack 18 = .ok (.aload_n 0, 1) := by decide +kernel
theorem dX3_takeSlack_19 : decode cX3_takeSlack 19 = .ok (.iconst 0, 1) := by decide +kernel
theorem dX3_takeSlack_20 : decode cX3_takeSlack 20 = .ok (.iconst 4, 1) := by decide +kernel
theorem dX3_takeSlack_21 : decode cX3_takeSlack 21 = .ok (.invokevirtual 101, 3) := by decide +kernel
theorem dX3_takeSlack_24 : decode cX3_takeSlack 24 = .ok (.ifCond .ne 5, 3) := by decide +kernel
theorem dX3_takeSlack_27 : decode cX3_takeSlack 27 = .ok (.iconst 0, 1) := by decide +kernel
theorem dX3_takeSlack_28 : decode cX3_takeSlack 28 = .ok (.ireturn, 1) := by decide +kernel
theorem dX3_takeSlack_29 : decode cX3_takeSlack 29 = .ok (.aload_n 0, 1) := by decide +kernel
theorem dX3_takeSlack_30 : decode cX3_takeSlack 30 = .ok (.aload_n 0, 1) := by decide +kernel
theorem dX3_takeSlack_31 : decode cX3_takeSlack 31 = .ok (.getfield 105, 3) := by decide +kernel
theorem dX3_takeSlack_34 : decode cX3_takeSlack 34 = .ok (.putfield 28, 3) := by decide +kernel
theorem dX3_takeSlack_37 : decode cX3_takeSlack 37 = .ok (.aload_n 0, 1) := by decide +kernel
theorem dX3_takeSlack_38 : decode cX3_takeSlack 38 = .ok (.invokevirtual 108, 3) := by decide +kernel
theorem dX3_takeSlack_41 : decode cX3_takeSlack 41 = .ok (.ireturn, 1) := by decide +kernel
theorem dX3_takeChild_0 : decode cX3_takeChild 0 = .ok (.aload_n 0, 1) := by decide +kernel
theorem dX3_takeChild_1 : decode cX3_takeChild 1 = .ok (.getfield 15, 3) := by decide +kernel
theorem dX3_takeChild_4 : decode cX3_takeChild 4 = .ok (.getfield 57, 3) := by decide +kernel
theorem dX3_takeChild_7 : decode cX3_takeChild 7 = .ok (.bipush 8, 2) := by decide +kernel
theorem dX3_takeChild_9 : decode cX3_takeChild 9 = .ok (.if_icmp .lt 9, 3) := by decide +kernel
theorem dX3_takeChild_12 : decode cX3_takeChild 12 = .ok (.aload_n 0, 1) := by decide +kernel
theorem dX3_takeChild_13 : decode cX3_takeChild 13 = .ok (.iconst 5, 1) := by decide +kernel
theorem dX3_takeChild_14 : decode cX3_takeChild 14 = .ok (.invokevirtual 63, 3) := by decide +kernel
theorem dX3_takeChild_17 : decode cX3_takeChild 17 = .ok (.ireturn, 1) := by decide +kernel
theorem dX3_takeChild_18 : decode cX3_takeChild 18 = .ok (.aload_n 0, 1) := by decide +kernel
theorem dX3_takeChild_19 : decode cX3_takeChild 19 = .ok (.iconst 1, 1) := by decide +kernel
theorem dX3_takeChild_20 : decode cX3_takeChild 20 = .ok (.bipush 40, 2) := by decide +kernel
theorem dX3_takeChild_22 : decode cX3_takeChild 22 = .ok (.invokevirtual 101, 3) := by decide +kernel
theorem dX3_takeChild_25 : decode cX3_takeChild 25 = .ok (.ifCond .ne 5, 3) := by decide +kernel
theorem dX3_takeChild_28 : decode cX3_takeChild 28 = .ok (.iconst 0, 1) := by decide +kernel
theorem dX3_takeChild_29 : decode cX3_takeChild 29 = .ok (.ireturn, 1) := by decide +kernel
theorem dX3_takeChild_30 : decode cX3_takeChild 30 = .ok (.aload_n 0, 1) := by decide +kernel
theorem dX3_takeChild_31 : decode cX3_takeChild 31 = .ok (.getfield 105, 3) := by decide +kernel
theorem dX3_takeChild_34 : decode cX3_takeChild 34 = .ok (.istore_n 1, 1) := by decide +kernel
theorem dX3_takeChild_35 : decode cX3_takeChild 35 = .ok (.aload_n 0, 1) := by decide +kernel
theorem dX3_takeChild_36 : decode cX3_takeChild 36 = .ok (.iconst 0, 1) := by decide +kernel
theorem dX3_takeChild_37 : decode cX3_takeChild 37 = .ok (.iconst 4, 1) := by decide +kernel
theorem dX3_takeChild_38 : decode cX3_takeChild 38 = .ok (.invokevirtual 101, 3) := by decide +kernel
theorem dX3_takeChild_41 : decode cX3_takeChild 41 = .ok (.ifCond .ne 5, 3) := by decide +kernel
theorem dX3_takeChild_44 : decode cX3_takeChild 44 = .ok (.iconst 0, 1) := by decide +kernel
theorem dX3_takeChild_45 : decode cX3_takeChild 45 = .ok (.ireturn, 1) := by decide +kernel
theorem dX3_takeChild_46 : decode cX3_takeChild 46 = .ok (.aload_n 0, 1) := by decide +kernel
theorem dX3_takeChild_47 : decode cX3_takeChild 47 = .ok (.getfield 105, 3) := by decide +kernel
theorem dX3_takeChild_50 : decode cX3_takeChild 50 = .ok (.istore_n 2, 1) := by decide +kernel
theorem dX3_takeChild_51 : decode cX3_takeChild 51 = .ok (.aload_n 0, 1) := by decide +kernel
theorem dX3_takeChild_52 : decode cX3_takeChild 52 = .ok (.iload_n 2, 1) := by decide +kernel
theorem dX3_takeChild_53 : decode cX3_takeChild 53 = .ok (.iconst 4, 1) := by decide +kernel
theorem dX3_takeChild_54 : decode cX3_takeChild 54 = .ok (.invokevirtual 101, 3) := by decide +kernel
theorem dX3_takeChild_57 : decode cX3_takeChild 57 = .ok (.ifCond .ne 5, 3) := by decide +kernel
theorem dX3_takeChild_60 : decode cX3_takeChild 60 = .ok (.iconst 0, 1) := by decide +kernel
theorem dX3_takeChild_61 : decode cX3_takeChild 61 = .ok (.ireturn, 1) := by decide +kernel
theorem dX3_takeChild_62 : decode cX3_takeChild 62 = .ok (.aload_n 0, 1) := by decide +kernel
theorem dX3_takeChild_63 : decode cX3_takeChild 63 = .ok (.getfield 15, 3) := by decide +kernel
theorem dX3_takeChild_66 : decode cX3_takeChild 66 = .ok (.iload_n 1, 1) := by decide +kernel
theorem dX3_takeChild_67 : decode cX3_takeChild 67 = .ok (.iload_n 2, 1) := by decide +kernel
theorem dX3_takeChild_68 : decode cX3_takeChild 68 = .ok (.aload_n 0, 1) := by decide +kernel
theorem dX3_takeChild_69 : decode cX3_takeChild 69 = .ok (.getfield 105, 3) := by decide +kernel
theorem dX3_takeChild_72 : decode cX3_takeChild 72 = .ok (.invokevirtual 111, 3) := by decide +kernel
theorem dX3_takeChild_75 : decode cX3_takeChild 75 = .ok (.aload_n 0, 1) := by decide +kernel
theorem dX3_takeChild_76 : decode cX3_takeChild 76 = .ok (.invokevirtual 108, 3) := by decide +kernel
theorem dX3_takeChild_79 : decode cX3_takeChild 79 = .ok (.ireturn, 1) := by decide +kernel
theorem dX3_takeThing_0 : decode cX3_takeThing 0 = .ok (.aload_n 0, 1) := by decide +kernel
theorem dX3_takeThing_1 : decode cX3_takeThing 1 = .ok (.getfield 15, 3) := by decide +kernel
theorem dX3_takeThing_4 : decode cX3_takeThing 4 = .ok (.getfield 60, 3) := by decide +kernel
theorem dX3_takeThing_7 : decode cX3_takeThing 7 = .ok (.bipush 10, 2) := by decide +kernel
theorem dX3_takeThing_9 : decode cX3_takeThing 9 = .ok (.if_icmp .lt 9, 3) := by decide +kernel
theorem dX3_takeThing_12 : decode cX3_takeThing 12 = .ok (.aload_n 0, 1) := by decide +kernel
theorem dX3_takeThing_13 : decode cX3_takeThing 13 = .ok (.iconst 5, 1) := by decide +kernel
theorem dX3_takeThing_14 : decode cX3_takeThing 14 = .ok (.invokevirtual 63, 3) := by decide +kernel
theorem dX3_takeThing_17 : decode cX3_takeThing 17 = .ok (.ireturn, 1) := by decide +kernel
theorem dX3_takeThing_18 : decode cX3_takeThing 18 = .ok (.aload_n 0, 1) := by decide +kernel
theorem dX3_takeThing_19 : decode cX3_takeThing 19 = .ok (.invokevirtual 47, 3) := by decide +kernel
theorem dX3_takeThing_22 : decode cX3_takeThing 22 = .ok (.aload_n 0, 1) := by decide +kernel
theorem dX3_takeThing_23 : decode cX3_takeThing 23 = .ok (.getfield 50, 3) := by decide +kernel
theorem dX3_takeThing_26 : decode cX3_takeThing 26 = .ok (.iconst 4, 1) := by decide +kernel
theorem dX3_takeThing_27 : decode cX3_takeThing 27 = .ok (.if_icmp .ne 9, 3) := by decide +kernel
theorem dX3_takeThing_30 : decode cX3_takeThing 30 = .ok (.aload_n 0, 1) := by decide +kernel
theorem dX3_takeThing_31 : decode cX3_takeThing 31 = .ok (.iconst 1, 1) := by decide +kernel
theorem dX3_takeThing_32 : decode cX3_takeThing 32 = .ok (.invokevirtual 63, 3) := by decide +kernel
theorem dX3_takeThing_35 : decode cX3_takeThing 35 = .ok (.ireturn, 1) := by decide +kernel
theorem dX3_takeThing_36 : decode cX3_takeThing 36 = .ok (.aload_n 0, 1) := by decide +kernel
theorem dX3_takeThing_37 : decode cX3_takeThing 37 = .ok (.getfield 50, 3) := by decide +kernel
theorem dX3_takeThing_40 : decode cX3_takeThing 40 = .ok (.iconst 1, 1) := by decide +kernel
theorem dX3_takeThing_41 : decode cX3_takeThing 41 = .ok (.if_icmp .ne 10, 3) := by decide +kernel
theorem dX3_takeThing_44 : decode cX3_takeThing 44 = .ok (.aload_n 0, 1) := by decide +kernel
theorem dX3_takeThing_45 : decode cX3_takeThing 45 = .ok (.invokevirtual 115, 3) := by decide +kernel
theorem dX3_takeThing_48 : decode cX3_takeThing 48 = .ok (.goto 5, 3) := by decide +kernel
theorem dX3_takeThing_51 : decode cX3_takeThing 51 = .ok (.bipush (-4), 2) := by decide +kernel
theorem dX3_takeThing_53 : decode cX3_takeThing 53 = .ok (.istore_n 2, 1) := by decide +kernel
theorem dX3_takeThing_54 : decode cX3_takeThing 54 = .ok (.iload_n 2, 1) := by decide +kernel
theorem dX3_takeThing_55 : decode cX3_takeThing 55 = .ok (.bipush (-4), 2) := by decide +kernel
theorem dX3_takeThing_57 : decode cX3_takeThing 57 = .ok (.if_icmp .ne 9, 3) := by decide +kernel
theorem dX3_takeThing_60 : decode cX3_takeThing 60 = .ok (.aload_n 0, 1) := by decide +kernel
theorem dX3_takeThing_61 : decode cX3_takeThing 61 = .ok (.iconst 2, 1) := by decide +kernel
theorem dX3_takeThing_62 : decode cX3_takeThing 62 = .ok (.invokevirtual 63, 3) := by decide +kernel
theorem dX3_takeThing_65 : decode cX3_takeThing 65 = .ok (.ireturn, 1) := by decide +kernel
theorem dX3_takeThing_66 : decode cX3_takeThing 66 = .ok (.bipush (-4), 2) := by decide +kernel
theorem dX3_takeThing_68 : decode cX3_takeThing 68 = .ok (.istore_n 3, 1) := by decide +kernel
theorem dX3_takeThing_69 : decode cX3_takeThing 69 = .ok (.iload_n 2, 1) := by decide +kernel
theorem dX3_takeThing_70 : decode cX3_takeThing 70 = .ok (.iconst 4, 1) := by decide +kernel
theorem dX3_takeThing_71 : decode cX3_takeThing 71 = .ok (.if_icmp .ne 34, 3) := by decide +kernel
theorem dX3_takeThing_74 : decode cX3_takeThing 74 = .ok (.aload_n 0, 1) := by decide +kernel
theorem dX3_takeThing_75 : decode cX3_takeThing 75 = .ok (.iconst 0, 1) := by decide +kernel
theorem dX3_takeThing_76 : decode cX3_takeThing 76 = .ok (.bipush 7, 2) := by decide +kernel
theorem dX3_takeThing_78 : decode cX3_takeThing 78 = .ok (.invokevirtual 101, 3) := by decide +kernel
theorem dX3_takeThing_81 : decode cX3_takeThing 81 = .ok (.ifCond .ne 5, 3) := by decide +kernel
theorem dX3_takeThing_84 : decode cX3_takeThing 84 = .ok (.iconst 0, 1) := by decide +kernel
theorem dX3_takeThing_85 : decode cX3_takeThing 85 = .ok (.ireturn, 1) := by decide +kernel
theorem dX3_takeThing_86 : decode cX3_takeThing 86 = .ok (.aload_n 0, 1) := by decide +kernel
theorem dX3_takeThing_87 : decode cX3_takeThing 87 = .ok (.getfield 105, 3) := by decide +kernel
theorem dX3_takeThing_90 : decode cX3_takeThing 90 = .ok (.istore_n 3, 1) := by decide +kernel
theorem dX3_takeThing_91 : decode cX3_takeThing 91 = .ok (.aload_n 0, 1) := by decide +kernel
theorem dX3_takeThing_92 : decode cX3_takeThing 92 = .ok (.aload_n 0, 1) := by decide +kernel
theorem dX3_takeThing_93 : decode cX3_takeThing 93 = .ok (.getfield 35, 3) := by decide +kernel
theorem dX3_takeThing_96 : decode cX3_takeThing 96 = .ok (.iload_n 3, 1) := by decide +kernel
theorem dX3_takeThing_97 : decode cX3_takeThing 97 = .ok (.iconst 1, 1) := by decide +kernel
theorem dX3_takeThing_98 : decode cX3_takeThing 98 = .ok (.iadd, 1) := by decide +kernel
theorem dX3_takeThing_99 : decode cX3_takeThing 99 = .ok (.invokestatic 119, 3) := by decide +kernel
theorem dX3_takeThing_102 : decode cX3_takeThing 102 = .ok (.putfield 35, 3) := by decide +kernel
theorem dX3_takeThing_105 : decode cX3_takeThing 105 = .ok (.aload_n 0, 1) := by decide +kernel
theorem dX3_takeThing_106 : decode cX3_takeThing 106 = .ok (.iconst 1, 1) := by decide +kernel
theorem dX3_takeThing_107 : decode cX3_takeThing 107 = .ok (.bipush 40, 2) := by decide +kernel
theorem dX3_takeThing_109 : decode cX3_takeThing 109 = .ok (.invokevirtual 101, 3) := by decide +kernel
theorem dX3_takeThing_112 : decode cX3_takeThing 112 = .ok (.ifCond .ne 5, 3) := by decide +kernel
theorem dX3_takeThing_115 : decode cX3_takeThing 115 = .ok (.iconst 0, 1) := by decide +kernel
theorem dX3_takeThing_116 : decode cX3_takeThing 116 = .ok (.ireturn, 1) := by decide +kernel
theorem dX3_takeThing_117 : decode cX3_takeThing 117 = .ok (.aload_n 0, 1) := by decide +kernel
theorem dX3_takeThing_118 : decode cX3_takeThing 118 = .ok (.getfield 105, 3) := by decide +kernel
theorem dX3_takeThing_121 : decode cX3_takeThing 121 = .ok (.istore 4, 2) := by decide +kernel
theorem dX3_takeThing_123 : decode cX3_takeThing 123 = .ok (.aload_n 0, 1) := by decide +kernel
theorem dX3_takeThing_124 : decode cX3_takeThing 124 = .ok (.iconst 1, 1) := by decide +kernel
theorem dX3_takeThing_125 : decode cX3_takeThing 125 = .ok (.bipush 9, 2) := by decide +kernel
theorem dX3_takeThing_127 : decode cX3_takeThing 127 = .ok (.invokevirtual 101, 3) := by decide +kernel
theorem dX3_takeThing_130 : decode cX3_takeThing 130 = .ok (.ifCond .ne 5, 3) := by decide +kernel
theorem dX3_takeThing_133 : decode cX3_takeThing 133 = .ok (.iconst 0, 1) := by decide +kernel
theorem dX3_takeThing_134 : decode cX3_takeThing 134 = .ok (.ireturn, 1) := by decide +kernel
theorem dX3_takeThing_135 : decode cX3_takeThing 135 = .ok (.aload_n 0, 1) := by decide +kernel
theorem dX3_takeThing_136 : decode cX3_takeThing 136 = .ok (.getfield 15, 3) := by decide +kernel
theorem dX3_takeThing_139 : decode cX3_takeThing 139 = .ok (.iload_n 1, 1) := by decide +kernel
theorem dX3_takeThing_140 : decode cX3_takeThing 140 = .ok (.iload 4, 2) := by decide +kernel
theorem dX3_takeThing_142 : decode cX3_takeThing 142 = .ok (.aload_n 0, 1) := by decide +kernel
theorem dX3_takeThing_143 : decode cX3_takeThing 143 = .ok (.getfield 105, 3) := by decide +kernel
theorem dX3_takeThing_146 : decode cX3_takeThing 146 = .ok (.invokevirtual 125, 3) := by decide +kernel
theorem dX3_takeThing_149 : decode cX3_takeThing 149 = .ok (.istore 5, 2) := by decide +kernel
theorem dX3_takeThing_151 : decode cX3_takeThing 151 = .ok (.aload_n 0, 1) := by decide +kernel
theorem dX3_takeThing_152 : decode cX3_takeThing 152 = .ok (.getfield 15, 3) := by decide +kernel
theorem dX3_takeThing_155 : decode cX3_takeThing 155 = .ok (.iload 5, 2) := by decide +kernel
theorem dX3_takeThing_157 : decode cX3_takeThing 157 = .ok (.invokevirtual 129, 3) := by decide +kernel
theorem dX3_takeThing_160 : decode cX3_takeThing 160 = .ok (.ifCond .eq 31, 3) := by decide +kernel
theorem dX3_takeThing_163 : decode cX3_takeThing 163 = .ok (.aload_n 0, 1) := by decide +kernel
theorem dX3_takeThing_164 : decode cX3_takeThing 164 = .ok (.getfield 15, 3) := by decide +kernel
theorem dX3_takeThing_167 : decode cX3_takeThing 167 = .ok (.getfield 132, 3) := by decide +kernel
theorem dX3_takeThing_170 : decode cX3_takeThing 170 = .ok (.iload 5, 2) := by decide +kernel
theorem dX3_takeThing_172 : decode cX3_takeThing 172 = .ok (.aaload, 1) := by decide +kernel
theorem dX3_takeThing_173 : decode cX3_takeThing 173 = .ok (.iload_n 2, 1) := by decide +kernel
theorem dX3_takeThing_174 : decode cX3_takeThing 174 = .ok (.putfield 136, 3) := by decide +kernel
theorem dX3_takeThing_177 : decode cX3_takeThing 177 = .ok (.aload_n 0, 1) := by decide +kernel
theorem dX3_takeThing_178 : decode cX3_takeThing 178 = .ok (.getfield 15, 3) := by decide +kernel
theorem dX3_takeThing_181 : decode cX3_takeThing 181 = .ok (.getfield 132, 3) := by decide +kernel
theorem dX3_takeThing_184 : decode cX3_takeThing 184 = .ok (.iload 5, 2) := by decide +kernel
theorem dX3_takeThing_186 : decode cX3_takeThing 186 = .ok (.aaload, 1) := by decide +kernel
theorem dX3_takeThing_187 : decode cX3_takeThing 187 = .ok (.iload_n 3, 1) := by decide +kernel
theorem dX3_takeThing_188 : decode cX3_takeThing 188 = .ok (.putfield 141, 3) := by decide +kernel
theorem dX3_takeThing_191 : decode cX3_takeThing 191 = .ok (.aload_n 0, 1) := by decide +kernel
theorem dX3_takeThing_192 : decode cX3_takeThing 192 = .ok (.invokevirtual 108, 3) := by decide +kernel
theorem dX3_takeThing_195 : decode cX3_takeThing 195 = .ok (.ireturn, 1) := by decide +kernel
theorem dX3_kindNamed_0 : decode cX3_kindNamed 0 = .ok (.aload_n 0, 1) := by decide +kernel
theorem dX3_kindNamed_1 : decode cX3_kindNamed 1 = .ok (.ldc 144, 2) := by decide +kernel
theorem dX3_kindNamed_3 : decode cX3_kindNamed 3 = .ok (.invokevirtual 72, 3) := by decide +kernel
theorem dX3_kindNamed_6 : decode cX3_kindNamed 6 = .ok (.ifCond .eq 5, 3) := by decide +kernel
theorem dX3_kindNamed_9 : decode cX3_kindNamed 9 = .ok (.iconst 0, 1) := by decide +kernel
theorem dX3_kindNamed_10 : decode cX3_kindNamed 10 = .ok (.ireturn, 1) := by decide +kernel
theorem dX3_kindNamed_11 : decode cX3_kindNamed 11 = .ok (.aload_n 0, 1) := by decide +kernel
theorem dX3_kindNamed_12 : decode cX3_kindNamed 12 = .ok (.ldc 146, 2) := by decide +kernel
theorem dX3_kindNamed_14 : decode cX3_kindNamed 14 = .ok (.invokevirtual 72, 3) := by decide +kernel
theorem dX3_kindNamed_17 : decode cX3_kindNamed 17 = .ok (.ifCond .eq 5, 3) := by decide +kernel
theorem dX3_kindNamed_20 : decode cX3_kindNamed 20 = .ok (.iconst 1, 1) := by decide +kernel
theorem dX3_kindNamed_21 : decode cX3_kindNamed 21 = .ok (.ireturn, 1) := by decide +kernel
theorem dX3_kindNamed_22 : decode cX3_kindNamed 22 = .ok (.aload_n 0, 1) := by decide +kernel
theorem dX3_kindNamed_23 : decode cX3_kindNamed 23 = .ok (.ldc 148, 2) := by decide +kernel
theorem dX3_kindNamed_25 : decode cX3_kindNamed 25 = .ok (.invokevirtual 72, 3) := by decide +kernel
theorem dX3_kindNamed_28 : decode cX3_kindNamed 28 = .ok (.ifCond .eq 5, 3) := by decide +kernel
theorem dX3_kindNamed_31 : decode cX3_kindNamed 31 = .ok (.iconst 2, 1) := by decide +kernel
theorem dX3_kindNamed_32 : decode cX3_kindNamed 32 = .ok (.ireturn, 1) := by decide +kernel
theorem dX3_kindNamed_33 : decode cX3_kindNamed 33 = .ok (.aload_n 0, 1) := by decide +kernel
theorem dX3_kindNamed_34 : decode cX3_kindNamed 34 = .ok (.ldc 150, 2) := by decide +kernel
theorem dX3_kindNamed_36 : decode cX3_kindNamed 36 = .ok (.invokevirtual 72, 3) := by decide +kernel
theorem dX3_kindNamed_39 : decode cX3_kindNamed 39 = .ok (.ifCond .eq 5, 3) := by decide +kernel
theorem dX3_kindNamed_42 : decode cX3_kindNamed 42 = .ok (.iconst 3, 1) := by decide +kernel
theorem dX3_kindNamed_43 : decode cX3_kindNamed 43 = .ok (.ireturn, 1) := by decide +kernel
theorem dX3_kindNamed_44 : decode cX3_kindNamed 44 = .ok (.aload_n 0, 1) := by decide +kernel
theorem dX3_kindNamed_45 : decode cX3_kindNamed 45 = .ok (.ldc 152, 2) := by decide +kernel
theorem dX3_kindNamed_47 : decode cX3_kindNamed 47 = .ok (.invokevirtual 72, 3) := by decide +kernel
theorem dX3_kindNamed_50 : decode cX3_kindNamed 50 = .ok (.ifCond .eq 7, 3) := by decide +kernel
theorem dX3_kindNamed_53 : decode cX3_kindNamed 53 = .ok (.iconst 4, 1) := by decide +kernel
theorem dX3_kindNamed_54 : decode cX3_kindNamed 54 = .ok (.goto 5, 3) := by decide +kernel
theorem dX3_kindNamed_57 : decode cX3_kindNamed 57 = .ok (.bipush (-4), 2) := by decide +kernel
theorem dX3_kindNamed_59 : decode cX3_kindNamed 59 = .ok (.ireturn, 1) := by decide +kernel
theorem dX3_takeLiking_0 : decode cX3_takeLiking 0 = .ok (.aload_n 0, 1) := by decide +kernel
theorem dX3_takeLiking_1 : decode cX3_takeLiking 1 = .ok (.iconst 0, 1) := by decide +kernel
theorem dX3_takeLiking_2 : decode cX3_takeLiking 2 = .ok (.bipush 7, 2) := by decide +kernel
theorem dX3_takeLiking_4 : decode cX3_takeLiking 4 = .ok (.invokevirtual 101, 3) := by decide +kernel
theorem dX3_takeLiking_7 : decode cX3_takeLiking 7 = .ok (.ifCond .ne 5, 3) := by decide +kernel
theorem dX3_takeLiking_10 : decode cX3_takeLiking 10 = .ok (.iconst 0, 1) := by decide +kernel
theorem dX3_takeLiking_11 : decode cX3_takeLiking 11 = .ok (.ireturn, 1) := by decide +kernel
theorem dX3_takeLiking_12 : decode cX3_takeLiking 12 = .ok (.aload_n 0, 1) := by decide +kernel
theorem dX3_takeLiking_13 : decode cX3_takeLiking 13 = .ok (.getfield 105, 3) := by decide +kernel
theorem dX3_takeLiking_16 : decode cX3_takeLiking 16 = .ok (.istore_n 1, 1) := by decide +kernel
theorem dX3_takeLiking_17 : decode cX3_takeLiking 17 = .ok (.aload_n 0, 1) := by decide +kernel
theorem dX3_takeLiking_18 : decode cX3_takeLiking 18 = .ok (.iconst 0, 1) := by decide +kernel
theorem dX3_takeLiking_19 : decode cX3_takeLiking 19 = .ok (.bipush 9, 2) := by decide +kernel
theorem dX3_takeLiking_21 : decode cX3_takeLiking 21 = .ok (.invokevirtual 101, 3) := by decide +kernel
theorem dX3_takeLiking_24 : decode cX3_takeLiking 24 = .ok (.ifCond .ne 5, 3) := by decide +kernel
theorem dX3_takeLiking_27 : decode cX3_takeLiking 27 = .ok (.iconst 0, 1) := by decide +kernel
theorem dX3_takeLiking_28 : decode cX3_takeLiking 28 = .ok (.ireturn, 1) := by decide +kernel
theorem dX3_takeLiking_29 : decode cX3_takeLiking 29 = .ok (.aload_n 0, 1) := by decide +kernel
theorem dX3_takeLiking_30 : decode cX3_takeLiking 30 = .ok (.getfield 105, 3) := by decide +kernel
theorem dX3_takeLiking_33 : decode cX3_takeLiking 33 = .ok (.istore_n 2, 1) := by decide +kernel
theorem dX3_takeLiking_34 : decode cX3_takeLiking 34 = .ok (.aload_n 0, 1) := by decide +kernel
theorem dX3_takeLiking_35 : decode cX3_takeLiking 35 = .ok (.iconst 0, 1) := by decide +kernel
theorem dX3_takeLiking_36 : decode cX3_takeLiking 36 = .ok (.bipush 9, 2) := by decide +kernel
theorem dX3_takeLiking_38 : decode cX3_takeLiking 38 = .ok (.invokevirtual 101, 3) := by decide +kernel
theorem dX3_takeLiking_41 : decode cX3_takeLiking 41 = .ok (.ifCond .ne 5, 3) := by decide +kernel
theorem dX3_takeLiking_44 : decode cX3_takeLiking 44 = .ok (.iconst 0, 1) := by decide +kernel
theorem dX3_takeLiking_45 : decode cX3_takeLiking 45 = .ok (.ireturn, 1) := by decide +kernel
theorem dX3_takeLiking_46 : decode cX3_takeLiking 46 = .ok (.aload_n 0, 1) := by decide +kernel
theorem dX3_takeLiking_47 : decode cX3_takeLiking 47 = .ok (.aload_n 0, 1) := by decide +kernel
theorem dX3_takeLiking_48 : decode cX3_takeLiking 48 = .ok (.getfield 35, 3) := by decide +kernel
theorem dX3_takeLiking_51 : decode cX3_takeLiking 51 = .ok (.iload_n 1, 1) := by decide +kernel
theorem dX3_takeLiking_52 : decode cX3_takeLiking 52 = .ok (.iconst 1, 1) := by decide +kernel
theorem dX3_takeLiking_53 : decode cX3_takeLiking 53 = .ok (.iadd, 1) := by decide +kernel
theorem dX3_takeLiking_54 : decode cX3_takeLiking 54 = .ok (.invokestatic 119, 3) := by decide +kernel
theorem dX3_takeLiking_57 : decode cX3_takeLiking 57 = .ok (.putfield 35, 3) := by decide +kernel
theorem dX3_takeLiking_60 : decode cX3_takeLiking 60 = .ok (.aload_n 0, 1) := by decide +kernel
theorem dX3_takeLiking_61 : decode cX3_takeLiking 61 = .ok (.aload_n 0, 1) := by decide +kernel
theorem dX3_takeLiking_62 : decode cX3_takeLiking 62 = .ok (.getfield 38, 3) := by decide +kernel
theorem dX3_takeLiking_65 : decode cX3_takeLiking 65 = .ok (.iload_n 2, 1) := by decide +kernel
theorem dX3_takeLiking_66 : decode cX3_takeLiking 66 = .ok (.iconst 1, 1) := by decide +kernel
theorem dX3_takeLiking_67 : decode cX3_takeLiking 67 = .ok (.iadd, 1) := by decide +kernel
theorem dX3_takeLiking_68 : decode cX3_takeLiking 68 = .ok (.invokestatic 119, 3) := by decide +kernel
theorem dX3_takeLiking_71 : decode cX3_takeLiking 71 = .ok (.putfield 38, 3) := by decide +kernel
theorem dX3_takeLiking_74 : decode cX3_takeLiking 74 = .ok (.aload_n 0, 1) := by decide +kernel
theorem dX3_takeLiking_75 : decode cX3_takeLiking 75 = .ok (.getfield 15, 3) := by decide +kernel
theorem dX3_takeLiking_78 : decode cX3_takeLiking 78 = .ok (.iload_n 1, 1) := by decide +kernel
theorem dX3_takeLiking_79 : decode cX3_takeLiking 79 = .ok (.iload_n 2, 1) := by decide +kernel
theorem dX3_takeLiking_80 : decode cX3_takeLiking 80 = .ok (.aload_n 0, 1) := by decide +kernel
theorem dX3_takeLiking_81 : decode cX3_takeLiking 81 = .ok (.getfield 105, 3) := by decide +kernel
theorem dX3_takeLiking_84 : decode cX3_takeLiking 84 = .ok (.invokevirtual 154, 3) := by decide +kernel
theorem dX3_takeLiking_87 : decode cX3_takeLiking 87 = .ok (.aload_n 0, 1) := by decide +kernel
theorem dX3_takeLiking_88 : decode cX3_takeLiking 88 = .ok (.invokevirtual 108, 3) := by decide +kernel
theorem dX3_takeLiking_91 : decode cX3_takeLiking 91 = .ok (.ireturn, 1) := by decide +kernel
theorem dX3_takeMark_0 : decode cX3_takeMark 0 = .ok (.aload_n 0, 1) := by decide +kernel
theorem dX3_takeMark_1 : decode cX3_takeMark 1 = .ok (.getfield 15, 3) := by decide +kernel
theorem dX3_takeMark_4 : decode cX3_takeMark 4 = .ok (.getfield 157, 3) := by decide +kernel
theorem dX3_takeMark_7 : decode cX3_takeMark 7 = .ok (.bipush 6, 2) := by decide +kernel
theorem dX3_takeMark_9 : decode cX3_takeMark 9 = .ok (.if_icmp .lt 9, 3) := by decide +kernel
theorem dX3_takeMark_12 : decode cX3_takeMark 12 = .ok (.aload_n 0, 1) := by decide +kernel
theorem dX3_takeMark_13 : decode cX3_takeMark 13 = .ok (.iconst 5, 1) := by decide +kernel
theorem dX3_takeMark_14 : decode cX3_takeMark 14 = .ok (.invokevirtual 63, 3) := by decide +kernel
theorem dX3_takeMark_17 : decode cX3_takeMark 17 = .ok (.ireturn, 1) := by decide +kernel
theorem dX3_takeMark_18 : decode cX3_takeMark 18 = .ok (.aload_n 0, 1) := by decide +kernel
theorem dX3_takeMark_19 : decode cX3_takeMark 19 = .ok (.iconst 1, 1) := by decide +kernel
theorem dX3_takeMark_20 : decode cX3_takeMark 20 = .ok (.bipush 40, 2) := by decide +kernel
theorem dX3_takeMark_22 : decode cX3_takeMark 22 = .ok (.invokevirtual 101, 3) := by decide +kernel
theorem dX3_takeMark_25 : decode cX3_takeMark 25 = .ok (.ifCond .ne 5, 3) := by decide +kernel
theorem dX3_takeMark_28 : decode cX3_takeMark 28 = .ok (.iconst 0, 1) := by decide +kernel
theorem dX3_takeMark_29 : decode cX3_takeMark 29 = .ok (.ireturn, 1) := by decide +kernel
theorem dX3_takeMark_30 : decode cX3_takeMark 30 = .ok (.aload_n 0, 1) := by decide +kernel
theorem dX3_takeMark_31 : decode cX3_takeMark 31 = .ok (.getfield 15, 3) := by decide +kernel
theorem dX3_takeMark_34 : decode cX3_takeMark 34 = .ok (.aload_n 0, 1) := by decide +kernel
theorem dX3_takeMark_35 : decode cX3_takeMark 35 = .ok (.getfield 105, 3) := by decide +kernel
theorem dX3_takeMark_38 : decode cX3_takeMark 38 = .ok (.invokevirtual 160, 3) := by decide +kernel
theorem dX3_takeMark_41 : decode cX3_takeMark 41 = .ok (.aload_n 0, 1) := by decide +kernel
theorem dX3_takeMark_42 : decode cX3_takeMark 42 = .ok (.invokevirtual 108, 3) := by decide +kernel
theorem dX3_takeMark_45 : decode cX3_takeMark 45 = .ok (.ireturn, 1) := by decide +kernel
theorem dX3_takeNumber_0 : decode cX3_takeNumber 0 = .ok (.aload_n 0, 1) := by decide +kernel
theorem dX3_takeNumber_1 : decode cX3_takeNumber 1 = .ok (.invokevirtual 47, 3) := by decide +kernel
theorem dX3_takeNumber_4 : decode cX3_takeNumber 4 = .ok (.aload_n 0, 1) := by decide +kernel
theorem dX3_takeNumber_5 : decode cX3_takeNumber 5 = .ok (.getfield 50, 3) := by decide +kernel
theorem dX3_takeNumber_8 : decode cX3_takeNumber 8 = .ok (.iconst 2, 1) := by decide +kernel
theorem dX3_takeNumber_9 : decode cX3_takeNumber 9 = .ok (.if_icmp .eq 21, 3) := by decide +kernel
theorem dX3_takeNumber_12 : decode cX3_takeNumber 12 = .ok (.aload_n 0, 1) := by decide +kernel
theorem dX3_takeNumber_13 : decode cX3_takeNumber 13 = .ok (.aload_n 0, 1) := by decide +kernel
theorem dX3_takeNumber_14 : decode cX3_takeNumber 14 = .ok (.getfield 50, 3) := by decide +kernel
theorem dX3_takeNumber_17 : decode cX3_takeNumber 17 = .ok (.iconst 4, 1) := by decide +kernel
theorem dX3_takeNumber_18 : decode cX3_takeNumber 18 = .ok (.if_icmp .ne 7, 3) := by decide +kernel
theorem dX3_takeNumber_21 : decode cX3_takeNumber 21 = .ok (.iconst 1, 1) := by decide +kernel
theorem dX3_takeNumber_22 : decode cX3_takeNumber 22 = .ok (.goto 4, 3) := by decide +kernel
theorem dX3_takeNumber_25 : decode cX3_takeNumber 25 = .ok (.iconst 2, 1) := by decide +kernel
theorem dX3_takeNumber_26 : decode cX3_takeNumber 26 = .ok (.invokevirtual 63, 3) := by decide +kernel
theorem dX3_takeNumber_29 : decode cX3_takeNumber 29 = .ok (.ireturn, 1) := by decide +kernel
theorem dX3_takeNumber_30 : decode cX3_takeNumber 30 = .ok (.aload_n 0, 1) := by decide +kernel
theorem dX3_takeNumber_31 : decode cX3_takeNumber 31 = .ok (.getfield 105, 3) := by decide +kernel
theorem dX3_takeNumber_34 : decode cX3_takeNumber 34 = .ok (.iload_n 1, 1) := by decide +kernel
theorem dX3_takeNumber_35 : decode cX3_takeNumber 35 = .ok (.iload_n 2, 1) := by decide +kernel
theorem dX3_takeNumber_36 : decode cX3_takeNumber 36 = .ok (.invokestatic 164, 3) := by decide +kernel
theorem dX3_takeNumber_39 : decode cX3_takeNumber 39 = .ok (.ifCond .ne 11, 3) := by decide +kernel
theorem dX3_takeNumber_42 : decode cX3_takeNumber 42 = .ok (.aload_n 0, 1) := by decide +kernel
theorem dX3_takeNumber_43 : decode cX3_takeNumber 43 = .ok (.iconst 3, 1) := by decide +kernel
theorem dX3_takeNumber_44 : decode cX3_takeNumber 44 = .ok (.invokevirtual 63, 3) := by decide +kernel
theorem dX3_takeNumber_47 : decode cX3_takeNumber 47 = .ok (.ifCond .eq 7, 3) := by decide +kernel
theorem dX3_takeNumber_50 : decode cX3_takeNumber 50 = .ok (.iconst 1, 1) := by decide +kernel
theorem dX3_takeNumber_51 : decode cX3_takeNumber 51 = .ok (.goto 4, 3) := by decide +kernel
theorem dX3_takeNumber_54 : decode cX3_takeNumber 54 = .ok (.iconst 0, 1) := by decide +kernel
theorem dX3_takeNumber_55 : decode cX3_takeNumber 55 = .ok (.ireturn, 1) := by decide +kernel
theorem dX3_takeStop_0 : decode cX3_takeStop 0 = .ok (.aload_n 0, 1) := by decide +kernel
theorem dX3_takeStop_1 : decode cX3_takeStop 1 = .ok (.invokevirtual 47, 3) := by decide +kernel
theorem dX3_takeStop_4 : decode cX3_takeStop 4 = .ok (.aload_n 0, 1) := by decide +kernel
theorem dX3_takeStop_5 : decode cX3_takeStop 5 = .ok (.getfield 50, 3) := by decide +kernel
theorem dX3_takeStop_8 : decode cX3_takeStop 8 = .ok (.iconst 3, 1) := by decide +kernel
theorem dX3_takeStop_9 : decode cX3_takeStop 9 = .ok (.if_icmp .eq 23, 3) := by decide +kernel
theorem dX3_takeStop_12 : decode cX3_takeStop 12 = .ok (.aload_n 0, 1) := by decide +kernel
theorem dX3_takeStop_13 : decode cX3_takeStop 13 = .ok (.aload_n 0, 1) := by decide +kernel
theorem dX3_takeStop_14 : decode cX3_takeStop 14 = .ok (.getfield 50, 3) := by decide +kernel
theorem dX3_takeStop_17 : decode cX3_takeStop 17 = .ok (.iconst 4, 1) := by decide +kernel
theorem dX3_takeStop_18 : decode cX3_takeStop 18 = .ok (.if_icmp .ne 7, 3) := by decide +kernel
theorem dX3_takeStop_21 : decode cX3_takeStop 21 = .ok (.iconst 1, 1) := by decide +kernel
theorem dX3_takeStop_22 : decode cX3_takeStop 22 = .ok (.goto 4, 3) := by decide +kernel
theorem dX3_takeStop_25 : decode cX3_takeStop 25 = .ok (.iconst 2, 1) := by decide +kernel
theorem dX3_takeStop_26 : decode cX3_takeStop 26 = .ok (.invokevirtual 63, 3) := by decide +kernel
theorem dX3_takeStop_29 : decode cX3_takeStop 29 = .ok (.ifCond .eq 7, 3) := by decide +kernel
theorem dX3_takeStop_32 : decode cX3_takeStop 32 = .ok (.iconst 1, 1) := by decide +kernel
theorem dX3_takeStop_33 : decode cX3_takeStop 33 = .ok (.goto 4, 3) := by decide +kernel
theorem dX3_takeStop_36 : decode cX3_takeStop 36 = .ok (.iconst 0, 1) := by decide +kernel
theorem dX3_takeStop_37 : decode cX3_takeStop 37 = .ok (.ireturn, 1) := by decide +kernel
theorem dX3_nextToken_0 : decode cX3_nextToken 0 = .ok (.aload_n 0, 1) := by decide +kernel
theorem dX3_nextToken_1 : decode cX3_nextToken 1 = .ok (.getfield 24, 3) := by decide +kernel
theorem dX3_nextToken_4 : decode cX3_nextToken 4 = .ok (.aload_n 0, 1) := by decide +kernel
theorem dX3_nextToken_5 : decode cX3_nextToken 5 = .ok (.getfield 9, 3) := by decide +kernel
theorem dX3_nextToken_8 : decode cX3_nextToken 8 = .ok (.getfield 168, 3) := by decide +kernel
theorem dX3_nextToken_11 : decode cX3_nextToken 11 = .ok (.if_icmp .ge 32, 3) := by decide +kernel
theorem dX3_nextToken_14 : decode cX3_nextToken 14 = .ok (.aload_n 0, 1) := by decide +kernel
theorem dX3_nextToken_15 : decode cX3_nextToken 15 = .ok (.getfield 9, 3) := by decide +kernel
theorem dX3_nextToken_18 : decode cX3_nextToken 18 = .ok (.aload_n 0, 1) := by decide +kernel
theorem dX3_nextToken_19 : decode cX3_nextToken 19 = .ok (.getfield 24, 3) := by decide +kernel
theorem dX3_nextToken_22 : decode cX3_nextToken 22 = .ok (.invokevirtual 173, 3) := by decide +kernel
theorem dX3_nextToken_25 : decode cX3_nextToken 25 = .ok (.bipush 32, 2) := by decide +kernel
theorem dX3_nextToken_27 : decode cX3_nextToken 27 = .ok (.if_icmp .ne 16, 3) := by decide +kernel
theorem dX3_nextToken_30 : decode cX3_nextToken 30 = .ok (.aload_n 0, 1) := by decide +kernel
theorem dX3_nextToken_31 : decode cX3_nextToken 31 = .ok (.dup, 1) := by decide +kernel
theorem dX3_nextToken_32 : decode cX3_nextToken 32 = .ok (.getfield 24, 3) := by decide +kernel
theorem dX3_nextToken_35 : decode cX3_nextToken 35 = .ok (.iconst 1, 1) := by decide +kernel
theorem dX3_nextToken_36 : decode cX3_nextToken 36 = .ok (.iadd, 1) := by decide +kernel
theorem dX3_nextToken_37 : decode cX3_nextToken 37 = .ok (.putfield 24, 3) := by decide +kernel
theorem dX3_nextToken_40 : decode cX3_nextToken 40 = .ok (.goto (-40), 3) := by decide +kernel
theorem dX3_nextToken_43 : decode cX3_nextToken 43 = .ok (.aload_n 0, 1) := by decide +kernel
theorem dX3_nextToken_44 : decode cX3_nextToken 44 = .ok (.aload_n 0, 1) := by decide +kernel
theorem dX3_nextToken_45 : decode cX3_nextToken 45 = .ok (.getfield 24, 3) := by decide +kernel
theorem dX3_nextToken_48 : decode cX3_nextToken 48 = .ok (.putfield 67, 3) := by decide +kernel
theorem dX3_nextToken_51 : decode cX3_nextToken 51 = .ok (.aload_n 0, 1) := by decide +kernel
theorem dX3_nextToken_52 : decode cX3_nextToken 52 = .ok (.getfield 67, 3) := by decide +kernel
theorem dX3_nextToken_55 : decode cX3_nextToken 55 = .ok (.aload_n 0, 1) := by decide +kernel
theorem dX3_nextToken_56 : decode cX3_nextToken 56 = .ok (.getfield 9, 3) := by decide +kernel
theorem dX3_nextToken_59 : decode cX3_nextToken 59 = .ok (.getfield 168, 3) := by decide +kernel
theorem dX3_nextToken_62 : decode cX3_nextToken 62 = .ok (.if_icmp .lt 11, 3) := by decide +kernel
theorem dX3_nextToken_65 : decode cX3_nextToken 65 = .ok (.aload_n 0, 1) := by decide +kernel
theorem dX3_nextToken_66 : decode cX3_nextToken 66 = .ok (.iconst 0, 1) := by decide +kernel
theorem dX3_nextToken_67 : decode cX3_nextToken 67 = .ok (.putfield 50, 3) := by decide +kernel
theorem dX3_nextToken_70 : decode cX3_nextToken 70 = .ok (.goto 210, 3) := by decide +kernel
theorem dX3_nextToken_73 : decode cX3_nextToken 73 = .ok (.aload_n 0, 1) := by decide +kernel
theorem dX3_nextToken_74 : decode cX3_nextToken 74 = .ok (.getfield 9, 3) := by decide +kernel
theorem dX3_nextToken_77 : decode cX3_nextToken 77 = .ok (.aload_n 0, 1) := by decide +kernel
theorem dX3_nextToken_78 : decode cX3_nextToken 78 = .ok (.getfield 67, 3) := by decide +kernel
theorem dX3_nextToken_81 : decode cX3_nextToken 81 = .ok (.invokevirtual 173, 3) := by decide +kernel
theorem dX3_nextToken_84 : decode cX3_nextToken 84 = .ok (.bipush 59, 2) := by decide +kernel
theorem dX3_nextToken_86 : decode cX3_nextToken 86 = .ok (.if_icmp .ne 21, 3) := by decide +kernel
theorem dX3_nextToken_89 : decode cX3_nextToken 89 = .ok (.aload_n 0, 1) := by decide +kernel
theorem dX3_nextToken_90 : decode cX3_nextToken 90 = .ok (.iconst 3, 1) := by decide +kernel
theorem dX3_nextToken_91 : decode cX3_nextToken 91 = .ok (.putfield 50, 3) := by decide +kernel
theorem dX3_nextToken_94 : decode cX3_nextToken 94 = .ok (.aload_n 0, 1) := by decide +kernel
theorem dX3_nextToken_95 : decode cX3_nextToken 95 = .ok (.dup, 1) := by decide +kernel
theorem dX3_nextToken_96 : decode cX3_nextToken 96 = .ok (.getfield 24, 3) := by decide +kernel
theorem dX3_nextToken_99 : decode cX3_nextToken 99 = .ok (.iconst 1, 1) := by decide +kernel
theorem dX3_nextToken_100 : decode cX3_nextToken 100 = .ok (.iadd, 1) := by decide +kernel
theorem dX3_nextToken_101 : decode cX3_nextToken 101 = .ok (.putfield 24, 3) := by decide +kernel
theorem dX3_nextToken_104 : decode cX3_nextToken 104 = .ok (.goto 176, 3) := by decide +kernel
theorem dX3_nextToken_107 : decode cX3_nextToken 107 = .ok (.aload_n 0, 1) := by decide +kernel
theorem dX3_nextToken_108 : decode cX3_nextToken 108 = .ok (.getfield 9, 3) := by decide +kernel
theorem dX3_nextToken_111 : decode cX3_nextToken 111 = .ok (.aload_n 0, 1) := by decide +kernel
theorem dX3_nextToken_112 : decode cX3_nextToken 112 = .ok (.getfield 67, 3) := by decide +kernel
theorem dX3_nextToken_115 : decode cX3_nextToken 115 = .ok (.invokevirtual 173, 3) := by decide +kernel
theorem dX3_nextToken_118 : decode cX3_nextToken 118 = .ok (.invokestatic 177, 3) := by decide +kernel
theorem dX3_nextToken_121 : decode cX3_nextToken 121 = .ok (.ifCond .eq 52, 3) := by decide +kernel
theorem dX3_nextToken_124 : decode cX3_nextToken 124 = .ok (.aload_n 0, 1) := by decide +kernel
theorem dX3_nextToken_125 : decode cX3_nextToken 125 = .ok (.iconst 1, 1) := by decide +kernel
theorem dX3_nextToken_126 : decode cX3_nextToken 126 = .ok (.putfield 50, 3) := by decide +kernel
theorem dX3_nextToken_129 : decode cX3_nextToken 129 = .ok (.aload_n 0, 1) := by decide +kernel
theorem dX3_nextToken_130 : decode cX3_nextToken 130 = .ok (.getfield 24, 3) := by decide +kernel
theorem dX3_nextToken_133 : decode cX3_nextToken 133 = .ok (.aload_n 0, 1) := by decide +kernel
theorem dX3_nextToken_134 : decode cX3_nextToken 134 = .ok (.getfield 9, 3) := by decide +kernel
theorem dX3_nextToken_137 : decode cX3_nextToken 137 = .ok (.getfield 168, 3) := by decide +kernel
theorem dX3_nextToken_140 : decode cX3_nextToken 140 = .ok (.if_icmp .ge 140, 3) := by decide +kernel
theorem dX3_nextToken_143 : decode cX3_nextToken 143 = .ok (.aload_n 0, 1) := by decide +kernel
theorem dX3_nextToken_144 : decode cX3_nextToken 144 = .ok (.getfield 9, 3) := by decide +kernel
theorem dX3_nextToken_147 : decode cX3_nextToken 147 = .ok (.aload_n 0, 1) := by decide +kernel
theorem dX3_nextToken_148 : decode cX3_nextToken 148 = .ok (.getfield 24, 3) := by decide +kernel
theorem dX3_nextToken_151 : decode cX3_nextToken 151 = .ok (.invokevirtual 173, 3) := by decide +kernel
theorem dX3_nextToken_154 : decode cX3_nextToken 154 = .ok (.invokestatic 177, 3) := by decide +kernel
theorem dX3_nextToken_157 : decode cX3_nextToken 157 = .ok (.ifCond .eq 123, 3) := by decide +kernel
theorem dX3_nextToken_160 : decode cX3_nextToken 160 = .ok (.aload_n 0, 1) := by decide +kernel
theorem dX3_nextToken_161 : decode cX3_nextToken 161 = .ok (.dup, 1) := by decide +kernel
theorem dX3_nextToken_162 : decode cX3_nextToken 162 = .ok (.getfield 24, 3) := by decide +kernel
theorem dX3_nextToken_165 : decode cX3_nextToken 165 = .ok (.iconst 1, 1) := by decide +kernel
theorem dX3_nextToken_166 : decode cX3_nextToken 166 = .ok (.iadd, 1) := by decide +kernel
theorem dX3_nextToken_167 : decode cX3_nextToken 167 = .ok (.putfield 24, 3) := by decide +kernel
theorem dX3_nextToken_170 : decode cX3_nextToken 170 = .ok (.goto (-41), 3) := by decide +kernel
theorem dX3_nextToken_173 : decode cX3_nextToken 173 = .ok (.aload_n 0, 1) := by decide +kernel
theorem dX3_nextToken_174 : decode cX3_nextToken 174 = .ok (.iconst 0, 1) := by decide +kernel
theorem dX3_nextToken_175 : decode cX3_nextToken 175 = .ok (.putfield 105, 3) := by decide +kernel
theorem dX3_nextToken_178 : decode cX3_nextToken 178 = .ok (.aload_n 0, 1) := by decide +kernel
theorem dX3_nextToken_179 : decode cX3_nextToken 179 = .ok (.getfield 24, 3) := by decide +kernel
theorem dX3_nextToken_182 : decode cX3_nextToken 182 = .ok (.aload_n 0, 1) := by decide +kernel
theorem dX3_nextToken_183 : decode cX3_nextToken 183 = .ok (.getfield 9, 3) := by decide +kernel
theorem dX3_nextToken_186 : decode cX3_nextToken 186 = .ok (.getfield 168, 3) := by decide +kernel
theorem dX3_nextToken_189 : decode cX3_nextToken 189 = .ok (.if_icmp .ge 62, 3) := by decide +kernel
theorem dX3_nextToken_192 : decode cX3_nextToken 192 = .ok (.aload_n 0, 1) := by decide +kernel
theorem dX3_nextToken_193 : decode cX3_nextToken 193 = .ok (.getfield 9, 3) := by decide +kernel
theorem dX3_nextToken_196 : decode cX3_nextToken 196 = .ok (.aload_n 0, 1) := by decide +kernel
theorem dX3_nextToken_197 : decode cX3_nextToken 197 = .ok (.getfield 24, 3) := by decide +kernel
theorem dX3_nextToken_200 : decode cX3_nextToken 200 = .ok (.invokevirtual 173, 3) := by decide +kernel
theorem dX3_nextToken_203 : decode cX3_nextToken 203 = .ok (.invokestatic 180, 3) := by decide +kernel
theorem dX3_nextToken_206 : decode cX3_nextToken 206 = .ok (.ifCond .eq 45, 3) := by decide +kernel
theorem dX3_nextToken_209 : decode cX3_nextToken 209 = .ok (.aload_n 0, 1) := by decide +kernel
theorem dX3_nextToken_210 : decode cX3_nextToken 210 = .ok (.aload_n 0, 1) := by decide +kernel
theorem dX3_nextToken_211 : decode cX3_nextToken 211 = .ok (.getfield 105, 3) := by decide +kernel
theorem dX3_nextToken_214 : decode cX3_nextToken 214 = .ok (.bipush 100, 2) := by decide +kernel
theorem dX3_nextToken_216 : decode cX3_nextToken 216 = .ok (.irem, 1) := by decide +kernel
theorem dX3_nextToken_217 : decode cX3_nextToken 217 = .ok (.bipush 10, 2) := by decide +kernel
theorem dX3_nextToken_219 : decode cX3_nextToken 219 = .ok (.imul, 1) := by decide +kernel
theorem dX3_nextToken_220 : decode cX3_nextToken 220 = .ok (.aload_n 0, 1) := by decide +kernel
theorem dX3_nextToken_221 : decode cX3_nextToken 221 = .ok (.getfield 9, 3) := by decide +kernel
theorem dX3_nextToken_224 : decode cX3_nextToken 224 = .ok (.aload_n 0, 1) := by decide +kernel
theorem dX3_nextToken_225 : decode cX3_nextToken 225 = .ok (.getfield 24, 3) := by decide +kernel
theorem dX3_nextToken_228 : decode cX3_nextToken 228 = .ok (.invokevirtual 173, 3) := by decide +kernel
theorem dX3_nextToken_231 : decode cX3_nextToken 231 = .ok (.iadd, 1) := by decide +kernel
theorem dX3_nextToken_232 : decode cX3_nextToken 232 = .ok (.bipush 48, 2) := by decide +kernel
theorem dX3_nextToken_234 : decode cX3_nextToken 234 = .ok (.isub, 1) := by decide +kernel
theorem dX3_nextToken_235 : decode cX3_nextToken 235 = .ok (.putfield 105, 3) := by decide +kernel
theorem dX3_nextToken_238 : decode cX3_nextToken 238 = .ok (.aload_n 0, 1) := by decide +kernel
theorem dX3_nextToken_239 : decode cX3_nextToken 239 = .ok (.dup, 1) := by decide +kernel
theorem dX3_nextToken_240 : decode cX3_nextToken 240 = .ok (.getfield 24, 3) := by decide +kernel
theorem dX3_nextToken_243 : decode cX3_nextToken 243 = .ok (.iconst 1, 1) := by decide +kernel
theorem dX3_nextToken_244 : decode cX3_nextToken 244 = .ok (.iadd, 1) := by decide +kernel
theorem dX3_nextToken_245 : decode cX3_nextToken 245 = .ok (.putfield 24, 3) := by decide +kernel
theorem dX3_nextToken_248 : decode cX3_nextToken 248 = .ok (.goto (-70), 3) := by decide +kernel
theorem dX3_nextToken_251 : decode cX3_nextToken 251 = .ok (.aload_n 0, 1) := by decide +kernel
theorem dX3_nextToken_252 : decode cX3_nextToken 252 = .ok (.getfield 24, 3) := by decide +kernel
theorem dX3_nextToken_255 : decode cX3_nextToken 255 = .ok (.aload_n 0, 1) := by decide +kernel
theorem dX3_nextToken_256 : decode cX3_nextToken 256 = .ok (.getfield 67, 3) := by decide +kernel
theorem dX3_nextToken_259 : decode cX3_nextToken 259 = .ok (.isub, 1) := by decide +kernel
theorem dX3_nextToken_260 : decode cX3_nextToken 260 = .ok (.istore_n 1, 1) := by decide +kernel
theorem dX3_nextToken_261 : decode cX3_nextToken 261 = .ok (.aload_n 0, 1) := by decide +kernel
theorem dX3_nextToken_262 : decode cX3_nextToken 262 = .ok (.iload_n 1, 1) := by decide +kernel
theorem dX3_nextToken_263 : decode cX3_nextToken 263 = .ok (.iconst 1, 1) := by decide +kernel
theorem dX3_nextToken_264 : decode cX3_nextToken 264 = .ok (.if_icmp .eq 8, 3) := by decide +kernel
theorem dX3_nextToken_267 : decode cX3_nextToken 267 = .ok (.iload_n 1, 1) := by decide +kernel
theorem dX3_nextToken_268 : decode cX3_nextToken 268 = .ok (.iconst 2, 1) := by decide +kernel
theorem dX3_nextToken_269 : decode cX3_nextToken 269 = .ok (.if_icmp .ne 7, 3) := by decide +kernel
theorem dX3_nextToken_272 : decode cX3_nextToken 272 = .ok (.iconst 2, 1) := by decide +kernel
theorem dX3_nextToken_273 : decode cX3_nextToken 273 = .ok (.goto 4, 3) := by decide +kernel
theorem dX3_nextToken_276 : decode cX3_nextToken 276 = .ok (.iconst 4, 1) := by decide +kernel
theorem dX3_nextToken_277 : decode cX3_nextToken 277 = .ok (.putfield 50, 3) := by decide +kernel
theorem dX3_nextToken_280 : decode cX3_nextToken 280 = .ok (.return_, 1) := by decide +kernel
theorem dX3_isLetter_0 : decode cX3_isLetter 0 = .ok (.iload_n 0, 1) := by decide +kernel
theorem dX3_isLetter_1 : decode cX3_isLetter 1 = .ok (.bipush 97, 2) := by decide +kernel
theorem dX3_isLetter_3 : decode cX3_isLetter 3 = .ok (.if_icmp .lt 13, 3) := by decide +kernel
theorem dX3_isLetter_6 : decode cX3_isLetter 6 = .ok (.iload_n 0, 1) := by decide +kernel
theorem dX3_isLetter_7 : decode cX3_isLetter 7 = .ok (.bipush 122, 2) := by decide +kernel
theorem dX3_isLetter_9 : decode cX3_isLetter 9 = .ok (.if_icmp .gt 7, 3) := by decide +kernel
theorem dX3_isLetter_12 : decode cX3_isLetter 12 = .ok (.iconst 1, 1) := by decide +kernel
theorem dX3_isLetter_13 : decode cX3_isLetter 13 = .ok (.goto 4, 3) := by decide +kernel
theorem dX3_isLetter_16 : decode cX3_isLetter 16 = .ok (.iconst 0, 1) := by decide +kernel
theorem dX3_isLetter_17 : decode cX3_isLetter 17 = .ok (.ireturn, 1) := by decide +kernel
theorem dX3_isFigure_0 : decode cX3_isFigure 0 = .ok (.iload_n 0, 1) := by decide +kernel
theorem dX3_isFigure_1 : decode cX3_isFigure 1 = .ok (.bipush 48, 2) := by decide +kernel
theorem dX3_isFigure_3 : decode cX3_isFigure 3 = .ok (.if_icmp .lt 13, 3) := by decide +kernel
theorem dX3_isFigure_6 : decode cX3_isFigure 6 = .ok (.iload_n 0, 1) := by decide +kernel
theorem dX3_isFigure_7 : decode cX3_isFigure 7 = .ok (.bipush 57, 2) := by decide +kernel
theorem dX3_isFigure_9 : decode cX3_isFigure 9 = .ok (.if_icmp .gt 7, 3) := by decide +kernel
theorem dX3_isFigure_12 : decode cX3_isFigure 12 = .ok (.iconst 1, 1) := by decide +kernel
theorem dX3_isFigure_13 : decode cX3_isFigure 13 = .ok (.goto 4, 3) := by decide +kernel
theorem dX3_isFigure_16 : decode cX3_isFigure 16 = .ok (.iconst 0, 1) := by decide +kernel
theorem dX3_isFigure_17 : decode cX3_isFigure 17 = .ok (.ireturn, 1) := by decide +kernel
theorem dX3_isNamed_0 : decode cX3_isNamed 0 = .ok (.aload_n 0, 1) := by decide +kernel
theorem dX3_isNamed_1 : decode cX3_isNamed 1 = .ok (.getfield 24, 3) := by decide +kernel
theorem dX3_isNamed_4 : decode cX3_isNamed 4 = .ok (.aload_n 0, 1) := by decide +kernel
theorem dX3_isNamed_5 : decode cX3_isNamed 5 = .ok (.getfield 67, 3) := by decide +kernel
theorem dX3_isNamed_8 : decode cX3_isNamed 8 = .ok (.isub, 1) := by decide +kernel
theorem dX3_isNamed_9 : decode cX3_isNamed 9 = .ok (.aload_n 1, 1) := by decide +kernel
theorem dX3_isNamed_10 : decode cX3_isNamed 10 = .ok (.invokevirtual 183, 3) := by decide +kernel
theorem dX3_isNamed_13 : decode cX3_isNamed 13 = .ok (.if_icmp .eq 5, 3) := by decide +kernel
theorem dX3_isNamed_16 : decode cX3_isNamed 16 = .ok (.iconst 0, 1) := by decide +kernel
theorem dX3_isNamed_17 : decode cX3_isNamed 17 = .ok (.ireturn, 1) := by decide +kernel
theorem dX3_isNamed_18 : decode cX3_isNamed 18 = .ok (.iconst 0, 1) := by decide +kernel
theorem dX3_isNamed_19 : decode cX3_isNamed 19 = .ok (.istore_n 2, 1) := by decide +kernel
theorem dX3_isNamed_20 : decode cX3_isNamed 20 = .ok (.iload_n 2, 1) := by decide +kernel
theorem dX3_isNamed_21 : decode cX3_isNamed 21 = .ok (.aload_n 1, 1) := by decide +kernel
theorem dX3_isNamed_22 : decode cX3_isNamed 22 = .ok (.invokevirtual 183, 3) := by decide +kernel
theorem dX3_isNamed_25 : decode cX3_isNamed 25 = .ok (.if_icmp .ge 32, 3) := by decide +kernel
theorem dX3_isNamed_28 : decode cX3_isNamed 28 = .ok (.aload_n 0, 1) := by decide +kernel
theorem dX3_isNamed_29 : decode cX3_isNamed 29 = .ok (.getfield 9, 3) := by decide +kernel
theorem dX3_isNamed_32 : decode cX3_isNamed 32 = .ok (.aload_n 0, 1) := by decide +kernel
theorem dX3_isNamed_33 : decode cX3_isNamed 33 = .ok (.getfield 67, 3) := by decide +kernel
theorem dX3_isNamed_36 : decode cX3_isNamed 36 = .ok (.iload_n 2, 1) := by decide +kernel
theorem dX3_isNamed_37 : decode cX3_isNamed 37 = .ok (.iadd, 1) := by decide +kernel
theorem dX3_isNamed_38 : decode cX3_isNamed 38 = .ok (.invokevirtual 173, 3) := by decide +kernel
theorem dX3_isNamed_41 : decode cX3_isNamed 41 = .ok (.aload_n 1, 1) := by decide +kernel
theorem dX3_isNamed_42 : decode cX3_isNamed 42 = .ok (.iload_n 2, 1) := by decide +kernel
theorem dX3_isNamed_43 : decode cX3_isNamed 43 = .ok (.invokevirtual 187, 3) := by decide +kernel
theorem dX3_isNamed_46 : decode cX3_isNamed 46 = .ok (.if_icmp .eq 5, 3) := by decide +kernel
theorem dX3_isNamed_49 : decode cX3_isNamed 49 = .ok (.iconst 0, 1) := by decide +kernel
theorem dX3_isNamed_50 : decode cX3_isNamed 50 = .ok (.ireturn, 1) := by decide +kernel
theorem dX3_isNamed_51 : decode cX3_isNamed 51 = .ok (.iinc 2 1, 3) := by decide +kernel
theorem dX3_isNamed_54 : decode cX3_isNamed 54 = .ok (.goto (-34), 3) := by decide +kernel
theorem dX3_isNamed_57 : decode cX3_isNamed 57 = .ok (.iconst 1, 1) := by decide +kernel
theorem dX3_isNamed_58 : decode cX3_isNamed 58 = .ok (.ireturn, 1) := by decide +kernel
theorem dX4_init_0 : decode cX4_init 0 = .ok (.aload_n 0, 1) := by decide +kernel
theorem dX4_init_1 : decode cX4_init 1 = .ok (.invokespecial 3, 3) := by decide +kernel
theorem dX4_init_4 : decode cX4_init 4 = .ok (.aload_n 0, 1) := by decide +kernel
theorem dX4_init_5 : decode cX4_init 5 = .ok (.bipush 40, 2) := by decide +kernel
theorem dX4_init_7 : decode cX4_init 7 = .ok (.newarray .int, 2) := by decide +kernel
theorem dX4_init_9 : decode cX4_init 9 = .ok (.putfield 9, 3) := by decide +kernel
theorem dX4_init_12 : decode cX4_init 12 = .ok (.aload_n 0, 1) := by decide +kernel
theorem dX4_init_13 : decode cX4_init 13 = .ok (.bipush (-4), 2) := by decide +kernel
theorem dX4_init_15 : decode cX4_init 15 = .ok (.putfield 15, 3) := by decide +kernel
theorem dX4_init_18 : decode cX4_init 18 = .ok (.aload_n 0, 1) := by decide +kernel
theorem dX4_init_19 : decode cX4_init 19 = .ok (.iconst 0, 1) := by decide +kernel
theorem dX4_init_20 : decode cX4_init 20 = .ok (.putfield 19, 3) := by decide +kernel
theorem dX4_init_23 : decode cX4_init 23 = .ok (.return_, 1) := by decide +kernel
theorem dX4_isNothing_0 : decode cX4_isNothing 0 = .ok (.aload_n 0, 1) := by decide +kernel
theorem dX4_isNothing_1 : decode cX4_isNothing 1 = .ok (.getfield 15, 3) := by decide +kernel
theorem dX4_isNothing_4 : decode cX4_isNothing 4 = .ok (.bipush (-4), 2) := by decide +kernel
theorem dX4_isNothing_6 : decode cX4_isNothing 6 = .ok (.if_icmp .ne 7, 3) := by decide +kernel
theorem dX4_isNothing_9 : decode cX4_isNothing 9 = .ok (.iconst 1, 1) := by decide +kernel
theorem dX4_isNothing_10 : decode cX4_isNothing 10 = .ok (.goto 4, 3) := by decide +kernel
theorem dX4_isNothing_13 : decode cX4_isNothing 13 = .ok (.iconst 0, 1) := by decide +kernel
theorem dX4_isNothing_14 : decode cX4_isNothing 14 = .ok (.ireturn, 1) := by decide +kernel
theorem dX4_hasCell_0 : decode cX4_hasCell 0 = .ok (.iload_n 1, 1) := by decide +kernel
theorem dX4_hasCell_1 : decode cX4_hasCell 1 = .ok (.ifCond .lt 15, 3) := by decide +kernel
theorem dX4_hasCell_4 : decode cX4_hasCell 4 = .ok (.iload_n 1, 1) := by decide +kernel
theorem dX4_hasCell_5 : decode cX4_hasCell 5 = .ok (.aload_n 0, 1) := by decide +kernel
theorem dX4_hasCell_6 : decode cX4_hasCell 6 = .ok (.getfield 19, 3) := by decide +kernel
theorem dX4_hasCell_9 : decode cX4_hasCell 9 = .ok (.if_icmp .ge 7, 3) := by decide +kernel
theorem dX4_hasCell_12 : decode cX4_hasCell 12 = .ok (.iconst 1, 1) := by decide +kernel
theorem dX4_hasCell_13 : decode cX4_hasCell 13 = .ok (.goto 4, 3) := by decide +kernel
theorem dX4_hasCell_16 : decode cX4_hasCell 16 = .ok (.iconst 0, 1) := by decide +kernel
theorem dX4_hasCell_17 : decode cX4_hasCell 17 = .ok (.ireturn, 1) := by decide +kernel
theorem dX4_cellAt_0 : decode cX4_cellAt 0 = .ok (.aload_n 0, 1) := by decide +kernel
theorem dX4_cellAt_1 : decode cX4_cellAt 1 = .ok (.iload_n 1, 1) := by decide +kernel
theorem dX4_cellAt_2 : decode cX4_cellAt 2 = .ok (.invokevirtual 22, 3) := by decide +kernel
theorem dX4_cellAt_5 : decode cX4_cellAt 5 = .ok (.ifCond .eq 12, 3) := by decide +kernel
theorem dX4_cellAt_8 : decode cX4_cellAt 8 = .ok (.aload_n 0, 1) := by decide +kernel
theorem dX4_cellAt_9 : decode cX4_cellAt 9 = .ok (.getfield 9, 3) := by decide +kernel
theorem dX4_cellAt_12 : decode cX4_cellAt 12 = .ok (.iload_n 1, 1) := by decide +kernel
theorem dX4_cellAt_13 : decode cX4_cellAt 13 = .ok (.iaload, 1) := by decide +kernel
theorem dX4_cellAt_14 : decode cX4_cellAt 14 = .ok (.goto 4, 3) := by decide +kernel
theorem dX4_cellAt_17 : decode cX4_cellAt 17 = .ok (.iconst 0, 1) := by decide +kernel
theorem dX4_cellAt_18 : decode cX4_cellAt 18 = .ok (.ireturn, 1) := by decide +kernel
theorem dX4_renew_0 : decode cX4_renew 0 = .ok (.aload_n 0, 1) := by decide +kernel
theorem dX4_renew_1 : decode cX4_renew 1 = .ok (.iload_n 1, 1) := by decide +kernel
theorem dX4_renew_2 : decode cX4_renew 2 = .ok (.putfield 15, 3) := by decide +kernel
theorem dX4_renew_5 : decode cX4_renew 5 = .ok (.aload_n 0, 1) := by decide +kernel
theorem dX4_renew_6 : decode cX4_renew 6 = .ok (.iload_n 2, 1) := by decide +kernel
theorem dX4_renew_7 : decode cX4_renew 7 = .ok (.putfield 19, 3) := by decide +kernel
theorem dX4_renew_10 : decode cX4_renew 10 = .ok (.aload_n 0, 1) := by decide +kernel
theorem dX4_renew_11 : decode cX4_renew 11 = .ok (.getfield 9, 3) := by decide +kernel
theorem dX4_renew_14 : decode cX4_renew 14 = .ok (.iconst 0, 1) := by decide +kernel
theorem dX4_renew_15 : decode cX4_renew 15 = .ok (.invokestatic 26, 3) := by decide +kernel
theorem dX4_renew_18 : decode cX4_renew 18 = .ok (.return_, 1) := by decide +kernel
theorem dX4_faultAs_0 : decode cX4_faultAs 0 = .ok (.aload_n 0, 1) := by decide +kernel
theorem dX4_faultAs_1 : decode cX4_faultAs 1 = .ok (.invokevirtual 32, 3) := by decide +kernel
theorem dX4_faultAs_4 : decode cX4_faultAs 4 = .ok (.ifCond .eq 5, 3) := by decide +kernel
theorem dX4_faultAs_7 : decode cX4_faultAs 7 = .ok (.iconst 1, 1) := by decide +kernel
theorem dX4_faultAs_8 : decode cX4_faultAs 8 = .ok (.ireturn, 1) := by decide +kernel
theorem dX4_faultAs_9 : decode cX4_faultAs 9 = .ok (.aload_n 0, 1) := by decide +kernel
theorem dX4_faultAs_10 : decode cX4_faultAs 10 = .ok (.getfield 15, 3) := by decide +kernel
theorem dX4_faultAs_13 : decode cX4_faultAs 13 = .ok (.iload_n 1, 1) := by decide +kernel
theorem dX4_faultAs_14 : decode cX4_faultAs 14 = .ok (.if_icmp .ne 7, 3) := by decide +kernel
theorem dX4_faultAs_17 : decode cX4_faultAs 17 = .ok (.iconst 0, 1) := by decide +kernel
theorem dX4_faultAs_18 : decode cX4_faultAs 18 = .ok (.goto 4, 3) := by decide +kernel
theorem dX4_faultAs_21 : decode cX4_faultAs 21 = .ok (.iconst 3, 1) := by decide +kernel
theorem dX4_faultAs_22 : decode cX4_faultAs 22 = .ok (.ireturn, 1) := by decide +kernel
theorem dX4_setCell_0 : decode cX4_setCell 0 = .ok (.aload_n 0, 1) := by decide +kernel
theorem dX4_setCell_1 : decode cX4_setCell 1 = .ok (.getfield 15, 3) := by decide +kernel
theorem dX4_setCell_4 : decode cX4_setCell 4 = .ok (.lookupswitch 50 #[(0, 28), (1, 39)], 28) := by decide +kernel
theorem dX4_setCell_32 : decode cX4_setCell 32 = .ok (.aload_n 0, 1) := by decide +kernel
theorem dX4_setCell_33 : decode cX4_setCell 33 = .ok (.getfield 9, 3) := by decide +kernel
theorem dX4_setCell_36 : decode cX4_setCell 36 = .ok (.iload_n 1, 1) := by decide +kernel
theorem dX4_setCell_37 : decode cX4_setCell 37 = .ok (.iload_n 2, 1) := by decide +kernel
theorem dX4_setCell_38 : decode cX4_setCell 38 = .ok (.i2b, 1) := by decide +kernel
theorem dX4_setCell_39 : decode cX4_setCell 39 = .ok (.iastore, 1) := by decide +kernel
theorem dX4_setCell_40 : decode cX4_setCell 40 = .ok (.goto 21, 3) := by decide +kernel
theorem dX4_setCell_43 : decode cX4_setCell 43 = .ok (.aload_n 0, 1) := by decide +kernel
theorem dX4_setCell_44 : decode cX4_setCell 44 = .ok (.getfield 9, 3) := by decide +kernel
theorem dX4_setCell_47 : decode cX4_setCell 47 = .ok (.iload_n 1, 1) := by decide +kernel
theorem dX4_setCell_48 : decode cX4_setCell 48 = .ok (.iload_n 2, 1) := by decide +kernel
theorem dX4_setCell_49 : decode cX4_setCell 49 = .ok (.i2s, 1) := by decide +kernel
theorem dX4_setCell_50 : decode cX4_setCell 50 = .ok (.iastore, 1) := by decide +kernel
theorem dX4_setCell_51 : decode cX4_setCell 51 = .ok (.goto 10, 3) := by decide +kernel
theorem dX4_setCell_54 : decode cX4_setCell 54 = .ok (.aload_n 0, 1) := by decide +kernel
theorem dX4_setCell_55 : decode cX4_setCell 55 = .ok (.getfield 9, 3) := by decide +kernel
theorem dX4_setCell_58 : decode cX4_setCell 58 = .ok (.iload_n 1, 1) := by decide +kernel
theorem dX4_setCell_59 : decode cX4_setCell 59 = .ok (.iload_n 2, 1) := by decide +kernel
theorem dX4_setCell_60 : decode cX4_setCell 60 = .ok (.iastore, 1) := by decide +kernel
theorem dX4_setCell_61 : decode cX4_setCell 61 = .ok (.return_, 1) := by decide +kernel
theorem dX5_init_0 : decode cX5_init 0 = .ok (.aload_n 0, 1) := by decide +kernel
theorem dX5_init_1 : decode cX5_init 1 = .ok (.invokespecial 3, 3) := by decide +kernel
theorem dX5_init_4 : decode cX5_init 4 = .ok (.aload_n 0, 1) := by decide +kernel
theorem dX5_init_5 : decode cX5_init 5 = .ok (.sipush 400, 3) := by decide +kernel
theorem dX5_init_8 : decode cX5_init 8 = .ok (.newarray .byte, 2) := by decide +kernel
theorem dX5_init_10 : decode cX5_init 10 = .ok (.putfield 9, 3) := by decide +kernel
theorem dX5_init_13 : decode cX5_init 13 = .ok (.aload_n 0, 1) := by decide +kernel
theorem dX5_init_14 : decode cX5_init 14 = .ok (.iconst 0, 1) := by decide +kernel
theorem dX5_init_15 : decode cX5_init 15 = .ok (.putfield 15, 3) := by decide +kernel
theorem dX5_init_18 : decode cX5_init 18 = .ok (.return_, 1) := by decide +kernel
theorem dX5_takeEight_0 : decode cX5_takeEight 0 = .ok (.aload_n 0, 1) := by decide +kernel
theorem dX5_takeEight_1 : decode cX5_takeEight 1 = .ok (.getfield 15, 3) := by decide +kernel
theorem dX5_takeEight_4 : decode cX5_takeEight 4 = .ok (.bipush 8, 2) := by decide +kernel
theorem dX5_takeEight_6 : decode cX5_takeEight 6 = .ok (.iadd, 1) := by decide +kernel
theorem dX5_takeEight_7 : decode cX5_takeEight 7 = .ok (.sipush 400, 3) := by decide +kernel
theorem dX5_takeEight_10 : decode cX5_takeEight 10 = .ok (.if_icmp .le 5, 3) := by decide +kernel
theorem dX5_takeEight_13 : decode cX5_takeEight 13 = .ok (.iconst 0, 1) := by decide +kernel
theorem dX5_takeEight_14 : decode cX5_takeEight 14 = .ok (.ireturn, 1) := by decide +kernel
theorem dX5_takeEight_15 : decode cX5_takeEight 15 = .ok (.iconst 0, 1) := by decide +kernel
theorem dX5_takeEight_16 : decode cX5_takeEight 16 = .ok (.istore_n 3, 1) := by decide +kernel
theorem dX5_takeEight_17 : decode cX5_takeEight 17 = .ok (.iload_n 3, 1) := by decide +kernel
theorem dX5_takeEight_18 : decode cX5_takeEight 18 = .ok (.bipush 8, 2) := by decide +kernel
theorem dX5_takeEight_20 : decode cX5_takeEight 20 = .ok (.if_icmp .ge 31, 3) := by decide +kernel
theorem dX5_takeEight_23 : decode cX5_takeEight 23 = .ok (.aload_n 0, 1) := by decide +kernel
theorem dX5_takeEight_24 : decode cX5_takeEight 24 = .ok (.getfield 9, 3) := by decide +kernel
theorem dX5_takeEight_27 : decode cX5_takeEight 27 = .ok (.aload_n 0, 1) := by decide +kernel
theorem dX5_takeEight_28 : decode cX5_takeEight 28 = .ok (.getfield 15, 3) := by decide +kernel
theorem dX5_takeEight_31 : decode cX5_takeEight 31 = .ok (.iload_n 3, 1) := by decide +kernel
theorem dX5_takeEight_32 : decode cX5_takeEight 32 = .ok (.iadd, 1) := by decide +kernel
theorem dX5_takeEight_33 : decode cX5_takeEight 33 = .ok (.lload_n 1, 1) := by decide +kernel
theorem dX5_takeEight_34 : decode cX5_takeEight 34 = .ok (.bipush 56, 2) := by decide +kernel
theorem dX5_takeEight_36 : decode cX5_takeEight 36 = .ok (.bipush 8, 2) := by decide +kernel
theorem dX5_takeEight_38 : decode cX5_takeEight 38 = .ok (.iload_n 3, 1) := by decide +kernel
theorem dX5_takeEight_39 : decode cX5_takeEight 39 = .ok (.imul, 1) := by decide +kernel
theorem dX5_takeEight_40 : decode cX5_takeEight 40 = .ok (.isub, 1) := by decide +kernel
theorem dX5_takeEight_41 : decode cX5_takeEight 41 = .ok (.lshr, 1) := by decide +kernel
theorem dX5_takeEight_42 : decode cX5_takeEight 42 = .ok (.l2i, 1) := by decide +kernel
theorem dX5_takeEight_43 : decode cX5_takeEight 43 = .ok (.i2b, 1) := by decide +kernel
theorem dX5_takeEight_44 : decode cX5_takeEight 44 = .ok (.bastore, 1) := by decide +kernel
theorem dX5_takeEight_45 : decode cX5_takeEight 45 = .ok (.iinc 3 1, 3) := by decide +kernel
theorem dX5_takeEight_48 : decode cX5_takeEight 48 = .ok (.goto (-31), 3) := by decide +kernel
theorem dX5_takeEight_51 : decode cX5_takeEight 51 = .ok (.aload_n 0, 1) := by decide +kernel
theorem dX5_takeEight_52 : decode cX5_takeEight 52 = .ok (.dup, 1) := by decide +kernel
theorem dX5_takeEight_53 : decode cX5_takeEight 53 = .ok (.getfield 15, 3) := by decide +kernel
theorem dX5_takeEight_56 : decode cX5_takeEight 56 = .ok (.bipush 8, 2) := by decide +kernel
theorem dX5_takeEight_58 : decode cX5_takeEight 58 = .ok (.iadd, 1) := by decide +kernel
theorem dX5_takeEight_59 : decode cX5_takeEight 59 = .ok (.putfield 15, 3) := by decide +kernel
theorem dX5_takeEight_62 : decode cX5_takeEight 62 = .ok (.iconst 1, 1) := by decide +kernel
theorem dX5_takeEight_63 : decode cX5_takeEight 63 = .ok (.ireturn, 1) := by decide +kernel
theorem dX5_byteAt_0 : decode cX5_byteAt 0 = .ok (.iload_n 1, 1) := by decide +kernel
theorem dX5_byteAt_1 : decode cX5_byteAt 1 = .ok (.ifCond .lt 27, 3) := by decide +kernel
theorem dX5_byteAt_4 : decode cX5_byteAt 4 = .ok (.iload_n 1, 1) := by decide +kernel
theorem dX5_byteAt_5 : decode cX5_byteAt 5 = .ok (.aload_n 0, 1) := by decide +kernel
theorem dX5_byteAt_6 : decode cX5_byteAt 6 = .ok (.getfield 15, 3) := by decide +kernel
theorem dX5_byteAt_9 : decode cX5_byteAt 9 = .ok (.if_icmp .ge 19, 3) := by decide +kernel
theorem dX5_byteAt_12 : decode cX5_byteAt 12 = .ok (.iload_n 1, 1) := by decide +kernel
theorem dX5_byteAt_13 : decode cX5_byteAt 13 = .ok (.sipush 400, 3) := by decide +kernel
theorem dX5_byteAt_16 : decode cX5_byteAt 16 = .ok (.if_icmp .ge 12, 3) := by decide +kernel
theorem dX5_byteAt_19 : decode cX5_byteAt 19 = .ok (.aload_n 0, 1) := by decide +kernel
theorem dX5_byteAt_20 : decode cX5_byteAt 20 = .ok (.getfield 9, 3) := by decide +kernel
theorem dX5_byteAt_23 : decode cX5_byteAt 23 = .ok (.iload_n 1, 1) := by decide +kernel
theorem dX5_byteAt_24 : decode cX5_byteAt 24 = .ok (.baload, 1) := by decide +kernel
theorem dX5_byteAt_25 : decode cX5_byteAt 25 = .ok (.goto 4, 3) := by decide +kernel
theorem dX5_byteAt_28 : decode cX5_byteAt 28 = .ok (.iconst (-1), 1) := by decide +kernel
theorem dX5_byteAt_29 : decode cX5_byteAt 29 = .ok (.ireturn, 1) := by decide +kernel
theorem dX6_init_0 : decode cX6_init 0 = .ok (.aload_n 0, 1) := by decide +kernel
theorem dX6_init_1 : decode cX6_init 1 = .ok (.invokespecial 3, 3) := by decide +kernel
theorem dX6_init_4 : decode cX6_init 4 = .ok (.return_, 1) := by decide +kernel
theorem dX6_become_0 : decode cX6_become 0 = .ok (.aload_n 0, 1) := by decide +kernel
theorem dX6_become_1 : decode cX6_become 1 = .ok (.aload_n 1, 1) := by decide +kernel
theorem dX6_become_2 : decode cX6_become 2 = .ok (.getfield 9, 3) := by decide +kernel
theorem dX6_become_5 : decode cX6_become 5 = .ok (.putfield 9, 3) := by decide +kernel
theorem dX6_become_8 : decode cX6_become 8 = .ok (.aload_n 0, 1) := by decide +kernel
theorem dX6_become_9 : decode cX6_become 9 = .ok (.aload_n 1, 1) := by decide +kernel
theorem dX6_become_10 : decode cX6_become 10 = .ok (.getfield 15, 3) := by decide +kernel
theorem dX6_become_13 : decode cX6_become 13 = .ok (.putfield 15, 3) := by decide +kernel
theorem dX6_become_16 : decode cX6_become 16 = .ok (.aload_n 0, 1) := by decide +kernel
theorem dX6_become_17 : decode cX6_become 17 = .ok (.aload_n 1, 1) := by decide +kernel
theorem dX6_become_18 : decode cX6_become 18 = .ok (.getfield 18, 3) := by decide +kernel
theorem dX6_become_21 : decode cX6_become 21 = .ok (.putfield 18, 3) := by decide +kernel
theorem dX6_become_24 : decode cX6_become 24 = .ok (.aload_n 0, 1) := by decide +kernel
theorem dX6_become_25 : decode cX6_become 25 = .ok (.aload_n 1, 1) := by decide +kernel
theorem dX6_become_26 : decode cX6_become 26 = .ok (.getfield 21, 3) := by decide +kernel
theorem dX6_become_29 : decode cX6_become 29 = .ok (.putfield 21, 3) := by decide +kernel
theorem dX6_become_32 : decode cX6_become 32 = .ok (.aload_n 0, 1) := by decide +kernel
theorem dX6_become_33 : decode cX6_become 33 = .ok (.aload_n 1, 1) := by decide +kernel
theorem dX6_become_34 : decode cX6_become 34 = .ok (.getfield 24, 3) := by decide +kernel
theorem dX6_become_37 : decode cX6_become 37 = .ok (.putfield 24, 3) := by decide +kernel
theorem dX6_become_40 : decode cX6_become 40 = .ok (.aload_n 0, 1) := by decide +kernel
theorem dX6_become_41 : decode cX6_become 41 = .ok (.aload_n 1, 1) := by decide +kernel
theorem dX6_become_42 : decode cX6_become 42 = .ok (.getfield 27, 3) := by decide +kernel
theorem dX6_become_45 : decode cX6_become 45 = .ok (.putfield 27, 3) := by decide +kernel
theorem dX6_become_48 : decode cX6_become 48 = .ok (.aload_n 0, 1) := by decide +kernel
theorem dX6_become_49 : decode cX6_become 49 = .ok (.aload_n 1, 1) := by decide +kernel
theorem dX6_become_50 : decode cX6_become 50 = .ok (.getfield 31, 3) := by decide +kernel
theorem dX6_become_53 : decode cX6_become 53 = .ok (.putfield 31, 3) := by decide +kernel
theorem dX6_become_56 : decode cX6_become 56 = .ok (.aload_n 0, 1) := by decide +kernel
theorem dX6_become_57 : decode cX6_become 57 = .ok (.aload_n 1, 1) := by decide +kernel
theorem dX6_become_58 : decode cX6_become 58 = .ok (.getfield 34, 3) := by decide +kernel
theorem dX6_become_61 : decode cX6_become 61 = .ok (.putfield 34, 3) := by decide +kernel
theorem dX6_become_64 : decode cX6_become 64 = .ok (.return_, 1) := by decide +kernel
theorem dX6_becomePlain_0 : decode cX6_becomePlain 0 = .ok (.aload_n 0, 1) := by decide +kernel
theorem dX6_becomePlain_1 : decode cX6_becomePlain 1 = .ok (.iload_n 1, 1) := by decide +kernel
theorem dX6_becomePlain_2 : decode cX6_becomePlain 2 = .ok (.putfield 9, 3) := by decide +kernel
theorem dX6_becomePlain_5 : decode cX6_becomePlain 5 = .ok (.aload_n 0, 1) := by decide +kernel
theorem dX6_becomePlain_6 : decode cX6_becomePlain 6 = .ok (.iconst 0, 1) := by decide +kernel
theorem dX6_becomePlain_7 : decode cX6_becomePlain 7 = .ok (.putfield 15, 3) := by decide +kernel
theorem dX6_becomePlain_10 : decode cX6_becomePlain 10 = .ok (.aload_n 0, 1) := by decide +kernel
theorem dX6_becomePlain_11 : decode cX6_becomePlain 11 = .ok (.iload_n 2, 1) := by decide +kernel
theorem dX6_becomePlain_12 : decode cX6_becomePlain 12 = .ok (.putfield 18, 3) := by decide +kernel
theorem dX6_becomePlain_15 : decode cX6_becomePlain 15 = .ok (.aload_n 0, 1) := by decide +kernel
theorem dX6_becomePlain_16 : decode cX6_becomePlain 16 = .ok (.iload_n 3, 1) := by decide +kernel
theorem dX6_becomePlain_17 : decode cX6_becomePlain 17 = .ok (.putfield 21, 3) := by decide +kernel
theorem dX6_becomePlain_20 : decode cX6_becomePlain 20 = .ok (.aload_n 0, 1) := by decide +kernel
theorem dX6_becomePlain_21 : decode cX6_becomePlain 21 = .ok (.iconst 0, 1) := by decide +kernel
theorem dX6_becomePlain_22 : decode cX6_becomePlain 22 = .ok (.putfield 24, 3) := by decide +kernel
theorem dX6_becomePlain_25 : decode cX6_becomePlain 25 = .ok (.aload_n 0, 1) := by decide +kernel
theorem dX6_becomePlain_26 : decode cX6_becomePlain 26 = .ok (.iconst 0, 1) := by decide +kernel
theorem dX6_becomePlain_27 : decode cX6_becomePlain 27 = .ok (.putfield 27, 3) := by decide +kernel
theorem dX6_becomePlain_30 : decode cX6_becomePlain 30 = .ok (.aload_n 0, 1) := by decide +kernel
theorem dX6_becomePlain_31 : decode cX6_becomePlain 31 = .ok (.bipush (-4), 2) := by decide +kernel
theorem dX6_becomePlain_33 : decode cX6_becomePlain 33 = .ok (.putfield 31, 3) := by decide +kernel
theorem dX6_becomePlain_36 : decode cX6_becomePlain 36 = .ok (.aload_n 0, 1) := by decide +kernel
theorem dX6_becomePlain_37 : decode cX6_becomePlain 37 = .ok (.bipush (-4), 2) := by decide +kernel
theorem dX6_becomePlain_39 : decode cX6_becomePlain 39 = .ok (.putfield 34, 3) := by decide +kernel
theorem dX6_becomePlain_42 : decode cX6_becomePlain 42 = .ok (.return_, 1) := by decide +kernel
theorem dX6_isWornOut_0 : decode cX6_isWornOut 0 = .ok (.aload_n 0, 1) := by decide +kernel
theorem dX6_isWornOut_1 : decode cX6_isWornOut 1 = .ok (.getfield 15, 3) := by decide +kernel
theorem dX6_isWornOut_4 : decode cX6_isWornOut 4 = .ok (.iconst 1, 1) := by decide +kernel
theorem dX6_isWornOut_5 : decode cX6_isWornOut 5 = .ok (.if_icmp .eq 11, 3) := by decide +kernel
theorem dX6_isWornOut_8 : decode cX6_isWornOut 8 = .ok (.aload_n 0, 1) := by decide +kernel
theorem dX6_isWornOut_9 : decode cX6_isWornOut 9 = .ok (.getfield 15, 3) := by decide +kernel
theorem dX6_isWornOut_12 : decode cX6_isWornOut 12 = .ok (.iconst 3, 1) := by decide +kernel
theorem dX6_isWornOut_13 : decode cX6_isWornOut 13 = .ok (.if_icmp .ne 7, 3) := by decide +kernel
theorem dX6_isWornOut_16 : decode cX6_isWornOut 16 = .ok (.iconst 1, 1) := by decide +kernel
theorem dX6_isWornOut_17 : decode cX6_isWornOut 17 = .ok (.goto 4, 3) := by decide +kernel
theorem dX6_isWornOut_20 : decode cX6_isWornOut 20 = .ok (.iconst 0, 1) := by decide +kernel
theorem dX6_isWornOut_21 : decode cX6_isWornOut 21 = .ok (.istore_n 1, 1) := by decide +kernel
theorem dX6_isWornOut_22 : decode cX6_isWornOut 22 = .ok (.aload_n 0, 1) := by decide +kernel
theorem dX6_isWornOut_23 : decode cX6_isWornOut 23 = .ok (.getfield 24, 3) := by decide +kernel
theorem dX6_isWornOut_26 : decode cX6_isWornOut 26 = .ok (.iload_n 1, 1) := by decide +kernel
theorem dX6_isWornOut_27 : decode cX6_isWornOut 27 = .ok (.ifCond .eq 12, 3) := by decide +kernel
theorem dX6_isWornOut_30 : decode cX6_isWornOut 30 = .ok (.iconst 2, 1) := by decide +kernel
theorem dX6_isWornOut_31 : decode cX6_isWornOut 31 = .ok (.aload_n 0, 1) := by decide +kernel
theorem dX6_isWornOut_32 : decode cX6_isWornOut 32 = .ok (.getfield 21, 3) := by decide +kernel
theorem dX6_isWornOut_35 : decode cX6_isWornOut 35 = .ok (.imul, 1) := by decide +kernel
theorem dX6_isWornOut_36 : decode cX6_isWornOut 36 = .ok (.goto 7, 3) := by decide +kernel
theorem dX6_isWornOut_39 : decode cX6_isWornOut 39 = .ok (.aload_n 0, 1) := by decide +kernel
theorem dX6_isWornOut_40 : decode cX6_isWornOut 40 = .ok (.getfield 21, 3) := by decide +kernel
theorem dX6_isWornOut_43 : decode cX6_isWornOut 43 = .ok (.if_icmp .lt 7, 3) := by decide +kernel
theorem dX6_isWornOut_46 : decode cX6_isWornOut 46 = .ok (.iconst 1, 1) := by decide +kernel
theorem dX6_isWornOut_47 : decode cX6_isWornOut 47 = .ok (.goto 4, 3) := by decide +kernel
theorem dX6_isWornOut_50 : decode cX6_isWornOut 50 = .ok (.iconst 0, 1) := by decide +kernel
theorem dX6_isWornOut_51 : decode cX6_isWornOut 51 = .ok (.ireturn, 1) := by decide +kernel
theorem dX6_fitFor_0 : decode cX6_fitFor 0 = .ok (.aload_n 0, 1) := by decide +kernel
theorem dX6_fitFor_1 : decode cX6_fitFor 1 = .ok (.invokevirtual 37, 3) := by decide +kernel
theorem dX6_fitFor_4 : decode cX6_fitFor 4 = .ok (.ifCond .ne 19, 3) := by decide +kernel
theorem dX6_fitFor_7 : decode cX6_fitFor 7 = .ok (.aload_n 0, 1) := by decide +kernel
theorem dX6_fitFor_8 : decode cX6_fitFor 8 = .ok (.getfield 15, 3) := by decide +kernel
theorem dX6_fitFor_11 : decode cX6_fitFor 11 = .ok (.iconst 4, 1) := by decide +kernel
theorem dX6_fitFor_12 : decode cX6_fitFor 12 = .ok (.if_icmp .ne 13, 3) := by decide +kernel
theorem dX6_fitFor_15 : decode cX6_fitFor 15 = .ok (.aload_n 0, 1) := by decide +kernel
theorem dX6_fitFor_16 : decode cX6_fitFor 16 = .ok (.getfield 31, 3) := by decide +kernel
theorem dX6_fitFor_19 : decode cX6_fitFor 19 = .ok (.iload_n 1, 1) := by decide +kernel
theorem dX6_fitFor_20 : decode cX6_fitFor 20 = .ok (.if_icmp .eq 5, 3) := by decide +kernel
theorem dX6_fitFor_23 : decode cX6_fitFor 23 = .ok (.iconst 0, 1) := by decide +kernel
theorem dX6_fitFor_24 : decode cX6_fitFor 24 = .ok (.ireturn, 1) := by decide +kernel
theorem dX6_fitFor_25 : decode cX6_fitFor 25 = .ok (.aload_n 0, 1) := by decide +kernel
theorem dX6_fitFor_26 : decode cX6_fitFor 26 = .ok (.getfield 18, 3) := by decide +kernel
theorem dX6_fitFor_29 : decode cX6_fitFor 29 = .ok (.iload_n 2, 1) := by decide +kernel
theorem dX6_fitFor_30 : decode cX6_fitFor 30 = .ok (.iload_n 2, 1) := by decide +kernel
theorem dX6_fitFor_31 : decode cX6_fitFor 31 = .ok (.iload_n 3, 1) := by decide +kernel
theorem dX6_fitFor_32 : decode cX6_fitFor 32 = .ok (.iadd, 1) := by decide +kernel
theorem dX6_fitFor_33 : decode cX6_fitFor 33 = .ok (.invokestatic 41, 3) := by decide +kernel
theorem dX6_fitFor_36 : decode cX6_fitFor 36 = .ok (.ifCond .eq 5, 3) := by decide +kernel
theorem dX6_fitFor_39 : decode cX6_fitFor 39 = .ok (.iconst 1, 1) := by decide +kernel
theorem dX6_fitFor_40 : decode cX6_fitFor 40 = .ok (.ireturn, 1) := by decide +kernel
theorem dX6_fitFor_41 : decode cX6_fitFor 41 = .ok (.aload_n 0, 1) := by decide +kernel
theorem dX6_fitFor_42 : decode cX6_fitFor 42 = .ok (.getfield 15, 3) := by decide +kernel
theorem dX6_fitFor_45 : decode cX6_fitFor 45 = .ok (.iconst 2, 1) := by decide +kernel
theorem dX6_fitFor_46 : decode cX6_fitFor 46 = .ok (.if_icmp .eq 11, 3) := by decide +kernel
theorem dX6_fitFor_49 : decode cX6_fitFor 49 = .ok (.aload_n 0, 1) := by decide +kernel
theorem dX6_fitFor_50 : decode cX6_fitFor 50 = .ok (.getfield 15, 3) := by decide +kernel
theorem dX6_fitFor_53 : decode cX6_fitFor 53 = .ok (.iconst 3, 1) := by decide +kernel
theorem dX6_fitFor_54 : decode cX6_fitFor 54 = .ok (.if_icmp .ne 14, 3) := by decide +kernel
theorem dX6_fitFor_57 : decode cX6_fitFor 57 = .ok (.aload_n 0, 1) := by decide +kernel
theorem dX6_fitFor_58 : decode cX6_fitFor 58 = .ok (.getfield 27, 3) := by decide +kernel
theorem dX6_fitFor_61 : decode cX6_fitFor 61 = .ok (.ifCond .ne 7, 3) := by decide +kernel
theorem dX6_fitFor_64 : decode cX6_fitFor 64 = .ok (.iconst 1, 1) := by decide +kernel
theorem dX6_fitFor_65 : decode cX6_fitFor 65 = .ok (.goto 4, 3) := by decide +kernel
theorem dX6_fitFor_68 : decode cX6_fitFor 68 = .ok (.iconst 0, 1) := by decide +kernel
theorem dX6_fitFor_69 : decode cX6_fitFor 69 = .ok (.istore 4, 2) := by decide +kernel
theorem dX6_fitFor_71 : decode cX6_fitFor 71 = .ok (.iload 4, 2) := by decide +kernel
theorem dX6_fitFor_73 : decode cX6_fitFor 73 = .ok (.ifCond .eq 23, 3) := by decide +kernel
theorem dX6_fitFor_76 : decode cX6_fitFor 76 = .ok (.aload_n 0, 1) := by decide +kernel
theorem dX6_fitFor_77 : decode cX6_fitFor 77 = .ok (.getfield 18, 3) := by decide +kernel
theorem dX6_fitFor_80 : decode cX6_fitFor 80 = .ok (.iconst 2, 1) := by decide +kernel
theorem dX6_fitFor_81 : decode cX6_fitFor 81 = .ok (.iadd, 1) := by decide +kernel
theorem dX6_fitFor_82 : decode cX6_fitFor 82 = .ok (.iload_n 2, 1) := by decide +kernel
theorem dX6_fitFor_83 : decode cX6_fitFor 83 = .ok (.iload_n 2, 1) := by decide +kernel
theorem dX6_fitFor_84 : decode cX6_fitFor 84 = .ok (.iload_n 3, 1) := by decide +kernel
theorem dX6_fitFor_85 : decode cX6_fitFor 85 = .ok (.iadd, 1) := by decide +kernel
theorem dX6_fitFor_86 : decode cX6_fitFor 86 = .ok (.invokestatic 41, 3) := by decide +kernel
theorem dX6_fitFor_89 : decode cX6_fitFor 89 = .ok (.ifCond .eq 7, 3) := by decide +kernel
theorem dX6_fitFor_92 : decode cX6_fitFor 92 = .ok (.iconst 2, 1) := by decide +kernel
theorem dX6_fitFor_93 : decode cX6_fitFor 93 = .ok (.goto 4, 3) := by decide +kernel
theorem dX6_fitFor_96 : decode cX6_fitFor 96 = .ok (.iconst 0, 1) := by decide +kernel
theorem dX6_fitFor_97 : decode cX6_fitFor 97 = .ok (.ireturn, 1) := by decide +kernel
theorem dX7_init_0 : decode cX7_init 0 = .ok (.aload_n 0, 1) := by decide +kernel
theorem dX7_init_1 : decode cX7_init 1 = .ok (.invokespecial 3, 3) := by decide +kernel
theorem dX7_init_4 : decode cX7_init 4 = .ok (.aload_n 0, 1) := by decide +kernel
theorem dX7_init_5 : decode cX7_init 5 = .ok (.bipush 8, 2) := by decide +kernel
theorem dX7_init_7 : decode cX7_init 7 = .ok (.anewarray 9, 3) := by decide +kernel
theorem dX7_init_10 : decode cX7_init 10 = .ok (.putfield 11, 3) := by decide +kernel
theorem dX7_init_13 : decode cX7_init 13 = .ok (.aload_n 0, 1) := by decide +kernel
theorem dX7_init_14 : decode cX7_init 14 = .ok (.bipush 10, 2) := by decide +kernel
theorem dX7_init_16 : decode cX7_init 16 = .ok (.anewarray 17, 3) := by decide +kernel
theorem dX7_init_19 : decode cX7_init 19 = .ok (.putfield 19, 3) := by decide +kernel
theorem dX7_init_22 : decode cX7_init 22 = .ok (.aload_n 0, 1) := by decide +kernel
theorem dX7_init_23 : decode cX7_init 23 = .ok (.bipush 80, 2) := by decide +kernel
theorem dX7_init_25 : decode cX7_init 25 = .ok (.newarray .int, 2) := by decide +kernel
theorem dX7_init_27 : decode cX7_init 27 = .ok (.putfield 23, 3) := by decide +kernel
theorem dX7_init_30 : decode cX7_init 30 = .ok (.aload_n 0, 1) := by decide +kernel
theorem dX7_init_31 : decode cX7_init 31 = .ok (.bipush 6, 2) := by decide +kernel
theorem dX7_init_33 : decode cX7_init 33 = .ok (.newarray .int, 2) := by decide +kernel
theorem dX7_init_35 : decode cX7_init 35 = .ok (.putfield 27, 3) := by decide +kernel
theorem dX7_init_38 : decode cX7_init 38 = .ok (.aload_n 0, 1) := by decide +kernel
theorem dX7_init_39 : decode cX7_init 39 = .ok (.iconst 0, 1) := by decide +kernel
theorem dX7_init_40 : decode cX7_init 40 = .ok (.putfield 30, 3) := by decide +kernel
theorem dX7_init_43 : decode cX7_init 43 = .ok (.aload_n 0, 1) := by decide +kernel
theorem dX7_init_44 : decode cX7_init 44 = .ok (.iconst 0, 1) := by decide +kernel
theorem dX7_init_45 : decode cX7_init 45 = .ok (.putfield 34, 3) := by decide +kernel
theorem dX7_init_48 : decode cX7_init 48 = .ok (.aload_n 0, 1) := by decide +kernel
theorem dX7_init_49 : decode cX7_init 49 = .ok (.iconst 0, 1) := by decide +kernel
theorem dX7_init_50 : decode cX7_init 50 = .ok (.putfield 37, 3) := by decide +kernel
theorem dX7_init_53 : decode cX7_init 53 = .ok (.iconst 0, 1) := by decide +kernel
theorem dX7_init_54 : decode cX7_init 54 = .ok (.istore_n 1, 1) := by decide +kernel
theorem dX7_init_55 : decode cX7_init 55 = .ok (.iload_n 1, 1) := by decide +kernel
theorem dX7_init_56 : decode cX7_init 56 = .ok (.bipush 8, 2) := by decide +kernel
theorem dX7_init_58 : decode cX7_init 58 = .ok (.if_icmp .ge 22, 3) := by decide +kernel
theorem dX7_init_61 : decode cX7_init 61 = .ok (.aload_n 0, 1) := by decide +kernel
theorem dX7_init_62 : decode cX7_init 62 = .ok (.getfield 11, 3) := by decide +kernel
theorem dX7_init_65 : decode cX7_init 65 = .ok (.iload_n 1, 1) := by decide +kernel
theorem dX7_init_66 : decode cX7_init 66 = .ok (.new 9, 3) := by decide +kernel
theorem dX7_init_69 : decode cX7_init 69 = .ok (.dup, 1) := by decide +kernel
theorem dX7_init_70 : decode cX7_init 70 = .ok (.invokespecial 40, 3) := by decide +kernel
theorem dX7_init_73 : decode cX7_init 73 = .ok (.aastore, 1) := by decide +kernel
theorem dX7_init_74 : decode cX7_init 74 = .ok (.iinc 1 1, 3) := by decide +kernel
theorem dX7_init_77 : decode cX7_init 77 = .ok (.goto (-22), 3) := by decide +kernel
theorem dX7_init_80 : decode cX7_init 80 = .ok (.iconst 0, 1) := by decide +kernel
theorem dX7_init_81 : decode cX7_init 81 = .ok (.istore_n 1, 1) := by decide +kernel
theorem dX7_init_82 : decode cX7_init 82 = .ok (.iload_n 1, 1) := by decide +kernel
theorem dX7_init_83 : decode cX7_init 83 = .ok (.bipush 10, 2) := by decide +kernel
theorem dX7_init_85 : decode cX7_init 85 = .ok (.if_icmp .ge 22, 3) := by decide +kernel
theorem dX7_init_88 : decode cX7_init 88 = .ok (.aload_n 0, 1) := by decide +kernel
theorem dX7_init_89 : decode cX7_init 89 = .ok (.getfield 19, 3) := by decide +kernel
theorem dX7_init_92 : decode cX7_init 92 = .ok (.iload_n 1, 1) := by decide +kernel
theorem dX7_init_93 : decode cX7_init 93 = .ok (.new 17, 3) := by decide +kernel
theorem dX7_init_96 : decode cX7_init 96 = .ok (.dup, 1) := by decide +kernel
theorem dX7_init_97 : decode cX7_init 97 = .ok (.invokespecial 41, 3) := by decide +kernel
theorem dX7_init_100 : decode cX7_init 100 = .ok (.aastore, 1) := by decide +kernel
theorem dX7_init_101 : decode cX7_init 101 = .ok (.iinc 1 1, 3) := by decide +kernel
theorem dX7_init_104 : decode cX7_init 104 = .ok (.goto (-22), 3) := by decide +kernel
theorem dX7_init_107 : decode cX7_init 107 = .ok (.return_, 1) := by decide +kernel
theorem dX7_clear_0 : decode cX7_clear 0 = .ok (.aload_n 0, 1) := by decide +kernel
theorem dX7_clear_1 : decode cX7_clear 1 = .ok (.iconst 0, 1) := by decide +kernel
theorem dX7_clear_2 : decode cX7_clear 2 = .ok (.putfield 30, 3) := by decide +kernel
theorem dX7_clear_5 : decode cX7_clear 5 = .ok (.aload_n 0, 1) := by decide +kernel
theorem dX7_clear_6 : decode cX7_clear 6 = .ok (.iconst 0, 1) := by decide +kernel
theorem dX7_clear_7 : decode cX7_clear 7 = .ok (.putfield 34, 3) := by decide +kernel
theorem dX7_clear_10 : decode cX7_clear 10 = .ok (.aload_n 0, 1) := by decide +kernel
theorem dX7_clear_11 : decode cX7_clear 11 = .ok (.iconst 0, 1) := by decide +kernel
theorem dX7_clear_12 : decode cX7_clear 12 = .ok (.putfield 37, 3) := by decide +kernel
theorem dX7_clear_15 : decode cX7_clear 15 = .ok (.aload_n 0, 1) := by decide +kernel
theorem dX7_clear_16 : decode cX7_clear 16 = .ok (.getfield 23, 3) := by decide +kernel
theorem dX7_clear_19 : decode cX7_clear 19 = .ok (.iconst 0, 1) := by decide +kernel
theorem dX7_clear_20 : decode cX7_clear 20 = .ok (.invokestatic 42, 3) := by decide +kernel
theorem dX7_clear_23 : decode cX7_clear 23 = .ok (.return_, 1) := by decide +kernel
theorem dX7_becomeAll_0 : decode cX7_becomeAll 0 = .ok (.aload_n 0, 1) := by decide +kernel
theorem dX7_becomeAll_1 : decode cX7_becomeAll 1 = .ok (.aload_n 1, 1) := by decide +kernel
theorem dX7_becomeAll_2 : decode cX7_becomeAll 2 = .ok (.invokevirtual 48, 3) := by decide +kernel
theorem dX7_becomeAll_5 : decode cX7_becomeAll 5 = .ok (.aload_n 1, 1) := by decide +kernel
theorem dX7_becomeAll_6 : decode cX7_becomeAll 6 = .ok (.getfield 23, 3) := by decide +kernel
theorem dX7_becomeAll_9 : decode cX7_becomeAll 9 = .ok (.iconst 0, 1) := by decide +kernel
theorem dX7_becomeAll_10 : decode cX7_becomeAll 10 = .ok (.aload_n 0, 1) := by decide +kernel
theorem dX7_becomeAll_11 : decode cX7_becomeAll 11 = .ok (.getfield 23, 3) := by decide +kernel
theorem dX7_becomeAll_14 : decode cX7_becomeAll 14 = .ok (.iconst 0, 1) := by decide +kernel
theorem dX7_becomeAll_15 : decode cX7_becomeAll 15 = .ok (.bipush 80, 2) := by decide +kernel
theorem dX7_becomeAll_17 : decode cX7_becomeAll 17 = .ok (.invokestatic 52, 3) := by decide +kernel
theorem dX7_becomeAll_20 : decode cX7_becomeAll 20 = .ok (.aload_n 1, 1) := by decide +kernel
theorem dX7_becomeAll_21 : decode cX7_becomeAll 21 = .ok (.getfield 27, 3) := by decide +kernel
theorem dX7_becomeAll_24 : decode cX7_becomeAll 24 = .ok (.iconst 0, 1) := by decide +kernel
theorem dX7_becomeAll_25 : decode cX7_becomeAll 25 = .ok (.aload_n 0, 1) := by decide +kernel
theorem dX7_becomeAll_26 : decode cX7_becomeAll 26 = .ok (.getfield 27, 3) := by decide +kernel
theorem dX7_becomeAll_29 : decode cX7_becomeAll 29 = .ok (.iconst 0, 1) := by decide +kernel
theorem dX7_becomeAll_30 : decode cX7_becomeAll 30 = .ok (.bipush 6, 2) := by decide +kernel
theorem dX7_becomeAll_32 : decode cX7_becomeAll 32 = .ok (.invokestatic 52, 3) := by decide +kernel
theorem dX7_becomeAll_35 : decode cX7_becomeAll 35 = .ok (.aload_n 0, 1) := by decide +kernel
theorem dX7_becomeAll_36 : decode cX7_becomeAll 36 = .ok (.aload_n 1, 1) := by decide +kernel
theorem dX7_becomeAll_37 : decode cX7_becomeAll 37 = .ok (.getfield 37, 3) := by decide +kernel
theorem dX7_becomeAll_40 : decode cX7_becomeAll 40 = .ok (.putfield 37, 3) := by decide +kernel
theorem dX7_becomeAll_43 : decode cX7_becomeAll 43 = .ok (.return_, 1) := by decide +kernel
theorem dX7_becomeBodies_0 : decode cX7_becomeBodies 0 = .ok (.aload_n 0, 1) := by decide +kernel
theorem dX7_becomeBodies_1 : decode cX7_becomeBodies 1 = .ok (.aload_n 1, 1) := by decide +kernel
theorem dX7_becomeBodies_2 : decode cX7_becomeBodies 2 = .ok (.getfield 30, 3) := by decide +kernel
theorem dX7_becomeBodies_5 : decode cX7_becomeBodies 5 = .ok (.putfield 30, 3) := by decide +kernel
theorem dX7_becomeBodies_8 : decode cX7_becomeBodies 8 = .ok (.aload_n 0, 1) := by decide +kernel
theorem dX7_becomeBodies_9 : decode cX7_becomeBodies 9 = .ok (.aload_n 1, 1) := by decide +kernel
theorem dX7_becomeBodies_10 : decode cX7_becomeBodies 10 = .ok (.getfield 34, 3) := by decide +kernel
theorem dX7_becomeBodies_13 : decode cX7_becomeBodies 13 = .ok (.putfield 34, 3) := by decide +kernel
theorem dX7_becomeBodies_16 : decode cX7_becomeBodies 16 = .ok (.iconst 0, 1) := by decide +kernel
theorem dX7_becomeBodies_17 : decode cX7_becomeBodies 17 = .ok (.istore_n 2, 1) := by decide +kernel
theorem dX7_becomeBodies_18 : decode cX7_becomeBodies 18 = .ok (.iload_n 2, 1) := by decide +kernel
theorem dX7_becomeBodies_19 : decode cX7_becomeBodies 19 = .ok (.aload_n 0, 1) := by decide +kernel
theorem dX7_becomeBodies_20 : decode cX7_becomeBodies 20 = .ok (.getfield 30, 3) := by decide +kernel
theorem dX7_becomeBodies_23 : decode cX7_becomeBodies 23 = .ok (.if_icmp .ge 24, 3) := by decide +kernel
theorem dX7_becomeBodies_26 : decode cX7_becomeBodies 26 = .ok (.aload_n 0, 1) := by decide +kernel
theorem dX7_becomeBodies_27 : decode cX7_becomeBodies 27 = .ok (.getfield 11, 3) := by decide +kernel
theorem dX7_becomeBodies_30 : decode cX7_becomeBodies 30 = .ok (.iload_n 2, 1) := by decide +kernel
theorem dX7_becomeBodies_31 : decode cX7_becomeBodies 31 = .ok (.aaload, 1) := by decide +kernel
theorem dX7_becomeBodies_32 : decode cX7_becomeBodies 32 = .ok (.aload_n 1, 1) := by decide +kernel
theorem dX7_becomeBodies_33 : decode cX7_becomeBodies 33 = .ok (.getfield 11, 3) := by decide +kernel
theorem dX7_becomeBodies_36 : decode cX7_becomeBodies 36 = .ok (.iload_n 2, 1) := by decide +kernel
theorem dX7_becomeBodies_37 : decode cX7_becomeBodies 37 = .ok (.aaload, 1) := by decide +kernel
theorem dX7_becomeBodies_38 : decode cX7_becomeBodies 38 = .ok (.invokevirtual 58, 3) := by decide +kernel
theorem dX7_becomeBodies_41 : decode cX7_becomeBodies 41 = .ok (.iinc 2 1, 3) := by decide +kernel
theorem dX7_becomeBodies_44 : decode cX7_becomeBodies 44 = .ok (.goto (-26), 3) := by decide +kernel
theorem dX7_becomeBodies_47 : decode cX7_becomeBodies 47 = .ok (.iconst 0, 1) := by decide +kernel
theorem dX7_becomeBodies_48 : decode cX7_becomeBodies 48 = .ok (.istore_n 2, 1) := by decide +kernel
theorem dX7_becomeBodies_49 : decode cX7_becomeBodies 49 = .ok (.iload_n 2, 1) := by decide +kernel
theorem dX7_becomeBodies_50 : decode cX7_becomeBodies 50 = .ok (.aload_n 0, 1) := by decide +kernel
theorem dX7_becomeBodies_51 : decode cX7_becomeBodies 51 = .ok (.getfield 34, 3) := by decide +kernel
theorem dX7_becomeBodies_54 : decode cX7_becomeBodies 54 = .ok (.if_icmp .ge 24, 3) := by decide +kernel
theorem dX7_becomeBodies_57 : decode cX7_becomeBodies 57 = .ok (.aload_n 0, 1) := by decide +kernel
theorem dX7_becomeBodies_58 : decode cX7_becomeBodies 58 = .ok (.getfield 19, 3) := by decide +kernel
theorem dX7_becomeBodies_61 : decode cX7_becomeBodies 61 = .ok (.iload_n 2, 1) := by decide +kernel
theorem dX7_becomeBodies_62 : decode cX7_becomeBodies 62 = .ok (.aaload, 1) := by decide +kernel
theorem dX7_becomeBodies_63 : decode cX7_becomeBodies 63 = .ok (.aload_n 1, 1) := by decide +kernel
theorem dX7_becomeBodies_64 : decode cX7_becomeBodies 64 = .ok (.getfield 19, 3) := by decide +kernel
theorem dX7_becomeBodies_67 : decode cX7_becomeBodies 67 = .ok (.iload_n 2, 1) := by decide +kernel
theorem dX7_becomeBodies_68 : decode cX7_becomeBodies 68 = .ok (.aaload, 1) := by decide +kernel
theorem dX7_becomeBodies_69 : decode cX7_becomeBodies 69 = .ok (.invokevirtual 62, 3) := by decide +kernel
theorem dX7_becomeBodies_72 : decode cX7_becomeBodies 72 = .ok (.iinc 2 1, 3) := by decide +kernel
theorem dX7_becomeBodies_75 : decode cX7_becomeBodies 75 = .ok (.goto (-26), 3) := by decide +kernel
theorem dX7_becomeBodies_78 : decode cX7_becomeBodies 78 = .ok (.return_, 1) := by decide +kernel
theorem dX7_hasChild_0 : decode cX7_hasChild 0 = .ok (.iload_n 1, 1) := by decide +kernel
theorem dX7_hasChild_1 : decode cX7_hasChild 1 = .ok (.ifCond .lt 15, 3) := by decide +kernel
theorem dX7_hasChild_4 : decode cX7_hasChild 4 = .ok (.iload_n 1, 1) := by decide +kernel
theorem dX7_hasChild_5 : decode cX7_hasChild 5 = .ok (.aload_n 0, 1) := by decide +kernel
theorem dX7_hasChild_6 : decode cX7_hasChild 6 = .ok (.getfield 30, 3) := by decide +kernel
theorem dX7_hasChild_9 : decode cX7_hasChild 9 = .ok (.if_icmp .ge 7, 3) := by decide +kernel
theorem dX7_hasChild_12 : decode cX7_hasChild 12 = .ok (.iconst 1, 1) := by decide +kernel
theorem dX7_hasChild_13 : decode cX7_hasChild 13 = .ok (.goto 4, 3) := by decide +kernel
theorem dX7_hasChild_16 : decode cX7_hasChild 16 = .ok (.iconst 0, 1) := by decide +kernel
theorem dX7_hasChild_17 : decode cX7_hasChild 17 = .ok (.ireturn, 1) := by decide +kernel
theorem dX7_hasThing_0 : decode cX7_hasThing 0 = .ok (.iload_n 1, 1) := by decide +kernel
theorem dX7_hasThing_1 : decode cX7_hasThing 1 = .ok (.ifCond .lt 15, 3) := by decide +kernel
theorem dX7_hasThing_4 : decode cX7_hasThing 4 = .ok (.iload_n 1, 1) := by decide +kernel
theorem dX7_hasThing_5 : decode cX7_hasThing 5 = .ok (.aload_n 0, 1) := by decide +kernel
theorem dX7_hasThing_6 : decode cX7_hasThing 6 = .ok (.getfield 34, 3) := by decide +kernel
theorem dX7_hasThing_9 : decode cX7_hasThing 9 = .ok (.if_icmp .ge 7, 3) := by decide +kernel
theorem dX7_hasThing_12 : decode cX7_hasThing 12 = .ok (.iconst 1, 1) := by decide +kernel
theorem dX7_hasThing_13 : decode cX7_hasThing 13 = .ok (.goto 4, 3) := by decide +kernel
theorem dX7_hasThing_16 : decode cX7_hasThing 16 = .ok (.iconst 0, 1) := by decide +kernel
theorem dX7_hasThing_17 : decode cX7_hasThing 17 = .ok (.ireturn, 1) := by decide +kernel
theorem dX7_addChild_0 : decode cX7_addChild 0 = .ok (.aload_n 0, 1) := by decide +kernel
theorem dX7_addChild_1 : decode cX7_addChild 1 = .ok (.getfield 30, 3) := by decide +kernel
theorem dX7_addChild_4 : decode cX7_addChild 4 = .ok (.bipush 8, 2) := by decide +kernel
theorem dX7_addChild_6 : decode cX7_addChild 6 = .ok (.if_icmp .ge 52, 3) := by decide +kernel
theorem dX7_addChild_9 : decode cX7_addChild 9 = .ok (.aload_n 0, 1) := by decide +kernel
theorem dX7_addChild_10 : decode cX7_addChild 10 = .ok (.getfield 11, 3) := by decide +kernel
theorem dX7_addChild_13 : decode cX7_addChild 13 = .ok (.aload_n 0, 1) := by decide +kernel
theorem dX7_addChild_14 : decode cX7_addChild 14 = .ok (.getfield 30, 3) := by decide +kernel
theorem dX7_addChild_17 : decode cX7_addChild 17 = .ok (.aaload, 1) := by decide +kernel
theorem dX7_addChild_18 : decode cX7_addChild 18 = .ok (.iload_n 1, 1) := by decide +kernel
theorem dX7_addChild_19 : decode cX7_addChild 19 = .ok (.putfield 65, 3) := by decide +kernel
theorem dX7_addChild_22 : decode cX7_addChild 22 = .ok (.aload_n 0, 1) := by decide +kernel
theorem dX7_addChild_23 : decode cX7_addChild 23 = .ok (.getfield 11, 3) := by decide +kernel
theorem dX7_addChild_26 : decode cX7_addChild 26 = .ok (.aload_n 0, 1) := by decide +kernel
theorem dX7_addChild_27 : decode cX7_addChild 27 = .ok (.getfield 30, 3) := by decide +kernel
theorem dX7_addChild_30 : decode cX7_addChild 30 = .ok (.aaload, 1) := by decide +kernel
theorem dX7_addChild_31 : decode cX7_addChild 31 = .ok (.iload_n 2, 1) := by decide +kernel
theorem dX7_addChild_32 : decode cX7_addChild 32 = .ok (.putfield 68, 3) := by decide +kernel
theorem dX7_addChild_35 : decode cX7_addChild 35 = .ok (.aload_n 0, 1) := by decide +kernel
theorem dX7_addChild_36 : decode cX7_addChild 36 = .ok (.getfield 11, 3) := by decide +kernel
theorem dX7_addChild_39 : decode cX7_addChild 39 = .ok (.aload_n 0, 1) := by decide +kernel
theorem dX7_addChild_40 : decode cX7_addChild 40 = .ok (.getfield 30, 3) := by decide +kernel
theorem dX7_addChild_43 : decode cX7_addChild 43 = .ok (.aaload, 1) := by decide +kernel
theorem dX7_addChild_44 : decode cX7_addChild 44 = .ok (.iload_n 3, 1) := by decide +kernel
theorem dX7_addChild_45 : decode cX7_addChild 45 = .ok (.putfield 71, 3) := by decide +kernel
theorem dX7_addChild_48 : decode cX7_addChild 48 = .ok (.aload_n 0, 1) := by decide +kernel
theorem dX7_addChild_49 : decode cX7_addChild 49 = .ok (.dup, 1) := by decide +kernel
theorem dX7_addChild_50 : decode cX7_addChild 50 = .ok (.getfield 30, 3) := by decide +kernel
theorem dX7_addChild_53 : decode cX7_addChild 53 = .ok (.iconst 1, 1) := by decide +kernel
theorem dX7_addChild_54 : decode cX7_addChild 54 = .ok (.iadd, 1) := by decide +kernel
theorem dX7_addChild_55 : decode cX7_addChild 55 = .ok (.putfield 30, 3) := by decide +kernel
theorem dX7_addChild_58 : decode cX7_addChild 58 = .ok (.return_, 1) := by decide +kernel
theorem dX7_addPlain_0 : decode cX7_addPlain 0 = .ok (.aload_n 0, 1) := by decide +kernel
theorem dX7_addPlain_1 : decode cX7_addPlain 1 = .ok (.getfield 34, 3) := by decide +kernel
theorem dX7_addPlain_4 : decode cX7_addPlain 4 = .ok (.bipush 10, 2) := by decide +kernel
theorem dX7_addPlain_6 : decode cX7_addPlain 6 = .ok (.if_icmp .lt 6, 3) := by decide +kernel
theorem dX7_addPlain_9 : decode cX7_addPlain 9 = .ok (.bipush (-3), 2) := by decide +kernel
theorem dX7_addPlain_11 : decode cX7_addPlain 11 = .ok (.ireturn, 1) := by decide +kernel
theorem dX7_addPlain_12 : decode cX7_addPlain 12 = .ok (.aload_n 0, 1) := by decide +kernel
theorem dX7_addPlain_13 : decode cX7_addPlain 13 = .ok (.getfield 19, 3) := by decide +kernel
theorem dX7_addPlain_16 : decode cX7_addPlain 16 = .ok (.aload_n 0, 1) := by decide +kernel
theorem dX7_addPlain_17 : decode cX7_addPlain 17 = .ok (.getfield 34, 3) := by decide +kernel
theorem dX7_addPlain_20 : decode cX7_addPlain 20 = .ok (.aaload, 1) := by decide +kernel
theorem dX7_addPlain_21 : decode cX7_addPlain 21 = .ok (.iload_n 1, 1) := by decide +kernel
theorem dX7_addPlain_22 : decode cX7_addPlain 22 = .ok (.iload_n 2, 1) := by decide +kernel
theorem dX7_addPlain_23 : decode cX7_addPlain 23 = .ok (.iload_n 3, 1) := by decide +kernel
theorem dX7_addPlain_24 : decode cX7_addPlain 24 = .ok (.invokevirtual 74, 3) := by decide +kernel
theorem dX7_addPlain_27 : decode cX7_addPlain 27 = .ok (.aload_n 0, 1) := by decide +kernel
theorem dX7_addPlain_28 : decode cX7_addPlain 28 = .ok (.dup, 1) := by decide +kernel
theorem dX7_addPlain_29 : decode cX7_addPlain 29 = .ok (.getfield 34, 3) := by decide +kernel
theorem dX7_addPlain_32 : decode cX7_addPlain 32 = .ok (.iconst 1, 1) := by decide +kernel
theorem dX7_addPlain_33 : decode cX7_addPlain 33 = .ok (.iadd, 1) := by decide +kernel
theorem dX7_addPlain_34 : decode cX7_addPlain 34 = .ok (.putfield 34, 3) := by decide +kernel
theorem dX7_addPlain_37 : decode cX7_addPlain 37 = .ok (.aload_n 0, 1) := by decide +kernel
theorem dX7_addPlain_38 : decode cX7_addPlain 38 = .ok (.getfield 34, 3) := by decide +kernel
theorem dX7_addPlain_41 : decode cX7_addPlain 41 = .ok (.iconst 1, 1) := by decide +kernel
theorem dX7_addPlain_42 : decode cX7_addPlain 42 = .ok (.isub, 1) := by decide +kernel
theorem dX7_addPlain_43 : decode cX7_addPlain 43 = .ok (.ireturn, 1) := by decide +kernel
theorem dX7_addMark_0 : decode cX7_addMark 0 = .ok (.aload_n 0, 1) := by decide +kernel
theorem dX7_addMark_1 : decode cX7_addMark 1 = .ok (.getfield 37, 3) := by decide +kernel
theorem dX7_addMark_4 : decode cX7_addMark 4 = .ok (.bipush 6, 2) := by decide +kernel
theorem dX7_addMark_6 : decode cX7_addMark 6 = .ok (.if_icmp .ge 23, 3) := by decide +kernel
theorem dX7_addMark_9 : decode cX7_addMark 9 = .ok (.aload_n 0, 1) := by decide +kernel
theorem dX7_addMark_10 : decode cX7_addMark 10 = .ok (.getfield 27, 3) := by decide +kernel
theorem dX7_addMark_13 : decode cX7_addMark 13 = .ok (.aload_n 0, 1) := by decide +kernel
theorem dX7_addMark_14 : decode cX7_addMark 14 = .ok (.getfield 37, 3) := by decide +kernel
theorem dX7_addMark_17 : decode cX7_addMark 17 = .ok (.iload_n 1, 1) := by decide +kernel
theorem dX7_addMark_18 : decode cX7_addMark 18 = .ok (.iastore, 1) := by decide +kernel
theorem dX7_addMark_19 : decode cX7_addMark 19 = .ok (.aload_n 0, 1) := by decide +kernel
theorem dX7_addMark_20 : decode cX7_addMark 20 = .ok (.dup, 1) := by decide +kernel
theorem dX7_addMark_21 : decode cX7_addMark 21 = .ok (.getfield 37, 3) := by decide +kernel
theorem dX7_addMark_24 : decode cX7_addMark 24 = .ok (.iconst 1, 1) := by decide +kernel
theorem dX7_addMark_25 : decode cX7_addMark 25 = .ok (.iadd, 1) := by decide +kernel
theorem dX7_addMark_26 : decode cX7_addMark 26 = .ok (.putfield 37, 3) := by decide +kernel
theorem dX7_addMark_29 : decode cX7_addMark 29 = .ok (.return_, 1) := by decide +kernel
theorem dX7_smallestSize_0 : decode cX7_smallestSize 0 = .ok (.bipush 40, 2) := by decide +kernel
theorem dX7_smallestSize_2 : decode cX7_smallestSize 2 = .ok (.istore_n 1, 1) := by decide +kernel
theorem dX7_smallestSize_3 : decode cX7_smallestSize 3 = .ok (.iconst 0, 1) := by decide +kernel
theorem dX7_smallestSize_4 : decode cX7_smallestSize 4 = .ok (.istore_n 2, 1) := by decide +kernel
theorem dX7_smallestSize_5 : decode cX7_smallestSize 5 = .ok (.iload_n 2, 1) := by decide +kernel
theorem dX7_smallestSize_6 : decode cX7_smallestSize 6 = .ok (.aload_n 0, 1) := by decide +kernel
theorem dX7_smallestSize_7 : decode cX7_smallestSize 7 = .ok (.getfield 30, 3) := by decide +kernel
theorem dX7_smallestSize_10 : decode cX7_smallestSize 10 = .ok (.if_icmp .ge 23, 3) := by decide +kernel
theorem dX7_smallestSize_13 : decode cX7_smallestSize 13 = .ok (.iload_n 1, 1) := by decide +kernel
theorem dX7_smallestSize_14 : decode cX7_smallestSize 14 = .ok (.aload_n 0, 1) := by decide +kernel
theorem dX7_smallestSize_15 : decode cX7_smallestSize 15 = .ok (.getfield 11, 3) := by decide +kernel
theorem dX7_smallestSize_18 : decode cX7_smallestSize 18 = .ok (.iload_n 2, 1) := by decide +kernel
theorem dX7_smallestSize_19 : decode cX7_smallestSize 19 = .ok (.aaload, 1) := by decide +kernel
theorem dX7_smallestSize_20 : decode cX7_smallestSize 20 = .ok (.getfield 65, 3) := by decide +kernel
theorem dX7_smallestSize_23 : decode cX7_smallestSize 23 = .ok (.invokestatic 78, 3) := by decide +kernel
theorem dX7_smallestSize_26 : decode cX7_smallestSize 26 = .ok (.istore_n 1, 1) := by decide +kernel
theorem dX7_smallestSize_27 : decode cX7_smallestSize 27 = .ok (.iinc 2 1, 3) := by decide +kernel
theorem dX7_smallestSize_30 : decode cX7_smallestSize 30 = .ok (.goto (-25), 3) := by decide +kernel
theorem dX7_smallestSize_33 : decode cX7_smallestSize 33 = .ok (.iload_n 1, 1) := by decide +kernel
theorem dX7_smallestSize_34 : decode cX7_smallestSize 34 = .ok (.ireturn, 1) := by decide +kernel
theorem dX7_likingOf_0 : decode cX7_likingOf 0 = .ok (.aload_n 0, 1) := by decide +kernel
theorem dX7_likingOf_1 : decode cX7_likingOf 1 = .ok (.getfield 23, 3) := by decide +kernel
theorem dX7_likingOf_4 : decode cX7_likingOf 4 = .ok (.iload_n 1, 1) := by decide +kernel
theorem dX7_likingOf_5 : decode cX7_likingOf 5 = .ok (.bipush 10, 2) := by decide +kernel
theorem dX7_likingOf_7 : decode cX7_likingOf 7 = .ok (.imul, 1) := by decide +kernel
theorem dX7_likingOf_8 : decode cX7_likingOf 8 = .ok (.iload_n 2, 1) := by decide +kernel
theorem dX7_likingOf_9 : decode cX7_likingOf 9 = .ok (.iadd, 1) := by decide +kernel
theorem dX7_likingOf_10 : decode cX7_likingOf 10 = .ok (.iaload, 1) := by decide +kernel
theorem dX7_likingOf_11 : decode cX7_likingOf 11 = .ok (.ireturn, 1) := by decide +kernel
theorem dX7_setLiking_0 : decode cX7_setLiking 0 = .ok (.aload_n 0, 1) := by decide +kernel
theorem dX7_setLiking_1 : decode cX7_setLiking 1 = .ok (.getfield 23, 3) := by decide +kernel
theorem dX7_setLiking_4 : decode cX7_setLiking 4 = .ok (.iload_n 1, 1) := by decide +kernel
theorem dX7_setLiking_5 : decode cX7_setLiking 5 = .ok (.bipush 10, 2) := by decide +kernel
theorem dX7_setLiking_7 : decode cX7_setLiking 7 = .ok (.imul, 1) := by decide +kernel
theorem dX7_setLiking_8 : decode cX7_setLiking 8 = .ok (.iload_n 2, 1) := by decide +kernel
theorem dX7_setLiking_9 : decode cX7_setLiking 9 = .ok (.iadd, 1) := by decide +kernel
theorem dX7_setLiking_10 : decode cX7_setLiking 10 = .ok (.iload_n 3, 1) := by decide +kernel
theorem dX7_setLiking_11 : decode cX7_setLiking 11 = .ok (.iastore, 1) := by decide +kernel
theorem dX7_setLiking_12 : decode cX7_setLiking 12 = .ok (.return_, 1) := by decide +kernel
theorem dX7_fitOf_0 : decode cX7_fitOf 0 = .ok (.aload_n 0, 1) := by decide +kernel
theorem dX7_fitOf_1 : decode cX7_fitOf 1 = .ok (.getfield 19, 3) := by decide +kernel
theorem dX7_fitOf_4 : decode cX7_fitOf 4 = .ok (.iload_n 2, 1) := by decide +kernel
theorem dX7_fitOf_5 : decode cX7_fitOf 5 = .ok (.aaload, 1) := by decide +kernel
theorem dX7_fitOf_6 : decode cX7_fitOf 6 = .ok (.iload_n 1, 1) := by decide +kernel
theorem dX7_fitOf_7 : decode cX7_fitOf 7 = .ok (.aload_n 0, 1) := by decide +kernel
theorem dX7_fitOf_8 : decode cX7_fitOf 8 = .ok (.getfield 11, 3) := by decide +kernel
theorem dX7_fitOf_11 : decode cX7_fitOf 11 = .ok (.iload_n 1, 1) := by decide +kernel
theorem dX7_fitOf_12 : decode cX7_fitOf 12 = .ok (.aaload, 1) := by decide +kernel
theorem dX7_fitOf_13 : decode cX7_fitOf 13 = .ok (.getfield 65, 3) := by decide +kernel
theorem dX7_fitOf_16 : decode cX7_fitOf 16 = .ok (.iload_n 3, 1) := by decide +kernel
theorem dX7_fitOf_17 : decode cX7_fitOf 17 = .ok (.invokevirtual 84, 3) := by decide +kernel
theorem dX7_fitOf_20 : decode cX7_fitOf 20 = .ok (.ireturn, 1) := by decide +kernel
theorem dX7_wornBy_0 : decode cX7_wornBy 0 = .ok (.iconst 0, 1) := by decide +kernel
theorem dX7_wornBy_1 : decode cX7_wornBy 1 = .ok (.istore_n 3, 1) := by decide +kernel
theorem dX7_wornBy_2 : decode cX7_wornBy 2 = .ok (.iload_n 3, 1) := by decide +kernel
theorem dX7_wornBy_3 : decode cX7_wornBy 3 = .ok (.aload_n 0, 1) := by decide +kernel
theorem dX7_wornBy_4 : decode cX7_wornBy 4 = .ok (.getfield 34, 3) := by decide +kernel
theorem dX7_wornBy_7 : decode cX7_wornBy 7 = .ok (.if_icmp .ge 37, 3) := by decide +kernel
theorem dX7_wornBy_10 : decode cX7_wornBy 10 = .ok (.aload_n 0, 1) := by decide +kernel
theorem dX7_wornBy_11 : decode cX7_wornBy 11 = .ok (.getfield 19, 3) := by decide +kernel
theorem dX7_wornBy_14 : decode cX7_wornBy 14 = .ok (.iload_n 3, 1) := by decide +kernel
theorem dX7_wornBy_15 : decode cX7_wornBy 15 = .ok (.aaload, 1) := by decide +kernel
theorem dX7_wornBy_16 : decode cX7_wornBy 16 = .ok (.getfield 88, 3) := by decide +kernel
theorem dX7_wornBy_19 : decode cX7_wornBy 19 = .ok (.iload_n 2, 1) := by decide +kernel
theorem dX7_wornBy_20 : decode cX7_wornBy 20 = .ok (.if_icmp .ne 18, 3) := by decide +kernel
theorem dX7_wornBy_23 : decode cX7_wornBy 23 = .ok (.aload_n 0, 1) := by decide +kernel
theorem dX7_wornBy_24 : decode cX7_wornBy 24 = .ok (.getfield 19, 3) := by decide +kernel
theorem dX7_wornBy_27 : decode cX7_wornBy 27 = .ok (.iload_n 3, 1) := by decide +kernel
theorem dX7_wornBy_28 : decode cX7_wornBy 28 = .ok (.aaload, 1) := by decide +kernel
theorem dX7_wornBy_29 : decode cX7_wornBy 29 = .ok (.getfield 91, 3) := by decide +kernel
theorem dX7_wornBy_32 : decode cX7_wornBy 32 = .ok (.iload_n 1, 1) := by decide +kernel
theorem dX7_wornBy_33 : decode cX7_wornBy 33 = .ok (.if_icmp .ne 5, 3) := by decide +kernel
theorem dX7_wornBy_36 : decode cX7_wornBy 36 = .ok (.iload_n 3, 1) := by decide +kernel
theorem dX7_wornBy_37 : decode cX7_wornBy 37 = .ok (.ireturn, 1) := by decide +kernel
theorem dX7_wornBy_38 : decode cX7_wornBy 38 = .ok (.iinc 3 1, 3) := by decide +kernel
theorem dX7_wornBy_41 : decode cX7_wornBy 41 = .ok (.goto (-39), 3) := by decide +kernel
theorem dX7_wornBy_44 : decode cX7_wornBy 44 = .ok (.bipush (-4), 2) := by decide +kernel
theorem dX7_wornBy_46 : decode cX7_wornBy 46 = .ok (.ireturn, 1) := by decide +kernel
theorem dX7_putOn_0 : decode cX7_putOn 0 = .ok (.aload_n 0, 1) := by decide +kernel
theorem dX7_putOn_1 : decode cX7_putOn 1 = .ok (.getfield 19, 3) := by decide +kernel
theorem dX7_putOn_4 : decode cX7_putOn 4 = .ok (.iload_n 2, 1) := by decide +kernel
theorem dX7_putOn_5 : decode cX7_putOn 5 = .ok (.aaload, 1) := by decide +kernel
theorem dX7_putOn_6 : decode cX7_putOn 6 = .ok (.astore 4, 2) := by decide +kernel
theorem dX7_putOn_8 : decode cX7_putOn 8 = .ok (.aload 4, 2) := by decide +kernel
theorem dX7_putOn_10 : decode cX7_putOn 10 = .ok (.iload_n 1, 1) := by decide +kernel
theorem dX7_putOn_11 : decode cX7_putOn 11 = .ok (.aload_n 0, 1) := by decide +kernel
theorem dX7_putOn_12 : decode cX7_putOn 12 = .ok (.getfield 11, 3) := by decide +kernel
theorem dX7_putOn_15 : decode cX7_putOn 15 = .ok (.iload_n 1, 1) := by decide +kernel
theorem dX7_putOn_16 : decode cX7_putOn 16 = .ok (.aaload, 1) := by decide +kernel
theorem dX7_putOn_17 : decode cX7_putOn 17 = .ok (.getfield 65, 3) := by decide +kernel
theorem dX7_putOn_20 : decode cX7_putOn 20 = .ok (.iload_n 3, 1) := by decide +kernel
theorem dX7_putOn_21 : decode cX7_putOn 21 = .ok (.invokevirtual 84, 3) := by decide +kernel
theorem dX7_putOn_24 : decode cX7_putOn 24 = .ok (.iconst 2, 1) := by decide +kernel
theorem dX7_putOn_25 : decode cX7_putOn 25 = .ok (.if_icmp .ne 20, 3) := by decide +kernel
theorem dX7_putOn_28 : decode cX7_putOn 28 = .ok (.aload 4, 2) := by decide +kernel
theorem dX7_putOn_30 : decode cX7_putOn 30 = .ok (.iconst 1, 1) := by decide +kernel
theorem dX7_putOn_31 : decode cX7_putOn 31 = .ok (.putfield 94, 3) := by decide +kernel
theorem dX7_putOn_34 : decode cX7_putOn 34 = .ok (.aload 4, 2) := by decide +kernel
theorem dX7_putOn_36 : decode cX7_putOn 36 = .ok (.dup, 1) := by decide +kernel
theorem dX7_putOn_37 : decode cX7_putOn 37 = .ok (.getfield 98, 3) := by decide +kernel
theorem dX7_putOn_40 : decode cX7_putOn 40 = .ok (.iconst 2, 1) := by decide +kernel
theorem dX7_putOn_41 : decode cX7_putOn 41 = .ok (.iadd, 1) := by decide +kernel
theorem dX7_putOn_42 : decode cX7_putOn 42 = .ok (.putfield 98, 3) := by decide +kernel
theorem dX7_putOn_45 : decode cX7_putOn 45 = .ok (.aload 4, 2) := by decide +kernel
theorem dX7_putOn_47 : decode cX7_putOn 47 = .ok (.iload_n 1, 1) := by decide +kernel
theorem dX7_putOn_48 : decode cX7_putOn 48 = .ok (.putfield 91, 3) := by decide +kernel
theorem dX7_putOn_51 : decode cX7_putOn 51 = .ok (.return_, 1) := by decide +kernel
theorem dX7_undress_0 : decode cX7_undress 0 = .ok (.iconst 0, 1) := by decide +kernel
theorem dX7_undress_1 : decode cX7_undress 1 = .ok (.istore_n 2, 1) := by decide +kernel
theorem dX7_undress_2 : decode cX7_undress 2 = .ok (.iload_n 2, 1) := by decide +kernel
theorem dX7_undress_3 : decode cX7_undress 3 = .ok (.aload_n 0, 1) := by decide +kernel
theorem dX7_undress_4 : decode cX7_undress 4 = .ok (.getfield 34, 3) := by decide +kernel
theorem dX7_undress_7 : decode cX7_undress 7 = .ok (.if_icmp .ge 33, 3) := by decide +kernel
theorem dX7_undress_10 : decode cX7_undress 10 = .ok (.aload_n 0, 1) := by decide +kernel
theorem dX7_undress_11 : decode cX7_undress 11 = .ok (.getfield 19, 3) := by decide +kernel
theorem dX7_undress_14 : decode cX7_undress 14 = .ok (.iload_n 2, 1) := by decide +kernel
theorem dX7_undress_15 : decode cX7_undress 15 = .ok (.aaload, 1) := by decide +kernel
theorem dX7_undress_16 : decode cX7_undress 16 = .ok (.getfield 88, 3) := by decide +kernel
theorem dX7_undress_19 : decode cX7_undress 19 = .ok (.iload_n 1, 1) := by decide +kernel
theorem dX7_undress_20 : decode cX7_undress 20 = .ok (.if_icmp .ne 14, 3) := by decide +kernel
theorem dX7_undress_23 : decode cX7_undress 23 = .ok (.aload_n 0, 1) := by decide +kernel
theorem dX7_undress_24 : decode cX7_undress 24 = .ok (.getfield 19, 3) := by decide +kernel
theorem dX7_undress_27 : decode cX7_undress 27 = .ok (.iload_n 2, 1) := by decide +kernel
theorem dX7_undress_28 : decode cX7_undress 28 = .ok (.aaload, 1) := by decide +kernel
theorem dX7_undress_29 : decode cX7_undress 29 = .ok (.bipush (-4), 2) := by decide +kernel
theorem dX7_undress_31 : decode cX7_undress 31 = .ok (.putfield 91, 3) := by decide +kernel
theorem dX7_undress_34 : decode cX7_undress 34 = .ok (.iinc 2 1, 3) := by decide +kernel
theorem dX7_undress_37 : decode cX7_undress 37 = .ok (.goto (-35), 3) := by decide +kernel
theorem dX7_undress_40 : decode cX7_undress 40 = .ok (.return_, 1) := by decide +kernel
theorem dX7_coldOnes_0 : decode cX7_coldOnes 0 = .ok (.iconst 0, 1) := by decide +kernel
theorem dX7_coldOnes_1 : decode cX7_coldOnes 1 = .ok (.istore_n 2, 1) := by decide +kernel
theorem dX7_coldOnes_2 : decode cX7_coldOnes 2 = .ok (.iconst 0, 1) := by decide +kernel
theorem dX7_coldOnes_3 : decode cX7_coldOnes 3 = .ok (.istore_n 3, 1) := by decide +kernel
theorem dX7_coldOnes_4 : decode cX7_coldOnes 4 = .ok (.iload_n 3, 1) := by decide +kernel
theorem dX7_coldOnes_5 : decode cX7_coldOnes 5 = .ok (.aload_n 0, 1) := by decide +kernel
theorem dX7_coldOnes_6 : decode cX7_coldOnes 6 = .ok (.getfield 30, 3) := by decide +kernel
theorem dX7_coldOnes_9 : decode cX7_coldOnes 9 = .ok (.if_icmp .ge 26, 3) := by decide +kernel
theorem dX7_coldOnes_12 : decode cX7_coldOnes 12 = .ok (.aload_n 0, 1) := by decide +kernel
theorem dX7_coldOnes_13 : decode cX7_coldOnes 13 = .ok (.iload_n 3, 1) := by decide +kernel
theorem dX7_coldOnes_14 : decode cX7_coldOnes 14 = .ok (.iload_n 1, 1) := by decide +kernel
theorem dX7_coldOnes_15 : decode cX7_coldOnes 15 = .ok (.invokevirtual 99, 3) := by decide +kernel
theorem dX7_coldOnes_18 : decode cX7_coldOnes 18 = .ok (.bipush (-4), 2) := by decide +kernel
theorem dX7_coldOnes_20 : decode cX7_coldOnes 20 = .ok (.if_icmp .ne 9, 3) := by decide +kernel
theorem dX7_coldOnes_23 : decode cX7_coldOnes 23 = .ok (.iload_n 2, 1) := by decide +kernel
theorem dX7_coldOnes_24 : decode cX7_coldOnes 24 = .ok (.iconst 1, 1) := by decide +kernel
theorem dX7_coldOnes_25 : decode cX7_coldOnes 25 = .ok (.iload_n 3, 1) := by decide +kernel
theorem dX7_coldOnes_26 : decode cX7_coldOnes 26 = .ok (.ishl, 1) := by decide +kernel
theorem dX7_coldOnes_27 : decode cX7_coldOnes 27 = .ok (.ior, 1) := by decide +kernel
theorem dX7_coldOnes_28 : decode cX7_coldOnes 28 = .ok (.istore_n 2, 1) := by decide +kernel
theorem dX7_coldOnes_29 : decode cX7_coldOnes 29 = .ok (.iinc 3 1, 3) := by decide +kernel
theorem dX7_coldOnes_32 : decode cX7_coldOnes 32 = .ok (.goto (-28), 3) := by decide +kernel
theorem dX7_coldOnes_35 : decode cX7_coldOnes 35 = .ok (.iload_n 2, 1) := by decide +kernel
theorem dX7_coldOnes_36 : decode cX7_coldOnes 36 = .ok (.ireturn, 1) := by decide +kernel
theorem dX7_wornOutCount_0 : decode cX7_wornOutCount 0 = .ok (.iconst 0, 1) := by decide +kernel
theorem dX7_wornOutCount_1 : decode cX7_wornOutCount 1 = .ok (.istore_n 1, 1) := by decide +kernel
theorem dX7_wornOutCount_2 : decode cX7_wornOutCount 2 = .ok (.iconst 0, 1) := by decide +kernel
theorem dX7_wornOutCount_3 : decode cX7_wornOutCount 3 = .ok (.istore_n 2, 1) := by decide +kernel
theorem dX7_wornOutCount_4 : decode cX7_wornOutCount 4 = .ok (.iload_n 2, 1) := by decide +kernel
theorem dX7_wornOutCount_5 : decode cX7_wornOutCount 5 = .ok (.aload_n 0, 1) := by decide +kernel
theorem dX7_wornOutCount_6 : decode cX7_wornOutCount 6 = .ok (.getfield 34, 3) := by decide +kernel
theorem dX7_wornOutCount_9 : decode cX7_wornOutCount 9 = .ok (.if_icmp .ge 24, 3) := by decide +kernel
theorem dX7_wornOutCount_12 : decode cX7_wornOutCount 12 = .ok (.aload_n 0, 1) := by decide +kernel
theorem dX7_wornOutCount_13 : decode cX7_wornOutCount 13 = .ok (.getfield 19, 3) := by decide +kernel
theorem dX7_wornOutCount_16 : decode cX7_wornOutCount 16 = .ok (.iload_n 2, 1) := by decide +kernel
theorem dX7_wornOutCount_17 : decode cX7_wornOutCount 17 = .ok (.aaload, 1) := by decide +kernel
theorem dX7_wornOutCount_18 : decode cX7_wornOutCount 18 = .ok (.invokevirtual 102, 3) := by decide +kernel
theorem dX7_wornOutCount_21 : decode cX7_wornOutCount 21 = .ok (.ifCond .eq 6, 3) := by decide +kernel
theorem dX7_wornOutCount_24 : decode cX7_wornOutCount 24 = .ok (.iinc 1 1, 3) := by decide +kernel
theorem dX7_wornOutCount_27 : decode cX7_wornOutCount 27 = .ok (.iinc 2 1, 3) := by decide +kernel
theorem dX7_wornOutCount_30 : decode cX7_wornOutCount 30 = .ok (.goto (-26), 3) := by decide +kernel
theorem dX7_wornOutCount_33 : decode cX7_wornOutCount 33 = .ok (.iload_n 1, 1) := by decide +kernel
theorem dX7_wornOutCount_34 : decode cX7_wornOutCount 34 = .ok (.ireturn, 1) := by decide +kernel
theorem dX7_passWinter_0 : decode cX7_passWinter 0 = .ok (.iconst 0, 1) := by decide +kernel
theorem dX7_passWinter_1 : decode cX7_passWinter 1 = .ok (.istore_n 1, 1) := by decide +kernel
theorem dX7_passWinter_2 : decode cX7_passWinter 2 = .ok (.iconst 0, 1) := by decide +kernel
theorem dX7_passWinter_3 : decode cX7_passWinter 3 = .ok (.istore_n 2, 1) := by decide +kernel
theorem dX7_passWinter_4 : decode cX7_passWinter 4 = .ok (.iload_n 2, 1) := by decide +kernel
theorem dX7_passWinter_5 : decode cX7_passWinter 5 = .ok (.aload_n 0, 1) := by decide +kernel
theorem dX7_passWinter_6 : decode cX7_passWinter 6 = .ok (.getfield 34, 3) := by decide +kernel
theorem dX7_passWinter_9 : decode cX7_passWinter 9 = .ok (.if_icmp .ge 64, 3) := by decide +kernel
theorem dX7_passWinter_12 : decode cX7_passWinter 12 = .ok (.aload_n 0, 1) := by decide +kernel
theorem dX7_passWinter_13 : decode cX7_passWinter 13 = .ok (.getfield 19, 3) := by decide +kernel
theorem dX7_passWinter_16 : decode cX7_passWinter 16 = .ok (.iload_n 2, 1) := by decide +kernel
theorem dX7_passWinter_17 : decode cX7_passWinter 17 = .ok (.aaload, 1) := by decide +kernel
theorem dX7_passWinter_18 : decode cX7_passWinter 18 = .ok (.getfield 91, 3) := by decide +kernel
theorem dX7_passWinter_21 : decode cX7_passWinter 21 = .ok (.bipush (-4), 2) := by decide +kernel
theorem dX7_passWinter_23 : decode cX7_passWinter 23 = .ok (.if_icmp .eq 44, 3) := by decide +kernel
theorem dX7_passWinter_26 : decode cX7_passWinter 26 = .ok (.aload_n 0, 1) := by decide +kernel
theorem dX7_passWinter_27 : decode cX7_passWinter 27 = .ok (.getfield 19, 3) := by decide +kernel
theorem dX7_passWinter_30 : decode cX7_passWinter 30 = .ok (.iload_n 2, 1) := by decide +kernel
theorem dX7_passWinter_31 : decode cX7_passWinter 31 = .ok (.aaload, 1) := by decide +kernel
theorem dX7_passWinter_32 : decode cX7_passWinter 32 = .ok (.dup, 1) := by decide +kernel
theorem dX7_passWinter_33 : decode cX7_passWinter 33 = .ok (.getfield 106, 3) := by decide +kernel
theorem dX7_passWinter_36 : decode cX7_passWinter 36 = .ok (.iconst 1, 1) := by decide +kernel
theorem dX7_passWinter_37 : decode cX7_passWinter 37 = .ok (.iadd, 1) := by decide +kernel
theorem dX7_passWinter_38 : decode cX7_passWinter 38 = .ok (.putfield 106, 3) := by decide +kernel
theorem dX7_passWinter_41 : decode cX7_passWinter 41 = .ok (.aload_n 0, 1) := by decide +kernel
theorem dX7_passWinter_42 : decode cX7_passWinter 42 = .ok (.getfield 19, 3) := by decide +kernel
theorem dX7_passWinter_45 : decode cX7_passWinter 45 = .ok (.iload_n 2, 1) := by decide +kernel
theorem dX7_passWinter_46 : decode cX7_passWinter 46 = .ok (.aaload, 1) := by decide +kernel
theorem dX7_passWinter_47 : decode cX7_passWinter 47 = .ok (.invokevirtual 102, 3) := by decide +kernel
theorem dX7_passWinter_50 : decode cX7_passWinter 50 = .ok (.ifCond .eq 17, 3) := by decide +kernel
theorem dX7_passWinter_53 : decode cX7_passWinter 53 = .ok (.aload_n 0, 1) := by decide +kernel
theorem dX7_passWinter_54 : decode cX7_passWinter 54 = .ok (.getfield 19, 3) := by decide +kernel
theorem dX7_passWinter_57 : decode cX7_passWinter 57 = .ok (.iload_n 2, 1) := by decide +kernel
theorem dX7_passWinter_58 : decode cX7_passWinter 58 = .ok (.aaload, 1) := by decide +kernel
theorem dX7_passWinter_59 : decode cX7_passWinter 59 = .ok (.bipush (-4), 2) := by decide +kernel
theorem dX7_passWinter_61 : decode cX7_passWinter 61 = .ok (.putfield 91, 3) := by decide +kernel
theorem dX7_passWinter_64 : decode cX7_passWinter 64 = .ok (.iinc 1 1, 3) := by decide +kernel
theorem dX7_passWinter_67 : decode cX7_passWinter 67 = .ok (.iinc 2 1, 3) := by decide +kernel
theorem dX7_passWinter_70 : decode cX7_passWinter 70 = .ok (.goto (-66), 3) := by decide +kernel
theorem dX7_passWinter_73 : decode cX7_passWinter 73 = .ok (.iload_n 1, 1) := by decide +kernel
theorem dX7_passWinter_74 : decode cX7_passWinter 74 = .ok (.ireturn, 1) := by decide +kernel
theorem dX7_passSpring_0 : decode cX7_passSpring 0 = .ok (.iconst 0, 1) := by decide +kernel
theorem dX7_passSpring_1 : decode cX7_passSpring 1 = .ok (.istore_n 3, 1) := by decide +kernel
theorem dX7_passSpring_2 : decode cX7_passSpring 2 = .ok (.iload_n 3, 1) := by decide +kernel
theorem dX7_passSpring_3 : decode cX7_passSpring 3 = .ok (.aload_n 0, 1) := by decide +kernel
theorem dX7_passSpring_4 : decode cX7_passSpring 4 = .ok (.getfield 30, 3) := by decide +kernel
theorem dX7_passSpring_7 : decode cX7_passSpring 7 = .ok (.if_icmp .ge 19, 3) := by decide +kernel
theorem dX7_passSpring_10 : decode cX7_passSpring 10 = .ok (.aload_n 0, 1) := by decide +kernel
theorem dX7_passSpring_11 : decode cX7_passSpring 11 = .ok (.getfield 11, 3) := by decide +kernel
theorem dX7_passSpring_14 : decode cX7_passSpring 14 = .ok (.iload_n 3, 1) := by decide +kernel
theorem dX7_passSpring_15 : decode cX7_passSpring 15 = .ok (.aaload, 1) := by decide +kernel
theorem dX7_passSpring_16 : decode cX7_passSpring 16 = .ok (.iload_n 1, 1) := by decide +kernel
theorem dX7_passSpring_17 : decode cX7_passSpring 17 = .ok (.invokevirtual 109, 3) := by decide +kernel
theorem dX7_passSpring_20 : decode cX7_passSpring 20 = .ok (.iinc 3 1, 3) := by decide +kernel
theorem dX7_passSpring_23 : decode cX7_passSpring 23 = .ok (.goto (-21), 3) := by decide +kernel
theorem dX7_passSpring_26 : decode cX7_passSpring 26 = .ok (.iconst 0, 1) := by decide +kernel
theorem dX7_passSpring_27 : decode cX7_passSpring 27 = .ok (.istore_n 3, 1) := by decide +kernel
theorem dX7_passSpring_28 : decode cX7_passSpring 28 = .ok (.iconst 0, 1) := by decide +kernel
theorem dX7_passSpring_29 : decode cX7_passSpring 29 = .ok (.istore 4, 2) := by decide +kernel
theorem dX7_passSpring_31 : decode cX7_passSpring 31 = .ok (.iload 4, 2) := by decide +kernel
theorem dX7_passSpring_33 : decode cX7_passSpring 33 = .ok (.aload_n 0, 1) := by decide +kernel
theorem dX7_passSpring_34 : decode cX7_passSpring 34 = .ok (.getfield 34, 3) := by decide +kernel
theorem dX7_passSpring_37 : decode cX7_passSpring 37 = .ok (.if_icmp .ge 58, 3) := by decide +kernel
theorem dX7_passSpring_40 : decode cX7_passSpring 40 = .ok (.aload_n 0, 1) := by decide +kernel
theorem dX7_passSpring_41 : decode cX7_passSpring 41 = .ok (.getfield 19, 3) := by decide +kernel
theorem dX7_passSpring_44 : decode cX7_passSpring 44 = .ok (.iload 4, 2) := by decide +kernel
theorem dX7_passSpring_46 : decode cX7_passSpring 46 = .ok (.aaload, 1) := by decide +kernel
theorem dX7_passSpring_47 : decode cX7_passSpring 47 = .ok (.getfield 91, 3) := by decide +kernel
theorem dX7_passSpring_50 : decode cX7_passSpring 50 = .ok (.istore 5, 2) := by decide +kernel
theorem dX7_passSpring_52 : decode cX7_passSpring 52 = .ok (.aload_n 0, 1) := by decide +kernel
theorem dX7_passSpring_53 : decode cX7_passSpring 53 = .ok (.iload 5, 2) := by decide +kernel
theorem dX7_passSpring_55 : decode cX7_passSpring 55 = .ok (.invokevirtual 113, 3) := by decide +kernel
theorem dX7_passSpring_58 : decode cX7_passSpring 58 = .ok (.ifCond .eq 31, 3) := by decide +kernel
theorem dX7_passSpring_61 : decode cX7_passSpring 61 = .ok (.aload_n 0, 1) := by decide +kernel
theorem dX7_passSpring_62 : decode cX7_passSpring 62 = .ok (.iload 5, 2) := by decide +kernel
theorem dX7_passSpring_64 : decode cX7_passSpring 64 = .ok (.iload 4, 2) := by decide +kernel
theorem dX7_passSpring_66 : decode cX7_passSpring 66 = .ok (.iload_n 2, 1) := by decide +kernel
theorem dX7_passSpring_67 : decode cX7_passSpring 67 = .ok (.invokevirtual 117, 3) := by decide +kernel
theorem dX7_passSpring_70 : decode cX7_passSpring 70 = .ok (.iconst 1, 1) := by decide +kernel
theorem dX7_passSpring_71 : decode cX7_passSpring 71 = .ok (.if_icmp .eq 18, 3) := by decide +kernel
theorem dX7_passSpring_74 : decode cX7_passSpring 74 = .ok (.aload_n 0, 1) := by decide +kernel
theorem dX7_passSpring_75 : decode cX7_passSpring 75 = .ok (.getfield 19, 3) := by decide +kernel
theorem dX7_passSpring_78 : decode cX7_passSpring 78 = .ok (.iload 4, 2) := by decide +kernel
theorem dX7_passSpring_80 : decode cX7_passSpring 80 = .ok (.aaload, 1) := by decide +kernel
theorem dX7_passSpring_81 : decode cX7_passSpring 81 = .ok (.bipush (-4), 2) := by decide +kernel
theorem dX7_passSpring_83 : decode cX7_passSpring 83 = .ok (.putfield 91, 3) := by decide +kernel
theorem dX7_passSpring_86 : decode cX7_passSpring 86 = .ok (.iinc 3 1, 3) := by decide +kernel
theorem dX7_passSpring_89 : decode cX7_passSpring 89 = .ok (.iinc 4 1, 3) := by decide +kernel
theorem dX7_passSpring_92 : decode cX7_passSpring 92 = .ok (.goto (-61), 3) := by decide +kernel
theorem dX7_passSpring_95 : decode cX7_passSpring 95 = .ok (.iload_n 3, 1) := by decide +kernel
theorem dX7_passSpring_96 : decode cX7_passSpring 96 = .ok (.ireturn, 1) := by decide +kernel
theorem dX7_growEach_0 : decode cX7_growEach 0 = .ok (.iconst 0, 1) := by decide +kernel
theorem dX7_growEach_1 : decode cX7_growEach 1 = .ok (.istore_n 2, 1) := by decide +kernel
theorem dX7_growEach_2 : decode cX7_growEach 2 = .ok (.iload_n 2, 1) := by decide +kernel
theorem dX7_growEach_3 : decode cX7_growEach 3 = .ok (.aload_n 0, 1) := by decide +kernel
theorem dX7_growEach_4 : decode cX7_growEach 4 = .ok (.getfield 30, 3) := by decide +kernel
theorem dX7_growEach_7 : decode cX7_growEach 7 = .ok (.if_icmp .ge 32, 3) := by decide +kernel
theorem dX7_growEach_10 : decode cX7_growEach 10 = .ok (.aload_n 0, 1) := by decide +kernel
theorem dX7_growEach_11 : decode cX7_growEach 11 = .ok (.getfield 11, 3) := by decide +kernel
theorem dX7_growEach_14 : decode cX7_growEach 14 = .ok (.iload_n 2, 1) := by decide +kernel
theorem dX7_growEach_15 : decode cX7_growEach 15 = .ok (.aaload, 1) := by decide +kernel
theorem dX7_growEach_16 : decode cX7_growEach 16 = .ok (.iload_n 1, 1) := by decide +kernel
theorem dX7_growEach_17 : decode cX7_growEach 17 = .ok (.iload_n 2, 1) := by decide +kernel
theorem dX7_growEach_18 : decode cX7_growEach 18 = .ok (.ishr, 1) := by decide +kernel
theorem dX7_growEach_19 : decode cX7_growEach 19 = .ok (.iconst 1, 1) := by decide +kernel
theorem dX7_growEach_20 : decode cX7_growEach 20 = .ok (.iand, 1) := by decide +kernel
theorem dX7_growEach_21 : decode cX7_growEach 21 = .ok (.iconst 1, 1) := by decide +kernel
theorem dX7_growEach_22 : decode cX7_growEach 22 = .ok (.if_icmp .ne 7, 3) := by decide +kernel
theorem dX7_growEach_25 : decode cX7_growEach 25 = .ok (.iconst 1, 1) := by decide +kernel
theorem dX7_growEach_26 : decode cX7_growEach 26 = .ok (.goto 4, 3) := by decide +kernel
theorem dX7_growEach_29 : decode cX7_growEach 29 = .ok (.iconst 0, 1) := by decide +kernel
theorem dX7_growEach_30 : decode cX7_growEach 30 = .ok (.invokevirtual 109, 3) := by decide +kernel
theorem dX7_growEach_33 : decode cX7_growEach 33 = .ok (.iinc 2 1, 3) := by decide +kernel
theorem dX7_growEach_36 : decode cX7_growEach 36 = .ok (.goto (-34), 3) := by decide +kernel
theorem dX7_growEach_39 : decode cX7_growEach 39 = .ok (.return_, 1) := by decide +kernel
theorem dX7_strengthen_0 : decode cX7_strengthen 0 = .ok (.iconst 0, 1) := by decide +kernel
theorem dX7_strengthen_1 : decode cX7_strengthen 1 = .ok (.istore_n 3, 1) := by decide +kernel
theorem dX7_strengthen_2 : decode cX7_strengthen 2 = .ok (.iload_n 3, 1) := by decide +kernel
theorem dX7_strengthen_3 : decode cX7_strengthen 3 = .ok (.aload_n 0, 1) := by decide +kernel
theorem dX7_strengthen_4 : decode cX7_strengthen 4 = .ok (.getfield 34, 3) := by decide +kernel
theorem dX7_strengthen_7 : decode cX7_strengthen 7 = .ok (.if_icmp .ge 44, 3) := by decide +kernel
theorem dX7_strengthen_10 : decode cX7_strengthen 10 = .ok (.aload_n 0, 1) := by decide +kernel
theorem dX7_strengthen_11 : decode cX7_strengthen 11 = .ok (.getfield 19, 3) := by decide +kernel
theorem dX7_strengthen_14 : decode cX7_strengthen 14 = .ok (.iload_n 3, 1) := by decide +kernel
theorem dX7_strengthen_15 : decode cX7_strengthen 15 = .ok (.aaload, 1) := by decide +kernel
theorem dX7_strengthen_16 : decode cX7_strengthen 16 = .ok (.getfield 88, 3) := by decide +kernel
theorem dX7_strengthen_19 : decode cX7_strengthen 19 = .ok (.iload_n 1, 1) := by decide +kernel
theorem dX7_strengthen_20 : decode cX7_strengthen 20 = .ok (.if_icmp .ne 25, 3) := by decide +kernel
theorem dX7_strengthen_23 : decode cX7_strengthen 23 = .ok (.aload_n 0, 1) := by decide +kernel
theorem dX7_strengthen_24 : decode cX7_strengthen 24 = .ok (.getfield 19, 3) := by decide +kernel
theorem dX7_strengthen_27 : decode cX7_strengthen 27 = .ok (.iload_n 3, 1) := by decide +kernel
theorem dX7_strengthen_28 : decode cX7_strengthen 28 = .ok (.aaload, 1) := by decide +kernel
theorem dX7_strengthen_29 : decode cX7_strengthen 29 = .ok (.aload_n 0, 1) := by decide +kernel
theorem dX7_strengthen_30 : decode cX7_strengthen 30 = .ok (.getfield 19, 3) := by decide +kernel
theorem dX7_strengthen_33 : decode cX7_strengthen 33 = .ok (.iload_n 3, 1) := by decide +kernel
theorem dX7_strengthen_34 : decode cX7_strengthen 34 = .ok (.aaload, 1) := by decide +kernel
theorem dX7_strengthen_35 : decode cX7_strengthen 35 = .ok (.getfield 120, 3) := by decide +kernel
theorem dX7_strengthen_38 : decode cX7_strengthen 38 = .ok (.iload_n 2, 1) := by decide +kernel
theorem dX7_strengthen_39 : decode cX7_strengthen 39 = .ok (.invokestatic 123, 3) := by decide +kernel
theorem dX7_strengthen_42 : decode cX7_strengthen 42 = .ok (.putfield 120, 3) := by decide +kernel
theorem dX7_strengthen_45 : decode cX7_strengthen 45 = .ok (.iinc 3 1, 3) := by decide +kernel
theorem dX7_strengthen_48 : decode cX7_strengthen 48 = .ok (.goto (-46), 3) := by decide +kernel
theorem dX7_strengthen_51 : decode cX7_strengthen 51 = .ok (.return_, 1) := by decide +kernel
theorem dX7_firstSwap_0 : decode cX7_firstSwap 0 = .ok (.iconst 0, 1) := by decide +kernel
theorem dX7_firstSwap_1 : decode cX7_firstSwap 1 = .ok (.istore_n 2, 1) := by decide +kernel
theorem dX7_firstSwap_2 : decode cX7_firstSwap 2 = .ok (.iload_n 2, 1) := by decide +kernel
theorem dX7_firstSwap_3 : decode cX7_firstSwap 3 = .ok (.iconst 2, 1) := by decide +kernel
theorem dX7_firstSwap_4 : decode cX7_firstSwap 4 = .ok (.if_icmp .ge 104, 3) := by decide +kernel
theorem dX7_firstSwap_7 : decode cX7_firstSwap 7 = .ok (.iconst 0, 1) := by decide +kernel
theorem dX7_firstSwap_8 : decode cX7_firstSwap 8 = .ok (.istore_n 3, 1) := by decide +kernel
theorem dX7_firstSwap_9 : decode cX7_firstSwap 9 = .ok (.iload_n 3, 1) := by decide +kernel
theorem dX7_firstSwap_10 : decode cX7_firstSwap 10 = .ok (.aload_n 0, 1) := by decide +kernel
theorem dX7_firstSwap_11 : decode cX7_firstSwap 11 = .ok (.getfield 30, 3) := by decide +kernel
theorem dX7_firstSwap_14 : decode cX7_firstSwap 14 = .ok (.if_icmp .ge 88, 3) := by decide +kernel
theorem dX7_firstSwap_17 : decode cX7_firstSwap 17 = .ok (.aload_n 0, 1) := by decide +kernel
theorem dX7_firstSwap_18 : decode cX7_firstSwap 18 = .ok (.iload_n 3, 1) := by decide +kernel
theorem dX7_firstSwap_19 : decode cX7_firstSwap 19 = .ok (.iload_n 2, 1) := by decide +kernel
theorem dX7_firstSwap_20 : decode cX7_firstSwap 20 = .ok (.invokevirtual 99, 3) := by decide +kernel
theorem dX7_firstSwap_23 : decode cX7_firstSwap 23 = .ok (.istore 4, 2) := by decide +kernel
theorem dX7_firstSwap_25 : decode cX7_firstSwap 25 = .ok (.iload_n 3, 1) := by decide +kernel
theorem dX7_firstSwap_26 : decode cX7_firstSwap 26 = .ok (.iconst 1, 1) := by decide +kernel
theorem dX7_firstSwap_27 : decode cX7_firstSwap 27 = .ok (.iadd, 1) := by decide +kernel
theorem dX7_firstSwap_28 : decode cX7_firstSwap 28 = .ok (.istore 5, 2) := by decide +kernel
theorem dX7_firstSwap_30 : decode cX7_firstSwap 30 = .ok (.iload 5, 2) := by decide +kernel
theorem dX7_firstSwap_32 : decode cX7_firstSwap 32 = .ok (.aload_n 0, 1) := by decide +kernel
theorem dX7_firstSwap_33 : decode cX7_firstSwap 33 = .ok (.getfield 30, 3) := by decide +kernel
theorem dX7_firstSwap_36 : decode cX7_firstSwap 36 = .ok (.if_icmp .ge 60, 3) := by decide +kernel
theorem dX7_firstSwap_39 : decode cX7_firstSwap 39 = .ok (.iload 4, 2) := by decide +kernel
theorem dX7_firstSwap_41 : decode cX7_firstSwap 41 = .ok (.bipush (-4), 2) := by decide +kernel
theorem dX7_firstSwap_43 : decode cX7_firstSwap 43 = .ok (.if_icmp .eq 53, 3) := by decide +kernel
theorem dX7_firstSwap_46 : decode cX7_firstSwap 46 = .ok (.aload_n 0, 1) := by decide +kernel
theorem dX7_firstSwap_47 : decode cX7_firstSwap 47 = .ok (.iload 5, 2) := by decide +kernel
theorem dX7_firstSwap_49 : decode cX7_firstSwap 49 = .ok (.iload_n 2, 1) := by decide +kernel
theorem dX7_firstSwap_50 : decode cX7_firstSwap 50 = .ok (.invokevirtual 99, 3) := by decide +kernel
theorem dX7_firstSwap_53 : decode cX7_firstSwap 53 = .ok (.istore 6, 2) := by decide +kernel
theorem dX7_firstSwap_55 : decode cX7_firstSwap 55 = .ok (.iload 6, 2) := by decide +kernel
theorem dX7_firstSwap_57 : decode cX7_firstSwap 57 = .ok (.bipush (-4), 2) := by decide +kernel
theorem dX7_firstSwap_59 : decode cX7_firstSwap 59 = .ok (.if_icmp .eq 31, 3) := by decide +kernel
theorem dX7_firstSwap_62 : decode cX7_firstSwap 62 = .ok (.aload_n 0, 1) := by decide +kernel
theorem dX7_firstSwap_63 : decode cX7_firstSwap 63 = .ok (.iload_n 3, 1) := by decide +kernel
theorem dX7_firstSwap_64 : decode cX7_firstSwap 64 = .ok (.iload 4, 2) := by decide +kernel
theorem dX7_firstSwap_66 : decode cX7_firstSwap 66 = .ok (.iload 5, 2) := by decide +kernel
theorem dX7_firstSwap_68 : decode cX7_firstSwap 68 = .ok (.iload 6, 2) := by decide +kernel
theorem dX7_firstSwap_70 : decode cX7_firstSwap 70 = .ok (.iload_n 1, 1) := by decide +kernel
theorem dX7_firstSwap_71 : decode cX7_firstSwap 71 = .ok (.invokevirtual 126, 3) := by decide +kernel
theorem dX7_firstSwap_74 : decode cX7_firstSwap 74 = .ok (.ifCond .eq 16, 3) := by decide +kernel
theorem dX7_firstSwap_77 : decode cX7_firstSwap 77 = .ok (.bipush 100, 2) := by decide +kernel
theorem dX7_firstSwap_79 : decode cX7_firstSwap 79 = .ok (.iload_n 2, 1) := by decide +kernel
theorem dX7_firstSwap_80 : decode cX7_firstSwap 80 = .ok (.imul, 1) := by decide +kernel
theorem dX7_firstSwap_81 : decode cX7_firstSwap 81 = .ok (.bipush 10, 2) := by decide +kernel
theorem dX7_firstSwap_83 : decode cX7_firstSwap 83 = .ok (.iload_n 3, 1) := by decide +kernel
theorem dX7_firstSwap_84 : decode cX7_firstSwap 84 = .ok (.imul, 1) := by decide +kernel
theorem dX7_firstSwap_85 : decode cX7_firstSwap 85 = .ok (.iadd, 1) := by decide +kernel
theorem dX7_firstSwap_86 : decode cX7_firstSwap 86 = .ok (.iload 5, 2) := by decide +kernel
theorem dX7_firstSwap_88 : decode cX7_firstSwap 88 = .ok (.iadd, 1) := by decide +kernel
theorem dX7_firstSwap_89 : decode cX7_firstSwap 89 = .ok (.ireturn, 1) := by decide +kernel
theorem dX7_firstSwap_90 : decode cX7_firstSwap 90 = .ok (.iinc 5 1, 3) := by decide +kernel
theorem dX7_firstSwap_93 : decode cX7_firstSwap 93 = .ok (.goto (-63), 3) := by decide +kernel
theorem dX7_firstSwap_96 : decode cX7_firstSwap 96 = .ok (.iinc 3 1, 3) := by decide +kernel
theorem dX7_firstSwap_99 : decode cX7_firstSwap 99 = .ok (.goto (-90), 3) := by decide +kernel
theorem dX7_firstSwap_102 : decode cX7_firstSwap 102 = .ok (.iinc 2 1, 3) := by decide +kernel
theorem dX7_firstSwap_105 : decode cX7_firstSwap 105 = .ok (.goto (-103), 3) := by decide +kernel
theorem dX7_firstSwap_108 : decode cX7_firstSwap 108 = .ok (.bipush (-4), 2) := by decide +kernel
theorem dX7_firstSwap_110 : decode cX7_firstSwap 110 = .ok (.ireturn, 1) := by decide +kernel
theorem dX7_bothWant_0 : decode cX7_bothWant 0 = .ok (.aload_n 0, 1) := by decide +kernel
theorem dX7_bothWant_1 : decode cX7_bothWant 1 = .ok (.iload_n 1, 1) := by decide +kernel
theorem dX7_bothWant_2 : decode cX7_bothWant 2 = .ok (.iload 4, 2) := by decide +kernel
theorem dX7_bothWant_4 : decode cX7_bothWant 4 = .ok (.iload 5, 2) := by decide +kernel
theorem dX7_bothWant_6 : decode cX7_bothWant 6 = .ok (.invokevirtual 117, 3) := by decide +kernel
theorem dX7_bothWant_9 : decode cX7_bothWant 9 = .ok (.iconst 1, 1) := by decide +kernel
theorem dX7_bothWant_10 : decode cX7_bothWant 10 = .ok (.if_icmp .ne 51, 3) := by decide +kernel
theorem dX7_bothWant_13 : decode cX7_bothWant 13 = .ok (.aload_n 0, 1) := by decide +kernel
theorem dX7_bothWant_14 : decode cX7_bothWant 14 = .ok (.iload_n 3, 1) := by decide +kernel
theorem dX7_bothWant_15 : decode cX7_bothWant 15 = .ok (.iload_n 2, 1) := by decide +kernel
theorem dX7_bothWant_16 : decode cX7_bothWant 16 = .ok (.iload 5, 2) := by decide +kernel
theorem dX7_bothWant_18 : decode cX7_bothWant 18 = .ok (.invokevirtual 117, 3) := by decide +kernel
theorem dX7_bothWant_21 : decode cX7_bothWant 21 = .ok (.iconst 1, 1) := by decide +kernel
theorem dX7_bothWant_22 : decode cX7_bothWant 22 = .ok (.if_icmp .ne 39, 3) := by decide +kernel
theorem dX7_bothWant_25 : decode cX7_bothWant 25 = .ok (.aload_n 0, 1) := by decide +kernel
theorem dX7_bothWant_26 : decode cX7_bothWant 26 = .ok (.iload_n 1, 1) := by decide +kernel
theorem dX7_bothWant_27 : decode cX7_bothWant 27 = .ok (.iload 4, 2) := by decide +kernel
theorem dX7_bothWant_29 : decode cX7_bothWant 29 = .ok (.invokevirtual 130, 3) := by decide +kernel
theorem dX7_bothWant_32 : decode cX7_bothWant 32 = .ok (.aload_n 0, 1) := by decide +kernel
theorem dX7_bothWant_33 : decode cX7_bothWant 33 = .ok (.iload_n 1, 1) := by decide +kernel
theorem dX7_bothWant_34 : decode cX7_bothWant 34 = .ok (.iload_n 2, 1) := by decide +kernel
theorem dX7_bothWant_35 : decode cX7_bothWant 35 = .ok (.invokevirtual 130, 3) := by decide +kernel
theorem dX7_bothWant_38 : decode cX7_bothWant 38 = .ok (.if_icmp .le 23, 3) := by decide +kernel
theorem dX7_bothWant_41 : decode cX7_bothWant 41 = .ok (.aload_n 0, 1) := by decide +kernel
theorem dX7_bothWant_42 : decode cX7_bothWant 42 = .ok (.iload_n 3, 1) := by decide +kernel
theorem dX7_bothWant_43 : decode cX7_bothWant 43 = .ok (.iload_n 2, 1) := by decide +kernel
theorem dX7_bothWant_44 : decode cX7_bothWant 44 = .ok (.invokevirtual 130, 3) := by decide +kernel
theorem dX7_bothWant_47 : decode cX7_bothWant 47 = .ok (.aload_n 0, 1) := by decide +kernel
theorem dX7_bothWant_48 : decode cX7_bothWant 48 = .ok (.iload_n 3, 1) := by decide +kernel
theorem dX7_bothWant_49 : decode cX7_bothWant 49 = .ok (.iload 4, 2) := by decide +kernel
theorem dX7_bothWant_51 : decode cX7_bothWant 51 = .ok (.invokevirtual 130, 3) := by decide +kernel
theorem dX7_bothWant_54 : decode cX7_bothWant 54 = .ok (.if_icmp .le 7, 3) := by decide +kernel
theorem dX7_bothWant_57 : decode cX7_bothWant 57 = .ok (.iconst 1, 1) := by decide +kernel
theorem dX7_bothWant_58 : decode cX7_bothWant 58 = .ok (.goto 4, 3) := by decide +kernel
theorem dX7_bothWant_61 : decode cX7_bothWant 61 = .ok (.iconst 0, 1) := by decide +kernel
theorem dX7_bothWant_62 : decode cX7_bothWant 62 = .ok (.ireturn, 1) := by decide +kernel
theorem dX7_makeSwap_0 : decode cX7_makeSwap 0 = .ok (.aload_n 0, 1) := by decide +kernel
theorem dX7_makeSwap_1 : decode cX7_makeSwap 1 = .ok (.iload_n 2, 1) := by decide +kernel
theorem dX7_makeSwap_2 : decode cX7_makeSwap 2 = .ok (.iload_n 1, 1) := by decide +kernel
theorem dX7_makeSwap_3 : decode cX7_makeSwap 3 = .ok (.invokevirtual 99, 3) := by decide +kernel
theorem dX7_makeSwap_6 : decode cX7_makeSwap 6 = .ok (.istore 4, 2) := by decide +kernel
theorem dX7_makeSwap_8 : decode cX7_makeSwap 8 = .ok (.aload_n 0, 1) := by decide +kernel
theorem dX7_makeSwap_9 : decode cX7_makeSwap 9 = .ok (.iload_n 3, 1) := by decide +kernel
theorem dX7_makeSwap_10 : decode cX7_makeSwap 10 = .ok (.iload_n 1, 1) := by decide +kernel
theorem dX7_makeSwap_11 : decode cX7_makeSwap 11 = .ok (.invokevirtual 99, 3) := by decide +kernel
theorem dX7_makeSwap_14 : decode cX7_makeSwap 14 = .ok (.istore 5, 2) := by decide +kernel
theorem dX7_makeSwap_16 : decode cX7_makeSwap 16 = .ok (.aload_n 0, 1) := by decide +kernel
theorem dX7_makeSwap_17 : decode cX7_makeSwap 17 = .ok (.iload 4, 2) := by decide +kernel
theorem dX7_makeSwap_19 : decode cX7_makeSwap 19 = .ok (.invokevirtual 133, 3) := by decide +kernel
theorem dX7_makeSwap_22 : decode cX7_makeSwap 22 = .ok (.ifCond .eq 34, 3) := by decide +kernel
theorem dX7_makeSwap_25 : decode cX7_makeSwap 25 = .ok (.aload_n 0, 1) := by decide +kernel
theorem dX7_makeSwap_26 : decode cX7_makeSwap 26 = .ok (.iload 5, 2) := by decide +kernel
theorem dX7_makeSwap_28 : decode cX7_makeSwap 28 = .ok (.invokevirtual 133, 3) := by decide +kernel
theorem dX7_makeSwap_31 : decode cX7_makeSwap 31 = .ok (.ifCond .eq 25, 3) := by decide +kernel
theorem dX7_makeSwap_34 : decode cX7_makeSwap 34 = .ok (.aload_n 0, 1) := by decide +kernel
theorem dX7_makeSwap_35 : decode cX7_makeSwap 35 = .ok (.getfield 19, 3) := by decide +kernel
theorem dX7_makeSwap_38 : decode cX7_makeSwap 38 = .ok (.iload 4, 2) := by decide +kernel
theorem dX7_makeSwap_40 : decode cX7_makeSwap 40 = .ok (.aaload, 1) := by decide +kernel
theorem dX7_makeSwap_41 : decode cX7_makeSwap 41 = .ok (.iload_n 3, 1) := by decide +kernel
theorem dX7_makeSwap_42 : decode cX7_makeSwap 42 = .ok (.putfield 91, 3) := by decide +kernel
theorem dX7_makeSwap_45 : decode cX7_makeSwap 45 = .ok (.aload_n 0, 1) := by decide +kernel
theorem dX7_makeSwap_46 : decode cX7_makeSwap 46 = .ok (.getfield 19, 3) := by decide +kernel
theorem dX7_makeSwap_49 : decode cX7_makeSwap 49 = .ok (.iload 5, 2) := by decide +kernel
theorem dX7_makeSwap_51 : decode cX7_makeSwap 51 = .ok (.aaload, 1) := by decide +kernel
theorem dX7_makeSwap_52 : decode cX7_makeSwap 52 = .ok (.iload_n 2, 1) := by decide +kernel
theorem dX7_makeSwap_53 : decode cX7_makeSwap 53 = .ok (.putfield 91, 3) := by decide +kernel
theorem dX7_makeSwap_56 : decode cX7_makeSwap 56 = .ok (.return_, 1) := by decide +kernel
theorem dX8_init_0 : decode cX8_init 0 = .ok (.aload_n 0, 1) := by decide +kernel
theorem dX8_init_1 : decode cX8_init 1 = .ok (.invokespecial 1, 3) := by decide +kernel
theorem dX8_init_4 : decode cX8_init 4 = .ok (.aload_n 0, 1) := by decide +kernel
theorem dX8_init_5 : decode cX8_init 5 = .ok (.new 7, 3) := by decide +kernel
theorem dX8_init_8 : decode cX8_init 8 = .ok (.dup, 1) := by decide +kernel
theorem dX8_init_9 : decode cX8_init 9 = .ok (.invokespecial 9, 3) := by decide +kernel
theorem dX8_init_12 : decode cX8_init 12 = .ok (.putfield 10, 3) := by decide +kernel
theorem dX8_init_15 : decode cX8_init 15 = .ok (.aload_n 0, 1) := by decide +kernel
theorem dX8_init_16 : decode cX8_init 16 = .ok (.new 16, 3) := by decide +kernel
theorem dX8_init_19 : decode cX8_init 19 = .ok (.dup, 1) := by decide +kernel
theorem dX8_init_20 : decode cX8_init 20 = .ok (.invokespecial 18, 3) := by decide +kernel
theorem dX8_init_23 : decode cX8_init 23 = .ok (.putfield 19, 3) := by decide +kernel
theorem dX8_init_26 : decode cX8_init 26 = .ok (.aload_n 0, 1) := by decide +kernel
theorem dX8_init_27 : decode cX8_init 27 = .ok (.new 16, 3) := by decide +kernel
theorem dX8_init_30 : decode cX8_init 30 = .ok (.dup, 1) := by decide +kernel
theorem dX8_init_31 : decode cX8_init 31 = .ok (.invokespecial 18, 3) := by decide +kernel
theorem dX8_init_34 : decode cX8_init 34 = .ok (.putfield 23, 3) := by decide +kernel
theorem dX8_init_37 : decode cX8_init 37 = .ok (.aload_n 0, 1) := by decide +kernel
theorem dX8_init_38 : decode cX8_init 38 = .ok (.new 26, 3) := by decide +kernel
theorem dX8_init_41 : decode cX8_init 41 = .ok (.dup, 1) := by decide +kernel
theorem dX8_init_42 : decode cX8_init 42 = .ok (.aload_n 0, 1) := by decide +kernel
theorem dX8_init_43 : decode cX8_init 43 = .ok (.getfield 10, 3) := by decide +kernel
theorem dX8_init_46 : decode cX8_init 46 = .ok (.aload_n 0, 1) := by decide +kernel
theorem dX8_init_47 : decode cX8_init 47 = .ok (.getfield 23, 3) := by decide +kernel
theorem dX8_init_50 : decode cX8_init 50 = .ok (.invokespecial 28, 3) := by decide +kernel
theorem dX8_init_53 : decode cX8_init 53 = .ok (.putfield 31, 3) := by decide +kernel
theorem dX8_init_56 : decode cX8_init 56 = .ok (.aload_n 0, 1) := by decide +kernel
theorem dX8_init_57 : decode cX8_init 57 = .ok (.iconst 2, 1) := by decide +kernel
theorem dX8_init_58 : decode cX8_init 58 = .ok (.anewarray 16, 3) := by decide +kernel
theorem dX8_init_61 : decode cX8_init 61 = .ok (.putfield 35, 3) := by decide +kernel
theorem dX8_init_64 : decode cX8_init 64 = .ok (.aload_n 0, 1) := by decide +kernel
theorem dX8_init_65 : decode cX8_init 65 = .ok (.iconst 2, 1) := by decide +kernel
theorem dX8_init_66 : decode cX8_init 66 = .ok (.newarray .boolean, 2) := by decide +kernel
theorem dX8_init_68 : decode cX8_init 68 = .ok (.putfield 39, 3) := by decide +kernel
theorem dX8_init_71 : decode cX8_init 71 = .ok (.aload_n 0, 1) := by decide +kernel
theorem dX8_init_72 : decode cX8_init 72 = .ok (.iconst 4, 1) := by decide +kernel
theorem dX8_init_73 : decode cX8_init 73 = .ok (.anewarray 43, 3) := by decide +kernel
theorem dX8_init_76 : decode cX8_init 76 = .ok (.putfield 45, 3) := by decide +kernel
theorem dX8_init_79 : decode cX8_init 79 = .ok (.aload_n 0, 1) := by decide +kernel
theorem dX8_init_80 : decode cX8_init 80 = .ok (.new 49, 3) := by decide +kernel
theorem dX8_init_83 : decode cX8_init 83 = .ok (.dup, 1) := by decide +kernel
theorem dX8_init_84 : decode cX8_init 84 = .ok (.invokespecial 51, 3) := by decide +kernel
theorem dX8_init_87 : decode cX8_init 87 = .ok (.putfield 52, 3) := by decide +kernel
theorem dX8_init_90 : decode cX8_init 90 = .ok (.aload_n 0, 1) := by decide +kernel
theorem dX8_init_91 : decode cX8_init 91 = .ok (.new 56, 3) := by decide +kernel
theorem dX8_init_94 : decode cX8_init 94 = .ok (.dup, 1) := by decide +kernel
theorem dX8_init_95 : decode cX8_init 95 = .ok (.invokespecial 58, 3) := by decide +kernel
theorem dX8_init_98 : decode cX8_init 98 = .ok (.putfield 59, 3) := by decide +kernel
theorem dX8_init_101 : decode cX8_init 101 = .ok (.aload_n 0, 1) := by decide +kernel
theorem dX8_init_102 : decode cX8_init 102 = .ok (.iconst 4, 1) := by decide +kernel
theorem dX8_init_103 : decode cX8_init 103 = .ok (.newarray .int, 2) := by decide +kernel
theorem dX8_init_105 : decode cX8_init 105 = .ok (.putfield 63, 3) := by decide +kernel
theorem dX8_init_108 : decode cX8_init 108 = .ok (.aload_n 0, 1) := by decide +kernel
theorem dX8_init_109 : decode cX8_init 109 = .ok (.iconst 2, 1) := by decide +kernel
theorem dX8_init_110 : decode cX8_init 110 = .ok (.putfield 67, 3) := by decide +kernel
theorem dX8_init_113 : decode cX8_init 113 = .ok (.aload_n 0, 1) := by decide +kernel
theorem dX8_init_114 : decode cX8_init 114 = .ok (.iconst 0, 1) := by decide +kernel
theorem dX8_init_115 : decode cX8_init 115 = .ok (.putfield 71, 3) := by decide +kernel
theorem dX8_init_118 : decode cX8_init 118 = .ok (.aload_n 0, 1) := by decide +kernel
theorem dX8_init_119 : decode cX8_init 119 = .ok (.iconst 0, 1) := by decide +kernel
theorem dX8_init_120 : decode cX8_init 120 = .ok (.putfield 74, 3) := by decide +kernel
theorem dX8_init_123 : decode cX8_init 123 = .ok (.iconst 0, 1) := by decide +kernel
theorem dX8_init_124 : decode cX8_init 124 = .ok (.istore_n 1, 1) := by decide +kernel
theorem dX8_init_125 : decode cX8_init 125 = .ok (.iload_n 1, 1) := by decide +kernel
theorem dX8_init_126 : decode cX8_init 126 = .ok (.iconst 2, 1) := by decide +kernel
theorem dX8_init_127 : decode cX8_init 127 = .ok (.if_icmp .ge 22, 3) := by decide +kernel
theorem dX8_init_130 : decode cX8_init 130 = .ok (.aload_n 0, 1) := by decide +kernel
theorem dX8_init_131 : decode cX8_init 131 = .ok (.getfield 35, 3) := by decide +kernel
theorem dX8_init_134 : decode cX8_init 134 = .ok (.iload_n 1, 1) := by decide +kernel
theorem dX8_init_135 : decode cX8_init 135 = .ok (.new 16, 3) := by decide +kernel
theorem dX8_init_138 : decode cX8_init 138 = .ok (.dup, 1) := by decide +kernel
theorem dX8_init_139 : decode cX8_init 139 = .ok (.invokespecial 18, 3) := by decide +kernel
theorem dX8_init_142 : decode cX8_init 142 = .ok (.aastore, 1) := by decide +kernel
theorem dX8_init_143 : decode cX8_init 143 = .ok (.iinc 1 1, 3) := by decide +kernel
theorem dX8_init_146 : decode cX8_init 146 = .ok (.goto (-21), 3) := by decide +kernel
theorem dX8_init_149 : decode cX8_init 149 = .ok (.iconst 0, 1) := by decide +kernel
theorem dX8_init_150 : decode cX8_init 150 = .ok (.istore_n 1, 1) := by decide +kernel
theorem dX8_init_151 : decode cX8_init 151 = .ok (.iload_n 1, 1) := by decide +kernel
theorem dX8_init_152 : decode cX8_init 152 = .ok (.iconst 4, 1) := by decide +kernel
theorem dX8_init_153 : decode cX8_init 153 = .ok (.if_icmp .ge 22, 3) := by decide +kernel
theorem dX8_init_156 : decode cX8_init 156 = .ok (.aload_n 0, 1) := by decide +kernel
theorem dX8_init_157 : decode cX8_init 157 = .ok (.getfield 45, 3) := by decide +kernel
theorem dX8_init_160 : decode cX8_init 160 = .ok (.iload_n 1, 1) := by decide +kernel
theorem dX8_init_161 : decode cX8_init 161 = .ok (.new 43, 3) := by decide +kernel
theorem dX8_init_164 : decode cX8_init 164 = .ok (.dup, 1) := by decide +kernel
theorem dX8_init_165 : decode cX8_init 165 = .ok (.invokespecial 77, 3) := by decide +kernel
theorem dX8_init_168 : decode cX8_init 168 = .ok (.aastore, 1) := by decide +kernel
theorem dX8_init_169 : decode cX8_init 169 = .ok (.iinc 1 1, 3) := by decide +kernel
theorem dX8_init_172 : decode cX8_init 172 = .ok (.goto (-21), 3) := by decide +kernel
theorem dX8_init_175 : decode cX8_init 175 = .ok (.return_, 1) := by decide +kernel
theorem dX8_feed_0 : decode cX8_feed 0 = .ok (.aload_n 0, 1) := by decide +kernel
theorem dX8_feed_1 : decode cX8_feed 1 = .ok (.getfield 10, 3) := by decide +kernel
theorem dX8_feed_4 : decode cX8_feed 4 = .ok (.lload_n 1, 1) := by decide +kernel
theorem dX8_feed_5 : decode cX8_feed 5 = .ok (.invokevirtual 78, 3) := by decide +kernel
theorem dX8_feed_8 : decode cX8_feed 8 = .ok (.ifCond .eq 13, 3) := by decide +kernel
theorem dX8_feed_11 : decode cX8_feed 11 = .ok (.aload_n 0, 1) := by decide +kernel
theorem dX8_feed_12 : decode cX8_feed 12 = .ok (.getfield 10, 3) := by decide +kernel
theorem dX8_feed_15 : decode cX8_feed 15 = .ok (.getfield 82, 3) := by decide +kernel
theorem dX8_feed_18 : decode cX8_feed 18 = .ok (.goto 5, 3) := by decide +kernel
theorem dX8_feed_21 : decode cX8_feed 21 = .ok (.bipush (-3), 2) := by decide +kernel
theorem dX8_feed_23 : decode cX8_feed 23 = .ok (.ireturn, 1) := by decide +kernel
theorem dX8_end_0 : decode cX8_end 0 = .ok (.iload_n 1, 1) := by decide +kernel
theorem dX8_end_1 : decode cX8_end 1 = .ok (.iconst 0, 1) := by decide +kernel
theorem dX8_end_2 : decode cX8_end 2 = .ok (.aload_n 0, 1) := by decide +kernel
theorem dX8_end_3 : decode cX8_end 3 = .ok (.getfield 10, 3) := by decide +kernel
theorem dX8_end_6 : decode cX8_end 6 = .ok (.getfield 82, 3) := by decide +kernel
theorem dX8_end_9 : decode cX8_end 9 = .ok (.invokestatic 85, 3) := by decide +kernel
theorem dX8_end_12 : decode cX8_end 12 = .ok (.ifCond .ne 5, 3) := by decide +kernel
theorem dX8_end_15 : decode cX8_end 15 = .ok (.iconst (-1), 1) := by decide +kernel
theorem dX8_end_16 : decode cX8_end 16 = .ok (.ireturn, 1) := by decide +kernel
theorem dX8_end_17 : decode cX8_end 17 = .ok (.aload_n 0, 1) := by decide +kernel
theorem dX8_end_18 : decode cX8_end 18 = .ok (.getfield 10, 3) := by decide +kernel
theorem dX8_end_21 : decode cX8_end 21 = .ok (.getfield 82, 3) := by decide +kernel
theorem dX8_end_24 : decode cX8_end 24 = .ok (.istore_n 2, 1) := by decide +kernel
theorem dX8_end_25 : decode cX8_end 25 = .ok (.aload_n 0, 1) := by decide +kernel
theorem dX8_end_26 : decode cX8_end 26 = .ok (.getfield 10, 3) := by decide +kernel
theorem dX8_end_29 : decode cX8_end 29 = .ok (.iload_n 1, 1) := by decide +kernel
theorem dX8_end_30 : decode cX8_end 30 = .ok (.putfield 82, 3) := by decide +kernel
theorem dX8_end_33 : decode cX8_end 33 = .ok (.iload_n 2, 1) := by decide +kernel
theorem dX8_end_34 : decode cX8_end 34 = .ok (.ireturn, 1) := by decide +kernel
theorem dX8_text_0 : decode cX8_text 0 = .ok (.aload_n 0, 1) := by decide +kernel
theorem dX8_text_1 : decode cX8_text 1 = .ok (.getfield 31, 3) := by decide +kernel
theorem dX8_text_4 : decode cX8_text 4 = .ok (.invokevirtual 89, 3) := by decide +kernel
theorem dX8_text_7 : decode cX8_text 7 = .ok (.istore_n 1, 1) := by decide +kernel
theorem dX8_text_8 : decode cX8_text 8 = .ok (.aload_n 0, 1) := by decide +kernel
theorem dX8_text_9 : decode cX8_text 9 = .ok (.getfield 10, 3) := by decide +kernel
theorem dX8_text_12 : decode cX8_text 12 = .ok (.iconst 0, 1) := by decide +kernel
theorem dX8_text_13 : decode cX8_text 13 = .ok (.putfield 82, 3) := by decide +kernel
theorem dX8_text_16 : decode cX8_text 16 = .ok (.aload_n 0, 1) := by decide +kernel
theorem dX8_text_17 : decode cX8_text 17 = .ok (.aload_n 0, 1) := by decide +kernel
theorem dX8_text_18 : decode cX8_text 18 = .ok (.getfield 31, 3) := by decide +kernel
theorem dX8_text_21 : decode cX8_text 21 = .ok (.getfield 93, 3) := by decide +kernel
theorem dX8_text_24 : decode cX8_text 24 = .ok (.putfield 71, 3) := by decide +kernel
theorem dX8_text_27 : decode cX8_text 27 = .ok (.aload_n 0, 1) := by decide +kernel
theorem dX8_text_28 : decode cX8_text 28 = .ok (.getfield 71, 3) := by decide +kernel
theorem dX8_text_31 : decode cX8_text 31 = .ok (.ifCond .eq 14, 3) := by decide +kernel
theorem dX8_text_34 : decode cX8_text 34 = .ok (.bipush (-10), 2) := by decide +kernel
theorem dX8_text_36 : decode cX8_text 36 = .ok (.aload_n 0, 1) := by decide +kernel
theorem dX8_text_37 : decode cX8_text 37 = .ok (.getfield 31, 3) := by decide +kernel
theorem dX8_text_40 : decode cX8_text 40 = .ok (.getfield 96, 3) := by decide +kernel
theorem dX8_text_43 : decode cX8_text 43 = .ok (.isub, 1) := by decide +kernel
theorem dX8_text_44 : decode cX8_text 44 = .ok (.ireturn, 1) := by decide +kernel
theorem dX8_text_45 : decode cX8_text 45 = .ok (.aload_n 0, 1) := by decide +kernel
theorem dX8_text_46 : decode cX8_text 46 = .ok (.getfield 19, 3) := by decide +kernel
theorem dX8_text_49 : decode cX8_text 49 = .ok (.aload_n 0, 1) := by decide +kernel
theorem dX8_text_50 : decode cX8_text 50 = .ok (.getfield 23, 3) := by decide +kernel
theorem dX8_text_53 : decode cX8_text 53 = .ok (.invokevirtual 99, 3) := by decide +kernel
theorem dX8_text_56 : decode cX8_text 56 = .ok (.aload_n 0, 1) := by decide +kernel
theorem dX8_text_57 : decode cX8_text 57 = .ok (.aload_n 0, 1) := by decide +kernel
theorem dX8_text_58 : decode cX8_text 58 = .ok (.getfield 31, 3) := by decide +kernel
theorem dX8_text_61 : decode cX8_text 61 = .ok (.getfield 103, 3) := by decide +kernel
theorem dX8_text_64 : decode cX8_text 64 = .ok (.putfield 67, 3) := by decide +kernel
theorem dX8_text_67 : decode cX8_text 67 = .ok (.iconst 0, 1) := by decide +kernel
theorem dX8_text_68 : decode cX8_text 68 = .ok (.istore_n 2, 1) := by decide +kernel
theorem dX8_text_69 : decode cX8_text 69 = .ok (.iload_n 2, 1) := by decide +kernel
theorem dX8_text_70 : decode cX8_text 70 = .ok (.iconst 2, 1) := by decide +kernel
theorem dX8_text_71 : decode cX8_text 71 = .ok (.if_icmp .ge 16, 3) := by decide +kernel
theorem dX8_text_74 : decode cX8_text 74 = .ok (.aload_n 0, 1) := by decide +kernel
theorem dX8_text_75 : decode cX8_text 75 = .ok (.getfield 39, 3) := by decide +kernel
theorem dX8_text_78 : decode cX8_text 78 = .ok (.iload_n 2, 1) := by decide +kernel
theorem dX8_text_79 : decode cX8_text 79 = .ok (.iconst 0, 1) := by decide +kernel
theorem dX8_text_80 : decode cX8_text 80 = .ok (.bastore, 1) := by decide +kernel
theorem dX8_text_81 : decode cX8_text 81 = .ok (.iinc 2 1, 3) := by decide +kernel
theorem dX8_text_84 : decode cX8_text 84 = .ok (.goto (-15), 3) := by decide +kernel
theorem dX8_text_87 : decode cX8_text 87 = .ok (.iload_n 1, 1) := by decide +kernel
theorem dX8_text_88 : decode cX8_text 88 = .ok (.ireturn, 1) := by decide +kernel
theorem dX8_fault_0 : decode cX8_fault 0 = .ok (.aload_n 0, 1) := by decide +kernel
theorem dX8_fault_1 : decode cX8_fault 1 = .ok (.getfield 71, 3) := by decide +kernel
theorem dX8_fault_4 : decode cX8_fault 4 = .ok (.ireturn, 1) := by decide +kernel
theorem dX8_child_0 : decode cX8_child 0 = .ok (.aload_n 0, 1) := by decide +kernel
theorem dX8_child_1 : decode cX8_child 1 = .ok (.getfield 19, 3) := by decide +kernel
theorem dX8_child_4 : decode cX8_child 4 = .ok (.iload_n 1, 1) := by decide +kernel
theorem dX8_child_5 : decode cX8_child 5 = .ok (.invokevirtual 106, 3) := by decide +kernel
theorem dX8_child_8 : decode cX8_child 8 = .ok (.ifCond .ne 5, 3) := by decide +kernel
theorem dX8_child_11 : decode cX8_child 11 = .ok (.iconst (-1), 1) := by decide +kernel
theorem dX8_child_12 : decode cX8_child 12 = .ok (.ireturn, 1) := by decide +kernel
theorem dX8_child_13 : decode cX8_child 13 = .ok (.iload_n 2, 1) := by decide +kernel
theorem dX8_child_14 : decode cX8_child 14 = .ok (.tableswitch 121 0 11 #[62, 75, 88, 121, 121, 121, 121, 121, 121, 121, 101, 111], 62) := by decide +kernel
theorem dX8_child_76 : decode cX8_child 76 = .ok (.aload_n 0, 1) := by decide +kernel
theorem dX8_child_77 : decode cX8_child 77 = .ok (.getfield 19, 3) := by decide +kernel
theorem dX8_child_80 : decode cX8_child 80 = .ok (.getfield 110, 3) := by decide +kernel
theorem dX8_child_83 : decode cX8_child 83 = .ok (.iload_n 1, 1) := by decide +kernel
theorem dX8_child_84 : decode cX8_child 84 = .ok (.aaload, 1) := by decide +kernel
theorem dX8_child_85 : decode cX8_child 85 = .ok (.getfield 114, 3) := by decide +kernel
theorem dX8_child_88 : decode cX8_child 88 = .ok (.ireturn, 1) := by decide +kernel
theorem dX8_child_89 : decode cX8_child 89 = .ok (.aload_n 0, 1) := by decide +kernel
theorem dX8_child_90 : decode cX8_child 90 = .ok (.getfield 19, 3) := by decide +kernel
theorem dX8_child_93 : decode cX8_child 93 = .ok (.getfield 110, 3) := by decide +kernel
theorem dX8_child_96 : decode cX8_child 96 = .ok (.iload_n 1, 1) := by decide +kernel
theorem dX8_child_97 : decode cX8_child 97 = .ok (.aaload, 1) := by decide +kernel
theorem dX8_child_98 : decode cX8_child 98 = .ok (.getfield 119, 3) := by decide +kernel
theorem dX8_child_101 : decode cX8_child 101 = .ok (.ireturn, 1) := by decide +kernel
theorem dX8_child_102 : decode cX8_child 102 = .ok (.aload_n 0, 1) := by decide +kernel
theorem dX8_child_103 : decode cX8_child 103 = .ok (.getfield 19, 3) := by decide +kernel
theorem dX8_child_106 : decode cX8_child 106 = .ok (.getfield 110, 3) := by decide +kernel
theorem dX8_child_109 : decode cX8_child 109 = .ok (.iload_n 1, 1) := by decide +kernel
theorem dX8_child_110 : decode cX8_child 110 = .ok (.aaload, 1) := by decide +kernel
theorem dX8_child_111 : decode cX8_child 111 = .ok (.getfield 122, 3) := by decide +kernel
theorem dX8_child_114 : decode cX8_child 114 = .ok (.ireturn, 1) := by decide +kernel
theorem dX8_child_115 : decode cX8_child 115 = .ok (.aload_n 0, 1) := by decide +kernel
theorem dX8_child_116 : decode cX8_child 116 = .ok (.getfield 19, 3) := by decide +kernel
theorem dX8_child_119 : decode cX8_child 119 = .ok (.iload_n 1, 1) := by decide +kernel
theorem dX8_child_120 : decode cX8_child 120 = .ok (.iconst 0, 1) := by decide +kernel
theorem dX8_child_121 : decode cX8_child 121 = .ok (.invokevirtual 125, 3) := by decide +kernel
theorem dX8_child_124 : decode cX8_child 124 = .ok (.ireturn, 1) := by decide +kernel
theorem dX8_child_125 : decode cX8_child 125 = .ok (.aload_n 0, 1) := by decide +kernel
theorem dX8_child_126 : decode cX8_child 126 = .ok (.getfield 19, 3) := by decide +kernel
theorem dX8_child_129 : decode cX8_child 129 = .ok (.iload_n 1, 1) := by decide +kernel
theorem dX8_child_130 : decode cX8_child 130 = .ok (.iconst 1, 1) := by decide +kernel
theorem dX8_child_131 : decode cX8_child 131 = .ok (.invokevirtual 125, 3) := by decide +kernel
theorem dX8_child_134 : decode cX8_child 134 = .ok (.ireturn, 1) := by decide +kernel
theorem dX8_child_135 : decode cX8_child 135 = .ok (.iconst (-1), 1) := by decide +kernel
theorem dX8_child_136 : decode cX8_child 136 = .ok (.ireturn, 1) := by decide +kernel
theorem dX8_thing_0 : decode cX8_thing 0 = .ok (.aload_n 0, 1) := by decide +kernel
theorem dX8_thing_1 : decode cX8_thing 1 = .ok (.getfield 19, 3) := by decide +kernel
theorem dX8_thing_4 : decode cX8_thing 4 = .ok (.iload_n 1, 1) := by decide +kernel
theorem dX8_thing_5 : decode cX8_thing 5 = .ok (.invokevirtual 129, 3) := by decide +kernel
theorem dX8_thing_8 : decode cX8_thing 8 = .ok (.ifCond .ne 5, 3) := by decide +kernel
theorem dX8_thing_11 : decode cX8_thing 11 = .ok (.iconst (-1), 1) := by decide +kernel
theorem dX8_thing_12 : decode cX8_thing 12 = .ok (.ireturn, 1) := by decide +kernel
theorem dX8_thing_13 : decode cX8_thing 13 = .ok (.aload_n 0, 1) := by decide +kernel
theorem dX8_thing_14 : decode cX8_thing 14 = .ok (.getfield 19, 3) := by decide +kernel
theorem dX8_thing_17 : decode cX8_thing 17 = .ok (.getfield 132, 3) := by decide +kernel
theorem dX8_thing_20 : decode cX8_thing 20 = .ok (.iload_n 1, 1) := by decide +kernel
theorem dX8_thing_21 : decode cX8_thing 21 = .ok (.aaload, 1) := by decide +kernel
theorem dX8_thing_22 : decode cX8_thing 22 = .ok (.astore_n 3, 1) := by decide +kernel
theorem dX8_thing_23 : decode cX8_thing 23 = .ok (.iload_n 2, 1) := by decide +kernel
theorem dX8_thing_24 : decode cX8_thing 24 = .ok (.tableswitch 96 0 7 #[48, 53, 58, 63, 68, 73, 86, 91], 48) := by decide +kernel
theorem dX8_thing_72 : decode cX8_thing 72 = .ok (.aload_n 3, 1) := by decide +kernel
theorem dX8_thing_73 : decode cX8_thing 73 = .ok (.getfield 136, 3) := by decide +kernel
theorem dX8_thing_76 : decode cX8_thing 76 = .ok (.ireturn, 1) := by decide +kernel
theorem dX8_thing_77 : decode cX8_thing 77 = .ok (.aload_n 3, 1) := by decide +kernel
theorem dX8_thing_78 : decode cX8_thing 78 = .ok (.getfield 141, 3) := by decide +kernel
theorem dX8_thing_81 : decode cX8_thing 81 = .ok (.ireturn, 1) := by decide +kernel
theorem dX8_thing_82 : decode cX8_thing 82 = .ok (.aload_n 3, 1) := by decide +kernel
theorem dX8_thing_83 : decode cX8_thing 83 = .ok (.getfield 144, 3) := by decide +kernel
theorem dX8_thing_86 : decode cX8_thing 86 = .ok (.ireturn, 1) := by decide +kernel
theorem dX8_thing_87 : decode cX8_thing 87 = .ok (.aload_n 3, 1) := by decide +kernel
theorem dX8_thing_88 : decode cX8_thing 88 = .ok (.getfield 145, 3) := by decide +kernel
theorem dX8_thing_91 : decode cX8_thing 91 = .ok (.ireturn, 1) := by decide +kernel
theorem dX8_thing_92 : decode cX8_thing 92 = .ok (.aload_n 3, 1) := by decide +kernel
theorem dX8_thing_93 : decode cX8_thing 93 = .ok (.getfield 148, 3) := by decide +kernel
theorem dX8_thing_96 : decode cX8_thing 96 = .ok (.ireturn, 1) := by decide +kernel
theorem dX8_thing_97 : decode cX8_thing 97 = .ok (.aload_n 3, 1) := by decide +kernel
theorem dX8_thing_98 : decode cX8_thing 98 = .ok (.getfield 151, 3) := by decide +kernel
theorem dX8_thing_101 : decode cX8_thing 101 = .ok (.ifCond .eq 7, 3) := by decide +kernel
theorem dX8_thing_104 : decode cX8_thing 104 = .ok (.iconst 1, 1) := by decide +kernel
theorem dX8_thing_105 : decode cX8_thing 105 = .ok (.goto 4, 3) := by decide +kernel
theorem dX8_thing_108 : decode cX8_thing 108 = .ok (.iconst 0, 1) := by decide +kernel
theorem dX8_thing_109 : decode cX8_thing 109 = .ok (.ireturn, 1) := by decide +kernel
theorem dX8_thing_110 : decode cX8_thing 110 = .ok (.aload_n 3, 1) := by decide +kernel
theorem dX8_thing_111 : decode cX8_thing 111 = .ok (.getfield 155, 3) := by decide +kernel
theorem dX8_thing_114 : decode cX8_thing 114 = .ok (.ireturn, 1) := by decide +kernel
theorem dX8_thing_115 : decode cX8_thing 115 = .ok (.aload_n 3, 1) := by decide +kernel
theorem dX8_thing_116 : decode cX8_thing 116 = .ok (.getfield 158, 3) := by decide +kernel
theorem dX8_thing_119 : decode cX8_thing 119 = .ok (.ireturn, 1) := by decide +kernel
theorem dX8_thing_120 : decode cX8_thing 120 = .ok (.iconst (-1), 1) := by decide +kernel
theorem dX8_thing_121 : decode cX8_thing 121 = .ok (.ireturn, 1) := by decide +kernel
theorem dX8_slack_0 : decode cX8_slack 0 = .ok (.iload_n 1, 1) := by decide +kernel
theorem dX8_slack_1 : decode cX8_slack 1 = .ok (.iconst 0, 1) := by decide +kernel
theorem dX8_slack_2 : decode cX8_slack 2 = .ok (.iconst 4, 1) := by decide +kernel
theorem dX8_slack_3 : decode cX8_slack 3 = .ok (.invokestatic 85, 3) := by decide +kernel
theorem dX8_slack_6 : decode cX8_slack 6 = .ok (.ifCond .ne 5, 3) := by decide +kernel
theorem dX8_slack_9 : decode cX8_slack 9 = .ok (.iconst (-1), 1) := by decide +kernel
theorem dX8_slack_10 : decode cX8_slack 10 = .ok (.ireturn, 1) := by decide +kernel
theorem dX8_slack_11 : decode cX8_slack 11 = .ok (.aload_n 0, 1) := by decide +kernel
theorem dX8_slack_12 : decode cX8_slack 12 = .ok (.getfield 67, 3) := by decide +kernel
theorem dX8_slack_15 : decode cX8_slack 15 = .ok (.istore_n 2, 1) := by decide +kernel
theorem dX8_slack_16 : decode cX8_slack 16 = .ok (.aload_n 0, 1) := by decide +kernel
theorem dX8_slack_17 : decode cX8_slack 17 = .ok (.iload_n 1, 1) := by decide +kernel
theorem dX8_slack_18 : decode cX8_slack 18 = .ok (.putfield 67, 3) := by decide +kernel
theorem dX8_slack_21 : decode cX8_slack 21 = .ok (.iload_n 2, 1) := by decide +kernel
theorem dX8_slack_22 : decode cX8_slack 22 = .ok (.ireturn, 1) := by decide +kernel
theorem dX8_like_0 : decode cX8_like 0 = .ok (.aload_n 0, 1) := by decide +kernel
theorem dX8_like_1 : decode cX8_like 1 = .ok (.getfield 19, 3) := by decide +kernel
theorem dX8_like_4 : decode cX8_like 4 = .ok (.iload_n 1, 1) := by decide +kernel
theorem dX8_like_5 : decode cX8_like 5 = .ok (.invokevirtual 106, 3) := by decide +kernel
theorem dX8_like_8 : decode cX8_like 8 = .ok (.ifCond .eq 24, 3) := by decide +kernel
theorem dX8_like_11 : decode cX8_like 11 = .ok (.aload_n 0, 1) := by decide +kernel
theorem dX8_like_12 : decode cX8_like 12 = .ok (.getfield 19, 3) := by decide +kernel
theorem dX8_like_15 : decode cX8_like 15 = .ok (.iload_n 2, 1) := by decide +kernel
theorem dX8_like_16 : decode cX8_like 16 = .ok (.invokevirtual 129, 3) := by decide +kernel
theorem dX8_like_19 : decode cX8_like 19 = .ok (.ifCond .eq 13, 3) := by decide +kernel
theorem dX8_like_22 : decode cX8_like 22 = .ok (.iload_n 3, 1) := by decide +kernel
theorem dX8_like_23 : decode cX8_like 23 = .ok (.iconst 0, 1) := by decide +kernel
theorem dX8_like_24 : decode cX8_like 24 = .ok (.bipush 9, 2) := by decide +kernel
theorem dX8_like_26 : decode cX8_like 26 = .ok (.invokestatic 85, 3) := by decide +kernel
theorem dX8_like_29 : decode cX8_like 29 = .ok (.ifCond .ne 5, 3) := by decide +kernel
theorem dX8_like_32 : decode cX8_like 32 = .ok (.iconst (-1), 1) := by decide +kernel
theorem dX8_like_33 : decode cX8_like 33 = .ok (.ireturn, 1) := by decide +kernel
theorem dX8_like_34 : decode cX8_like 34 = .ok (.aload_n 0, 1) := by decide +kernel
theorem dX8_like_35 : decode cX8_like 35 = .ok (.getfield 19, 3) := by decide +kernel
theorem dX8_like_38 : decode cX8_like 38 = .ok (.iload_n 1, 1) := by decide +kernel
theorem dX8_like_39 : decode cX8_like 39 = .ok (.iload_n 2, 1) := by decide +kernel
theorem dX8_like_40 : decode cX8_like 40 = .ok (.invokevirtual 161, 3) := by decide +kernel
theorem dX8_like_43 : decode cX8_like 43 = .ok (.istore 4, 2) := by decide +kernel
theorem dX8_like_45 : decode cX8_like 45 = .ok (.aload_n 0, 1) := by decide +kernel
theorem dX8_like_46 : decode cX8_like 46 = .ok (.getfield 19, 3) := by decide +kernel
theorem dX8_like_49 : decode cX8_like 49 = .ok (.iload_n 1, 1) := by decide +kernel
theorem dX8_like_50 : decode cX8_like 50 = .ok (.iload_n 2, 1) := by decide +kernel
theorem dX8_like_51 : decode cX8_like 51 = .ok (.iload_n 3, 1) := by decide +kernel
theorem dX8_like_52 : decode cX8_like 52 = .ok (.invokevirtual 164, 3) := by decide +kernel
theorem dX8_like_55 : decode cX8_like 55 = .ok (.iload 4, 2) := by decide +kernel
theorem dX8_like_57 : decode cX8_like 57 = .ok (.ireturn, 1) := by decide +kernel
theorem dX8_fits_0 : decode cX8_fits 0 = .ok (.aload_n 0, 1) := by decide +kernel
