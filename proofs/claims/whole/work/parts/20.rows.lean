-- rows by a program: cells' kinds, classes, fields, methods, links
theorem kd_1 : kd 1 = 8 := by decide +kernel
theorem kd_2 : kd 2 = 5 := by decide +kernel
theorem kd_3 : kd 3 = 10 := by decide +kernel
theorem kd_4 : kd 4 = 7 := by decide +kernel
theorem kd_5 : kd 5 = 13 := by decide +kernel
theorem kd_6 : kd 6 = 15 := by decide +kernel
theorem kd_7 : kd 7 = 11 := by decide +kernel
theorem kd_8 : kd 8 = 11 := by decide +kernel
theorem kd_9 : kd 9 = 0 := by decide +kernel
theorem kd_10 : kd 10 = 0 := by decide +kernel
theorem kd_11 : kd 11 = 0 := by decide +kernel
theorem kd_12 : kd 12 = 0 := by decide +kernel
theorem kd_13 : kd 13 = 0 := by decide +kernel
theorem kd_14 : kd 14 = 0 := by decide +kernel
theorem kd_15 : kd 15 = 0 := by decide +kernel
theorem kd_16 : kd 16 = 0 := by decide +kernel
theorem kd_17 : kd 17 = 6 := by decide +kernel
theorem kd_18 : kd 18 = 6 := by decide +kernel
theorem kd_19 : kd 19 = 6 := by decide +kernel
theorem kd_20 : kd 20 = 6 := by decide +kernel
theorem kd_21 : kd 21 = 6 := by decide +kernel
theorem kd_22 : kd 22 = 6 := by decide +kernel
theorem kd_23 : kd 23 = 6 := by decide +kernel
theorem kd_24 : kd 24 = 6 := by decide +kernel
theorem kd_25 : kd 25 = 6 := by decide +kernel
theorem kd_26 : kd 26 = 6 := by decide +kernel
theorem kd_27 : kd 27 = 7 := by decide +kernel
theorem kd_28 : kd 28 = 13 := by decide +kernel
theorem kd_29 : kd 29 = 15 := by decide +kernel
theorem kd_30 : kd 30 = 11 := by decide +kernel
theorem kd_31 : kd 31 = 11 := by decide +kernel
theorem kd_32 : kd 32 = 0 := by decide +kernel
theorem kd_33 : kd 33 = 0 := by decide +kernel
theorem kd_34 : kd 34 = 0 := by decide +kernel
theorem kd_35 : kd 35 = 0 := by decide +kernel
theorem kd_36 : kd 36 = 0 := by decide +kernel
theorem kd_37 : kd 37 = 0 := by decide +kernel
theorem kd_38 : kd 38 = 0 := by decide +kernel
theorem kd_39 : kd 39 = 0 := by decide +kernel
theorem kd_40 : kd 40 = 6 := by decide +kernel
theorem kd_41 : kd 41 = 6 := by decide +kernel
theorem kd_42 : kd 42 = 6 := by decide +kernel
theorem kd_43 : kd 43 = 6 := by decide +kernel
theorem kd_44 : kd 44 = 6 := by decide +kernel
theorem kd_45 : kd 45 = 6 := by decide +kernel
theorem kd_46 : kd 46 = 6 := by decide +kernel
theorem kd_47 : kd 47 = 6 := by decide +kernel
theorem kd_48 : kd 48 = 6 := by decide +kernel
theorem kd_49 : kd 49 = 6 := by decide +kernel
theorem kd_50 : kd 50 = 3 := by decide +kernel
theorem kd_51 : kd 51 = 16 := by decide +kernel
theorem kd_52 : kd 52 = 12 := by decide +kernel
theorem kd_53 : kd 53 = 14 := by decide +kernel
theorem kd_54 : kd 54 = 1 := by decide +kernel
theorem kd_55 : kd 55 = 11 := by decide +kernel
theorem kd_56 : kd 56 = 11 := by decide +kernel
theorem kd_57 : kd 57 = 11 := by decide +kernel
theorem kd_58 : kd 58 = 11 := by decide +kernel
theorem kd_59 : kd 59 = 11 := by decide +kernel
theorem kd_60 : kd 60 = 2 := by decide +kernel
theorem kd_61 : kd 61 = 11 := by decide +kernel
theorem kd_62 : kd 62 = 11 := by decide +kernel
theorem kd_63 : kd 63 = 11 := by decide +kernel
theorem kd_64 : kd 64 = 11 := by decide +kernel
theorem kd_65 : kd 65 = 7 := by decide +kernel
theorem kd_66 : kd 66 = 13 := by decide +kernel
theorem kd_67 : kd 67 = 15 := by decide +kernel
theorem kd_68 : kd 68 = 11 := by decide +kernel
theorem kd_69 : kd 69 = 11 := by decide +kernel
theorem kd_70 : kd 70 = 0 := by decide +kernel
theorem kd_71 : kd 71 = 0 := by decide +kernel
theorem kd_72 : kd 72 = 0 := by decide +kernel
theorem kd_73 : kd 73 = 0 := by decide +kernel
theorem kd_74 : kd 74 = 0 := by decide +kernel
theorem kd_75 : kd 75 = 0 := by decide +kernel
theorem kd_76 : kd 76 = 0 := by decide +kernel
theorem kd_77 : kd 77 = 0 := by decide +kernel
theorem kd_78 : kd 78 = 6 := by decide +kernel
theorem kd_79 : kd 79 = 6 := by decide +kernel
theorem kd_80 : kd 80 = 6 := by decide +kernel
theorem kd_81 : kd 81 = 6 := by decide +kernel
theorem kd_82 : kd 82 = 6 := by decide +kernel
theorem kd_83 : kd 83 = 6 := by decide +kernel
theorem kd_84 : kd 84 = 6 := by decide +kernel
theorem kd_85 : kd 85 = 6 := by decide +kernel
theorem kd_86 : kd 86 = 6 := by decide +kernel
theorem kd_87 : kd 87 = 6 := by decide +kernel
theorem kd_88 : kd 88 = 7 := by decide +kernel
theorem kd_89 : kd 89 = 13 := by decide +kernel
theorem kd_90 : kd 90 = 15 := by decide +kernel
theorem kd_91 : kd 91 = 11 := by decide +kernel
theorem kd_92 : kd 92 = 11 := by decide +kernel
theorem kd_93 : kd 93 = 0 := by decide +kernel
theorem kd_94 : kd 94 = 0 := by decide +kernel
theorem kd_95 : kd 95 = 0 := by decide +kernel
theorem kd_96 : kd 96 = 0 := by decide +kernel
theorem kd_97 : kd 97 = 0 := by decide +kernel
theorem kd_98 : kd 98 = 0 := by decide +kernel
theorem kd_99 : kd 99 = 0 := by decide +kernel
theorem kd_100 : kd 100 = 0 := by decide +kernel
theorem kd_101 : kd 101 = 6 := by decide +kernel
theorem kd_102 : kd 102 = 6 := by decide +kernel
theorem kd_103 : kd 103 = 6 := by decide +kernel
theorem kd_104 : kd 104 = 6 := by decide +kernel
theorem kd_105 : kd 105 = 6 := by decide +kernel
theorem kd_106 : kd 106 = 6 := by decide +kernel
theorem kd_107 : kd 107 = 6 := by decide +kernel
theorem kd_108 : kd 108 = 6 := by decide +kernel
theorem kd_109 : kd 109 = 6 := by decide +kernel
theorem kd_110 : kd 110 = 6 := by decide +kernel
theorem kd_111 : kd 111 = 4 := by decide +kernel
theorem kd_112 : kd 112 = 11 := by decide +kernel
theorem kd_113 : kd 113 = 4 := by decide +kernel
theorem kd_114 : kd 114 = 11 := by decide +kernel
theorem kd_115 : kd 115 = 4 := by decide +kernel
theorem kd_116 : kd 116 = 11 := by decide +kernel
theorem kd_117 : kd 117 = 4 := by decide +kernel
theorem kd_118 : kd 118 = 11 := by decide +kernel
theorem kd_119 : kd 119 = 9 := by decide +kernel
theorem kd_120 : kd 120 = 11 := by decide +kernel
theorem kd_121 : kd 121 = 12 := by decide +kernel
theorem kd_122 : kd 122 = 11 := by decide +kernel
theorem kd_123 : kd 123 = 11 := by decide +kernel
theorem kd_124 : kd 124 = 11 := by decide +kernel
theorem kd_125 : kd 125 = 11 := by decide +kernel
theorem kd_126 : kd 126 = 11 := by decide +kernel
theorem kd_127 : kd 127 = 11 := by decide +kernel
theorem kd_128 : kd 128 = 11 := by decide +kernel
theorem kd_129 : kd 129 = 11 := by decide +kernel
theorem kd_130 : kd 130 = 11 := by decide +kernel
theorem kd_131 : kd 131 = 11 := by decide +kernel
theorem kd_132 : kd 132 = 11 := by decide +kernel
theorem kd_133 : kd 133 = 11 := by decide +kernel
theorem kd_134 : kd 134 = 11 := by decide +kernel
theorem kd_135 : kd 135 = 11 := by decide +kernel
theorem kd_136 : kd 136 = 11 := by decide +kernel
theorem kd_137 : kd 137 = 11 := by decide +kernel
theorem ln_3 : ln 3 = 400 := by decide +kernel
theorem ln_5 : ln 5 = 8 := by decide +kernel
theorem ln_6 : ln 6 = 10 := by decide +kernel
theorem ln_7 : ln 7 = 80 := by decide +kernel
theorem ln_8 : ln 8 = 6 := by decide +kernel
theorem ln_28 : ln 28 = 8 := by decide +kernel
theorem ln_29 : ln 29 = 10 := by decide +kernel
theorem ln_30 : ln 30 = 80 := by decide +kernel
theorem ln_31 : ln 31 = 6 := by decide +kernel
theorem ln_51 : ln 51 = 2 := by decide +kernel
theorem ln_52 : ln 52 = 2 := by decide +kernel
theorem ln_53 : ln 53 = 4 := by decide +kernel
theorem ln_55 : ln 55 = 8 := by decide +kernel
theorem ln_56 : ln 56 = 8 := by decide +kernel
theorem ln_57 : ln 57 = 20 := by decide +kernel
theorem ln_58 : ln 58 = 20 := by decide +kernel
theorem ln_59 : ln 59 = 8 := by decide +kernel
theorem ln_61 : ln 61 = 6 := by decide +kernel
theorem ln_62 : ln 62 = 256 := by decide +kernel
theorem ln_63 : ln 63 = 256 := by decide +kernel
theorem ln_64 : ln 64 = 4 := by decide +kernel
theorem ln_66 : ln 66 = 8 := by decide +kernel
theorem ln_67 : ln 67 = 10 := by decide +kernel
theorem ln_68 : ln 68 = 80 := by decide +kernel
theorem ln_69 : ln 69 = 6 := by decide +kernel
theorem ln_89 : ln 89 = 8 := by decide +kernel
theorem ln_90 : ln 90 = 10 := by decide +kernel
theorem ln_91 : ln 91 = 80 := by decide +kernel
theorem ln_92 : ln 92 = 6 := by decide +kernel
theorem ln_112 : ln 112 = 40 := by decide +kernel
theorem ln_114 : ln 114 = 40 := by decide +kernel
theorem ln_116 : ln 116 = 40 := by decide +kernel
theorem ln_118 : ln 118 = 40 := by decide +kernel
theorem ln_120 : ln 120 = 796 := by decide +kernel
theorem ln_121 : ln 121 = 2 := by decide +kernel
theorem ln_122 : ln 122 = 199 := by decide +kernel
theorem ln_123 : ln 123 = 400 := by decide +kernel
theorem ln_124 : ln 124 = 8 := by decide +kernel
theorem ln_125 : ln 125 = 8 := by decide +kernel
theorem ln_126 : ln 126 = 20 := by decide +kernel
theorem ln_127 : ln 127 = 20 := by decide +kernel
theorem ln_128 : ln 128 = 8 := by decide +kernel
theorem ln_129 : ln 129 = 8 := by decide +kernel
theorem ln_130 : ln 130 = 20 := by decide +kernel
theorem ln_131 : ln 131 = 4 := by decide +kernel
theorem ln_132 : ln 132 = 10 := by decide +kernel
theorem ln_133 : ln 133 = 7 := by decide +kernel
theorem ln_134 : ln 134 = 6 := by decide +kernel
theorem ln_135 : ln 135 = 4 := by decide +kernel
theorem ln_136 : ln 136 = 4 := by decide +kernel
theorem ln_137 : ln 137 = 160 := by decide +kernel
theorem iX0 : ∀ w ∈ wsX00, w ∈ lw_good := fun w h => in_good ((show ∀ w ∈ wsX00, w ∈ lw_tbl by decide +kernel) w h) ((show ∀ w ∈ wsX00, goodWord w = true by decide +kernel) w h)
theorem iX1 : ∀ w ∈ wsX10, w ∈ lw_good := fun w h => in_good ((show ∀ w ∈ wsX10, w ∈ lw_tbl by decide +kernel) w h) ((show ∀ w ∈ wsX10, goodWord w = true by decide +kernel) w h)
theorem iX2 : ∀ w ∈ wsX20, w ∈ lw_good := fun w h => in_good ((show ∀ w ∈ wsX20, w ∈ lw_tbl by decide +kernel) w h) ((show ∀ w ∈ wsX20, goodWord w = true by decide +kernel) w h)
theorem iX3 : ∀ w ∈ wsX30, w ∈ lw_good := fun w h => in_good ((show ∀ w ∈ wsX30, w ∈ lw_tbl by decide +kernel) w h) ((show ∀ w ∈ wsX30, goodWord w = true by decide +kernel) w h)
theorem iX4 : ∀ w ∈ wsX40, w ∈ lw_good := fun w h => in_good ((show ∀ w ∈ wsX40, w ∈ lw_tbl by decide +kernel) w h) ((show ∀ w ∈ wsX40, goodWord w = true by decide +kernel) w h)
theorem iX5 : ∀ w ∈ wsX50, w ∈ lw_good := fun w h => in_good ((show ∀ w ∈ wsX50, w ∈ lw_tbl by decide +kernel) w h) ((show ∀ w ∈ wsX50, goodWord w = true by decide +kernel) w h)
theorem iX6 : ∀ w ∈ wsX60, w ∈ lw_good := fun w h => in_good ((show ∀ w ∈ wsX60, w ∈ lw_tbl by decide +kernel) w h) ((show ∀ w ∈ wsX60, goodWord w = true by decide +kernel) w h)
theorem iX7 : ∀ w ∈ wsX70, w ∈ lw_good := fun w h => in_good ((show ∀ w ∈ wsX70, w ∈ lw_tbl by decide +kernel) w h) ((show ∀ w ∈ wsX70, goodWord w = true by decide +kernel) w h)
theorem iX8 : ∀ w ∈ wsX80, w ∈ lw_good := fun w h => in_good ((show ∀ w ∈ wsX80, w ∈ lw_tbl by decide +kernel) w h) ((show ∀ w ∈ wsX80, goodWord w = true by decide +kernel) w h)
theorem iX9 : ∀ w ∈ wsX90, w ∈ lw_good := fun w h => in_good ((show ∀ w ∈ wsX90, w ∈ lw_tbl by decide +kernel) w h) ((show ∀ w ∈ wsX90, goodWord w = true by decide +kernel) w h)
theorem fa_X8_10 : FA RX8 10 8 0 := ⟨RX8, TX8, 16, iX8, rfl, by decide, by decide, by decide +kernel, Or.inl (in_good (List.mem_of_getElem? (i := 358) (by decide +kernel)) rfl)⟩
theorem fp_X8_10 : FP RX8 10 8 0 (.object "HandedDown$Tape") true := ⟨RX8, TX8, 16, tyX8, iX8, rfl, by decide, by decide, by decide +kernel, Or.inl (in_good (List.mem_of_getElem? (i := 358) (by decide +kernel)) rfl), tyX8_ok, nmX8, rfl, by decide +kernel, fun _ => rfl⟩
theorem fa_X8_19 : FA RX8 19 8 1 := ⟨RX8, TX8, 16, iX8, rfl, by decide, by decide, by decide +kernel, Or.inl (in_good (List.mem_of_getElem? (i := 359) (by decide +kernel)) rfl)⟩
theorem fp_X8_19 : FP RX8 19 8 1 (.object "HandedDown$Village") true := ⟨RX8, TX8, 16, tyX8, iX8, rfl, by decide, by decide, by decide +kernel, Or.inl (in_good (List.mem_of_getElem? (i := 359) (by decide +kernel)) rfl), tyX8_ok, nmX8, rfl, by decide +kernel, fun _ => rfl⟩
theorem fa_X8_23 : FA RX8 23 8 2 := ⟨RX8, TX8, 16, iX8, rfl, by decide, by decide, by decide +kernel, Or.inl (in_good (List.mem_of_getElem? (i := 360) (by decide +kernel)) rfl)⟩
theorem fp_X8_23 : FP RX8 23 8 2 (.object "HandedDown$Village") true := ⟨RX8, TX8, 16, tyX8, iX8, rfl, by decide, by decide, by decide +kernel, Or.inl (in_good (List.mem_of_getElem? (i := 360) (by decide +kernel)) rfl), tyX8_ok, nmX8, rfl, by decide +kernel, fun _ => rfl⟩
theorem fa_X8_31 : FA RX8 31 8 3 := ⟨RX8, TX8, 16, iX8, rfl, by decide, by decide, by decide +kernel, Or.inl (in_good (List.mem_of_getElem? (i := 361) (by decide +kernel)) rfl)⟩
theorem fp_X8_31 : FP RX8 31 8 3 (.object "HandedDown$Reader") true := ⟨RX8, TX8, 16, tyX8, iX8, rfl, by decide, by decide, by decide +kernel, Or.inl (in_good (List.mem_of_getElem? (i := 361) (by decide +kernel)) rfl), tyX8_ok, nmX8, rfl, by decide +kernel, fun _ => rfl⟩
theorem fa_X8_35 : FA RX8 35 8 4 := ⟨RX8, TX8, 16, iX8, rfl, by decide, by decide, by decide +kernel, Or.inl (in_good (List.mem_of_getElem? (i := 362) (by decide +kernel)) rfl)⟩
theorem fp_X8_35 : FP RX8 35 8 4 (.array (.object "HandedDown$Village")) true := ⟨RX8, TX8, 16, tyX8, iX8, rfl, by decide, by decide, by decide +kernel, Or.inl (in_good (List.mem_of_getElem? (i := 362) (by decide +kernel)) rfl), tyX8_ok, nmX8, rfl, by decide +kernel, fun _ => rfl⟩
theorem fa_X8_39 : FA RX8 39 8 5 := ⟨RX8, TX8, 16, iX8, rfl, by decide, by decide, by decide +kernel, Or.inl (in_good (List.mem_of_getElem? (i := 363) (by decide +kernel)) rfl)⟩
theorem fp_X8_39 : FP RX8 39 8 5 (.array .boolean) true := ⟨RX8, TX8, 16, tyX8, iX8, rfl, by decide, by decide, by decide +kernel, Or.inl (in_good (List.mem_of_getElem? (i := 363) (by decide +kernel)) rfl), tyX8_ok, nmX8, rfl, by decide +kernel, fun _ => rfl⟩
theorem fa_X8_45 : FA RX8 45 8 6 := ⟨RX8, TX8, 16, iX8, rfl, by decide, by decide, by decide +kernel, Or.inl (in_good (List.mem_of_getElem? (i := 364) (by decide +kernel)) rfl)⟩
theorem fp_X8_45 : FP RX8 45 8 6 (.array (.object "HandedDown$Sheet")) true := ⟨RX8, TX8, 16, tyX8, iX8, rfl, by decide, by decide, by decide +kernel, Or.inl (in_good (List.mem_of_getElem? (i := 364) (by decide +kernel)) rfl), tyX8_ok, nmX8, rfl, by decide +kernel, fun _ => rfl⟩
theorem fa_X8_52 : FA RX8 52 8 7 := ⟨RX8, TX8, 16, iX8, rfl, by decide, by decide, by decide +kernel, Or.inl (in_good (List.mem_of_getElem? (i := 365) (by decide +kernel)) rfl)⟩
theorem fp_X8_52 : FP RX8 52 8 7 (.object "HandedDown$Deal") true := ⟨RX8, TX8, 16, tyX8, iX8, rfl, by decide, by decide, by decide +kernel, Or.inl (in_good (List.mem_of_getElem? (i := 365) (by decide +kernel)) rfl), tyX8_ok, nmX8, rfl, by decide +kernel, fun _ => rfl⟩
theorem fa_X8_59 : FA RX8 59 8 8 := ⟨RX8, TX8, 16, iX8, rfl, by decide, by decide, by decide +kernel, Or.inl (in_good (List.mem_of_getElem? (i := 366) (by decide +kernel)) rfl)⟩
theorem fp_X8_59 : FP RX8 59 8 8 (.object "HandedDown$MarkRows") true := ⟨RX8, TX8, 16, tyX8, iX8, rfl, by decide, by decide, by decide +kernel, Or.inl (in_good (List.mem_of_getElem? (i := 366) (by decide +kernel)) rfl), tyX8_ok, nmX8, rfl, by decide +kernel, fun _ => rfl⟩
theorem fa_X8_63 : FA RX8 63 8 9 := ⟨RX8, TX8, 16, iX8, rfl, by decide, by decide, by decide +kernel, Or.inl (in_good (List.mem_of_getElem? (i := 367) (by decide +kernel)) rfl)⟩
theorem fp_X8_63 : FP RX8 63 8 9 (.array .int) true := ⟨RX8, TX8, 16, tyX8, iX8, rfl, by decide, by decide, by decide +kernel, Or.inl (in_good (List.mem_of_getElem? (i := 367) (by decide +kernel)) rfl), tyX8_ok, nmX8, rfl, by decide +kernel, fun _ => rfl⟩
theorem fa_X8_67 : FA RX8 67 8 10 := ⟨RX8, TX8, 16, iX8, rfl, by decide, by decide, by decide +kernel, Or.inl (in_good (List.mem_of_getElem? (i := 368) (by decide +kernel)) rfl)⟩
theorem fp_X8_67 : FP RX8 67 8 10 .int false := ⟨RX8, TX8, 16, tyX8, iX8, rfl, by decide, by decide, by decide +kernel, Or.inl (in_good (List.mem_of_getElem? (i := 368) (by decide +kernel)) rfl), tyX8_ok, nmX8, rfl, by decide +kernel, fun h => (by cases h)⟩
theorem fa_X8_71 : FA RX8 71 8 11 := ⟨RX8, TX8, 16, iX8, rfl, by decide, by decide, by decide +kernel, Or.inl (in_good (List.mem_of_getElem? (i := 369) (by decide +kernel)) rfl)⟩
theorem fp_X8_71 : FP RX8 71 8 11 .int false := ⟨RX8, TX8, 16, tyX8, iX8, rfl, by decide, by decide, by decide +kernel, Or.inl (in_good (List.mem_of_getElem? (i := 369) (by decide +kernel)) rfl), tyX8_ok, nmX8, rfl, by decide +kernel, fun h => (by cases h)⟩
theorem fa_X8_74 : FA RX8 74 8 12 := ⟨RX8, TX8, 16, iX8, rfl, by decide, by decide, by decide +kernel, Or.inl (in_good (List.mem_of_getElem? (i := 370) (by decide +kernel)) rfl)⟩
theorem fp_X8_74 : FP RX8 74 8 12 .int false := ⟨RX8, TX8, 16, tyX8, iX8, rfl, by decide, by decide, by decide +kernel, Or.inl (in_good (List.mem_of_getElem? (i := 370) (by decide +kernel)) rfl), tyX8_ok, nmX8, rfl, by decide +kernel, fun h => (by cases h)⟩
theorem fa_X8_82 : FA RX8 82 5 1 := ⟨RX5, TX5, 2, iX5, rfl, by decide, by decide, by decide +kernel, Or.inr ⟨"HandedDown", in_nest (List.mem_of_getElem? (i := 108) (by decide +kernel)) rfl⟩⟩
theorem fp_X8_82 : FP RX8 82 5 1 .int false := ⟨RX5, TX5, 2, tyX5, iX5, rfl, by decide, by decide, by decide +kernel, Or.inr ⟨rfl, "HandedDown", in_nest (List.mem_of_getElem? (i := 108) (by decide +kernel)) rfl⟩, tyX5_ok, nmX5, rfl, by decide +kernel, fun h => (by cases h)⟩
theorem fa_X8_93 : FA RX8 93 3 10 := ⟨RX3, TX3, 12, iX3, rfl, by decide, by decide, by decide +kernel, Or.inr ⟨"HandedDown", in_nest (List.mem_of_getElem? (i := 256) (by decide +kernel)) rfl⟩⟩
theorem fa_X8_96 : FA RX8 96 3 11 := ⟨RX3, TX3, 12, iX3, rfl, by decide, by decide, by decide +kernel, Or.inr ⟨"HandedDown", in_nest (List.mem_of_getElem? (i := 258) (by decide +kernel)) rfl⟩⟩
theorem fa_X8_103 : FA RX8 103 3 6 := ⟨RX3, TX3, 12, iX3, rfl, by decide, by decide, by decide +kernel, Or.inr ⟨"HandedDown", in_nest (List.mem_of_getElem? (i := 251) (by decide +kernel)) rfl⟩⟩
theorem fa_X8_110 : FA RX8 110 7 0 := ⟨RX7, TX7, 7, iX7, rfl, by decide, by decide, by decide +kernel, Or.inr ⟨"HandedDown", in_nest (List.mem_of_getElem? (i := 202) (by decide +kernel)) rfl⟩⟩
theorem fa_X8_114 : FA RX8 114 0 0 := ⟨RX0, TX0, 3, iX0, rfl, by decide, by decide, by decide +kernel, Or.inr ⟨"HandedDown", in_nest (List.mem_of_getElem? (i := 134) (by decide +kernel)) rfl⟩⟩
theorem fa_X8_119 : FA RX8 119 0 1 := ⟨RX0, TX0, 3, iX0, rfl, by decide, by decide, by decide +kernel, Or.inr ⟨"HandedDown", in_nest (List.mem_of_getElem? (i := 138) (by decide +kernel)) rfl⟩⟩
theorem fa_X8_122 : FA RX8 122 0 2 := ⟨RX0, TX0, 3, iX0, rfl, by decide, by decide, by decide +kernel, Or.inr ⟨"HandedDown", in_nest (List.mem_of_getElem? (i := 141) (by decide +kernel)) rfl⟩⟩
theorem fa_X8_132 : FA RX8 132 7 1 := ⟨RX7, TX7, 7, iX7, rfl, by decide, by decide, by decide +kernel, Or.inr ⟨"HandedDown", in_nest (List.mem_of_getElem? (i := 205) (by decide +kernel)) rfl⟩⟩
theorem fa_X8_136 : FA RX8 136 6 0 := ⟨RX6, TX6, 8, iX6, rfl, by decide, by decide, by decide +kernel, Or.inr ⟨"HandedDown", in_nest (List.mem_of_getElem? (i := 158) (by decide +kernel)) rfl⟩⟩
theorem fa_X8_141 : FA RX8 141 6 1 := ⟨RX6, TX6, 8, iX6, rfl, by decide, by decide, by decide +kernel, Or.inr ⟨"HandedDown", in_nest (List.mem_of_getElem? (i := 162) (by decide +kernel)) rfl⟩⟩
theorem fa_X8_144 : FA RX8 144 6 2 := ⟨RX6, TX6, 8, iX6, rfl, by decide, by decide, by decide +kernel, Or.inr ⟨"HandedDown", in_nest (List.mem_of_getElem? (i := 165) (by decide +kernel)) rfl⟩⟩
theorem fp_X8_144 : FP RX8 144 6 2 .int false := ⟨RX6, TX6, 8, tyX6, iX6, rfl, by decide, by decide, by decide +kernel, Or.inr ⟨rfl, "HandedDown", in_nest (List.mem_of_getElem? (i := 165) (by decide +kernel)) rfl⟩, tyX6_ok, nmX6, rfl, by decide +kernel, fun h => (by cases h)⟩
theorem fa_X8_145 : FA RX8 145 6 3 := ⟨RX6, TX6, 8, iX6, rfl, by decide, by decide, by decide +kernel, Or.inr ⟨"HandedDown", in_nest (List.mem_of_getElem? (i := 168) (by decide +kernel)) rfl⟩⟩
theorem fa_X8_148 : FA RX8 148 6 4 := ⟨RX6, TX6, 8, iX6, rfl, by decide, by decide, by decide +kernel, Or.inr ⟨"HandedDown", in_nest (List.mem_of_getElem? (i := 171) (by decide +kernel)) rfl⟩⟩
theorem fa_X8_151 : FA RX8 151 6 5 := ⟨RX6, TX6, 8, iX6, rfl, by decide, by decide, by decide +kernel, Or.inr ⟨"HandedDown", in_nest (List.mem_of_getElem? (i := 174) (by decide +kernel)) rfl⟩⟩
theorem fa_X8_155 : FA RX8 155 6 6 := ⟨RX6, TX6, 8, iX6, rfl, by decide, by decide, by decide +kernel, Or.inr ⟨"HandedDown", in_nest (List.mem_of_getElem? (i := 177) (by decide +kernel)) rfl⟩⟩
theorem fa_X8_158 : FA RX8 158 6 7 := ⟨RX6, TX6, 8, iX6, rfl, by decide, by decide, by decide +kernel, Or.inr ⟨"HandedDown", in_nest (List.mem_of_getElem? (i := 180) (by decide +kernel)) rfl⟩⟩
theorem fp_X8_158 : FP RX8 158 6 7 .int false := ⟨RX6, TX6, 8, tyX6, iX6, rfl, by decide, by decide, by decide +kernel, Or.inr ⟨rfl, "HandedDown", in_nest (List.mem_of_getElem? (i := 180) (by decide +kernel)) rfl⟩, tyX6_ok, nmX6, rfl, by decide +kernel, fun h => (by cases h)⟩
theorem fa_X8_189 : FA RX8 189 1 7 := ⟨RX1, TX1, 8, iX1, rfl, by decide, by decide, by decide +kernel, Or.inr ⟨"HandedDown", in_nest (List.mem_of_getElem? (i := 301) (by decide +kernel)) rfl⟩⟩
theorem fa_X8_192 : FA RX8 192 7 4 := ⟨RX7, TX7, 7, iX7, rfl, by decide, by decide, by decide +kernel, Or.inr ⟨"HandedDown", in_nest (List.mem_of_getElem? (i := 214) (by decide +kernel)) rfl⟩⟩
theorem fa_X8_234 : FA RX8 234 8 13 := ⟨RX8, TX8, 16, iX8, rfl, by decide, by decide, by decide +kernel, Or.inl (in_good (List.mem_of_getElem? (i := 371) (by decide +kernel)) rfl)⟩
theorem fp_X8_234 : FP RX8 234 8 13 .int false := ⟨RX8, TX8, 16, tyX8, iX8, rfl, by decide, by decide, by decide +kernel, Or.inl (in_good (List.mem_of_getElem? (i := 371) (by decide +kernel)) rfl), tyX8_ok, nmX8, rfl, by decide +kernel, fun h => (by cases h)⟩
theorem fa_X8_237 : FA RX8 237 8 14 := ⟨RX8, TX8, 16, iX8, rfl, by decide, by decide, by decide +kernel, Or.inl (in_good (List.mem_of_getElem? (i := 372) (by decide +kernel)) rfl)⟩
theorem fp_X8_237 : FP RX8 237 8 14 .int false := ⟨RX8, TX8, 16, tyX8, iX8, rfl, by decide, by decide, by decide +kernel, Or.inl (in_good (List.mem_of_getElem? (i := 372) (by decide +kernel)) rfl), tyX8_ok, nmX8, rfl, by decide +kernel, fun h => (by cases h)⟩
theorem fa_X8_240 : FA RX8 240 8 15 := ⟨RX8, TX8, 16, iX8, rfl, by decide, by decide, by decide +kernel, Or.inl (in_good (List.mem_of_getElem? (i := 373) (by decide +kernel)) rfl)⟩
theorem fp_X8_240 : FP RX8 240 8 15 .int false := ⟨RX8, TX8, 16, tyX8, iX8, rfl, by decide, by decide, by decide +kernel, Or.inl (in_good (List.mem_of_getElem? (i := 373) (by decide +kernel)) rfl), tyX8_ok, nmX8, rfl, by decide +kernel, fun h => (by cases h)⟩
theorem fa_X8_243 : FA RX8 243 7 5 := ⟨RX7, TX7, 7, iX7, rfl, by decide, by decide, by decide +kernel, Or.inr ⟨"HandedDown", in_nest (List.mem_of_getElem? (i := 218) (by decide +kernel)) rfl⟩⟩
theorem fa_X8_273 : FA RX8 273 7 6 := ⟨RX7, TX7, 7, iX7, rfl, by decide, by decide, by decide +kernel, Or.inr ⟨"HandedDown", in_nest (List.mem_of_getElem? (i := 222) (by decide +kernel)) rfl⟩⟩
theorem fp_X8_273 : FP RX8 273 7 6 .int false := ⟨RX7, TX7, 7, tyX7, iX7, rfl, by decide, by decide, by decide +kernel, Or.inr ⟨rfl, "HandedDown", in_nest (List.mem_of_getElem? (i := 222) (by decide +kernel)) rfl⟩, tyX7_ok, nmX7, rfl, by decide +kernel, fun h => (by cases h)⟩
theorem fa_X8_330 : FA RX8 330 4 2 := ⟨RX4, TX4, 3, iX4, rfl, by decide, by decide, by decide +kernel, Or.inr ⟨"HandedDown", in_nest (List.mem_of_getElem? (i := 350) (by decide +kernel)) rfl⟩⟩
theorem fa_X0_9 : FA RX0 9 0 0 := ⟨RX0, TX0, 3, iX0, rfl, by decide, by decide, by decide +kernel, Or.inl (in_good (List.mem_of_getElem? (i := 131) (by decide +kernel)) rfl)⟩
theorem fp_X0_9 : FP RX0 9 0 0 .int false := ⟨RX0, TX0, 3, tyX0, iX0, rfl, by decide, by decide, by decide +kernel, Or.inl (in_good (List.mem_of_getElem? (i := 131) (by decide +kernel)) rfl), tyX0_ok, nmX0, rfl, by decide +kernel, fun h => (by cases h)⟩
theorem fa_X0_15 : FA RX0 15 0 1 := ⟨RX0, TX0, 3, iX0, rfl, by decide, by decide, by decide +kernel, Or.inl (in_good (List.mem_of_getElem? (i := 136) (by decide +kernel)) rfl)⟩
theorem fp_X0_15 : FP RX0 15 0 1 .int false := ⟨RX0, TX0, 3, tyX0, iX0, rfl, by decide, by decide, by decide +kernel, Or.inl (in_good (List.mem_of_getElem? (i := 136) (by decide +kernel)) rfl), tyX0_ok, nmX0, rfl, by decide +kernel, fun h => (by cases h)⟩
theorem fa_X0_18 : FA RX0 18 0 2 := ⟨RX0, TX0, 3, iX0, rfl, by decide, by decide, by decide +kernel, Or.inl (in_good (List.mem_of_getElem? (i := 140) (by decide +kernel)) rfl)⟩
theorem fp_X0_18 : FP RX0 18 0 2 .int false := ⟨RX0, TX0, 3, tyX0, iX0, rfl, by decide, by decide, by decide +kernel, Or.inl (in_good (List.mem_of_getElem? (i := 140) (by decide +kernel)) rfl), tyX0_ok, nmX0, rfl, by decide +kernel, fun h => (by cases h)⟩
theorem fa_X1_9 : FA RX1 9 1 0 := ⟨RX1, TX1, 8, iX1, rfl, by decide, by decide, by decide +kernel, Or.inl (in_good (List.mem_of_getElem? (i := 293) (by decide +kernel)) rfl)⟩
theorem fp_X1_9 : FP RX1 9 1 0 (.array .int) true := ⟨RX1, TX1, 8, tyX1, iX1, rfl, by decide, by decide, by decide +kernel, Or.inl (in_good (List.mem_of_getElem? (i := 293) (by decide +kernel)) rfl), tyX1_ok, nmX1, rfl, by decide +kernel, fun _ => rfl⟩
theorem fa_X1_15 : FA RX1 15 1 1 := ⟨RX1, TX1, 8, iX1, rfl, by decide, by decide, by decide +kernel, Or.inl (in_good (List.mem_of_getElem? (i := 294) (by decide +kernel)) rfl)⟩
theorem fp_X1_15 : FP RX1 15 1 1 (.array .int) true := ⟨RX1, TX1, 8, tyX1, iX1, rfl, by decide, by decide, by decide +kernel, Or.inl (in_good (List.mem_of_getElem? (i := 294) (by decide +kernel)) rfl), tyX1_ok, nmX1, rfl, by decide +kernel, fun _ => rfl⟩
theorem fa_X1_18 : FA RX1 18 1 2 := ⟨RX1, TX1, 8, iX1, rfl, by decide, by decide, by decide +kernel, Or.inl (in_good (List.mem_of_getElem? (i := 295) (by decide +kernel)) rfl)⟩
theorem fp_X1_18 : FP RX1 18 1 2 (.array .int) true := ⟨RX1, TX1, 8, tyX1, iX1, rfl, by decide, by decide, by decide +kernel, Or.inl (in_good (List.mem_of_getElem? (i := 295) (by decide +kernel)) rfl), tyX1_ok, nmX1, rfl, by decide +kernel, fun _ => rfl⟩
theorem fa_X1_21 : FA RX1 21 1 3 := ⟨RX1, TX1, 8, iX1, rfl, by decide, by decide, by decide +kernel, Or.inl (in_good (List.mem_of_getElem? (i := 296) (by decide +kernel)) rfl)⟩
theorem fp_X1_21 : FP RX1 21 1 3 (.array .int) true := ⟨RX1, TX1, 8, tyX1, iX1, rfl, by decide, by decide, by decide +kernel, Or.inl (in_good (List.mem_of_getElem? (i := 296) (by decide +kernel)) rfl), tyX1_ok, nmX1, rfl, by decide +kernel, fun _ => rfl⟩
theorem fa_X1_24 : FA RX1 24 1 4 := ⟨RX1, TX1, 8, iX1, rfl, by decide, by decide, by decide +kernel, Or.inl (in_good (List.mem_of_getElem? (i := 297) (by decide +kernel)) rfl)⟩
theorem fp_X1_24 : FP RX1 24 1 4 (.array .int) true := ⟨RX1, TX1, 8, tyX1, iX1, rfl, by decide, by decide, by decide +kernel, Or.inl (in_good (List.mem_of_getElem? (i := 297) (by decide +kernel)) rfl), tyX1_ok, nmX1, rfl, by decide +kernel, fun _ => rfl⟩
theorem fa_X1_37 : FA RX1 37 7 4 := ⟨RX7, TX7, 7, iX7, rfl, by decide, by decide, by decide +kernel, Or.inr ⟨"HandedDown", in_nest (List.mem_of_getElem? (i := 213) (by decide +kernel)) rfl⟩⟩
theorem fa_X1_43 : FA RX1 43 1 5 := ⟨RX1, TX1, 8, iX1, rfl, by decide, by decide, by decide +kernel, Or.inl (in_good (List.mem_of_getElem? (i := 298) (by decide +kernel)) rfl)⟩
theorem fp_X1_43 : FP RX1 43 1 5 .int false := ⟨RX1, TX1, 8, tyX1, iX1, rfl, by decide, by decide, by decide +kernel, Or.inl (in_good (List.mem_of_getElem? (i := 298) (by decide +kernel)) rfl), tyX1_ok, nmX1, rfl, by decide +kernel, fun h => (by cases h)⟩
theorem fa_X1_44 : FA RX1 44 7 5 := ⟨RX7, TX7, 7, iX7, rfl, by decide, by decide, by decide +kernel, Or.inr ⟨"HandedDown", in_nest (List.mem_of_getElem? (i := 217) (by decide +kernel)) rfl⟩⟩
theorem fa_X1_47 : FA RX1 47 1 6 := ⟨RX1, TX1, 8, iX1, rfl, by decide, by decide, by decide +kernel, Or.inl (in_good (List.mem_of_getElem? (i := 299) (by decide +kernel)) rfl)⟩
theorem fp_X1_47 : FP RX1 47 1 6 .int false := ⟨RX1, TX1, 8, tyX1, iX1, rfl, by decide, by decide, by decide +kernel, Or.inl (in_good (List.mem_of_getElem? (i := 299) (by decide +kernel)) rfl), tyX1_ok, nmX1, rfl, by decide +kernel, fun h => (by cases h)⟩
theorem fa_X1_48 : FA RX1 48 1 7 := ⟨RX1, TX1, 8, iX1, rfl, by decide, by decide, by decide +kernel, Or.inl (in_good (List.mem_of_getElem? (i := 300) (by decide +kernel)) rfl)⟩
theorem fp_X1_48 : FP RX1 48 1 7 .int false := ⟨RX1, TX1, 8, tyX1, iX1, rfl, by decide, by decide, by decide +kernel, Or.inl (in_good (List.mem_of_getElem? (i := 300) (by decide +kernel)) rfl), tyX1_ok, nmX1, rfl, by decide +kernel, fun h => (by cases h)⟩
theorem fa_X1_57 : FA RX1 57 7 0 := ⟨RX7, TX7, 7, iX7, rfl, by decide, by decide, by decide +kernel, Or.inr ⟨"HandedDown", in_nest (List.mem_of_getElem? (i := 201) (by decide +kernel)) rfl⟩⟩
theorem fa_X1_61 : FA RX1 61 0 0 := ⟨RX0, TX0, 3, iX0, rfl, by decide, by decide, by decide +kernel, Or.inr ⟨"HandedDown", in_nest (List.mem_of_getElem? (i := 133) (by decide +kernel)) rfl⟩⟩
theorem fa_X1_66 : FA RX1 66 7 1 := ⟨RX7, TX7, 7, iX7, rfl, by decide, by decide, by decide +kernel, Or.inr ⟨"HandedDown", in_nest (List.mem_of_getElem? (i := 204) (by decide +kernel)) rfl⟩⟩
theorem fa_X1_70 : FA RX1 70 6 0 := ⟨RX6, TX6, 8, iX6, rfl, by decide, by decide, by decide +kernel, Or.inr ⟨"HandedDown", in_nest (List.mem_of_getElem? (i := 157) (by decide +kernel)) rfl⟩⟩
theorem fa_X1_91 : FA RX1 91 6 1 := ⟨RX6, TX6, 8, iX6, rfl, by decide, by decide, by decide +kernel, Or.inr ⟨"HandedDown", in_nest (List.mem_of_getElem? (i := 161) (by decide +kernel)) rfl⟩⟩
theorem fa_X2_9 : FA RX2 9 2 0 := ⟨RX2, TX2, 5, iX2, rfl, by decide, by decide, by decide +kernel, Or.inl (in_good (List.mem_of_getElem? (i := 326) (by decide +kernel)) rfl)⟩
theorem fp_X2_9 : FP RX2 9 2 0 (.array .int) true := ⟨RX2, TX2, 5, tyX2, iX2, rfl, by decide, by decide, by decide +kernel, Or.inl (in_good (List.mem_of_getElem? (i := 326) (by decide +kernel)) rfl), tyX2_ok, nmX2, rfl, by decide +kernel, fun _ => rfl⟩
theorem fa_X2_15 : FA RX2 15 2 1 := ⟨RX2, TX2, 5, iX2, rfl, by decide, by decide, by decide +kernel, Or.inl (in_good (List.mem_of_getElem? (i := 327) (by decide +kernel)) rfl)⟩
theorem fp_X2_15 : FP RX2 15 2 1 (.array .int) true := ⟨RX2, TX2, 5, tyX2, iX2, rfl, by decide, by decide, by decide +kernel, Or.inl (in_good (List.mem_of_getElem? (i := 327) (by decide +kernel)) rfl), tyX2_ok, nmX2, rfl, by decide +kernel, fun _ => rfl⟩
theorem fa_X2_18 : FA RX2 18 2 2 := ⟨RX2, TX2, 5, iX2, rfl, by decide, by decide, by decide +kernel, Or.inl (in_good (List.mem_of_getElem? (i := 328) (by decide +kernel)) rfl)⟩
theorem fp_X2_18 : FP RX2 18 2 2 (.array .int) true := ⟨RX2, TX2, 5, tyX2, iX2, rfl, by decide, by decide, by decide +kernel, Or.inl (in_good (List.mem_of_getElem? (i := 328) (by decide +kernel)) rfl), tyX2_ok, nmX2, rfl, by decide +kernel, fun _ => rfl⟩
theorem fa_X2_21 : FA RX2 21 7 4 := ⟨RX7, TX7, 7, iX7, rfl, by decide, by decide, by decide +kernel, Or.inr ⟨"HandedDown", in_nest (List.mem_of_getElem? (i := 211) (by decide +kernel)) rfl⟩⟩
theorem fa_X2_27 : FA RX2 27 2 3 := ⟨RX2, TX2, 5, iX2, rfl, by decide, by decide, by decide +kernel, Or.inl (in_good (List.mem_of_getElem? (i := 329) (by decide +kernel)) rfl)⟩
theorem fp_X2_27 : FP RX2 27 2 3 .int false := ⟨RX2, TX2, 5, tyX2, iX2, rfl, by decide, by decide, by decide +kernel, Or.inl (in_good (List.mem_of_getElem? (i := 329) (by decide +kernel)) rfl), tyX2_ok, nmX2, rfl, by decide +kernel, fun h => (by cases h)⟩
theorem fa_X2_28 : FA RX2 28 7 6 := ⟨RX7, TX7, 7, iX7, rfl, by decide, by decide, by decide +kernel, Or.inr ⟨"HandedDown", in_nest (List.mem_of_getElem? (i := 220) (by decide +kernel)) rfl⟩⟩
theorem fa_X2_31 : FA RX2 31 2 4 := ⟨RX2, TX2, 5, iX2, rfl, by decide, by decide, by decide +kernel, Or.inl (in_good (List.mem_of_getElem? (i := 330) (by decide +kernel)) rfl)⟩
theorem fp_X2_31 : FP RX2 31 2 4 .int false := ⟨RX2, TX2, 5, tyX2, iX2, rfl, by decide, by decide, by decide +kernel, Or.inl (in_good (List.mem_of_getElem? (i := 330) (by decide +kernel)) rfl), tyX2_ok, nmX2, rfl, by decide +kernel, fun h => (by cases h)⟩
theorem fa_X2_40 : FA RX2 40 7 0 := ⟨RX7, TX7, 7, iX7, rfl, by decide, by decide, by decide +kernel, Or.inr ⟨"HandedDown", in_nest (List.mem_of_getElem? (i := 200) (by decide +kernel)) rfl⟩⟩
theorem fa_X2_44 : FA RX2 44 0 0 := ⟨RX0, TX0, 3, iX0, rfl, by decide, by decide, by decide +kernel, Or.inr ⟨"HandedDown", in_nest (List.mem_of_getElem? (i := 132) (by decide +kernel)) rfl⟩⟩
theorem fa_X2_49 : FA RX2 49 0 1 := ⟨RX0, TX0, 3, iX0, rfl, by decide, by decide, by decide +kernel, Or.inr ⟨"HandedDown", in_nest (List.mem_of_getElem? (i := 137) (by decide +kernel)) rfl⟩⟩
theorem fa_X2_58 : FA RX2 58 7 3 := ⟨RX7, TX7, 7, iX7, rfl, by decide, by decide, by decide +kernel, Or.inr ⟨"HandedDown", in_nest (List.mem_of_getElem? (i := 209) (by decide +kernel)) rfl⟩⟩
theorem fa_X3_9 : FA RX3 9 3 0 := ⟨RX3, TX3, 12, iX3, rfl, by decide, by decide, by decide +kernel, Or.inl (in_good (List.mem_of_getElem? (i := 244) (by decide +kernel)) rfl)⟩
theorem fp_X3_9 : FP RX3 9 3 0 (.object "HandedDown$Tape") true := ⟨RX3, TX3, 12, tyX3, iX3, rfl, by decide, by decide, by decide +kernel, Or.inl (in_good (List.mem_of_getElem? (i := 244) (by decide +kernel)) rfl), tyX3_ok, nmX3, rfl, by decide +kernel, fun _ => rfl⟩
theorem fa_X3_15 : FA RX3 15 3 1 := ⟨RX3, TX3, 12, iX3, rfl, by decide, by decide, by decide +kernel, Or.inl (in_good (List.mem_of_getElem? (i := 245) (by decide +kernel)) rfl)⟩
theorem fp_X3_15 : FP RX3 15 3 1 (.object "HandedDown$Village") true := ⟨RX3, TX3, 12, tyX3, iX3, rfl, by decide, by decide, by decide +kernel, Or.inl (in_good (List.mem_of_getElem? (i := 245) (by decide +kernel)) rfl), tyX3_ok, nmX3, rfl, by decide +kernel, fun _ => rfl⟩
theorem fa_X3_24 : FA RX3 24 3 2 := ⟨RX3, TX3, 12, iX3, rfl, by decide, by decide, by decide +kernel, Or.inl (in_good (List.mem_of_getElem? (i := 246) (by decide +kernel)) rfl)⟩
theorem fp_X3_24 : FP RX3 24 3 2 .int false := ⟨RX3, TX3, 12, tyX3, iX3, rfl, by decide, by decide, by decide +kernel, Or.inl (in_good (List.mem_of_getElem? (i := 246) (by decide +kernel)) rfl), tyX3_ok, nmX3, rfl, by decide +kernel, fun h => (by cases h)⟩
theorem fa_X3_28 : FA RX3 28 3 6 := ⟨RX3, TX3, 12, iX3, rfl, by decide, by decide, by decide +kernel, Or.inl (in_good (List.mem_of_getElem? (i := 250) (by decide +kernel)) rfl)⟩
theorem fp_X3_28 : FP RX3 28 3 6 .int false := ⟨RX3, TX3, 12, tyX3, iX3, rfl, by decide, by decide, by decide +kernel, Or.inl (in_good (List.mem_of_getElem? (i := 250) (by decide +kernel)) rfl), tyX3_ok, nmX3, rfl, by decide +kernel, fun h => (by cases h)⟩
theorem fa_X3_31 : FA RX3 31 3 7 := ⟨RX3, TX3, 12, iX3, rfl, by decide, by decide, by decide +kernel, Or.inl (in_good (List.mem_of_getElem? (i := 252) (by decide +kernel)) rfl)⟩
theorem fp_X3_31 : FP RX3 31 3 7 .boolean false := ⟨RX3, TX3, 12, tyX3, iX3, rfl, by decide, by decide, by decide +kernel, Or.inl (in_good (List.mem_of_getElem? (i := 252) (by decide +kernel)) rfl), tyX3_ok, nmX3, rfl, by decide +kernel, fun h => (by cases h)⟩
theorem fa_X3_35 : FA RX3 35 3 8 := ⟨RX3, TX3, 12, iX3, rfl, by decide, by decide, by decide +kernel, Or.inl (in_good (List.mem_of_getElem? (i := 253) (by decide +kernel)) rfl)⟩
theorem fp_X3_35 : FP RX3 35 3 8 .int false := ⟨RX3, TX3, 12, tyX3, iX3, rfl, by decide, by decide, by decide +kernel, Or.inl (in_good (List.mem_of_getElem? (i := 253) (by decide +kernel)) rfl), tyX3_ok, nmX3, rfl, by decide +kernel, fun h => (by cases h)⟩
theorem fa_X3_38 : FA RX3 38 3 9 := ⟨RX3, TX3, 12, iX3, rfl, by decide, by decide, by decide +kernel, Or.inl (in_good (List.mem_of_getElem? (i := 254) (by decide +kernel)) rfl)⟩
theorem fp_X3_38 : FP RX3 38 3 9 .int false := ⟨RX3, TX3, 12, tyX3, iX3, rfl, by decide, by decide, by decide +kernel, Or.inl (in_good (List.mem_of_getElem? (i := 254) (by decide +kernel)) rfl), tyX3_ok, nmX3, rfl, by decide +kernel, fun h => (by cases h)⟩
theorem fa_X3_41 : FA RX3 41 3 10 := ⟨RX3, TX3, 12, iX3, rfl, by decide, by decide, by decide +kernel, Or.inl (in_good (List.mem_of_getElem? (i := 255) (by decide +kernel)) rfl)⟩
theorem fp_X3_41 : FP RX3 41 3 10 .int false := ⟨RX3, TX3, 12, tyX3, iX3, rfl, by decide, by decide, by decide +kernel, Or.inl (in_good (List.mem_of_getElem? (i := 255) (by decide +kernel)) rfl), tyX3_ok, nmX3, rfl, by decide +kernel, fun h => (by cases h)⟩
theorem fa_X3_44 : FA RX3 44 3 11 := ⟨RX3, TX3, 12, iX3, rfl, by decide, by decide, by decide +kernel, Or.inl (in_good (List.mem_of_getElem? (i := 257) (by decide +kernel)) rfl)⟩
theorem fp_X3_44 : FP RX3 44 3 11 .int false := ⟨RX3, TX3, 12, tyX3, iX3, rfl, by decide, by decide, by decide +kernel, Or.inl (in_good (List.mem_of_getElem? (i := 257) (by decide +kernel)) rfl), tyX3_ok, nmX3, rfl, by decide +kernel, fun h => (by cases h)⟩
theorem fa_X3_50 : FA RX3 50 3 3 := ⟨RX3, TX3, 12, iX3, rfl, by decide, by decide, by decide +kernel, Or.inl (in_good (List.mem_of_getElem? (i := 247) (by decide +kernel)) rfl)⟩
theorem fp_X3_50 : FP RX3 50 3 3 .int false := ⟨RX3, TX3, 12, tyX3, iX3, rfl, by decide, by decide, by decide +kernel, Or.inl (in_good (List.mem_of_getElem? (i := 247) (by decide +kernel)) rfl), tyX3_ok, nmX3, rfl, by decide +kernel, fun h => (by cases h)⟩
theorem fa_X3_57 : FA RX3 57 7 4 := ⟨RX7, TX7, 7, iX7, rfl, by decide, by decide, by decide +kernel, Or.inr ⟨"HandedDown", in_nest (List.mem_of_getElem? (i := 212) (by decide +kernel)) rfl⟩⟩
theorem fa_X3_60 : FA RX3 60 7 5 := ⟨RX7, TX7, 7, iX7, rfl, by decide, by decide, by decide +kernel, Or.inr ⟨"HandedDown", in_nest (List.mem_of_getElem? (i := 216) (by decide +kernel)) rfl⟩⟩
theorem fa_X3_67 : FA RX3 67 3 4 := ⟨RX3, TX3, 12, iX3, rfl, by decide, by decide, by decide +kernel, Or.inl (in_good (List.mem_of_getElem? (i := 248) (by decide +kernel)) rfl)⟩
theorem fp_X3_67 : FP RX3 67 3 4 .int false := ⟨RX3, TX3, 12, tyX3, iX3, rfl, by decide, by decide, by decide +kernel, Or.inl (in_good (List.mem_of_getElem? (i := 248) (by decide +kernel)) rfl), tyX3_ok, nmX3, rfl, by decide +kernel, fun h => (by cases h)⟩
theorem fa_X3_105 : FA RX3 105 3 5 := ⟨RX3, TX3, 12, iX3, rfl, by decide, by decide, by decide +kernel, Or.inl (in_good (List.mem_of_getElem? (i := 249) (by decide +kernel)) rfl)⟩
theorem fp_X3_105 : FP RX3 105 3 5 .int false := ⟨RX3, TX3, 12, tyX3, iX3, rfl, by decide, by decide, by decide +kernel, Or.inl (in_good (List.mem_of_getElem? (i := 249) (by decide +kernel)) rfl), tyX3_ok, nmX3, rfl, by decide +kernel, fun h => (by cases h)⟩
theorem fa_X3_132 : FA RX3 132 7 1 := ⟨RX7, TX7, 7, iX7, rfl, by decide, by decide, by decide +kernel, Or.inr ⟨"HandedDown", in_nest (List.mem_of_getElem? (i := 206) (by decide +kernel)) rfl⟩⟩
theorem fa_X3_136 : FA RX3 136 6 1 := ⟨RX6, TX6, 8, iX6, rfl, by decide, by decide, by decide +kernel, Or.inr ⟨"HandedDown", in_nest (List.mem_of_getElem? (i := 163) (by decide +kernel)) rfl⟩⟩
theorem fp_X3_136 : FP RX3 136 6 1 .int false := ⟨RX6, TX6, 8, tyX6, iX6, rfl, by decide, by decide, by decide +kernel, Or.inr ⟨rfl, "HandedDown", in_nest (List.mem_of_getElem? (i := 163) (by decide +kernel)) rfl⟩, tyX6_ok, nmX6, rfl, by decide +kernel, fun h => (by cases h)⟩
theorem fa_X3_141 : FA RX3 141 6 6 := ⟨RX6, TX6, 8, iX6, rfl, by decide, by decide, by decide +kernel, Or.inr ⟨"HandedDown", in_nest (List.mem_of_getElem? (i := 178) (by decide +kernel)) rfl⟩⟩
theorem fp_X3_141 : FP RX3 141 6 6 .int false := ⟨RX6, TX6, 8, tyX6, iX6, rfl, by decide, by decide, by decide +kernel, Or.inr ⟨rfl, "HandedDown", in_nest (List.mem_of_getElem? (i := 178) (by decide +kernel)) rfl⟩, tyX6_ok, nmX6, rfl, by decide +kernel, fun h => (by cases h)⟩
theorem fa_X3_157 : FA RX3 157 7 6 := ⟨RX7, TX7, 7, iX7, rfl, by decide, by decide, by decide +kernel, Or.inr ⟨"HandedDown", in_nest (List.mem_of_getElem? (i := 221) (by decide +kernel)) rfl⟩⟩
theorem fa_X3_168 : FA RX3 168 5 1 := ⟨RX5, TX5, 2, iX5, rfl, by decide, by decide, by decide +kernel, Or.inr ⟨"HandedDown", in_nest (List.mem_of_getElem? (i := 109) (by decide +kernel)) rfl⟩⟩
theorem fa_X4_9 : FA RX4 9 4 0 := ⟨RX4, TX4, 3, iX4, rfl, by decide, by decide, by decide +kernel, Or.inl (in_good (List.mem_of_getElem? (i := 347) (by decide +kernel)) rfl)⟩
theorem fp_X4_9 : FP RX4 9 4 0 (.array .int) true := ⟨RX4, TX4, 3, tyX4, iX4, rfl, by decide, by decide, by decide +kernel, Or.inl (in_good (List.mem_of_getElem? (i := 347) (by decide +kernel)) rfl), tyX4_ok, nmX4, rfl, by decide +kernel, fun _ => rfl⟩
theorem fa_X4_15 : FA RX4 15 4 1 := ⟨RX4, TX4, 3, iX4, rfl, by decide, by decide, by decide +kernel, Or.inl (in_good (List.mem_of_getElem? (i := 348) (by decide +kernel)) rfl)⟩
theorem fp_X4_15 : FP RX4 15 4 1 .int false := ⟨RX4, TX4, 3, tyX4, iX4, rfl, by decide, by decide, by decide +kernel, Or.inl (in_good (List.mem_of_getElem? (i := 348) (by decide +kernel)) rfl), tyX4_ok, nmX4, rfl, by decide +kernel, fun h => (by cases h)⟩
theorem fa_X4_19 : FA RX4 19 4 2 := ⟨RX4, TX4, 3, iX4, rfl, by decide, by decide, by decide +kernel, Or.inl (in_good (List.mem_of_getElem? (i := 349) (by decide +kernel)) rfl)⟩
theorem fp_X4_19 : FP RX4 19 4 2 .int false := ⟨RX4, TX4, 3, tyX4, iX4, rfl, by decide, by decide, by decide +kernel, Or.inl (in_good (List.mem_of_getElem? (i := 349) (by decide +kernel)) rfl), tyX4_ok, nmX4, rfl, by decide +kernel, fun h => (by cases h)⟩
theorem fa_X5_9 : FA RX5 9 5 0 := ⟨RX5, TX5, 2, iX5, rfl, by decide, by decide, by decide +kernel, Or.inl (in_good (List.mem_of_getElem? (i := 106) (by decide +kernel)) rfl)⟩
theorem fp_X5_9 : FP RX5 9 5 0 (.array .byte) true := ⟨RX5, TX5, 2, tyX5, iX5, rfl, by decide, by decide, by decide +kernel, Or.inl (in_good (List.mem_of_getElem? (i := 106) (by decide +kernel)) rfl), tyX5_ok, nmX5, rfl, by decide +kernel, fun _ => rfl⟩
theorem fa_X5_15 : FA RX5 15 5 1 := ⟨RX5, TX5, 2, iX5, rfl, by decide, by decide, by decide +kernel, Or.inl (in_good (List.mem_of_getElem? (i := 107) (by decide +kernel)) rfl)⟩
theorem fp_X5_15 : FP RX5 15 5 1 .int false := ⟨RX5, TX5, 2, tyX5, iX5, rfl, by decide, by decide, by decide +kernel, Or.inl (in_good (List.mem_of_getElem? (i := 107) (by decide +kernel)) rfl), tyX5_ok, nmX5, rfl, by decide +kernel, fun h => (by cases h)⟩
theorem fa_X6_9 : FA RX6 9 6 0 := ⟨RX6, TX6, 8, iX6, rfl, by decide, by decide, by decide +kernel, Or.inl (in_good (List.mem_of_getElem? (i := 156) (by decide +kernel)) rfl)⟩
theorem fp_X6_9 : FP RX6 9 6 0 .int false := ⟨RX6, TX6, 8, tyX6, iX6, rfl, by decide, by decide, by decide +kernel, Or.inl (in_good (List.mem_of_getElem? (i := 156) (by decide +kernel)) rfl), tyX6_ok, nmX6, rfl, by decide +kernel, fun h => (by cases h)⟩
theorem fa_X6_15 : FA RX6 15 6 1 := ⟨RX6, TX6, 8, iX6, rfl, by decide, by decide, by decide +kernel, Or.inl (in_good (List.mem_of_getElem? (i := 160) (by decide +kernel)) rfl)⟩
theorem fp_X6_15 : FP RX6 15 6 1 .int false := ⟨RX6, TX6, 8, tyX6, iX6, rfl, by decide, by decide, by decide +kernel, Or.inl (in_good (List.mem_of_getElem? (i := 160) (by decide +kernel)) rfl), tyX6_ok, nmX6, rfl, by decide +kernel, fun h => (by cases h)⟩
theorem fa_X6_18 : FA RX6 18 6 2 := ⟨RX6, TX6, 8, iX6, rfl, by decide, by decide, by decide +kernel, Or.inl (in_good (List.mem_of_getElem? (i := 164) (by decide +kernel)) rfl)⟩
theorem fp_X6_18 : FP RX6 18 6 2 .int false := ⟨RX6, TX6, 8, tyX6, iX6, rfl, by decide, by decide, by decide +kernel, Or.inl (in_good (List.mem_of_getElem? (i := 164) (by decide +kernel)) rfl), tyX6_ok, nmX6, rfl, by decide +kernel, fun h => (by cases h)⟩
theorem fa_X6_21 : FA RX6 21 6 3 := ⟨RX6, TX6, 8, iX6, rfl, by decide, by decide, by decide +kernel, Or.inl (in_good (List.mem_of_getElem? (i := 167) (by decide +kernel)) rfl)⟩
theorem fp_X6_21 : FP RX6 21 6 3 .int false := ⟨RX6, TX6, 8, tyX6, iX6, rfl, by decide, by decide, by decide +kernel, Or.inl (in_good (List.mem_of_getElem? (i := 167) (by decide +kernel)) rfl), tyX6_ok, nmX6, rfl, by decide +kernel, fun h => (by cases h)⟩
theorem fa_X6_24 : FA RX6 24 6 4 := ⟨RX6, TX6, 8, iX6, rfl, by decide, by decide, by decide +kernel, Or.inl (in_good (List.mem_of_getElem? (i := 170) (by decide +kernel)) rfl)⟩
theorem fp_X6_24 : FP RX6 24 6 4 .int false := ⟨RX6, TX6, 8, tyX6, iX6, rfl, by decide, by decide, by decide +kernel, Or.inl (in_good (List.mem_of_getElem? (i := 170) (by decide +kernel)) rfl), tyX6_ok, nmX6, rfl, by decide +kernel, fun h => (by cases h)⟩
theorem fa_X6_27 : FA RX6 27 6 5 := ⟨RX6, TX6, 8, iX6, rfl, by decide, by decide, by decide +kernel, Or.inl (in_good (List.mem_of_getElem? (i := 173) (by decide +kernel)) rfl)⟩
theorem fp_X6_27 : FP RX6 27 6 5 .boolean false := ⟨RX6, TX6, 8, tyX6, iX6, rfl, by decide, by decide, by decide +kernel, Or.inl (in_good (List.mem_of_getElem? (i := 173) (by decide +kernel)) rfl), tyX6_ok, nmX6, rfl, by decide +kernel, fun h => (by cases h)⟩
theorem fa_X6_31 : FA RX6 31 6 6 := ⟨RX6, TX6, 8, iX6, rfl, by decide, by decide, by decide +kernel, Or.inl (in_good (List.mem_of_getElem? (i := 176) (by decide +kernel)) rfl)⟩
theorem fp_X6_31 : FP RX6 31 6 6 .int false := ⟨RX6, TX6, 8, tyX6, iX6, rfl, by decide, by decide, by decide +kernel, Or.inl (in_good (List.mem_of_getElem? (i := 176) (by decide +kernel)) rfl), tyX6_ok, nmX6, rfl, by decide +kernel, fun h => (by cases h)⟩
theorem fa_X6_34 : FA RX6 34 6 7 := ⟨RX6, TX6, 8, iX6, rfl, by decide, by decide, by decide +kernel, Or.inl (in_good (List.mem_of_getElem? (i := 179) (by decide +kernel)) rfl)⟩
theorem fp_X6_34 : FP RX6 34 6 7 .int false := ⟨RX6, TX6, 8, tyX6, iX6, rfl, by decide, by decide, by decide +kernel, Or.inl (in_good (List.mem_of_getElem? (i := 179) (by decide +kernel)) rfl), tyX6_ok, nmX6, rfl, by decide +kernel, fun h => (by cases h)⟩
theorem fa_X7_11 : FA RX7 11 7 0 := ⟨RX7, TX7, 7, iX7, rfl, by decide, by decide, by decide +kernel, Or.inl (in_good (List.mem_of_getElem? (i := 199) (by decide +kernel)) rfl)⟩
theorem fp_X7_11 : FP RX7 11 7 0 (.array (.object "HandedDown$Child")) true := ⟨RX7, TX7, 7, tyX7, iX7, rfl, by decide, by decide, by decide +kernel, Or.inl (in_good (List.mem_of_getElem? (i := 199) (by decide +kernel)) rfl), tyX7_ok, nmX7, rfl, by decide +kernel, fun _ => rfl⟩
theorem fa_X7_19 : FA RX7 19 7 1 := ⟨RX7, TX7, 7, iX7, rfl, by decide, by decide, by decide +kernel, Or.inl (in_good (List.mem_of_getElem? (i := 203) (by decide +kernel)) rfl)⟩
theorem fp_X7_19 : FP RX7 19 7 1 (.array (.object "HandedDown$Thing")) true := ⟨RX7, TX7, 7, tyX7, iX7, rfl, by decide, by decide, by decide +kernel, Or.inl (in_good (List.mem_of_getElem? (i := 203) (by decide +kernel)) rfl), tyX7_ok, nmX7, rfl, by decide +kernel, fun _ => rfl⟩
theorem fa_X7_23 : FA RX7 23 7 2 := ⟨RX7, TX7, 7, iX7, rfl, by decide, by decide, by decide +kernel, Or.inl (in_good (List.mem_of_getElem? (i := 207) (by decide +kernel)) rfl)⟩
theorem fp_X7_23 : FP RX7 23 7 2 (.array .int) true := ⟨RX7, TX7, 7, tyX7, iX7, rfl, by decide, by decide, by decide +kernel, Or.inl (in_good (List.mem_of_getElem? (i := 207) (by decide +kernel)) rfl), tyX7_ok, nmX7, rfl, by decide +kernel, fun _ => rfl⟩
theorem fa_X7_27 : FA RX7 27 7 3 := ⟨RX7, TX7, 7, iX7, rfl, by decide, by decide, by decide +kernel, Or.inl (in_good (List.mem_of_getElem? (i := 208) (by decide +kernel)) rfl)⟩
theorem fp_X7_27 : FP RX7 27 7 3 (.array .int) true := ⟨RX7, TX7, 7, tyX7, iX7, rfl, by decide, by decide, by decide +kernel, Or.inl (in_good (List.mem_of_getElem? (i := 208) (by decide +kernel)) rfl), tyX7_ok, nmX7, rfl, by decide +kernel, fun _ => rfl⟩
theorem fa_X7_30 : FA RX7 30 7 4 := ⟨RX7, TX7, 7, iX7, rfl, by decide, by decide, by decide +kernel, Or.inl (in_good (List.mem_of_getElem? (i := 210) (by decide +kernel)) rfl)⟩
theorem fp_X7_30 : FP RX7 30 7 4 .int false := ⟨RX7, TX7, 7, tyX7, iX7, rfl, by decide, by decide, by decide +kernel, Or.inl (in_good (List.mem_of_getElem? (i := 210) (by decide +kernel)) rfl), tyX7_ok, nmX7, rfl, by decide +kernel, fun h => (by cases h)⟩
theorem fa_X7_34 : FA RX7 34 7 5 := ⟨RX7, TX7, 7, iX7, rfl, by decide, by decide, by decide +kernel, Or.inl (in_good (List.mem_of_getElem? (i := 215) (by decide +kernel)) rfl)⟩
theorem fp_X7_34 : FP RX7 34 7 5 .int false := ⟨RX7, TX7, 7, tyX7, iX7, rfl, by decide, by decide, by decide +kernel, Or.inl (in_good (List.mem_of_getElem? (i := 215) (by decide +kernel)) rfl), tyX7_ok, nmX7, rfl, by decide +kernel, fun h => (by cases h)⟩
theorem fa_X7_37 : FA RX7 37 7 6 := ⟨RX7, TX7, 7, iX7, rfl, by decide, by decide, by decide +kernel, Or.inl (in_good (List.mem_of_getElem? (i := 219) (by decide +kernel)) rfl)⟩
theorem fp_X7_37 : FP RX7 37 7 6 .int false := ⟨RX7, TX7, 7, tyX7, iX7, rfl, by decide, by decide, by decide +kernel, Or.inl (in_good (List.mem_of_getElem? (i := 219) (by decide +kernel)) rfl), tyX7_ok, nmX7, rfl, by decide +kernel, fun h => (by cases h)⟩
theorem fa_X7_65 : FA RX7 65 0 0 := ⟨RX0, TX0, 3, iX0, rfl, by decide, by decide, by decide +kernel, Or.inr ⟨"HandedDown", in_nest (List.mem_of_getElem? (i := 135) (by decide +kernel)) rfl⟩⟩
theorem fp_X7_65 : FP RX7 65 0 0 .int false := ⟨RX0, TX0, 3, tyX0, iX0, rfl, by decide, by decide, by decide +kernel, Or.inr ⟨rfl, "HandedDown", in_nest (List.mem_of_getElem? (i := 135) (by decide +kernel)) rfl⟩, tyX0_ok, nmX0, rfl, by decide +kernel, fun h => (by cases h)⟩
theorem fa_X7_68 : FA RX7 68 0 1 := ⟨RX0, TX0, 3, iX0, rfl, by decide, by decide, by decide +kernel, Or.inr ⟨"HandedDown", in_nest (List.mem_of_getElem? (i := 139) (by decide +kernel)) rfl⟩⟩
theorem fp_X7_68 : FP RX7 68 0 1 .int false := ⟨RX0, TX0, 3, tyX0, iX0, rfl, by decide, by decide, by decide +kernel, Or.inr ⟨rfl, "HandedDown", in_nest (List.mem_of_getElem? (i := 139) (by decide +kernel)) rfl⟩, tyX0_ok, nmX0, rfl, by decide +kernel, fun h => (by cases h)⟩
theorem fa_X7_71 : FA RX7 71 0 2 := ⟨RX0, TX0, 3, iX0, rfl, by decide, by decide, by decide +kernel, Or.inr ⟨"HandedDown", in_nest (List.mem_of_getElem? (i := 142) (by decide +kernel)) rfl⟩⟩
theorem fp_X7_71 : FP RX7 71 0 2 .int false := ⟨RX0, TX0, 3, tyX0, iX0, rfl, by decide, by decide, by decide +kernel, Or.inr ⟨rfl, "HandedDown", in_nest (List.mem_of_getElem? (i := 142) (by decide +kernel)) rfl⟩, tyX0_ok, nmX0, rfl, by decide +kernel, fun h => (by cases h)⟩
theorem fa_X7_88 : FA RX7 88 6 0 := ⟨RX6, TX6, 8, iX6, rfl, by decide, by decide, by decide +kernel, Or.inr ⟨"HandedDown", in_nest (List.mem_of_getElem? (i := 159) (by decide +kernel)) rfl⟩⟩
theorem fa_X7_91 : FA RX7 91 6 7 := ⟨RX6, TX6, 8, iX6, rfl, by decide, by decide, by decide +kernel, Or.inr ⟨"HandedDown", in_nest (List.mem_of_getElem? (i := 181) (by decide +kernel)) rfl⟩⟩
theorem fp_X7_91 : FP RX7 91 6 7 .int false := ⟨RX6, TX6, 8, tyX6, iX6, rfl, by decide, by decide, by decide +kernel, Or.inr ⟨rfl, "HandedDown", in_nest (List.mem_of_getElem? (i := 181) (by decide +kernel)) rfl⟩, tyX6_ok, nmX6, rfl, by decide +kernel, fun h => (by cases h)⟩
theorem fa_X7_94 : FA RX7 94 6 5 := ⟨RX6, TX6, 8, iX6, rfl, by decide, by decide, by decide +kernel, Or.inr ⟨"HandedDown", in_nest (List.mem_of_getElem? (i := 175) (by decide +kernel)) rfl⟩⟩
theorem fp_X7_94 : FP RX7 94 6 5 .boolean false := ⟨RX6, TX6, 8, tyX6, iX6, rfl, by decide, by decide, by decide +kernel, Or.inr ⟨rfl, "HandedDown", in_nest (List.mem_of_getElem? (i := 175) (by decide +kernel)) rfl⟩, tyX6_ok, nmX6, rfl, by decide +kernel, fun h => (by cases h)⟩
theorem fa_X7_98 : FA RX7 98 6 2 := ⟨RX6, TX6, 8, iX6, rfl, by decide, by decide, by decide +kernel, Or.inr ⟨"HandedDown", in_nest (List.mem_of_getElem? (i := 166) (by decide +kernel)) rfl⟩⟩
theorem fp_X7_98 : FP RX7 98 6 2 .int false := ⟨RX6, TX6, 8, tyX6, iX6, rfl, by decide, by decide, by decide +kernel, Or.inr ⟨rfl, "HandedDown", in_nest (List.mem_of_getElem? (i := 166) (by decide +kernel)) rfl⟩, tyX6_ok, nmX6, rfl, by decide +kernel, fun h => (by cases h)⟩
theorem fa_X7_106 : FA RX7 106 6 4 := ⟨RX6, TX6, 8, iX6, rfl, by decide, by decide, by decide +kernel, Or.inr ⟨"HandedDown", in_nest (List.mem_of_getElem? (i := 172) (by decide +kernel)) rfl⟩⟩
theorem fp_X7_106 : FP RX7 106 6 4 .int false := ⟨RX6, TX6, 8, tyX6, iX6, rfl, by decide, by decide, by decide +kernel, Or.inr ⟨rfl, "HandedDown", in_nest (List.mem_of_getElem? (i := 172) (by decide +kernel)) rfl⟩, tyX6_ok, nmX6, rfl, by decide +kernel, fun h => (by cases h)⟩
theorem fa_X7_120 : FA RX7 120 6 3 := ⟨RX6, TX6, 8, iX6, rfl, by decide, by decide, by decide +kernel, Or.inr ⟨"HandedDown", in_nest (List.mem_of_getElem? (i := 169) (by decide +kernel)) rfl⟩⟩
theorem fp_X7_120 : FP RX7 120 6 3 .int false := ⟨RX6, TX6, 8, tyX6, iX6, rfl, by decide, by decide, by decide +kernel, Or.inr ⟨rfl, "HandedDown", in_nest (List.mem_of_getElem? (i := 169) (by decide +kernel)) rfl⟩, tyX6_ok, nmX6, rfl, by decide +kernel, fun h => (by cases h)⟩
theorem fa_X9_7 : FA RX9 7 9 0 := ⟨RX9, TX9, 38, iX9, rfl, by decide, by decide, by decide +kernel, Or.inl (in_good (List.mem_of_getElem? (i := 1014) (by decide +kernel)) rfl)⟩
theorem fp_X9_7 : FP RX9 7 9 0 (.array .int) true := ⟨RX9, TX9, 38, tyX9, iX9, rfl, by decide, by decide, by decide +kernel, Or.inl (in_good (List.mem_of_getElem? (i := 1014) (by decide +kernel)) rfl), tyX9_ok, nmX9, rfl, by decide +kernel, fun _ => rfl⟩
theorem fa_X9_13 : FA RX9 13 9 1 := ⟨RX9, TX9, 38, iX9, rfl, by decide, by decide, by decide +kernel, Or.inl (in_good (List.mem_of_getElem? (i := 1015) (by decide +kernel)) rfl)⟩
theorem fp_X9_13 : FP RX9 13 9 1 (.array .boolean) true := ⟨RX9, TX9, 38, tyX9, iX9, rfl, by decide, by decide, by decide +kernel, Or.inl (in_good (List.mem_of_getElem? (i := 1015) (by decide +kernel)) rfl), tyX9_ok, nmX9, rfl, by decide +kernel, fun _ => rfl⟩
theorem fa_X9_17 : FA RX9 17 9 3 := ⟨RX9, TX9, 38, iX9, rfl, by decide, by decide, by decide +kernel, Or.inl (in_good (List.mem_of_getElem? (i := 1017) (by decide +kernel)) rfl)⟩
theorem fp_X9_17 : FP RX9 17 9 3 (.array .int) true := ⟨RX9, TX9, 38, tyX9, iX9, rfl, by decide, by decide, by decide +kernel, Or.inl (in_good (List.mem_of_getElem? (i := 1017) (by decide +kernel)) rfl), tyX9_ok, nmX9, rfl, by decide +kernel, fun _ => rfl⟩
theorem fa_X9_20 : FA RX9 20 9 8 := ⟨RX9, TX9, 38, iX9, rfl, by decide, by decide, by decide +kernel, Or.inl (in_good (List.mem_of_getElem? (i := 1022) (by decide +kernel)) rfl)⟩
theorem fp_X9_20 : FP RX9 20 9 8 (.array .int) true := ⟨RX9, TX9, 38, tyX9, iX9, rfl, by decide, by decide, by decide +kernel, Or.inl (in_good (List.mem_of_getElem? (i := 1022) (by decide +kernel)) rfl), tyX9_ok, nmX9, rfl, by decide +kernel, fun _ => rfl⟩
theorem fa_X9_23 : FA RX9 23 9 17 := ⟨RX9, TX9, 38, iX9, rfl, by decide, by decide, by decide +kernel, Or.inl (in_good (List.mem_of_getElem? (i := 1031) (by decide +kernel)) rfl)⟩
theorem fp_X9_23 : FP RX9 23 9 17 (.array .int) true := ⟨RX9, TX9, 38, tyX9, iX9, rfl, by decide, by decide, by decide +kernel, Or.inl (in_good (List.mem_of_getElem? (i := 1031) (by decide +kernel)) rfl), tyX9_ok, nmX9, rfl, by decide +kernel, fun _ => rfl⟩
theorem fa_X9_26 : FA RX9 26 9 18 := ⟨RX9, TX9, 38, iX9, rfl, by decide, by decide, by decide +kernel, Or.inl (in_good (List.mem_of_getElem? (i := 1032) (by decide +kernel)) rfl)⟩
theorem fp_X9_26 : FP RX9 26 9 18 (.array .int) true := ⟨RX9, TX9, 38, tyX9, iX9, rfl, by decide, by decide, by decide +kernel, Or.inl (in_good (List.mem_of_getElem? (i := 1032) (by decide +kernel)) rfl), tyX9_ok, nmX9, rfl, by decide +kernel, fun _ => rfl⟩
theorem fa_X9_29 : FA RX9 29 9 19 := ⟨RX9, TX9, 38, iX9, rfl, by decide, by decide, by decide +kernel, Or.inl (in_good (List.mem_of_getElem? (i := 1033) (by decide +kernel)) rfl)⟩
theorem fp_X9_29 : FP RX9 29 9 19 (.array .int) true := ⟨RX9, TX9, 38, tyX9, iX9, rfl, by decide, by decide, by decide +kernel, Or.inl (in_good (List.mem_of_getElem? (i := 1033) (by decide +kernel)) rfl), tyX9_ok, nmX9, rfl, by decide +kernel, fun _ => rfl⟩
theorem fa_X9_32 : FA RX9 32 9 20 := ⟨RX9, TX9, 38, iX9, rfl, by decide, by decide, by decide +kernel, Or.inl (in_good (List.mem_of_getElem? (i := 1034) (by decide +kernel)) rfl)⟩
theorem fp_X9_32 : FP RX9 32 9 20 (.array .int) true := ⟨RX9, TX9, 38, tyX9, iX9, rfl, by decide, by decide, by decide +kernel, Or.inl (in_good (List.mem_of_getElem? (i := 1034) (by decide +kernel)) rfl), tyX9_ok, nmX9, rfl, by decide +kernel, fun _ => rfl⟩
theorem fa_X9_35 : FA RX9 35 9 21 := ⟨RX9, TX9, 38, iX9, rfl, by decide, by decide, by decide +kernel, Or.inl (in_good (List.mem_of_getElem? (i := 1035) (by decide +kernel)) rfl)⟩
theorem fp_X9_35 : FP RX9 35 9 21 (.array .int) true := ⟨RX9, TX9, 38, tyX9, iX9, rfl, by decide, by decide, by decide +kernel, Or.inl (in_good (List.mem_of_getElem? (i := 1035) (by decide +kernel)) rfl), tyX9_ok, nmX9, rfl, by decide +kernel, fun _ => rfl⟩
theorem fa_X9_38 : FA RX9 38 9 22 := ⟨RX9, TX9, 38, iX9, rfl, by decide, by decide, by decide +kernel, Or.inl (in_good (List.mem_of_getElem? (i := 1036) (by decide +kernel)) rfl)⟩
theorem fp_X9_38 : FP RX9 38 9 22 (.array .int) true := ⟨RX9, TX9, 38, tyX9, iX9, rfl, by decide, by decide, by decide +kernel, Or.inl (in_good (List.mem_of_getElem? (i := 1036) (by decide +kernel)) rfl), tyX9_ok, nmX9, rfl, by decide +kernel, fun _ => rfl⟩
theorem fa_X9_41 : FA RX9 41 9 23 := ⟨RX9, TX9, 38, iX9, rfl, by decide, by decide, by decide +kernel, Or.inl (in_good (List.mem_of_getElem? (i := 1037) (by decide +kernel)) rfl)⟩
theorem fp_X9_41 : FP RX9 41 9 23 (.array .int) true := ⟨RX9, TX9, 38, tyX9, iX9, rfl, by decide, by decide, by decide +kernel, Or.inl (in_good (List.mem_of_getElem? (i := 1037) (by decide +kernel)) rfl), tyX9_ok, nmX9, rfl, by decide +kernel, fun _ => rfl⟩
theorem fa_X9_44 : FA RX9 44 9 24 := ⟨RX9, TX9, 38, iX9, rfl, by decide, by decide, by decide +kernel, Or.inl (in_good (List.mem_of_getElem? (i := 1038) (by decide +kernel)) rfl)⟩
theorem fp_X9_44 : FP RX9 44 9 24 (.array .int) true := ⟨RX9, TX9, 38, tyX9, iX9, rfl, by decide, by decide, by decide +kernel, Or.inl (in_good (List.mem_of_getElem? (i := 1038) (by decide +kernel)) rfl), tyX9_ok, nmX9, rfl, by decide +kernel, fun _ => rfl⟩
theorem fa_X9_47 : FA RX9 47 9 25 := ⟨RX9, TX9, 38, iX9, rfl, by decide, by decide, by decide +kernel, Or.inl (in_good (List.mem_of_getElem? (i := 1039) (by decide +kernel)) rfl)⟩
theorem fp_X9_47 : FP RX9 47 9 25 (.array .int) true := ⟨RX9, TX9, 38, tyX9, iX9, rfl, by decide, by decide, by decide +kernel, Or.inl (in_good (List.mem_of_getElem? (i := 1039) (by decide +kernel)) rfl), tyX9_ok, nmX9, rfl, by decide +kernel, fun _ => rfl⟩
theorem fa_X9_50 : FA RX9 50 9 28 := ⟨RX9, TX9, 38, iX9, rfl, by decide, by decide, by decide +kernel, Or.inl (in_good (List.mem_of_getElem? (i := 1042) (by decide +kernel)) rfl)⟩
theorem fp_X9_50 : FP RX9 50 9 28 (.array .int) true := ⟨RX9, TX9, 38, tyX9, iX9, rfl, by decide, by decide, by decide +kernel, Or.inl (in_good (List.mem_of_getElem? (i := 1042) (by decide +kernel)) rfl), tyX9_ok, nmX9, rfl, by decide +kernel, fun _ => rfl⟩
theorem fa_X9_53 : FA RX9 53 9 29 := ⟨RX9, TX9, 38, iX9, rfl, by decide, by decide, by decide +kernel, Or.inl (in_good (List.mem_of_getElem? (i := 1043) (by decide +kernel)) rfl)⟩
theorem fp_X9_53 : FP RX9 53 9 29 (.array .int) true := ⟨RX9, TX9, 38, tyX9, iX9, rfl, by decide, by decide, by decide +kernel, Or.inl (in_good (List.mem_of_getElem? (i := 1043) (by decide +kernel)) rfl), tyX9_ok, nmX9, rfl, by decide +kernel, fun _ => rfl⟩
theorem fa_X9_56 : FA RX9 56 9 34 := ⟨RX9, TX9, 38, iX9, rfl, by decide, by decide, by decide +kernel, Or.inl (in_good (List.mem_of_getElem? (i := 1048) (by decide +kernel)) rfl)⟩
theorem fp_X9_56 : FP RX9 56 9 34 (.array .int) true := ⟨RX9, TX9, 38, tyX9, iX9, rfl, by decide, by decide, by decide +kernel, Or.inl (in_good (List.mem_of_getElem? (i := 1048) (by decide +kernel)) rfl), tyX9_ok, nmX9, rfl, by decide +kernel, fun _ => rfl⟩
theorem fa_X9_59 : FA RX9 59 9 35 := ⟨RX9, TX9, 38, iX9, rfl, by decide, by decide, by decide +kernel, Or.inl (in_good (List.mem_of_getElem? (i := 1049) (by decide +kernel)) rfl)⟩
theorem fp_X9_59 : FP RX9 59 9 35 (.array .int) true := ⟨RX9, TX9, 38, tyX9, iX9, rfl, by decide, by decide, by decide +kernel, Or.inl (in_good (List.mem_of_getElem? (i := 1049) (by decide +kernel)) rfl), tyX9_ok, nmX9, rfl, by decide +kernel, fun _ => rfl⟩
theorem fa_X9_62 : FA RX9 62 9 36 := ⟨RX9, TX9, 38, iX9, rfl, by decide, by decide, by decide +kernel, Or.inl (in_good (List.mem_of_getElem? (i := 1050) (by decide +kernel)) rfl)⟩
theorem fp_X9_62 : FP RX9 62 9 36 (.array .int) true := ⟨RX9, TX9, 38, tyX9, iX9, rfl, by decide, by decide, by decide +kernel, Or.inl (in_good (List.mem_of_getElem? (i := 1050) (by decide +kernel)) rfl), tyX9_ok, nmX9, rfl, by decide +kernel, fun _ => rfl⟩
theorem fa_X9_71 : FA RX9 71 9 4 := ⟨RX9, TX9, 38, iX9, rfl, by decide, by decide, by decide +kernel, Or.inl (in_good (List.mem_of_getElem? (i := 1018) (by decide +kernel)) rfl)⟩
theorem fp_X9_71 : FP RX9 71 9 4 .int false := ⟨RX9, TX9, 38, tyX9, iX9, rfl, by decide, by decide, by decide +kernel, Or.inl (in_good (List.mem_of_getElem? (i := 1018) (by decide +kernel)) rfl), tyX9_ok, nmX9, rfl, by decide +kernel, fun h => (by cases h)⟩
theorem fa_X9_75 : FA RX9 75 9 5 := ⟨RX9, TX9, 38, iX9, rfl, by decide, by decide, by decide +kernel, Or.inl (in_good (List.mem_of_getElem? (i := 1019) (by decide +kernel)) rfl)⟩
theorem fp_X9_75 : FP RX9 75 9 5 .boolean false := ⟨RX9, TX9, 38, tyX9, iX9, rfl, by decide, by decide, by decide +kernel, Or.inl (in_good (List.mem_of_getElem? (i := 1019) (by decide +kernel)) rfl), tyX9_ok, nmX9, rfl, by decide +kernel, fun h => (by cases h)⟩
theorem fa_X9_79 : FA RX9 79 9 6 := ⟨RX9, TX9, 38, iX9, rfl, by decide, by decide, by decide +kernel, Or.inl (in_good (List.mem_of_getElem? (i := 1020) (by decide +kernel)) rfl)⟩
theorem fp_X9_79 : FP RX9 79 9 6 .int false := ⟨RX9, TX9, 38, tyX9, iX9, rfl, by decide, by decide, by decide +kernel, Or.inl (in_good (List.mem_of_getElem? (i := 1020) (by decide +kernel)) rfl), tyX9_ok, nmX9, rfl, by decide +kernel, fun h => (by cases h)⟩
theorem fa_X9_82 : FA RX9 82 9 7 := ⟨RX9, TX9, 38, iX9, rfl, by decide, by decide, by decide +kernel, Or.inl (in_good (List.mem_of_getElem? (i := 1021) (by decide +kernel)) rfl)⟩
theorem fp_X9_82 : FP RX9 82 9 7 .int false := ⟨RX9, TX9, 38, tyX9, iX9, rfl, by decide, by decide, by decide +kernel, Or.inl (in_good (List.mem_of_getElem? (i := 1021) (by decide +kernel)) rfl), tyX9_ok, nmX9, rfl, by decide +kernel, fun h => (by cases h)⟩
theorem fa_X9_85 : FA RX9 85 9 2 := ⟨RX9, TX9, 38, iX9, rfl, by decide, by decide, by decide +kernel, Or.inl (in_good (List.mem_of_getElem? (i := 1016) (by decide +kernel)) rfl)⟩
theorem fp_X9_85 : FP RX9 85 9 2 .int false := ⟨RX9, TX9, 38, tyX9, iX9, rfl, by decide, by decide, by decide +kernel, Or.inl (in_good (List.mem_of_getElem? (i := 1016) (by decide +kernel)) rfl), tyX9_ok, nmX9, rfl, by decide +kernel, fun h => (by cases h)⟩
theorem fa_X9_88 : FA RX9 88 9 9 := ⟨RX9, TX9, 38, iX9, rfl, by decide, by decide, by decide +kernel, Or.inl (in_good (List.mem_of_getElem? (i := 1023) (by decide +kernel)) rfl)⟩
theorem fp_X9_88 : FP RX9 88 9 9 .int false := ⟨RX9, TX9, 38, tyX9, iX9, rfl, by decide, by decide, by decide +kernel, Or.inl (in_good (List.mem_of_getElem? (i := 1023) (by decide +kernel)) rfl), tyX9_ok, nmX9, rfl, by decide +kernel, fun h => (by cases h)⟩
theorem fa_X9_97 : FA RX9 97 9 14 := ⟨RX9, TX9, 38, iX9, rfl, by decide, by decide, by decide +kernel, Or.inl (in_good (List.mem_of_getElem? (i := 1028) (by decide +kernel)) rfl)⟩
theorem fp_X9_97 : FP RX9 97 9 14 .int false := ⟨RX9, TX9, 38, tyX9, iX9, rfl, by decide, by decide, by decide +kernel, Or.inl (in_good (List.mem_of_getElem? (i := 1028) (by decide +kernel)) rfl), tyX9_ok, nmX9, rfl, by decide +kernel, fun h => (by cases h)⟩
theorem fa_X9_100 : FA RX9 100 9 11 := ⟨RX9, TX9, 38, iX9, rfl, by decide, by decide, by decide +kernel, Or.inl (in_good (List.mem_of_getElem? (i := 1025) (by decide +kernel)) rfl)⟩
theorem fp_X9_100 : FP RX9 100 9 11 .int false := ⟨RX9, TX9, 38, tyX9, iX9, rfl, by decide, by decide, by decide +kernel, Or.inl (in_good (List.mem_of_getElem? (i := 1025) (by decide +kernel)) rfl), tyX9_ok, nmX9, rfl, by decide +kernel, fun h => (by cases h)⟩
theorem fa_X9_103 : FA RX9 103 9 15 := ⟨RX9, TX9, 38, iX9, rfl, by decide, by decide, by decide +kernel, Or.inl (in_good (List.mem_of_getElem? (i := 1029) (by decide +kernel)) rfl)⟩
theorem fp_X9_103 : FP RX9 103 9 15 .int false := ⟨RX9, TX9, 38, tyX9, iX9, rfl, by decide, by decide, by decide +kernel, Or.inl (in_good (List.mem_of_getElem? (i := 1029) (by decide +kernel)) rfl), tyX9_ok, nmX9, rfl, by decide +kernel, fun h => (by cases h)⟩
theorem fa_X9_106 : FA RX9 106 9 10 := ⟨RX9, TX9, 38, iX9, rfl, by decide, by decide, by decide +kernel, Or.inl (in_good (List.mem_of_getElem? (i := 1024) (by decide +kernel)) rfl)⟩
theorem fp_X9_106 : FP RX9 106 9 10 .int false := ⟨RX9, TX9, 38, tyX9, iX9, rfl, by decide, by decide, by decide +kernel, Or.inl (in_good (List.mem_of_getElem? (i := 1024) (by decide +kernel)) rfl), tyX9_ok, nmX9, rfl, by decide +kernel, fun h => (by cases h)⟩
theorem fa_X9_121 : FA RX9 121 9 12 := ⟨RX9, TX9, 38, iX9, rfl, by decide, by decide, by decide +kernel, Or.inl (in_good (List.mem_of_getElem? (i := 1026) (by decide +kernel)) rfl)⟩
theorem fp_X9_121 : FP RX9 121 9 12 .int false := ⟨RX9, TX9, 38, tyX9, iX9, rfl, by decide, by decide, by decide +kernel, Or.inl (in_good (List.mem_of_getElem? (i := 1026) (by decide +kernel)) rfl), tyX9_ok, nmX9, rfl, by decide +kernel, fun h => (by cases h)⟩
theorem fa_X9_132 : FA RX9 132 9 13 := ⟨RX9, TX9, 38, iX9, rfl, by decide, by decide, by decide +kernel, Or.inl (in_good (List.mem_of_getElem? (i := 1027) (by decide +kernel)) rfl)⟩
theorem fp_X9_132 : FP RX9 132 9 13 .int false := ⟨RX9, TX9, 38, tyX9, iX9, rfl, by decide, by decide, by decide +kernel, Or.inl (in_good (List.mem_of_getElem? (i := 1027) (by decide +kernel)) rfl), tyX9_ok, nmX9, rfl, by decide +kernel, fun h => (by cases h)⟩
theorem fa_X9_223 : FA RX9 223 9 16 := ⟨RX9, TX9, 38, iX9, rfl, by decide, by decide, by decide +kernel, Or.inl (in_good (List.mem_of_getElem? (i := 1030) (by decide +kernel)) rfl)⟩
theorem fp_X9_223 : FP RX9 223 9 16 .int false := ⟨RX9, TX9, 38, tyX9, iX9, rfl, by decide, by decide, by decide +kernel, Or.inl (in_good (List.mem_of_getElem? (i := 1030) (by decide +kernel)) rfl), tyX9_ok, nmX9, rfl, by decide +kernel, fun h => (by cases h)⟩
theorem fa_X9_277 : FA RX9 277 9 26 := ⟨RX9, TX9, 38, iX9, rfl, by decide, by decide, by decide +kernel, Or.inl (in_good (List.mem_of_getElem? (i := 1040) (by decide +kernel)) rfl)⟩
theorem fp_X9_277 : FP RX9 277 9 26 .int false := ⟨RX9, TX9, 38, tyX9, iX9, rfl, by decide, by decide, by decide +kernel, Or.inl (in_good (List.mem_of_getElem? (i := 1040) (by decide +kernel)) rfl), tyX9_ok, nmX9, rfl, by decide +kernel, fun h => (by cases h)⟩
theorem fa_X9_280 : FA RX9 280 9 27 := ⟨RX9, TX9, 38, iX9, rfl, by decide, by decide, by decide +kernel, Or.inl (in_good (List.mem_of_getElem? (i := 1041) (by decide +kernel)) rfl)⟩
theorem fp_X9_280 : FP RX9 280 9 27 .int false := ⟨RX9, TX9, 38, tyX9, iX9, rfl, by decide, by decide, by decide +kernel, Or.inl (in_good (List.mem_of_getElem? (i := 1041) (by decide +kernel)) rfl), tyX9_ok, nmX9, rfl, by decide +kernel, fun h => (by cases h)⟩
theorem fa_X9_305 : FA RX9 305 9 30 := ⟨RX9, TX9, 38, iX9, rfl, by decide, by decide, by decide +kernel, Or.inl (in_good (List.mem_of_getElem? (i := 1044) (by decide +kernel)) rfl)⟩
theorem fp_X9_305 : FP RX9 305 9 30 .int false := ⟨RX9, TX9, 38, tyX9, iX9, rfl, by decide, by decide, by decide +kernel, Or.inl (in_good (List.mem_of_getElem? (i := 1044) (by decide +kernel)) rfl), tyX9_ok, nmX9, rfl, by decide +kernel, fun h => (by cases h)⟩
theorem fa_X9_308 : FA RX9 308 9 31 := ⟨RX9, TX9, 38, iX9, rfl, by decide, by decide, by decide +kernel, Or.inl (in_good (List.mem_of_getElem? (i := 1045) (by decide +kernel)) rfl)⟩
theorem fp_X9_308 : FP RX9 308 9 31 .int false := ⟨RX9, TX9, 38, tyX9, iX9, rfl, by decide, by decide, by decide +kernel, Or.inl (in_good (List.mem_of_getElem? (i := 1045) (by decide +kernel)) rfl), tyX9_ok, nmX9, rfl, by decide +kernel, fun h => (by cases h)⟩
theorem fa_X9_311 : FA RX9 311 9 32 := ⟨RX9, TX9, 38, iX9, rfl, by decide, by decide, by decide +kernel, Or.inl (in_good (List.mem_of_getElem? (i := 1046) (by decide +kernel)) rfl)⟩
theorem fp_X9_311 : FP RX9 311 9 32 .int false := ⟨RX9, TX9, 38, tyX9, iX9, rfl, by decide, by decide, by decide +kernel, Or.inl (in_good (List.mem_of_getElem? (i := 1046) (by decide +kernel)) rfl), tyX9_ok, nmX9, rfl, by decide +kernel, fun h => (by cases h)⟩
theorem fa_X9_323 : FA RX9 323 9 33 := ⟨RX9, TX9, 38, iX9, rfl, by decide, by decide, by decide +kernel, Or.inl (in_good (List.mem_of_getElem? (i := 1047) (by decide +kernel)) rfl)⟩
theorem fp_X9_323 : FP RX9 323 9 33 .int false := ⟨RX9, TX9, 38, tyX9, iX9, rfl, by decide, by decide, by decide +kernel, Or.inl (in_good (List.mem_of_getElem? (i := 1047) (by decide +kernel)) rfl), tyX9_ok, nmX9, rfl, by decide +kernel, fun h => (by cases h)⟩
theorem fa_X9_335 : FA RX9 335 9 37 := ⟨RX9, TX9, 38, iX9, rfl, by decide, by decide, by decide +kernel, Or.inl (in_good (List.mem_of_getElem? (i := 1051) (by decide +kernel)) rfl)⟩
theorem fp_X9_335 : FP RX9 335 9 37 .int false := ⟨RX9, TX9, 38, tyX9, iX9, rfl, by decide, by decide, by decide +kernel, Or.inl (in_good (List.mem_of_getElem? (i := 1051) (by decide +kernel)) rfl), tyX9_ok, nmX9, rfl, by decide +kernel, fun h => (by cases h)⟩
theorem yf_X0_init : YF yX0_init cX0_init 1 none 0 := ⟨in_good (List.mem_of_getElem? (i := 129) (by decide +kernel)) rfl, in_good (List.mem_of_getElem? (i := 77) (by decide +kernel)) rfl, by decide +kernel, by decide +kernel, by decide +kernel⟩
theorem pn_X0_init : plainName yX0_init.cls = true := by decide +kernel
theorem yv_X0_init : Cond.instanceMethod yX0_init ∈ lw_good := in_good (List.mem_of_getElem? (i := 128) (by decide +kernel)) rfl
theorem yf_X0_become : YF yX0_become cX0_become 2 none 1 := ⟨in_good (List.mem_of_getElem? (i := 593) (by decide +kernel)) rfl, in_good (List.mem_of_getElem? (i := 77) (by decide +kernel)) rfl, by decide +kernel, by decide +kernel, by decide +kernel⟩
theorem pn_X0_become : plainName yX0_become.cls = true := by decide +kernel
theorem yv_X0_become : Cond.instanceMethod yX0_become ∈ lw_good ∧ Cond.selects yX0_become.cls yX0_become yX0_become ∈ lw_good := ⟨in_good (List.mem_of_getElem? (i := 591) (by decide +kernel)) rfl, in_good (List.mem_of_getElem? (i := 592) (by decide +kernel)) rfl⟩
theorem yf_X0_grow : YF yX0_grow cX0_grow 2 none 1 := ⟨in_good (List.mem_of_getElem? (i := 765) (by decide +kernel)) rfl, in_good (List.mem_of_getElem? (i := 77) (by decide +kernel)) rfl, by decide +kernel, by decide +kernel, by decide +kernel⟩
theorem pn_X0_grow : plainName yX0_grow.cls = true := by decide +kernel
theorem yv_X0_grow : Cond.instanceMethod yX0_grow ∈ lw_good ∧ Cond.selects yX0_grow.cls yX0_grow yX0_grow ∈ lw_good := ⟨in_good (List.mem_of_getElem? (i := 763) (by decide +kernel)) rfl, in_good (List.mem_of_getElem? (i := 764) (by decide +kernel)) rfl⟩
theorem yf_X1_init : YF yX1_init cX1_init 1 none 0 := ⟨in_good (List.mem_of_getElem? (i := 291) (by decide +kernel)) rfl, in_good (List.mem_of_getElem? (i := 80) (by decide +kernel)) rfl, by decide +kernel, by decide +kernel, by decide +kernel⟩
theorem pn_X1_init : plainName yX1_init.cls = true := by decide +kernel
theorem yv_X1_init : Cond.instanceMethod yX1_init ∈ lw_good := in_good (List.mem_of_getElem? (i := 290) (by decide +kernel)) rfl
theorem yf_X1_make : YF yX1_make cX1_make 4 none 3 := ⟨in_good (List.mem_of_getElem? (i := 686) (by decide +kernel)) rfl, in_good (List.mem_of_getElem? (i := 80) (by decide +kernel)) rfl, by decide +kernel, by decide +kernel, by decide +kernel⟩
theorem pn_X1_make : plainName yX1_make.cls = true := by decide +kernel
theorem yv_X1_make : Cond.instanceMethod yX1_make ∈ lw_good ∧ Cond.selects yX1_make.cls yX1_make yX1_make ∈ lw_good := ⟨in_good (List.mem_of_getElem? (i := 684) (by decide +kernel)) rfl, in_good (List.mem_of_getElem? (i := 685) (by decide +kernel)) rfl⟩
theorem yf_X1_begin : YF yX1_begin cX1_begin 8 none 3 := ⟨in_good (List.mem_of_getElem? (i := 690) (by decide +kernel)) rfl, in_good (List.mem_of_getElem? (i := 80) (by decide +kernel)) rfl, by decide +kernel, by decide +kernel, by decide +kernel⟩
theorem pn_X1_begin : plainName yX1_begin.cls = true := by decide +kernel
theorem yv_X1_begin : Cond.instanceMethod yX1_begin ∈ lw_good ∧ Cond.selects yX1_begin.cls yX1_begin yX1_begin ∈ lw_good := ⟨in_good (List.mem_of_getElem? (i := 688) (by decide +kernel)) rfl, in_good (List.mem_of_getElem? (i := 689) (by decide +kernel)) rfl⟩
theorem yf_X1_addLent : YF yX1_addLent cX1_addLent 8 none 4 := ⟨in_good (List.mem_of_getElem? (i := 934) (by decide +kernel)) rfl, in_good (List.mem_of_getElem? (i := 80) (by decide +kernel)) rfl, by decide +kernel, by decide +kernel, by decide +kernel⟩
theorem pn_X1_addLent : plainName yX1_addLent.cls = true := by decide +kernel
theorem yv_X1_addLent : Cond.instanceMethod yX1_addLent ∈ lw_good ∧ Cond.selects yX1_addLent.cls yX1_addLent yX1_addLent ∈ lw_good := ⟨in_good (List.mem_of_getElem? (i := 932) (by decide +kernel)) rfl, in_good (List.mem_of_getElem? (i := 933) (by decide +kernel)) rfl⟩
theorem yf_X1_warmAll : YF yX1_warmAll cX1_warmAll 3 none 0 := ⟨in_good (List.mem_of_getElem? (i := 696) (by decide +kernel)) rfl, in_good (List.mem_of_getElem? (i := 80) (by decide +kernel)) rfl, by decide +kernel, by decide +kernel, by decide +kernel⟩
theorem pn_X1_warmAll : plainName yX1_warmAll.cls = true := by decide +kernel
theorem yv_X1_warmAll : Cond.instanceMethod yX1_warmAll ∈ lw_good ∧ Cond.selects yX1_warmAll.cls yX1_warmAll yX1_warmAll ∈ lw_good := ⟨in_good (List.mem_of_getElem? (i := 694) (by decide +kernel)) rfl, in_good (List.mem_of_getElem? (i := 695) (by decide +kernel)) rfl⟩
theorem yf_X1_thingOf : YF yX1_thingOf cX1_thingOf 2 (some .int) 1 := ⟨in_good (List.mem_of_getElem? (i := 720) (by decide +kernel)) rfl, in_good (List.mem_of_getElem? (i := 80) (by decide +kernel)) rfl, by decide +kernel, by decide +kernel, by decide +kernel⟩
theorem pn_X1_thingOf : plainName yX1_thingOf.cls = true := by decide +kernel
theorem yv_X1_thingOf : Cond.instanceMethod yX1_thingOf ∈ lw_good ∧ Cond.selects yX1_thingOf.cls yX1_thingOf yX1_thingOf ∈ lw_good := ⟨in_good (List.mem_of_getElem? (i := 718) (by decide +kernel)) rfl, in_good (List.mem_of_getElem? (i := 719) (by decide +kernel)) rfl⟩
theorem yf_X1_leftOf : YF yX1_leftOf cX1_leftOf 7 (some .int) 3 := ⟨in_good (List.mem_of_getElem? (i := 743) (by decide +kernel)) rfl, in_good (List.mem_of_getElem? (i := 80) (by decide +kernel)) rfl, by decide +kernel, by decide +kernel, by decide +kernel⟩
theorem pn_X1_leftOf : plainName yX1_leftOf.cls = true := by decide +kernel
theorem yv_X1_leftOf : Cond.instanceMethod yX1_leftOf ∈ lw_good ∧ Cond.selects yX1_leftOf.cls yX1_leftOf yX1_leftOf ∈ lw_good := ⟨in_good (List.mem_of_getElem? (i := 741) (by decide +kernel)) rfl, in_good (List.mem_of_getElem? (i := 742) (by decide +kernel)) rfl⟩
theorem yf_X1_seekFree : YF yX1_seekFree cX1_seekFree 8 (some .int) 2 := ⟨in_good (List.mem_of_getElem? (i := 700) (by decide +kernel)) rfl, in_good (List.mem_of_getElem? (i := 80) (by decide +kernel)) rfl, by decide +kernel, by decide +kernel, by decide +kernel⟩
theorem pn_X1_seekFree : plainName yX1_seekFree.cls = true := by decide +kernel
theorem yv_X1_seekFree : Cond.instanceMethod yX1_seekFree ∈ lw_good ∧ Cond.selects yX1_seekFree.cls yX1_seekFree yX1_seekFree ∈ lw_good := ⟨in_good (List.mem_of_getElem? (i := 699) (by decide +kernel)) rfl, in_good (List.mem_of_getElem? (i := 12) (by decide +kernel)) rfl⟩
theorem yf_X1_passAlong : YF yX1_passAlong cX1_passAlong 6 none 1 := ⟨in_good (List.mem_of_getElem? (i := 704) (by decide +kernel)) rfl, in_good (List.mem_of_getElem? (i := 80) (by decide +kernel)) rfl, by decide +kernel, by decide +kernel, by decide +kernel⟩
theorem pn_X1_passAlong : plainName yX1_passAlong.cls = true := by decide +kernel
theorem yv_X1_passAlong : Cond.instanceMethod yX1_passAlong ∈ lw_good ∧ Cond.selects yX1_passAlong.cls yX1_passAlong yX1_passAlong ∈ lw_good := ⟨in_good (List.mem_of_getElem? (i := 703) (by decide +kernel)) rfl, in_good (List.mem_of_getElem? (i := 13) (by decide +kernel)) rfl⟩
theorem yf_X1_putInOrder : YF yX1_putInOrder cX1_putInOrder 5 none 0 := ⟨in_good (List.mem_of_getElem? (i := 712) (by decide +kernel)) rfl, in_good (List.mem_of_getElem? (i := 80) (by decide +kernel)) rfl, by decide +kernel, by decide +kernel, by decide +kernel⟩
theorem pn_X1_putInOrder : plainName yX1_putInOrder.cls = true := by decide +kernel
theorem yv_X1_putInOrder : Cond.instanceMethod yX1_putInOrder ∈ lw_good ∧ Cond.selects yX1_putInOrder.cls yX1_putInOrder yX1_putInOrder ∈ lw_good := ⟨in_good (List.mem_of_getElem? (i := 710) (by decide +kernel)) rfl, in_good (List.mem_of_getElem? (i := 711) (by decide +kernel)) rfl⟩
theorem yf_X1_canHave : YF yX1_canHave cX1_canHave 7 (some .boolean) 3 := ⟨in_good (List.mem_of_getElem? (i := 716) (by decide +kernel)) rfl, in_good (List.mem_of_getElem? (i := 80) (by decide +kernel)) rfl, by decide +kernel, by decide +kernel, by decide +kernel⟩
theorem pn_X1_canHave : plainName yX1_canHave.cls = true := by decide +kernel
theorem yv_X1_canHave : Cond.instanceMethod yX1_canHave ∈ lw_good ∧ Cond.selects yX1_canHave.cls yX1_canHave yX1_canHave ∈ lw_good := ⟨in_good (List.mem_of_getElem? (i := 715) (by decide +kernel)) rfl, in_good (List.mem_of_getElem? (i := 15) (by decide +kernel)) rfl⟩
theorem yf_X1_give : YF yX1_give cX1_give 3 none 2 := ⟨in_good (List.mem_of_getElem? (i := 708) (by decide +kernel)) rfl, in_good (List.mem_of_getElem? (i := 80) (by decide +kernel)) rfl, by decide +kernel, by decide +kernel, by decide +kernel⟩
theorem pn_X1_give : plainName yX1_give.cls = true := by decide +kernel
theorem yv_X1_give : Cond.instanceMethod yX1_give ∈ lw_good ∧ Cond.selects yX1_give.cls yX1_give yX1_give ∈ lw_good := ⟨in_good (List.mem_of_getElem? (i := 707) (by decide +kernel)) rfl, in_good (List.mem_of_getElem? (i := 14) (by decide +kernel)) rfl⟩
theorem yf_X2_init : YF yX2_init cX2_init 1 none 0 := ⟨in_good (List.mem_of_getElem? (i := 324) (by decide +kernel)) rfl, in_good (List.mem_of_getElem? (i := 81) (by decide +kernel)) rfl, by decide +kernel, by decide +kernel, by decide +kernel⟩
theorem pn_X2_init : plainName yX2_init.cls = true := by decide +kernel
theorem yv_X2_init : Cond.instanceMethod yX2_init ∈ lw_good := in_good (List.mem_of_getElem? (i := 323) (by decide +kernel)) rfl
theorem yf_X2_trace : YF yX2_trace cX2_trace 4 none 2 := ⟨in_good (List.mem_of_getElem? (i := 879) (by decide +kernel)) rfl, in_good (List.mem_of_getElem? (i := 81) (by decide +kernel)) rfl, by decide +kernel, by decide +kernel, by decide +kernel⟩
theorem pn_X2_trace : plainName yX2_trace.cls = true := by decide +kernel
theorem yv_X2_trace : Cond.instanceMethod yX2_trace ∈ lw_good ∧ Cond.selects yX2_trace.cls yX2_trace yX2_trace ∈ lw_good := ⟨in_good (List.mem_of_getElem? (i := 877) (by decide +kernel)) rfl, in_good (List.mem_of_getElem? (i := 878) (by decide +kernel)) rfl⟩
theorem yf_X2_fittingMark : YF yX2_fittingMark cX2_fittingMark 7 (some .int) 3 := ⟨in_good (List.mem_of_getElem? (i := 882) (by decide +kernel)) rfl, in_good (List.mem_of_getElem? (i := 81) (by decide +kernel)) rfl, by decide +kernel, by decide +kernel, by decide +kernel⟩
theorem pn_X2_fittingMark : plainName yX2_fittingMark.cls = true := by decide +kernel
theorem yv_X2_fittingMark : Cond.static yX2_fittingMark ∈ lw_good := in_good (List.mem_of_getElem? (i := 881) (by decide +kernel)) rfl
theorem yf_X2_endingsBehind : YF yX2_endingsBehind cX2_endingsBehind 5 (some .int) 1 := ⟨in_good (List.mem_of_getElem? (i := 888) (by decide +kernel)) rfl, in_good (List.mem_of_getElem? (i := 81) (by decide +kernel)) rfl, by decide +kernel, by decide +kernel, by decide +kernel⟩
theorem pn_X2_endingsBehind : plainName yX2_endingsBehind.cls = true := by decide +kernel
theorem yv_X2_endingsBehind : Cond.instanceMethod yX2_endingsBehind ∈ lw_good ∧ Cond.selects yX2_endingsBehind.cls yX2_endingsBehind yX2_endingsBehind ∈ lw_good := ⟨in_good (List.mem_of_getElem? (i := 887) (by decide +kernel)) rfl, in_good (List.mem_of_getElem? (i := 21) (by decide +kernel)) rfl⟩
theorem yf_X2_canFollow : YF yX2_canFollow cX2_canFollow 4 (some .boolean) 3 := ⟨in_good (List.mem_of_getElem? (i := 898) (by decide +kernel)) rfl, in_good (List.mem_of_getElem? (i := 81) (by decide +kernel)) rfl, by decide +kernel, by decide +kernel, by decide +kernel⟩
theorem pn_X2_canFollow : plainName yX2_canFollow.cls = true := by decide +kernel
theorem yv_X2_canFollow : Cond.instanceMethod yX2_canFollow ∈ lw_good ∧ Cond.selects yX2_canFollow.cls yX2_canFollow yX2_canFollow ∈ lw_good := ⟨in_good (List.mem_of_getElem? (i := 897) (by decide +kernel)) rfl, in_good (List.mem_of_getElem? (i := 22) (by decide +kernel)) rfl⟩
theorem yf_X2_howMany : YF yX2_howMany cX2_howMany 1 (some .int) 0 := ⟨in_good (List.mem_of_getElem? (i := 902) (by decide +kernel)) rfl, in_good (List.mem_of_getElem? (i := 81) (by decide +kernel)) rfl, by decide +kernel, by decide +kernel, by decide +kernel⟩
theorem pn_X2_howMany : plainName yX2_howMany.cls = true := by decide +kernel
theorem yv_X2_howMany : Cond.instanceMethod yX2_howMany ∈ lw_good ∧ Cond.selects yX2_howMany.cls yX2_howMany yX2_howMany ∈ lw_good := ⟨in_good (List.mem_of_getElem? (i := 900) (by decide +kernel)) rfl, in_good (List.mem_of_getElem? (i := 901) (by decide +kernel)) rfl⟩
theorem yf_X2_inFirst : YF yX2_inFirst cX2_inFirst 5 (some .int) 1 := ⟨in_good (List.mem_of_getElem? (i := 906) (by decide +kernel)) rfl, in_good (List.mem_of_getElem? (i := 81) (by decide +kernel)) rfl, by decide +kernel, by decide +kernel, by decide +kernel⟩
theorem pn_X2_inFirst : plainName yX2_inFirst.cls = true := by decide +kernel
theorem yv_X2_inFirst : Cond.instanceMethod yX2_inFirst ∈ lw_good ∧ Cond.selects yX2_inFirst.cls yX2_inFirst yX2_inFirst ∈ lw_good := ⟨in_good (List.mem_of_getElem? (i := 904) (by decide +kernel)) rfl, in_good (List.mem_of_getElem? (i := 905) (by decide +kernel)) rfl⟩
theorem yf_X2_firstBehind : YF yX2_firstBehind cX2_firstBehind 4 (some .int) 2 := ⟨in_good (List.mem_of_getElem? (i := 910) (by decide +kernel)) rfl, in_good (List.mem_of_getElem? (i := 81) (by decide +kernel)) rfl, by decide +kernel, by decide +kernel, by decide +kernel⟩
theorem pn_X2_firstBehind : plainName yX2_firstBehind.cls = true := by decide +kernel
theorem yv_X2_firstBehind : Cond.instanceMethod yX2_firstBehind ∈ lw_good ∧ Cond.selects yX2_firstBehind.cls yX2_firstBehind yX2_firstBehind ∈ lw_good := ⟨in_good (List.mem_of_getElem? (i := 909) (by decide +kernel)) rfl, in_good (List.mem_of_getElem? (i := 23) (by decide +kernel)) rfl⟩
theorem yf_X2_firstOnes : YF yX2_firstOnes cX2_firstOnes 3 (some .int) 0 := ⟨in_good (List.mem_of_getElem? (i := 918) (by decide +kernel)) rfl, in_good (List.mem_of_getElem? (i := 81) (by decide +kernel)) rfl, by decide +kernel, by decide +kernel, by decide +kernel⟩
theorem pn_X2_firstOnes : plainName yX2_firstOnes.cls = true := by decide +kernel
theorem yv_X2_firstOnes : Cond.instanceMethod yX2_firstOnes ∈ lw_good ∧ Cond.selects yX2_firstOnes.cls yX2_firstOnes yX2_firstOnes ∈ lw_good := ⟨in_good (List.mem_of_getElem? (i := 916) (by decide +kernel)) rfl, in_good (List.mem_of_getElem? (i := 917) (by decide +kernel)) rfl⟩
theorem yf_X2_lastOnes : YF yX2_lastOnes cX2_lastOnes 5 (some .int) 0 := ⟨in_good (List.mem_of_getElem? (i := 922) (by decide +kernel)) rfl, in_good (List.mem_of_getElem? (i := 81) (by decide +kernel)) rfl, by decide +kernel, by decide +kernel, by decide +kernel⟩
theorem pn_X2_lastOnes : plainName yX2_lastOnes.cls = true := by decide +kernel
theorem yv_X2_lastOnes : Cond.instanceMethod yX2_lastOnes ∈ lw_good ∧ Cond.selects yX2_lastOnes.cls yX2_lastOnes yX2_lastOnes ∈ lw_good := ⟨in_good (List.mem_of_getElem? (i := 920) (by decide +kernel)) rfl, in_good (List.mem_of_getElem? (i := 921) (by decide +kernel)) rfl⟩
theorem yf_X3_init : YF yX3_init cX3_init 3 none 2 := ⟨in_good (List.mem_of_getElem? (i := 242) (by decide +kernel)) rfl, in_good (List.mem_of_getElem? (i := 79) (by decide +kernel)) rfl, by decide +kernel, by decide +kernel, by decide +kernel⟩
theorem pn_X3_init : plainName yX3_init.cls = true := by decide +kernel
theorem yv_X3_init : Cond.instanceMethod yX3_init ∈ lw_good := in_good (List.mem_of_getElem? (i := 241) (by decide +kernel)) rfl
theorem yf_X3_readAll : YF yX3_readAll cX3_readAll 2 (some .int) 0 := ⟨in_good (List.mem_of_getElem? (i := 429) (by decide +kernel)) rfl, in_good (List.mem_of_getElem? (i := 79) (by decide +kernel)) rfl, by decide +kernel, by decide +kernel, by decide +kernel⟩
theorem pn_X3_readAll : plainName yX3_readAll.cls = true := by decide +kernel
theorem yv_X3_readAll : Cond.instanceMethod yX3_readAll ∈ lw_good ∧ Cond.selects yX3_readAll.cls yX3_readAll yX3_readAll ∈ lw_good := ⟨in_good (List.mem_of_getElem? (i := 427) (by decide +kernel)) rfl, in_good (List.mem_of_getElem? (i := 428) (by decide +kernel)) rfl⟩
theorem yf_X3_refuse : YF yX3_refuse cX3_refuse 2 (some .boolean) 1 := ⟨in_good (List.mem_of_getElem? (i := 458) (by decide +kernel)) rfl, in_good (List.mem_of_getElem? (i := 79) (by decide +kernel)) rfl, by decide +kernel, by decide +kernel, by decide +kernel⟩
theorem pn_X3_refuse : plainName yX3_refuse.cls = true := by decide +kernel
theorem yv_X3_refuse : Cond.instanceMethod yX3_refuse ∈ lw_good ∧ Cond.selects yX3_refuse.cls yX3_refuse yX3_refuse ∈ lw_good := ⟨in_good (List.mem_of_getElem? (i := 457) (by decide +kernel)) rfl, in_good (List.mem_of_getElem? (i := 2) (by decide +kernel)) rfl⟩
theorem yf_X3_takeLine : YF yX3_takeLine cX3_takeLine 1 (some .boolean) 0 := ⟨in_good (List.mem_of_getElem? (i := 454) (by decide +kernel)) rfl, in_good (List.mem_of_getElem? (i := 79) (by decide +kernel)) rfl, by decide +kernel, by decide +kernel, by decide +kernel⟩
theorem pn_X3_takeLine : plainName yX3_takeLine.cls = true := by decide +kernel
theorem yv_X3_takeLine : Cond.instanceMethod yX3_takeLine ∈ lw_good ∧ Cond.selects yX3_takeLine.cls yX3_takeLine yX3_takeLine ∈ lw_good := ⟨in_good (List.mem_of_getElem? (i := 453) (by decide +kernel)) rfl, in_good (List.mem_of_getElem? (i := 1) (by decide +kernel)) rfl⟩
theorem yf_X3_takeSlack : YF yX3_takeSlack cX3_takeSlack 1 (some .boolean) 0 := ⟨in_good (List.mem_of_getElem? (i := 515) (by decide +kernel)) rfl, in_good (List.mem_of_getElem? (i := 79) (by decide +kernel)) rfl, by decide +kernel, by decide +kernel, by decide +kernel⟩
theorem pn_X3_takeSlack : plainName yX3_takeSlack.cls = true := by decide +kernel
theorem yv_X3_takeSlack : Cond.instanceMethod yX3_takeSlack ∈ lw_good ∧ Cond.selects yX3_takeSlack.cls yX3_takeSlack yX3_takeSlack ∈ lw_good := ⟨in_good (List.mem_of_getElem? (i := 514) (by decide +kernel)) rfl, in_good (List.mem_of_getElem? (i := 4) (by decide +kernel)) rfl⟩
theorem yf_X3_takeChild : YF yX3_takeChild cX3_takeChild 3 (some .boolean) 0 := ⟨in_good (List.mem_of_getElem? (i := 529) (by decide +kernel)) rfl, in_good (List.mem_of_getElem? (i := 79) (by decide +kernel)) rfl, by decide +kernel, by decide +kernel, by decide +kernel⟩
theorem pn_X3_takeChild : plainName yX3_takeChild.cls = true := by decide +kernel
theorem yv_X3_takeChild : Cond.instanceMethod yX3_takeChild ∈ lw_good ∧ Cond.selects yX3_takeChild.cls yX3_takeChild yX3_takeChild ∈ lw_good := ⟨in_good (List.mem_of_getElem? (i := 528) (by decide +kernel)) rfl, in_good (List.mem_of_getElem? (i := 7) (by decide +kernel)) rfl⟩
theorem yf_X3_takeThing : YF yX3_takeThing cX3_takeThing 6 (some .boolean) 1 := ⟨in_good (List.mem_of_getElem? (i := 538) (by decide +kernel)) rfl, in_good (List.mem_of_getElem? (i := 79) (by decide +kernel)) rfl, by decide +kernel, by decide +kernel, by decide +kernel⟩
theorem pn_X3_takeThing : plainName yX3_takeThing.cls = true := by decide +kernel
theorem yv_X3_takeThing : Cond.instanceMethod yX3_takeThing ∈ lw_good ∧ Cond.selects yX3_takeThing.cls yX3_takeThing yX3_takeThing ∈ lw_good := ⟨in_good (List.mem_of_getElem? (i := 537) (by decide +kernel)) rfl, in_good (List.mem_of_getElem? (i := 8) (by decide +kernel)) rfl⟩
theorem yf_X3_kindNamed : YF yX3_kindNamed cX3_kindNamed 1 (some .int) 0 := ⟨in_good (List.mem_of_getElem? (i := 542) (by decide +kernel)) rfl, in_good (List.mem_of_getElem? (i := 79) (by decide +kernel)) rfl, by decide +kernel, by decide +kernel, by decide +kernel⟩
theorem pn_X3_kindNamed : plainName yX3_kindNamed.cls = true := by decide +kernel
theorem yv_X3_kindNamed : Cond.instanceMethod yX3_kindNamed ∈ lw_good ∧ Cond.selects yX3_kindNamed.cls yX3_kindNamed yX3_kindNamed ∈ lw_good := ⟨in_good (List.mem_of_getElem? (i := 541) (by decide +kernel)) rfl, in_good (List.mem_of_getElem? (i := 9) (by decide +kernel)) rfl⟩
theorem yf_X3_takeLiking : YF yX3_takeLiking cX3_takeLiking 3 (some .boolean) 0 := ⟨in_good (List.mem_of_getElem? (i := 568) (by decide +kernel)) rfl, in_good (List.mem_of_getElem? (i := 79) (by decide +kernel)) rfl, by decide +kernel, by decide +kernel, by decide +kernel⟩
theorem pn_X3_takeLiking : plainName yX3_takeLiking.cls = true := by decide +kernel
theorem yv_X3_takeLiking : Cond.instanceMethod yX3_takeLiking ∈ lw_good ∧ Cond.selects yX3_takeLiking.cls yX3_takeLiking yX3_takeLiking ∈ lw_good := ⟨in_good (List.mem_of_getElem? (i := 567) (by decide +kernel)) rfl, in_good (List.mem_of_getElem? (i := 10) (by decide +kernel)) rfl⟩
theorem yf_X3_takeMark : YF yX3_takeMark cX3_takeMark 1 (some .boolean) 0 := ⟨in_good (List.mem_of_getElem? (i := 577) (by decide +kernel)) rfl, in_good (List.mem_of_getElem? (i := 79) (by decide +kernel)) rfl, by decide +kernel, by decide +kernel, by decide +kernel⟩
theorem pn_X3_takeMark : plainName yX3_takeMark.cls = true := by decide +kernel
theorem yv_X3_takeMark : Cond.instanceMethod yX3_takeMark ∈ lw_good ∧ Cond.selects yX3_takeMark.cls yX3_takeMark yX3_takeMark ∈ lw_good := ⟨in_good (List.mem_of_getElem? (i := 576) (by decide +kernel)) rfl, in_good (List.mem_of_getElem? (i := 11) (by decide +kernel)) rfl⟩
theorem yf_X3_takeNumber : YF yX3_takeNumber cX3_takeNumber 3 (some .boolean) 2 := ⟨in_good (List.mem_of_getElem? (i := 519) (by decide +kernel)) rfl, in_good (List.mem_of_getElem? (i := 79) (by decide +kernel)) rfl, by decide +kernel, by decide +kernel, by decide +kernel⟩
theorem pn_X3_takeNumber : plainName yX3_takeNumber.cls = true := by decide +kernel
theorem yv_X3_takeNumber : Cond.instanceMethod yX3_takeNumber ∈ lw_good ∧ Cond.selects yX3_takeNumber.cls yX3_takeNumber yX3_takeNumber ∈ lw_good := ⟨in_good (List.mem_of_getElem? (i := 518) (by decide +kernel)) rfl, in_good (List.mem_of_getElem? (i := 5) (by decide +kernel)) rfl⟩
theorem yf_X3_takeStop : YF yX3_takeStop cX3_takeStop 1 (some .boolean) 0 := ⟨in_good (List.mem_of_getElem? (i := 524) (by decide +kernel)) rfl, in_good (List.mem_of_getElem? (i := 79) (by decide +kernel)) rfl, by decide +kernel, by decide +kernel, by decide +kernel⟩
theorem pn_X3_takeStop : plainName yX3_takeStop.cls = true := by decide +kernel
theorem yv_X3_takeStop : Cond.instanceMethod yX3_takeStop ∈ lw_good ∧ Cond.selects yX3_takeStop.cls yX3_takeStop yX3_takeStop ∈ lw_good := ⟨in_good (List.mem_of_getElem? (i := 523) (by decide +kernel)) rfl, in_good (List.mem_of_getElem? (i := 6) (by decide +kernel)) rfl⟩
theorem yf_X3_nextToken : YF yX3_nextToken cX3_nextToken 2 none 0 := ⟨in_good (List.mem_of_getElem? (i := 440) (by decide +kernel)) rfl, in_good (List.mem_of_getElem? (i := 79) (by decide +kernel)) rfl, by decide +kernel, by decide +kernel, by decide +kernel⟩
theorem pn_X3_nextToken : plainName yX3_nextToken.cls = true := by decide +kernel
theorem yv_X3_nextToken : Cond.instanceMethod yX3_nextToken ∈ lw_good ∧ Cond.selects yX3_nextToken.cls yX3_nextToken yX3_nextToken ∈ lw_good := ⟨in_good (List.mem_of_getElem? (i := 439) (by decide +kernel)) rfl, in_good (List.mem_of_getElem? (i := 0) (by decide +kernel)) rfl⟩
theorem yf_X3_isLetter : YF yX3_isLetter cX3_isLetter 1 (some .boolean) 1 := ⟨in_good (List.mem_of_getElem? (i := 447) (by decide +kernel)) rfl, in_good (List.mem_of_getElem? (i := 79) (by decide +kernel)) rfl, by decide +kernel, by decide +kernel, by decide +kernel⟩
theorem pn_X3_isLetter : plainName yX3_isLetter.cls = true := by decide +kernel
theorem yv_X3_isLetter : Cond.static yX3_isLetter ∈ lw_good := in_good (List.mem_of_getElem? (i := 446) (by decide +kernel)) rfl
theorem yf_X3_isFigure : YF yX3_isFigure cX3_isFigure 1 (some .boolean) 1 := ⟨in_good (List.mem_of_getElem? (i := 450) (by decide +kernel)) rfl, in_good (List.mem_of_getElem? (i := 79) (by decide +kernel)) rfl, by decide +kernel, by decide +kernel, by decide +kernel⟩
theorem pn_X3_isFigure : plainName yX3_isFigure.cls = true := by decide +kernel
theorem yv_X3_isFigure : Cond.static yX3_isFigure ∈ lw_good := in_good (List.mem_of_getElem? (i := 449) (by decide +kernel)) rfl
theorem yf_X3_isNamed : YF yX3_isNamed cX3_isNamed 3 (some .boolean) 1 := ⟨in_good (List.mem_of_getElem? (i := 463) (by decide +kernel)) rfl, in_good (List.mem_of_getElem? (i := 79) (by decide +kernel)) rfl, by decide +kernel, by decide +kernel, by decide +kernel⟩
theorem pn_X3_isNamed : plainName yX3_isNamed.cls = true := by decide +kernel
theorem yv_X3_isNamed : Cond.instanceMethod yX3_isNamed ∈ lw_good ∧ Cond.selects yX3_isNamed.cls yX3_isNamed yX3_isNamed ∈ lw_good := ⟨in_good (List.mem_of_getElem? (i := 462) (by decide +kernel)) rfl, in_good (List.mem_of_getElem? (i := 3) (by decide +kernel)) rfl⟩
theorem yf_X4_init : YF yX4_init cX4_init 1 none 0 := ⟨in_good (List.mem_of_getElem? (i := 345) (by decide +kernel)) rfl, in_good (List.mem_of_getElem? (i := 82) (by decide +kernel)) rfl, by decide +kernel, by decide +kernel, by decide +kernel⟩
theorem pn_X4_init : plainName yX4_init.cls = true := by decide +kernel
theorem yv_X4_init : Cond.instanceMethod yX4_init ∈ lw_good := in_good (List.mem_of_getElem? (i := 344) (by decide +kernel)) rfl
theorem yf_X4_isNothing : YF yX4_isNothing cX4_isNothing 1 (some .boolean) 0 := ⟨in_good (List.mem_of_getElem? (i := 965) (by decide +kernel)) rfl, in_good (List.mem_of_getElem? (i := 82) (by decide +kernel)) rfl, by decide +kernel, by decide +kernel, by decide +kernel⟩
theorem pn_X4_isNothing : plainName yX4_isNothing.cls = true := by decide +kernel
theorem yv_X4_isNothing : Cond.instanceMethod yX4_isNothing ∈ lw_good ∧ Cond.selects yX4_isNothing.cls yX4_isNothing yX4_isNothing ∈ lw_good := ⟨in_good (List.mem_of_getElem? (i := 963) (by decide +kernel)) rfl, in_good (List.mem_of_getElem? (i := 964) (by decide +kernel)) rfl⟩
theorem yf_X4_hasCell : YF yX4_hasCell cX4_hasCell 2 (some .boolean) 1 := ⟨in_good (List.mem_of_getElem? (i := 969) (by decide +kernel)) rfl, in_good (List.mem_of_getElem? (i := 82) (by decide +kernel)) rfl, by decide +kernel, by decide +kernel, by decide +kernel⟩
theorem pn_X4_hasCell : plainName yX4_hasCell.cls = true := by decide +kernel
theorem yv_X4_hasCell : Cond.instanceMethod yX4_hasCell ∈ lw_good ∧ Cond.selects yX4_hasCell.cls yX4_hasCell yX4_hasCell ∈ lw_good := ⟨in_good (List.mem_of_getElem? (i := 967) (by decide +kernel)) rfl, in_good (List.mem_of_getElem? (i := 968) (by decide +kernel)) rfl⟩
theorem yf_X4_cellAt : YF yX4_cellAt cX4_cellAt 2 (some .int) 1 := ⟨in_good (List.mem_of_getElem? (i := 986) (by decide +kernel)) rfl, in_good (List.mem_of_getElem? (i := 82) (by decide +kernel)) rfl, by decide +kernel, by decide +kernel, by decide +kernel⟩
theorem pn_X4_cellAt : plainName yX4_cellAt.cls = true := by decide +kernel
theorem yv_X4_cellAt : Cond.instanceMethod yX4_cellAt ∈ lw_good ∧ Cond.selects yX4_cellAt.cls yX4_cellAt yX4_cellAt ∈ lw_good := ⟨in_good (List.mem_of_getElem? (i := 984) (by decide +kernel)) rfl, in_good (List.mem_of_getElem? (i := 985) (by decide +kernel)) rfl⟩
theorem yf_X4_renew : YF yX4_renew cX4_renew 3 none 2 := ⟨in_good (List.mem_of_getElem? (i := 956) (by decide +kernel)) rfl, in_good (List.mem_of_getElem? (i := 82) (by decide +kernel)) rfl, by decide +kernel, by decide +kernel, by decide +kernel⟩
theorem pn_X4_renew : plainName yX4_renew.cls = true := by decide +kernel
theorem yv_X4_renew : Cond.instanceMethod yX4_renew ∈ lw_good ∧ Cond.selects yX4_renew.cls yX4_renew yX4_renew ∈ lw_good := ⟨in_good (List.mem_of_getElem? (i := 954) (by decide +kernel)) rfl, in_good (List.mem_of_getElem? (i := 955) (by decide +kernel)) rfl⟩
theorem yf_X4_faultAs : YF yX4_faultAs cX4_faultAs 2 (some .int) 1 := ⟨in_good (List.mem_of_getElem? (i := 981) (by decide +kernel)) rfl, in_good (List.mem_of_getElem? (i := 82) (by decide +kernel)) rfl, by decide +kernel, by decide +kernel, by decide +kernel⟩
theorem pn_X4_faultAs : plainName yX4_faultAs.cls = true := by decide +kernel
theorem yv_X4_faultAs : Cond.instanceMethod yX4_faultAs ∈ lw_good ∧ Cond.selects yX4_faultAs.cls yX4_faultAs yX4_faultAs ∈ lw_good := ⟨in_good (List.mem_of_getElem? (i := 979) (by decide +kernel)) rfl, in_good (List.mem_of_getElem? (i := 980) (by decide +kernel)) rfl⟩
theorem yf_X4_setCell : YF yX4_setCell cX4_setCell 3 none 2 := ⟨in_good (List.mem_of_getElem? (i := 973) (by decide +kernel)) rfl, in_good (List.mem_of_getElem? (i := 82) (by decide +kernel)) rfl, by decide +kernel, by decide +kernel, by decide +kernel⟩
theorem pn_X4_setCell : plainName yX4_setCell.cls = true := by decide +kernel
theorem yv_X4_setCell : Cond.instanceMethod yX4_setCell ∈ lw_good ∧ Cond.selects yX4_setCell.cls yX4_setCell yX4_setCell ∈ lw_good := ⟨in_good (List.mem_of_getElem? (i := 971) (by decide +kernel)) rfl, in_good (List.mem_of_getElem? (i := 972) (by decide +kernel)) rfl⟩
theorem yf_X5_init : YF yX5_init cX5_init 1 none 0 := ⟨in_good (List.mem_of_getElem? (i := 104) (by decide +kernel)) rfl, in_good (List.mem_of_getElem? (i := 75) (by decide +kernel)) rfl, by decide +kernel, by decide +kernel, by decide +kernel⟩
theorem pn_X5_init : plainName yX5_init.cls = true := by decide +kernel
theorem yv_X5_init : Cond.instanceMethod yX5_init ∈ lw_good := in_good (List.mem_of_getElem? (i := 103) (by decide +kernel)) rfl
theorem yf_X5_takeEight : YF yX5_takeEight cX5_takeEight 4 (some .boolean) 1 := ⟨in_good (List.mem_of_getElem? (i := 414) (by decide +kernel)) rfl, in_good (List.mem_of_getElem? (i := 75) (by decide +kernel)) rfl, by decide +kernel, by decide +kernel, by decide +kernel⟩
theorem pn_X5_takeEight : plainName yX5_takeEight.cls = true := by decide +kernel
theorem yv_X5_takeEight : Cond.instanceMethod yX5_takeEight ∈ lw_good ∧ Cond.selects yX5_takeEight.cls yX5_takeEight yX5_takeEight ∈ lw_good := ⟨in_good (List.mem_of_getElem? (i := 412) (by decide +kernel)) rfl, in_good (List.mem_of_getElem? (i := 413) (by decide +kernel)) rfl⟩
theorem yf_X5_byteAt : YF yX5_byteAt cX5_byteAt 2 (some .int) 1 := ⟨in_good (List.mem_of_getElem? (i := 444) (by decide +kernel)) rfl, in_good (List.mem_of_getElem? (i := 75) (by decide +kernel)) rfl, by decide +kernel, by decide +kernel, by decide +kernel⟩
theorem pn_X5_byteAt : plainName yX5_byteAt.cls = true := by decide +kernel
theorem yv_X5_byteAt : Cond.instanceMethod yX5_byteAt ∈ lw_good ∧ Cond.selects yX5_byteAt.cls yX5_byteAt yX5_byteAt ∈ lw_good := ⟨in_good (List.mem_of_getElem? (i := 442) (by decide +kernel)) rfl, in_good (List.mem_of_getElem? (i := 443) (by decide +kernel)) rfl⟩
theorem yf_X6_init : YF yX6_init cX6_init 1 none 0 := ⟨in_good (List.mem_of_getElem? (i := 154) (by decide +kernel)) rfl, in_good (List.mem_of_getElem? (i := 78) (by decide +kernel)) rfl, by decide +kernel, by decide +kernel, by decide +kernel⟩
theorem pn_X6_init : plainName yX6_init.cls = true := by decide +kernel
theorem yv_X6_init : Cond.instanceMethod yX6_init ∈ lw_good := in_good (List.mem_of_getElem? (i := 153) (by decide +kernel)) rfl
theorem yf_X6_become : YF yX6_become cX6_become 2 none 1 := ⟨in_good (List.mem_of_getElem? (i := 597) (by decide +kernel)) rfl, in_good (List.mem_of_getElem? (i := 78) (by decide +kernel)) rfl, by decide +kernel, by decide +kernel, by decide +kernel⟩
theorem pn_X6_become : plainName yX6_become.cls = true := by decide +kernel
theorem yv_X6_become : Cond.instanceMethod yX6_become ∈ lw_good ∧ Cond.selects yX6_become.cls yX6_become yX6_become ∈ lw_good := ⟨in_good (List.mem_of_getElem? (i := 595) (by decide +kernel)) rfl, in_good (List.mem_of_getElem? (i := 596) (by decide +kernel)) rfl⟩
theorem yf_X6_becomePlain : YF yX6_becomePlain cX6_becomePlain 4 none 3 := ⟨in_good (List.mem_of_getElem? (i := 558) (by decide +kernel)) rfl, in_good (List.mem_of_getElem? (i := 78) (by decide +kernel)) rfl, by decide +kernel, by decide +kernel, by decide +kernel⟩
theorem pn_X6_becomePlain : plainName yX6_becomePlain.cls = true := by decide +kernel
theorem yv_X6_becomePlain : Cond.instanceMethod yX6_becomePlain ∈ lw_good ∧ Cond.selects yX6_becomePlain.cls yX6_becomePlain yX6_becomePlain ∈ lw_good := ⟨in_good (List.mem_of_getElem? (i := 556) (by decide +kernel)) rfl, in_good (List.mem_of_getElem? (i := 557) (by decide +kernel)) rfl⟩
theorem yf_X6_isWornOut : YF yX6_isWornOut cX6_isWornOut 2 (some .boolean) 0 := ⟨in_good (List.mem_of_getElem? (i := 650) (by decide +kernel)) rfl, in_good (List.mem_of_getElem? (i := 78) (by decide +kernel)) rfl, by decide +kernel, by decide +kernel, by decide +kernel⟩
theorem pn_X6_isWornOut : plainName yX6_isWornOut.cls = true := by decide +kernel
theorem yv_X6_isWornOut : Cond.instanceMethod yX6_isWornOut ∈ lw_good ∧ Cond.selects yX6_isWornOut.cls yX6_isWornOut yX6_isWornOut ∈ lw_good := ⟨in_good (List.mem_of_getElem? (i := 648) (by decide +kernel)) rfl, in_good (List.mem_of_getElem? (i := 649) (by decide +kernel)) rfl⟩
theorem yf_X6_fitFor : YF yX6_fitFor cX6_fitFor 5 (some .int) 3 := ⟨in_good (List.mem_of_getElem? (i := 646) (by decide +kernel)) rfl, in_good (List.mem_of_getElem? (i := 78) (by decide +kernel)) rfl, by decide +kernel, by decide +kernel, by decide +kernel⟩
theorem pn_X6_fitFor : plainName yX6_fitFor.cls = true := by decide +kernel
theorem yv_X6_fitFor : Cond.instanceMethod yX6_fitFor ∈ lw_good ∧ Cond.selects yX6_fitFor.cls yX6_fitFor yX6_fitFor ∈ lw_good := ⟨in_good (List.mem_of_getElem? (i := 644) (by decide +kernel)) rfl, in_good (List.mem_of_getElem? (i := 645) (by decide +kernel)) rfl⟩
theorem yf_X7_init : YF yX7_init cX7_init 2 none 0 := ⟨in_good (List.mem_of_getElem? (i := 120) (by decide +kernel)) rfl, in_good (List.mem_of_getElem? (i := 76) (by decide +kernel)) rfl, by decide +kernel, by decide +kernel, by decide +kernel⟩
theorem pn_X7_init : plainName yX7_init.cls = true := by decide +kernel
theorem yv_X7_init : Cond.instanceMethod yX7_init ∈ lw_good := in_good (List.mem_of_getElem? (i := 119) (by decide +kernel)) rfl
theorem yf_X7_clear : YF yX7_clear cX7_clear 1 none 0 := ⟨in_good (List.mem_of_getElem? (i := 433) (by decide +kernel)) rfl, in_good (List.mem_of_getElem? (i := 76) (by decide +kernel)) rfl, by decide +kernel, by decide +kernel, by decide +kernel⟩
theorem pn_X7_clear : plainName yX7_clear.cls = true := by decide +kernel
theorem yv_X7_clear : Cond.instanceMethod yX7_clear ∈ lw_good ∧ Cond.selects yX7_clear.cls yX7_clear yX7_clear ∈ lw_good := ⟨in_good (List.mem_of_getElem? (i := 431) (by decide +kernel)) rfl, in_good (List.mem_of_getElem? (i := 432) (by decide +kernel)) rfl⟩
theorem yf_X7_becomeAll : YF yX7_becomeAll cX7_becomeAll 2 none 1 := ⟨in_good (List.mem_of_getElem? (i := 585) (by decide +kernel)) rfl, in_good (List.mem_of_getElem? (i := 76) (by decide +kernel)) rfl, by decide +kernel, by decide +kernel, by decide +kernel⟩
theorem pn_X7_becomeAll : plainName yX7_becomeAll.cls = true := by decide +kernel
theorem yv_X7_becomeAll : Cond.instanceMethod yX7_becomeAll ∈ lw_good ∧ Cond.selects yX7_becomeAll.cls yX7_becomeAll yX7_becomeAll ∈ lw_good := ⟨in_good (List.mem_of_getElem? (i := 583) (by decide +kernel)) rfl, in_good (List.mem_of_getElem? (i := 584) (by decide +kernel)) rfl⟩
theorem yf_X7_becomeBodies : YF yX7_becomeBodies cX7_becomeBodies 3 none 1 := ⟨in_good (List.mem_of_getElem? (i := 589) (by decide +kernel)) rfl, in_good (List.mem_of_getElem? (i := 76) (by decide +kernel)) rfl, by decide +kernel, by decide +kernel, by decide +kernel⟩
theorem pn_X7_becomeBodies : plainName yX7_becomeBodies.cls = true := by decide +kernel
theorem yv_X7_becomeBodies : Cond.instanceMethod yX7_becomeBodies ∈ lw_good ∧ Cond.selects yX7_becomeBodies.cls yX7_becomeBodies yX7_becomeBodies ∈ lw_good := ⟨in_good (List.mem_of_getElem? (i := 587) (by decide +kernel)) rfl, in_good (List.mem_of_getElem? (i := 588) (by decide +kernel)) rfl⟩
theorem yf_X7_hasChild : YF yX7_hasChild cX7_hasChild 2 (some .boolean) 1 := ⟨in_good (List.mem_of_getElem? (i := 612) (by decide +kernel)) rfl, in_good (List.mem_of_getElem? (i := 76) (by decide +kernel)) rfl, by decide +kernel, by decide +kernel, by decide +kernel⟩
theorem pn_X7_hasChild : plainName yX7_hasChild.cls = true := by decide +kernel
theorem yv_X7_hasChild : Cond.instanceMethod yX7_hasChild ∈ lw_good ∧ Cond.selects yX7_hasChild.cls yX7_hasChild yX7_hasChild ∈ lw_good := ⟨in_good (List.mem_of_getElem? (i := 610) (by decide +kernel)) rfl, in_good (List.mem_of_getElem? (i := 611) (by decide +kernel)) rfl⟩
theorem yf_X7_hasThing : YF yX7_hasThing cX7_hasThing 2 (some .boolean) 1 := ⟨in_good (List.mem_of_getElem? (i := 562) (by decide +kernel)) rfl, in_good (List.mem_of_getElem? (i := 76) (by decide +kernel)) rfl, by decide +kernel, by decide +kernel, by decide +kernel⟩
theorem pn_X7_hasThing : plainName yX7_hasThing.cls = true := by decide +kernel
theorem yv_X7_hasThing : Cond.instanceMethod yX7_hasThing ∈ lw_good ∧ Cond.selects yX7_hasThing.cls yX7_hasThing yX7_hasThing ∈ lw_good := ⟨in_good (List.mem_of_getElem? (i := 560) (by decide +kernel)) rfl, in_good (List.mem_of_getElem? (i := 561) (by decide +kernel)) rfl⟩
theorem yf_X7_addChild : YF yX7_addChild cX7_addChild 4 none 3 := ⟨in_good (List.mem_of_getElem? (i := 533) (by decide +kernel)) rfl, in_good (List.mem_of_getElem? (i := 76) (by decide +kernel)) rfl, by decide +kernel, by decide +kernel, by decide +kernel⟩
theorem pn_X7_addChild : plainName yX7_addChild.cls = true := by decide +kernel
theorem yv_X7_addChild : Cond.instanceMethod yX7_addChild ∈ lw_good ∧ Cond.selects yX7_addChild.cls yX7_addChild yX7_addChild ∈ lw_good := ⟨in_good (List.mem_of_getElem? (i := 531) (by decide +kernel)) rfl, in_good (List.mem_of_getElem? (i := 532) (by decide +kernel)) rfl⟩
theorem yf_X7_addPlain : YF yX7_addPlain cX7_addPlain 4 (some .int) 3 := ⟨in_good (List.mem_of_getElem? (i := 554) (by decide +kernel)) rfl, in_good (List.mem_of_getElem? (i := 76) (by decide +kernel)) rfl, by decide +kernel, by decide +kernel, by decide +kernel⟩
theorem pn_X7_addPlain : plainName yX7_addPlain.cls = true := by decide +kernel
theorem yv_X7_addPlain : Cond.instanceMethod yX7_addPlain ∈ lw_good ∧ Cond.selects yX7_addPlain.cls yX7_addPlain yX7_addPlain ∈ lw_good := ⟨in_good (List.mem_of_getElem? (i := 552) (by decide +kernel)) rfl, in_good (List.mem_of_getElem? (i := 553) (by decide +kernel)) rfl⟩
theorem yf_X7_addMark : YF yX7_addMark cX7_addMark 2 none 1 := ⟨in_good (List.mem_of_getElem? (i := 581) (by decide +kernel)) rfl, in_good (List.mem_of_getElem? (i := 76) (by decide +kernel)) rfl, by decide +kernel, by decide +kernel, by decide +kernel⟩
theorem pn_X7_addMark : plainName yX7_addMark.cls = true := by decide +kernel
theorem yv_X7_addMark : Cond.instanceMethod yX7_addMark ∈ lw_good ∧ Cond.selects yX7_addMark.cls yX7_addMark yX7_addMark ∈ lw_good := ⟨in_good (List.mem_of_getElem? (i := 579) (by decide +kernel)) rfl, in_good (List.mem_of_getElem? (i := 580) (by decide +kernel)) rfl⟩
theorem yf_X7_smallestSize : YF yX7_smallestSize cX7_smallestSize 3 (some .int) 0 := ⟨in_good (List.mem_of_getElem? (i := 811) (by decide +kernel)) rfl, in_good (List.mem_of_getElem? (i := 76) (by decide +kernel)) rfl, by decide +kernel, by decide +kernel, by decide +kernel⟩
theorem pn_X7_smallestSize : plainName yX7_smallestSize.cls = true := by decide +kernel
theorem yv_X7_smallestSize : Cond.instanceMethod yX7_smallestSize ∈ lw_good ∧ Cond.selects yX7_smallestSize.cls yX7_smallestSize yX7_smallestSize ∈ lw_good := ⟨in_good (List.mem_of_getElem? (i := 809) (by decide +kernel)) rfl, in_good (List.mem_of_getElem? (i := 810) (by decide +kernel)) rfl⟩
theorem yf_X7_likingOf : YF yX7_likingOf cX7_likingOf 3 (some .int) 2 := ⟨in_good (List.mem_of_getElem? (i := 633) (by decide +kernel)) rfl, in_good (List.mem_of_getElem? (i := 76) (by decide +kernel)) rfl, by decide +kernel, by decide +kernel, by decide +kernel⟩
theorem pn_X7_likingOf : plainName yX7_likingOf.cls = true := by decide +kernel
theorem yv_X7_likingOf : Cond.instanceMethod yX7_likingOf ∈ lw_good ∧ Cond.selects yX7_likingOf.cls yX7_likingOf yX7_likingOf ∈ lw_good := ⟨in_good (List.mem_of_getElem? (i := 631) (by decide +kernel)) rfl, in_good (List.mem_of_getElem? (i := 632) (by decide +kernel)) rfl⟩
theorem yf_X7_setLiking : YF yX7_setLiking cX7_setLiking 4 none 3 := ⟨in_good (List.mem_of_getElem? (i := 572) (by decide +kernel)) rfl, in_good (List.mem_of_getElem? (i := 76) (by decide +kernel)) rfl, by decide +kernel, by decide +kernel, by decide +kernel⟩
theorem pn_X7_setLiking : plainName yX7_setLiking.cls = true := by decide +kernel
theorem yv_X7_setLiking : Cond.instanceMethod yX7_setLiking ∈ lw_good ∧ Cond.selects yX7_setLiking.cls yX7_setLiking yX7_setLiking ∈ lw_good := ⟨in_good (List.mem_of_getElem? (i := 570) (by decide +kernel)) rfl, in_good (List.mem_of_getElem? (i := 571) (by decide +kernel)) rfl⟩
theorem yf_X7_fitOf : YF yX7_fitOf cX7_fitOf 4 (some .int) 3 := ⟨in_good (List.mem_of_getElem? (i := 642) (by decide +kernel)) rfl, in_good (List.mem_of_getElem? (i := 76) (by decide +kernel)) rfl, by decide +kernel, by decide +kernel, by decide +kernel⟩
theorem pn_X7_fitOf : plainName yX7_fitOf.cls = true := by decide +kernel
theorem yv_X7_fitOf : Cond.instanceMethod yX7_fitOf ∈ lw_good ∧ Cond.selects yX7_fitOf.cls yX7_fitOf yX7_fitOf ∈ lw_good := ⟨in_good (List.mem_of_getElem? (i := 640) (by decide +kernel)) rfl, in_good (List.mem_of_getElem? (i := 641) (by decide +kernel)) rfl⟩
theorem yf_X7_wornBy : YF yX7_wornBy cX7_wornBy 4 (some .int) 2 := ⟨in_good (List.mem_of_getElem? (i := 616) (by decide +kernel)) rfl, in_good (List.mem_of_getElem? (i := 76) (by decide +kernel)) rfl, by decide +kernel, by decide +kernel, by decide +kernel⟩
theorem pn_X7_wornBy : plainName yX7_wornBy.cls = true := by decide +kernel
theorem yv_X7_wornBy : Cond.instanceMethod yX7_wornBy ∈ lw_good ∧ Cond.selects yX7_wornBy.cls yX7_wornBy yX7_wornBy ∈ lw_good := ⟨in_good (List.mem_of_getElem? (i := 614) (by decide +kernel)) rfl, in_good (List.mem_of_getElem? (i := 615) (by decide +kernel)) rfl⟩
theorem yf_X7_putOn : YF yX7_putOn cX7_putOn 5 none 3 := ⟨in_good (List.mem_of_getElem? (i := 659) (by decide +kernel)) rfl, in_good (List.mem_of_getElem? (i := 76) (by decide +kernel)) rfl, by decide +kernel, by decide +kernel, by decide +kernel⟩
theorem pn_X7_putOn : plainName yX7_putOn.cls = true := by decide +kernel
theorem yv_X7_putOn : Cond.instanceMethod yX7_putOn ∈ lw_good ∧ Cond.selects yX7_putOn.cls yX7_putOn yX7_putOn ∈ lw_good := ⟨in_good (List.mem_of_getElem? (i := 657) (by decide +kernel)) rfl, in_good (List.mem_of_getElem? (i := 658) (by decide +kernel)) rfl⟩
theorem yf_X7_undress : YF yX7_undress cX7_undress 3 none 1 := ⟨in_good (List.mem_of_getElem? (i := 735) (by decide +kernel)) rfl, in_good (List.mem_of_getElem? (i := 76) (by decide +kernel)) rfl, by decide +kernel, by decide +kernel, by decide +kernel⟩
theorem pn_X7_undress : plainName yX7_undress.cls = true := by decide +kernel
theorem yv_X7_undress : Cond.instanceMethod yX7_undress ∈ lw_good ∧ Cond.selects yX7_undress.cls yX7_undress yX7_undress ∈ lw_good := ⟨in_good (List.mem_of_getElem? (i := 733) (by decide +kernel)) rfl, in_good (List.mem_of_getElem? (i := 734) (by decide +kernel)) rfl⟩
theorem yf_X7_coldOnes : YF yX7_coldOnes cX7_coldOnes 4 (some .int) 1 := ⟨in_good (List.mem_of_getElem? (i := 674) (by decide +kernel)) rfl, in_good (List.mem_of_getElem? (i := 76) (by decide +kernel)) rfl, by decide +kernel, by decide +kernel, by decide +kernel⟩
theorem pn_X7_coldOnes : plainName yX7_coldOnes.cls = true := by decide +kernel
theorem yv_X7_coldOnes : Cond.instanceMethod yX7_coldOnes ∈ lw_good ∧ Cond.selects yX7_coldOnes.cls yX7_coldOnes yX7_coldOnes ∈ lw_good := ⟨in_good (List.mem_of_getElem? (i := 672) (by decide +kernel)) rfl, in_good (List.mem_of_getElem? (i := 673) (by decide +kernel)) rfl⟩
theorem yf_X7_wornOutCount : YF yX7_wornOutCount cX7_wornOutCount 3 (some .int) 0 := ⟨in_good (List.mem_of_getElem? (i := 999) (by decide +kernel)) rfl, in_good (List.mem_of_getElem? (i := 76) (by decide +kernel)) rfl, by decide +kernel, by decide +kernel, by decide +kernel⟩
theorem pn_X7_wornOutCount : plainName yX7_wornOutCount.cls = true := by decide +kernel
theorem yv_X7_wornOutCount : Cond.instanceMethod yX7_wornOutCount ∈ lw_good ∧ Cond.selects yX7_wornOutCount.cls yX7_wornOutCount yX7_wornOutCount ∈ lw_good := ⟨in_good (List.mem_of_getElem? (i := 997) (by decide +kernel)) rfl, in_good (List.mem_of_getElem? (i := 998) (by decide +kernel)) rfl⟩
theorem yf_X7_passWinter : YF yX7_passWinter cX7_passWinter 3 (some .int) 0 := ⟨in_good (List.mem_of_getElem? (i := 752) (by decide +kernel)) rfl, in_good (List.mem_of_getElem? (i := 76) (by decide +kernel)) rfl, by decide +kernel, by decide +kernel, by decide +kernel⟩
theorem pn_X7_passWinter : plainName yX7_passWinter.cls = true := by decide +kernel
theorem yv_X7_passWinter : Cond.instanceMethod yX7_passWinter ∈ lw_good ∧ Cond.selects yX7_passWinter.cls yX7_passWinter yX7_passWinter ∈ lw_good := ⟨in_good (List.mem_of_getElem? (i := 750) (by decide +kernel)) rfl, in_good (List.mem_of_getElem? (i := 751) (by decide +kernel)) rfl⟩
theorem yf_X7_passSpring : YF yX7_passSpring cX7_passSpring 6 (some .int) 2 := ⟨in_good (List.mem_of_getElem? (i := 761) (by decide +kernel)) rfl, in_good (List.mem_of_getElem? (i := 76) (by decide +kernel)) rfl, by decide +kernel, by decide +kernel, by decide +kernel⟩
theorem pn_X7_passSpring : plainName yX7_passSpring.cls = true := by decide +kernel
theorem yv_X7_passSpring : Cond.instanceMethod yX7_passSpring ∈ lw_good ∧ Cond.selects yX7_passSpring.cls yX7_passSpring yX7_passSpring ∈ lw_good := ⟨in_good (List.mem_of_getElem? (i := 759) (by decide +kernel)) rfl, in_good (List.mem_of_getElem? (i := 760) (by decide +kernel)) rfl⟩
theorem yf_X7_growEach : YF yX7_growEach cX7_growEach 3 none 1 := ⟨in_good (List.mem_of_getElem? (i := 862) (by decide +kernel)) rfl, in_good (List.mem_of_getElem? (i := 76) (by decide +kernel)) rfl, by decide +kernel, by decide +kernel, by decide +kernel⟩
theorem pn_X7_growEach : plainName yX7_growEach.cls = true := by decide +kernel
theorem yv_X7_growEach : Cond.instanceMethod yX7_growEach ∈ lw_good ∧ Cond.selects yX7_growEach.cls yX7_growEach yX7_growEach ∈ lw_good := ⟨in_good (List.mem_of_getElem? (i := 860) (by decide +kernel)) rfl, in_good (List.mem_of_getElem? (i := 861) (by decide +kernel)) rfl⟩
theorem yf_X7_strengthen : YF yX7_strengthen cX7_strengthen 4 none 2 := ⟨in_good (List.mem_of_getElem? (i := 790) (by decide +kernel)) rfl, in_good (List.mem_of_getElem? (i := 76) (by decide +kernel)) rfl, by decide +kernel, by decide +kernel, by decide +kernel⟩
theorem pn_X7_strengthen : plainName yX7_strengthen.cls = true := by decide +kernel
theorem yv_X7_strengthen : Cond.instanceMethod yX7_strengthen ∈ lw_good ∧ Cond.selects yX7_strengthen.cls yX7_strengthen yX7_strengthen ∈ lw_good := ⟨in_good (List.mem_of_getElem? (i := 788) (by decide +kernel)) rfl, in_good (List.mem_of_getElem? (i := 789) (by decide +kernel)) rfl⟩
theorem yf_X7_firstSwap : YF yX7_firstSwap cX7_firstSwap 7 (some .int) 1 := ⟨in_good (List.mem_of_getElem? (i := 839) (by decide +kernel)) rfl, in_good (List.mem_of_getElem? (i := 76) (by decide +kernel)) rfl, by decide +kernel, by decide +kernel, by decide +kernel⟩
theorem pn_X7_firstSwap : plainName yX7_firstSwap.cls = true := by decide +kernel
theorem yv_X7_firstSwap : Cond.instanceMethod yX7_firstSwap ∈ lw_good ∧ Cond.selects yX7_firstSwap.cls yX7_firstSwap yX7_firstSwap ∈ lw_good := ⟨in_good (List.mem_of_getElem? (i := 837) (by decide +kernel)) rfl, in_good (List.mem_of_getElem? (i := 838) (by decide +kernel)) rfl⟩
theorem yf_X7_bothWant : YF yX7_bothWant cX7_bothWant 6 (some .boolean) 5 := ⟨in_good (List.mem_of_getElem? (i := 843) (by decide +kernel)) rfl, in_good (List.mem_of_getElem? (i := 76) (by decide +kernel)) rfl, by decide +kernel, by decide +kernel, by decide +kernel⟩
theorem pn_X7_bothWant : plainName yX7_bothWant.cls = true := by decide +kernel
theorem yv_X7_bothWant : Cond.instanceMethod yX7_bothWant ∈ lw_good ∧ Cond.selects yX7_bothWant.cls yX7_bothWant yX7_bothWant ∈ lw_good := ⟨in_good (List.mem_of_getElem? (i := 842) (by decide +kernel)) rfl, in_good (List.mem_of_getElem? (i := 20) (by decide +kernel)) rfl⟩
theorem yf_X7_makeSwap : YF yX7_makeSwap cX7_makeSwap 6 none 3 := ⟨in_good (List.mem_of_getElem? (i := 852) (by decide +kernel)) rfl, in_good (List.mem_of_getElem? (i := 76) (by decide +kernel)) rfl, by decide +kernel, by decide +kernel, by decide +kernel⟩
theorem pn_X7_makeSwap : plainName yX7_makeSwap.cls = true := by decide +kernel
theorem yv_X7_makeSwap : Cond.instanceMethod yX7_makeSwap ∈ lw_good ∧ Cond.selects yX7_makeSwap.cls yX7_makeSwap yX7_makeSwap ∈ lw_good := ⟨in_good (List.mem_of_getElem? (i := 850) (by decide +kernel)) rfl, in_good (List.mem_of_getElem? (i := 851) (by decide +kernel)) rfl⟩
theorem yf_X8_init : YF yX8_init cX8_init 2 none 0 := ⟨in_good (List.mem_of_getElem? (i := 96) (by decide +kernel)) rfl, in_good (List.mem_of_getElem? (i := 74) (by decide +kernel)) rfl, by decide +kernel, by decide +kernel, by decide +kernel⟩
theorem pn_X8_init : plainName yX8_init.cls = true := by decide +kernel
theorem yv_X8_init : Cond.instanceMethod yX8_init ∈ lw_good := in_good (List.mem_of_getElem? (i := 95) (by decide +kernel)) rfl
theorem yf_X8_feed : YF yX8_feed cX8_feed 3 (some .int) 1 := ⟨in_good (List.mem_of_getElem? (i := 410) (by decide +kernel)) rfl, in_good (List.mem_of_getElem? (i := 74) (by decide +kernel)) rfl, by decide +kernel, by decide +kernel, by decide +kernel⟩
theorem pn_X8_feed : plainName yX8_feed.cls = true := by decide +kernel
theorem yv_X8_feed : Cond.instanceMethod yX8_feed ∈ lw_good ∧ Cond.selects yX8_feed.cls yX8_feed yX8_feed ∈ lw_good := ⟨in_good (List.mem_of_getElem? (i := 408) (by decide +kernel)) rfl, in_good (List.mem_of_getElem? (i := 409) (by decide +kernel)) rfl⟩
theorem yf_X8_end : YF yX8_end cX8_end 3 (some .int) 1 := ⟨in_good (List.mem_of_getElem? (i := 418) (by decide +kernel)) rfl, in_good (List.mem_of_getElem? (i := 74) (by decide +kernel)) rfl, by decide +kernel, by decide +kernel, by decide +kernel⟩
theorem pn_X8_end : plainName yX8_end.cls = true := by decide +kernel
theorem yv_X8_end : Cond.instanceMethod yX8_end ∈ lw_good ∧ Cond.selects yX8_end.cls yX8_end yX8_end ∈ lw_good := ⟨in_good (List.mem_of_getElem? (i := 416) (by decide +kernel)) rfl, in_good (List.mem_of_getElem? (i := 417) (by decide +kernel)) rfl⟩
theorem yf_X8_text : YF yX8_text cX8_text 3 (some .int) 0 := ⟨in_good (List.mem_of_getElem? (i := 425) (by decide +kernel)) rfl, in_good (List.mem_of_getElem? (i := 74) (by decide +kernel)) rfl, by decide +kernel, by decide +kernel, by decide +kernel⟩
theorem pn_X8_text : plainName yX8_text.cls = true := by decide +kernel
theorem yv_X8_text : Cond.instanceMethod yX8_text ∈ lw_good ∧ Cond.selects yX8_text.cls yX8_text yX8_text ∈ lw_good := ⟨in_good (List.mem_of_getElem? (i := 423) (by decide +kernel)) rfl, in_good (List.mem_of_getElem? (i := 424) (by decide +kernel)) rfl⟩
theorem yf_X8_fault : YF yX8_fault cX8_fault 1 (some .int) 0 := ⟨in_good (List.mem_of_getElem? (i := 604) (by decide +kernel)) rfl, in_good (List.mem_of_getElem? (i := 74) (by decide +kernel)) rfl, by decide +kernel, by decide +kernel, by decide +kernel⟩
theorem pn_X8_fault : plainName yX8_fault.cls = true := by decide +kernel
theorem yv_X8_fault : Cond.instanceMethod yX8_fault ∈ lw_good ∧ Cond.selects yX8_fault.cls yX8_fault yX8_fault ∈ lw_good := ⟨in_good (List.mem_of_getElem? (i := 602) (by decide +kernel)) rfl, in_good (List.mem_of_getElem? (i := 603) (by decide +kernel)) rfl⟩
theorem yf_X8_child : YF yX8_child cX8_child 3 (some .int) 2 := ⟨in_good (List.mem_of_getElem? (i := 608) (by decide +kernel)) rfl, in_good (List.mem_of_getElem? (i := 74) (by decide +kernel)) rfl, by decide +kernel, by decide +kernel, by decide +kernel⟩
theorem pn_X8_child : plainName yX8_child.cls = true := by decide +kernel
theorem yv_X8_child : Cond.instanceMethod yX8_child ∈ lw_good ∧ Cond.selects yX8_child.cls yX8_child yX8_child ∈ lw_good := ⟨in_good (List.mem_of_getElem? (i := 606) (by decide +kernel)) rfl, in_good (List.mem_of_getElem? (i := 607) (by decide +kernel)) rfl⟩
theorem yf_X8_thing : YF yX8_thing cX8_thing 4 (some .int) 2 := ⟨in_good (List.mem_of_getElem? (i := 620) (by decide +kernel)) rfl, in_good (List.mem_of_getElem? (i := 74) (by decide +kernel)) rfl, by decide +kernel, by decide +kernel, by decide +kernel⟩
theorem pn_X8_thing : plainName yX8_thing.cls = true := by decide +kernel
theorem yv_X8_thing : Cond.instanceMethod yX8_thing ∈ lw_good ∧ Cond.selects yX8_thing.cls yX8_thing yX8_thing ∈ lw_good := ⟨in_good (List.mem_of_getElem? (i := 618) (by decide +kernel)) rfl, in_good (List.mem_of_getElem? (i := 619) (by decide +kernel)) rfl⟩
theorem yf_X8_slack : YF yX8_slack cX8_slack 3 (some .int) 1 := ⟨in_good (List.mem_of_getElem? (i := 625) (by decide +kernel)) rfl, in_good (List.mem_of_getElem? (i := 74) (by decide +kernel)) rfl, by decide +kernel, by decide +kernel, by decide +kernel⟩
theorem pn_X8_slack : plainName yX8_slack.cls = true := by decide +kernel
theorem yv_X8_slack : Cond.instanceMethod yX8_slack ∈ lw_good ∧ Cond.selects yX8_slack.cls yX8_slack yX8_slack ∈ lw_good := ⟨in_good (List.mem_of_getElem? (i := 623) (by decide +kernel)) rfl, in_good (List.mem_of_getElem? (i := 624) (by decide +kernel)) rfl⟩
theorem yf_X8_like : YF yX8_like cX8_like 5 (some .int) 3 := ⟨in_good (List.mem_of_getElem? (i := 629) (by decide +kernel)) rfl, in_good (List.mem_of_getElem? (i := 74) (by decide +kernel)) rfl, by decide +kernel, by decide +kernel, by decide +kernel⟩
theorem pn_X8_like : plainName yX8_like.cls = true := by decide +kernel
theorem yv_X8_like : Cond.instanceMethod yX8_like ∈ lw_good ∧ Cond.selects yX8_like.cls yX8_like yX8_like ∈ lw_good := ⟨in_good (List.mem_of_getElem? (i := 627) (by decide +kernel)) rfl, in_good (List.mem_of_getElem? (i := 628) (by decide +kernel)) rfl⟩
theorem yf_X8_fits : YF yX8_fits cX8_fits 3 (some .int) 2 := ⟨in_good (List.mem_of_getElem? (i := 638) (by decide +kernel)) rfl, in_good (List.mem_of_getElem? (i := 74) (by decide +kernel)) rfl, by decide +kernel, by decide +kernel, by decide +kernel⟩
theorem pn_X8_fits : plainName yX8_fits.cls = true := by decide +kernel
theorem yv_X8_fits : Cond.instanceMethod yX8_fits ∈ lw_good ∧ Cond.selects yX8_fits.cls yX8_fits yX8_fits ∈ lw_good := ⟨in_good (List.mem_of_getElem? (i := 636) (by decide +kernel)) rfl, in_good (List.mem_of_getElem? (i := 637) (by decide +kernel)) rfl⟩
theorem yf_X8_wear : YF yX8_wear cX8_wear 4 (some .int) 2 := ⟨in_good (List.mem_of_getElem? (i := 655) (by decide +kernel)) rfl, in_good (List.mem_of_getElem? (i := 74) (by decide +kernel)) rfl, by decide +kernel, by decide +kernel, by decide +kernel⟩
theorem pn_X8_wear : plainName yX8_wear.cls = true := by decide +kernel
theorem yv_X8_wear : Cond.instanceMethod yX8_wear ∈ lw_good ∧ Cond.selects yX8_wear.cls yX8_wear yX8_wear ∈ lw_good := ⟨in_good (List.mem_of_getElem? (i := 653) (by decide +kernel)) rfl, in_good (List.mem_of_getElem? (i := 654) (by decide +kernel)) rfl⟩
theorem yf_X8_doff : YF yX8_doff cX8_doff 4 (some .int) 2 := ⟨in_good (List.mem_of_getElem? (i := 663) (by decide +kernel)) rfl, in_good (List.mem_of_getElem? (i := 74) (by decide +kernel)) rfl, by decide +kernel, by decide +kernel, by decide +kernel⟩
theorem pn_X8_doff : plainName yX8_doff.cls = true := by decide +kernel
theorem yv_X8_doff : Cond.instanceMethod yX8_doff ∈ lw_good ∧ Cond.selects yX8_doff.cls yX8_doff yX8_doff ∈ lw_good := ⟨in_good (List.mem_of_getElem? (i := 661) (by decide +kernel)) rfl, in_good (List.mem_of_getElem? (i := 662) (by decide +kernel)) rfl⟩
theorem yf_X8_cold : YF yX8_cold cX8_cold 2 (some .int) 1 := ⟨in_good (List.mem_of_getElem? (i := 670) (by decide +kernel)) rfl, in_good (List.mem_of_getElem? (i := 74) (by decide +kernel)) rfl, by decide +kernel, by decide +kernel, by decide +kernel⟩
theorem pn_X8_cold : plainName yX8_cold.cls = true := by decide +kernel
theorem yv_X8_cold : Cond.instanceMethod yX8_cold ∈ lw_good ∧ Cond.selects yX8_cold.cls yX8_cold yX8_cold ∈ lw_good := ⟨in_good (List.mem_of_getElem? (i := 668) (by decide +kernel)) rfl, in_good (List.mem_of_getElem? (i := 669) (by decide +kernel)) rfl⟩
theorem yf_X8_deal : YF yX8_deal cX8_deal 4 (some .int) 2 := ⟨in_good (List.mem_of_getElem? (i := 679) (by decide +kernel)) rfl, in_good (List.mem_of_getElem? (i := 74) (by decide +kernel)) rfl, by decide +kernel, by decide +kernel, by decide +kernel⟩
theorem pn_X8_deal : plainName yX8_deal.cls = true := by decide +kernel
theorem yv_X8_deal : Cond.instanceMethod yX8_deal ∈ lw_good ∧ Cond.selects yX8_deal.cls yX8_deal yX8_deal ∈ lw_good := ⟨in_good (List.mem_of_getElem? (i := 677) (by decide +kernel)) rfl, in_good (List.mem_of_getElem? (i := 678) (by decide +kernel)) rfl⟩
theorem yf_X8_dress : YF yX8_dress cX8_dress 2 (some .int) 1 := ⟨in_good (List.mem_of_getElem? (i := 724) (by decide +kernel)) rfl, in_good (List.mem_of_getElem? (i := 74) (by decide +kernel)) rfl, by decide +kernel, by decide +kernel, by decide +kernel⟩
theorem pn_X8_dress : plainName yX8_dress.cls = true := by decide +kernel
theorem yv_X8_dress : Cond.instanceMethod yX8_dress ∈ lw_good ∧ Cond.selects yX8_dress.cls yX8_dress yX8_dress ∈ lw_good := ⟨in_good (List.mem_of_getElem? (i := 722) (by decide +kernel)) rfl, in_good (List.mem_of_getElem? (i := 723) (by decide +kernel)) rfl⟩
theorem yf_X8_spare : YF yX8_spare cX8_spare 2 (some .int) 1 := ⟨in_good (List.mem_of_getElem? (i := 739) (by decide +kernel)) rfl, in_good (List.mem_of_getElem? (i := 74) (by decide +kernel)) rfl, by decide +kernel, by decide +kernel, by decide +kernel⟩
theorem pn_X8_spare : plainName yX8_spare.cls = true := by decide +kernel
theorem yv_X8_spare : Cond.instanceMethod yX8_spare ∈ lw_good ∧ Cond.selects yX8_spare.cls yX8_spare yX8_spare ∈ lw_good := ⟨in_good (List.mem_of_getElem? (i := 737) (by decide +kernel)) rfl, in_good (List.mem_of_getElem? (i := 738) (by decide +kernel)) rfl⟩
theorem yf_X8_winter : YF yX8_winter cX8_winter 1 (some .int) 0 := ⟨in_good (List.mem_of_getElem? (i := 748) (by decide +kernel)) rfl, in_good (List.mem_of_getElem? (i := 74) (by decide +kernel)) rfl, by decide +kernel, by decide +kernel, by decide +kernel⟩
theorem pn_X8_winter : plainName yX8_winter.cls = true := by decide +kernel
theorem yv_X8_winter : Cond.instanceMethod yX8_winter ∈ lw_good ∧ Cond.selects yX8_winter.cls yX8_winter yX8_winter ∈ lw_good := ⟨in_good (List.mem_of_getElem? (i := 746) (by decide +kernel)) rfl, in_good (List.mem_of_getElem? (i := 747) (by decide +kernel)) rfl⟩
theorem yf_X8_spring : YF yX8_spring cX8_spring 2 (some .int) 1 := ⟨in_good (List.mem_of_getElem? (i := 757) (by decide +kernel)) rfl, in_good (List.mem_of_getElem? (i := 74) (by decide +kernel)) rfl, by decide +kernel, by decide +kernel, by decide +kernel⟩
theorem pn_X8_spring : plainName yX8_spring.cls = true := by decide +kernel
theorem yv_X8_spring : Cond.instanceMethod yX8_spring ∈ lw_good ∧ Cond.selects yX8_spring.cls yX8_spring yX8_spring ∈ lw_good := ⟨in_good (List.mem_of_getElem? (i := 755) (by decide +kernel)) rfl, in_good (List.mem_of_getElem? (i := 756) (by decide +kernel)) rfl⟩
theorem yf_X8_ahead : YF yX8_ahead cX8_ahead 6 (some .int) 4 := ⟨in_good (List.mem_of_getElem? (i := 774) (by decide +kernel)) rfl, in_good (List.mem_of_getElem? (i := 74) (by decide +kernel)) rfl, by decide +kernel, by decide +kernel, by decide +kernel⟩
theorem pn_X8_ahead : plainName yX8_ahead.cls = true := by decide +kernel
theorem yv_X8_ahead : Cond.instanceMethod yX8_ahead ∈ lw_good ∧ Cond.selects yX8_ahead.cls yX8_ahead yX8_ahead ∈ lw_good := ⟨in_good (List.mem_of_getElem? (i := 772) (by decide +kernel)) rfl, in_good (List.mem_of_getElem? (i := 773) (by decide +kernel)) rfl⟩
theorem yf_X8_strong : YF yX8_strong cX8_strong 5 (some .int) 3 := ⟨in_good (List.mem_of_getElem? (i := 786) (by decide +kernel)) rfl, in_good (List.mem_of_getElem? (i := 74) (by decide +kernel)) rfl, by decide +kernel, by decide +kernel, by decide +kernel⟩
theorem pn_X8_strong : plainName yX8_strong.cls = true := by decide +kernel
theorem yv_X8_strong : Cond.instanceMethod yX8_strong ∈ lw_good ∧ Cond.selects yX8_strong.cls yX8_strong yX8_strong ∈ lw_good := ⟨in_good (List.mem_of_getElem? (i := 784) (by decide +kernel)) rfl, in_good (List.mem_of_getElem? (i := 785) (by decide +kernel)) rfl⟩
theorem yf_X8_cut : YF yX8_cut cX8_cut 4 (some .int) 2 := ⟨in_good (List.mem_of_getElem? (i := 795) (by decide +kernel)) rfl, in_good (List.mem_of_getElem? (i := 74) (by decide +kernel)) rfl, by decide +kernel, by decide +kernel, by decide +kernel⟩
theorem pn_X8_cut : plainName yX8_cut.cls = true := by decide +kernel
theorem yv_X8_cut : Cond.instanceMethod yX8_cut ∈ lw_good ∧ Cond.selects yX8_cut.cls yX8_cut yX8_cut ∈ lw_good := ⟨in_good (List.mem_of_getElem? (i := 793) (by decide +kernel)) rfl, in_good (List.mem_of_getElem? (i := 794) (by decide +kernel)) rfl⟩
theorem yf_X8_pays : YF yX8_pays cX8_pays 5 (some .int) 4 := ⟨in_good (List.mem_of_getElem? (i := 799) (by decide +kernel)) rfl, in_good (List.mem_of_getElem? (i := 74) (by decide +kernel)) rfl, by decide +kernel, by decide +kernel, by decide +kernel⟩
theorem pn_X8_pays : plainName yX8_pays.cls = true := by decide +kernel
theorem yv_X8_pays : Cond.instanceMethod yX8_pays ∈ lw_good ∧ Cond.selects yX8_pays.cls yX8_pays yX8_pays ∈ lw_good := ⟨in_good (List.mem_of_getElem? (i := 797) (by decide +kernel)) rfl, in_good (List.mem_of_getElem? (i := 798) (by decide +kernel)) rfl⟩
theorem yf_X8_best : YF yX8_best cX8_best 6 (some .int) 4 := ⟨in_good (List.mem_of_getElem? (i := 816) (by decide +kernel)) rfl, in_good (List.mem_of_getElem? (i := 74) (by decide +kernel)) rfl, by decide +kernel, by decide +kernel, by decide +kernel⟩
theorem pn_X8_best : plainName yX8_best.cls = true := by decide +kernel
theorem yv_X8_best : Cond.instanceMethod yX8_best ∈ lw_good ∧ Cond.selects yX8_best.cls yX8_best yX8_best ∈ lw_good := ⟨in_good (List.mem_of_getElem? (i := 814) (by decide +kernel)) rfl, in_good (List.mem_of_getElem? (i := 815) (by decide +kernel)) rfl⟩
theorem yf_X8_sew : YF yX8_sew cX8_sew 4 (some .int) 2 := ⟨in_good (List.mem_of_getElem? (i := 820) (by decide +kernel)) rfl, in_good (List.mem_of_getElem? (i := 74) (by decide +kernel)) rfl, by decide +kernel, by decide +kernel, by decide +kernel⟩
theorem pn_X8_sew : plainName yX8_sew.cls = true := by decide +kernel
theorem yv_X8_sew : Cond.instanceMethod yX8_sew ∈ lw_good ∧ Cond.selects yX8_sew.cls yX8_sew yX8_sew ∈ lw_good := ⟨in_good (List.mem_of_getElem? (i := 818) (by decide +kernel)) rfl, in_good (List.mem_of_getElem? (i := 819) (by decide +kernel)) rfl⟩
theorem yf_X8_wish : YF yX8_wish cX8_wish 9 (some .int) 4 := ⟨in_good (List.mem_of_getElem? (i := 831) (by decide +kernel)) rfl, in_good (List.mem_of_getElem? (i := 74) (by decide +kernel)) rfl, by decide +kernel, by decide +kernel, by decide +kernel⟩
theorem pn_X8_wish : plainName yX8_wish.cls = true := by decide +kernel
theorem yv_X8_wish : Cond.instanceMethod yX8_wish ∈ lw_good ∧ Cond.selects yX8_wish.cls yX8_wish yX8_wish ∈ lw_good := ⟨in_good (List.mem_of_getElem? (i := 829) (by decide +kernel)) rfl, in_good (List.mem_of_getElem? (i := 830) (by decide +kernel)) rfl⟩
theorem yf_X8_swap : YF yX8_swap cX8_swap 1 (some .int) 0 := ⟨in_good (List.mem_of_getElem? (i := 835) (by decide +kernel)) rfl, in_good (List.mem_of_getElem? (i := 74) (by decide +kernel)) rfl, by decide +kernel, by decide +kernel, by decide +kernel⟩
theorem pn_X8_swap : plainName yX8_swap.cls = true := by decide +kernel
theorem yv_X8_swap : Cond.instanceMethod yX8_swap ∈ lw_good ∧ Cond.selects yX8_swap.cls yX8_swap yX8_swap ∈ lw_good := ⟨in_good (List.mem_of_getElem? (i := 833) (by decide +kernel)) rfl, in_good (List.mem_of_getElem? (i := 834) (by decide +kernel)) rfl⟩
theorem yf_X8_settle : YF yX8_settle cX8_settle 4 (some .int) 0 := ⟨in_good (List.mem_of_getElem? (i := 848) (by decide +kernel)) rfl, in_good (List.mem_of_getElem? (i := 74) (by decide +kernel)) rfl, by decide +kernel, by decide +kernel, by decide +kernel⟩
theorem pn_X8_settle : plainName yX8_settle.cls = true := by decide +kernel
theorem yv_X8_settle : Cond.instanceMethod yX8_settle ∈ lw_good ∧ Cond.selects yX8_settle.cls yX8_settle yX8_settle ∈ lw_good := ⟨in_good (List.mem_of_getElem? (i := 846) (by decide +kernel)) rfl, in_good (List.mem_of_getElem? (i := 847) (by decide +kernel)) rfl⟩
theorem yf_X8_odds : YF yX8_odds cX8_odds 6 (some .long) 2 := ⟨in_good (List.mem_of_getElem? (i := 857) (by decide +kernel)) rfl, in_good (List.mem_of_getElem? (i := 74) (by decide +kernel)) rfl, by decide +kernel, by decide +kernel, by decide +kernel⟩
theorem pn_X8_odds : plainName yX8_odds.cls = true := by decide +kernel
theorem yv_X8_odds : Cond.instanceMethod yX8_odds ∈ lw_good ∧ Cond.selects yX8_odds.cls yX8_odds yX8_odds ∈ lw_good := ⟨in_good (List.mem_of_getElem? (i := 855) (by decide +kernel)) rfl, in_good (List.mem_of_getElem? (i := 856) (by decide +kernel)) rfl⟩
theorem yf_X8_mark : YF yX8_mark cX8_mark 2 (some .int) 1 := ⟨in_good (List.mem_of_getElem? (i := 866) (by decide +kernel)) rfl, in_good (List.mem_of_getElem? (i := 74) (by decide +kernel)) rfl, by decide +kernel, by decide +kernel, by decide +kernel⟩
theorem pn_X8_mark : plainName yX8_mark.cls = true := by decide +kernel
theorem yv_X8_mark : Cond.instanceMethod yX8_mark ∈ lw_good ∧ Cond.selects yX8_mark.cls yX8_mark yX8_mark ∈ lw_good := ⟨in_good (List.mem_of_getElem? (i := 864) (by decide +kernel)) rfl, in_good (List.mem_of_getElem? (i := 865) (by decide +kernel)) rfl⟩
theorem yf_X8_unmark : YF yX8_unmark cX8_unmark 3 (some .int) 1 := ⟨in_good (List.mem_of_getElem? (i := 871) (by decide +kernel)) rfl, in_good (List.mem_of_getElem? (i := 74) (by decide +kernel)) rfl, by decide +kernel, by decide +kernel, by decide +kernel⟩
theorem pn_X8_unmark : plainName yX8_unmark.cls = true := by decide +kernel
theorem yv_X8_unmark : Cond.instanceMethod yX8_unmark ∈ lw_good ∧ Cond.selects yX8_unmark.cls yX8_unmark yX8_unmark ∈ lw_good := ⟨in_good (List.mem_of_getElem? (i := 869) (by decide +kernel)) rfl, in_good (List.mem_of_getElem? (i := 870) (by decide +kernel)) rfl⟩
theorem yf_X8_rows : YF yX8_rows cX8_rows 3 (some .int) 1 := ⟨in_good (List.mem_of_getElem? (i := 875) (by decide +kernel)) rfl, in_good (List.mem_of_getElem? (i := 74) (by decide +kernel)) rfl, by decide +kernel, by decide +kernel, by decide +kernel⟩
theorem pn_X8_rows : plainName yX8_rows.cls = true := by decide +kernel
theorem yv_X8_rows : Cond.instanceMethod yX8_rows ∈ lw_good ∧ Cond.selects yX8_rows.cls yX8_rows yX8_rows ∈ lw_good := ⟨in_good (List.mem_of_getElem? (i := 873) (by decide +kernel)) rfl, in_good (List.mem_of_getElem? (i := 874) (by decide +kernel)) rfl⟩
theorem yf_X8_whose : YF yX8_whose cX8_whose 2 (some .int) 1 := ⟨in_good (List.mem_of_getElem? (i := 914) (by decide +kernel)) rfl, in_good (List.mem_of_getElem? (i := 74) (by decide +kernel)) rfl, by decide +kernel, by decide +kernel, by decide +kernel⟩
theorem pn_X8_whose : plainName yX8_whose.cls = true := by decide +kernel
theorem yv_X8_whose : Cond.instanceMethod yX8_whose ∈ lw_good ∧ Cond.selects yX8_whose.cls yX8_whose yX8_whose ∈ lw_good := ⟨in_good (List.mem_of_getElem? (i := 912) (by decide +kernel)) rfl, in_good (List.mem_of_getElem? (i := 913) (by decide +kernel)) rfl⟩
theorem yf_X8_lend : YF yX8_lend cX8_lend 6 (some .int) 3 := ⟨in_good (List.mem_of_getElem? (i := 927) (by decide +kernel)) rfl, in_good (List.mem_of_getElem? (i := 74) (by decide +kernel)) rfl, by decide +kernel, by decide +kernel, by decide +kernel⟩
theorem pn_X8_lend : plainName yX8_lend.cls = true := by decide +kernel
theorem yv_X8_lend : Cond.instanceMethod yX8_lend ∈ lw_good ∧ Cond.selects yX8_lend.cls yX8_lend yX8_lend ∈ lw_good := ⟨in_good (List.mem_of_getElem? (i := 925) (by decide +kernel)) rfl, in_good (List.mem_of_getElem? (i := 926) (by decide +kernel)) rfl⟩
theorem yf_X8_keep : YF yX8_keep cX8_keep 3 (some .int) 1 := ⟨in_good (List.mem_of_getElem? (i := 938) (by decide +kernel)) rfl, in_good (List.mem_of_getElem? (i := 74) (by decide +kernel)) rfl, by decide +kernel, by decide +kernel, by decide +kernel⟩
theorem pn_X8_keep : plainName yX8_keep.cls = true := by decide +kernel
theorem yv_X8_keep : Cond.instanceMethod yX8_keep ∈ lw_good ∧ Cond.selects yX8_keep.cls yX8_keep yX8_keep ∈ lw_good := ⟨in_good (List.mem_of_getElem? (i := 936) (by decide +kernel)) rfl, in_good (List.mem_of_getElem? (i := 937) (by decide +kernel)) rfl⟩
theorem yf_X8_back : YF yX8_back cX8_back 2 (some .int) 1 := ⟨in_good (List.mem_of_getElem? (i := 942) (by decide +kernel)) rfl, in_good (List.mem_of_getElem? (i := 74) (by decide +kernel)) rfl, by decide +kernel, by decide +kernel, by decide +kernel⟩
theorem pn_X8_back : plainName yX8_back.cls = true := by decide +kernel
theorem yv_X8_back : Cond.instanceMethod yX8_back ∈ lw_good ∧ Cond.selects yX8_back.cls yX8_back yX8_back ∈ lw_good := ⟨in_good (List.mem_of_getElem? (i := 940) (by decide +kernel)) rfl, in_good (List.mem_of_getElem? (i := 941) (by decide +kernel)) rfl⟩
theorem yf_X8_sheet : YF yX8_sheet cX8_sheet 4 (some .int) 3 := ⟨in_good (List.mem_of_getElem? (i := 946) (by decide +kernel)) rfl, in_good (List.mem_of_getElem? (i := 74) (by decide +kernel)) rfl, by decide +kernel, by decide +kernel, by decide +kernel⟩
theorem pn_X8_sheet : plainName yX8_sheet.cls = true := by decide +kernel
theorem yv_X8_sheet : Cond.instanceMethod yX8_sheet ∈ lw_good ∧ Cond.selects yX8_sheet.cls yX8_sheet yX8_sheet ∈ lw_good := ⟨in_good (List.mem_of_getElem? (i := 944) (by decide +kernel)) rfl, in_good (List.mem_of_getElem? (i := 945) (by decide +kernel)) rfl⟩
theorem yf_X8_lay : YF yX8_lay cX8_lay 4 (some .int) 3 := ⟨in_good (List.mem_of_getElem? (i := 961) (by decide +kernel)) rfl, in_good (List.mem_of_getElem? (i := 74) (by decide +kernel)) rfl, by decide +kernel, by decide +kernel, by decide +kernel⟩
theorem pn_X8_lay : plainName yX8_lay.cls = true := by decide +kernel
theorem yv_X8_lay : Cond.instanceMethod yX8_lay ∈ lw_good ∧ Cond.selects yX8_lay.cls yX8_lay yX8_lay ∈ lw_good := ⟨in_good (List.mem_of_getElem? (i := 959) (by decide +kernel)) rfl, in_good (List.mem_of_getElem? (i := 960) (by decide +kernel)) rfl⟩
theorem yf_X8_read : YF yX8_read cX8_read 10 (some .int) 4 := ⟨in_good (List.mem_of_getElem? (i := 977) (by decide +kernel)) rfl, in_good (List.mem_of_getElem? (i := 74) (by decide +kernel)) rfl, by decide +kernel, by decide +kernel, by decide +kernel⟩
theorem pn_X8_read : plainName yX8_read.cls = true := by decide +kernel
theorem yv_X8_read : Cond.instanceMethod yX8_read ∈ lw_good ∧ Cond.selects yX8_read.cls yX8_read yX8_read ∈ lw_good := ⟨in_good (List.mem_of_getElem? (i := 975) (by decide +kernel)) rfl, in_good (List.mem_of_getElem? (i := 976) (by decide +kernel)) rfl⟩
theorem yf_X8_torn : YF yX8_torn cX8_torn 1 (some .int) 0 := ⟨in_good (List.mem_of_getElem? (i := 991) (by decide +kernel)) rfl, in_good (List.mem_of_getElem? (i := 74) (by decide +kernel)) rfl, by decide +kernel, by decide +kernel, by decide +kernel⟩
theorem pn_X8_torn : plainName yX8_torn.cls = true := by decide +kernel
theorem yv_X8_torn : Cond.instanceMethod yX8_torn ∈ lw_good ∧ Cond.selects yX8_torn.cls yX8_torn yX8_torn ∈ lw_good := ⟨in_good (List.mem_of_getElem? (i := 989) (by decide +kernel)) rfl, in_good (List.mem_of_getElem? (i := 990) (by decide +kernel)) rfl⟩
theorem yf_X8_count : YF yX8_count cX8_count 2 (some .int) 1 := ⟨in_good (List.mem_of_getElem? (i := 995) (by decide +kernel)) rfl, in_good (List.mem_of_getElem? (i := 74) (by decide +kernel)) rfl, by decide +kernel, by decide +kernel, by decide +kernel⟩
theorem pn_X8_count : plainName yX8_count.cls = true := by decide +kernel
theorem yv_X8_count : Cond.instanceMethod yX8_count ∈ lw_good ∧ Cond.selects yX8_count.cls yX8_count yX8_count ∈ lw_good := ⟨in_good (List.mem_of_getElem? (i := 993) (by decide +kernel)) rfl, in_good (List.mem_of_getElem? (i := 994) (by decide +kernel)) rfl⟩
theorem yf_X8_within : YF yX8_within cX8_within 3 (some .boolean) 3 := ⟨in_good (List.mem_of_getElem? (i := 421) (by decide +kernel)) rfl, in_good (List.mem_of_getElem? (i := 74) (by decide +kernel)) rfl, by decide +kernel, by decide +kernel, by decide +kernel⟩
theorem pn_X8_within : plainName yX8_within.cls = true := by decide +kernel
theorem yv_X8_within : Cond.static yX8_within ∈ lw_good := in_good (List.mem_of_getElem? (i := 420) (by decide +kernel)) rfl
theorem yf_X8_isSlot : YF yX8_isSlot cX8_isSlot 1 (some .boolean) 1 := ⟨in_good (List.mem_of_getElem? (i := 666) (by decide +kernel)) rfl, in_good (List.mem_of_getElem? (i := 74) (by decide +kernel)) rfl, by decide +kernel, by decide +kernel, by decide +kernel⟩
theorem pn_X8_isSlot : plainName yX8_isSlot.cls = true := by decide +kernel
theorem yv_X8_isSlot : Cond.static yX8_isSlot ∈ lw_good := in_good (List.mem_of_getElem? (i := 665) (by decide +kernel)) rfl
theorem yf_X8_isSize : YF yX8_isSize cX8_isSize 1 (some .boolean) 1 := ⟨in_good (List.mem_of_getElem? (i := 826) (by decide +kernel)) rfl, in_good (List.mem_of_getElem? (i := 74) (by decide +kernel)) rfl, by decide +kernel, by decide +kernel, by decide +kernel⟩
theorem pn_X8_isSize : plainName yX8_isSize.cls = true := by decide +kernel
theorem yv_X8_isSize : Cond.static yX8_isSize ∈ lw_good := in_good (List.mem_of_getElem? (i := 825) (by decide +kernel)) rfl
theorem yf_X8_isYears : YF yX8_isYears cX8_isYears 1 (some .boolean) 1 := ⟨in_good (List.mem_of_getElem? (i := 777) (by decide +kernel)) rfl, in_good (List.mem_of_getElem? (i := 74) (by decide +kernel)) rfl, by decide +kernel, by decide +kernel, by decide +kernel⟩
theorem pn_X8_isYears : plainName yX8_isYears.cls = true := by decide +kernel
theorem yv_X8_isYears : Cond.static yX8_isYears ∈ lw_good := in_good (List.mem_of_getElem? (i := 776) (by decide +kernel)) rfl
theorem yf_X8_isZeroOrOne : YF yX8_isZeroOrOne cX8_isZeroOrOne 1 (some .boolean) 1 := ⟨in_good (List.mem_of_getElem? (i := 682) (by decide +kernel)) rfl, in_good (List.mem_of_getElem? (i := 74) (by decide +kernel)) rfl, by decide +kernel, by decide +kernel, by decide +kernel⟩
theorem pn_X8_isZeroOrOne : plainName yX8_isZeroOrOne.cls = true := by decide +kernel
theorem yv_X8_isZeroOrOne : Cond.static yX8_isZeroOrOne ∈ lw_good := in_good (List.mem_of_getElem? (i := 681) (by decide +kernel)) rfl
theorem yf_X8_isImage : YF yX8_isImage cX8_isImage 1 (some .boolean) 1 := ⟨in_good (List.mem_of_getElem? (i := 930) (by decide +kernel)) rfl, in_good (List.mem_of_getElem? (i := 74) (by decide +kernel)) rfl, by decide +kernel, by decide +kernel, by decide +kernel⟩
theorem pn_X8_isImage : plainName yX8_isImage.cls = true := by decide +kernel
theorem yv_X8_isImage : Cond.static yX8_isImage ∈ lw_good := in_good (List.mem_of_getElem? (i := 929) (by decide +kernel)) rfl
theorem yf_X8_isSheet : YF yX8_isSheet cX8_isSheet 1 (some .boolean) 1 := ⟨in_good (List.mem_of_getElem? (i := 949) (by decide +kernel)) rfl, in_good (List.mem_of_getElem? (i := 74) (by decide +kernel)) rfl, by decide +kernel, by decide +kernel, by decide +kernel⟩
theorem pn_X8_isSheet : plainName yX8_isSheet.cls = true := by decide +kernel
theorem yv_X8_isSheet : Cond.static yX8_isSheet ∈ lw_good := in_good (List.mem_of_getElem? (i := 948) (by decide +kernel)) rfl
theorem yf_X8_isLane : YF yX8_isLane cX8_isLane 1 (some .boolean) 1 := ⟨in_good (List.mem_of_getElem? (i := 952) (by decide +kernel)) rfl, in_good (List.mem_of_getElem? (i := 74) (by decide +kernel)) rfl, by decide +kernel, by decide +kernel, by decide +kernel⟩
theorem pn_X8_isLane : plainName yX8_isLane.cls = true := by decide +kernel
theorem yv_X8_isLane : Cond.static yX8_isLane ∈ lw_good := in_good (List.mem_of_getElem? (i := 951) (by decide +kernel)) rfl
theorem yf_X8_sewRefusal : YF yX8_sewRefusal cX8_sewRefusal 3 (some .int) 3 := ⟨in_good (List.mem_of_getElem? (i := 823) (by decide +kernel)) rfl, in_good (List.mem_of_getElem? (i := 74) (by decide +kernel)) rfl, by decide +kernel, by decide +kernel, by decide +kernel⟩
theorem pn_X8_sewRefusal : plainName yX8_sewRefusal.cls = true := by decide +kernel
theorem yv_X8_sewRefusal : Cond.static yX8_sewRefusal ∈ lw_good := in_good (List.mem_of_getElem? (i := 822) (by decide +kernel)) rfl
theorem yf_X8_dressAll : YF yX8_dressAll cX8_dressAll 5 (some .int) 2 := ⟨in_good (List.mem_of_getElem? (i := 728) (by decide +kernel)) rfl, in_good (List.mem_of_getElem? (i := 74) (by decide +kernel)) rfl, by decide +kernel, by decide +kernel, by decide +kernel⟩
theorem pn_X8_dressAll : plainName yX8_dressAll.cls = true := by decide +kernel
theorem yv_X8_dressAll : Cond.instanceMethod yX8_dressAll ∈ lw_good ∧ Cond.selects yX8_dressAll.cls yX8_dressAll yX8_dressAll ∈ lw_good := ⟨in_good (List.mem_of_getElem? (i := 727) (by decide +kernel)) rfl, in_good (List.mem_of_getElem? (i := 16) (by decide +kernel)) rfl⟩
theorem yf_X8_newAhead : YF yX8_newAhead cX8_newAhead 6 (some .int) 3 := ⟨in_good (List.mem_of_getElem? (i := 782) (by decide +kernel)) rfl, in_good (List.mem_of_getElem? (i := 74) (by decide +kernel)) rfl, by decide +kernel, by decide +kernel, by decide +kernel⟩
theorem pn_X8_newAhead : plainName yX8_newAhead.cls = true := by decide +kernel
theorem yv_X8_newAhead : Cond.instanceMethod yX8_newAhead ∈ lw_good ∧ Cond.selects yX8_newAhead.cls yX8_newAhead yX8_newAhead ∈ lw_good := ⟨in_good (List.mem_of_getElem? (i := 781) (by decide +kernel)) rfl, in_good (List.mem_of_getElem? (i := 17) (by decide +kernel)) rfl⟩
theorem yf_X8_startCuts : YF yX8_startCuts cX8_startCuts 4 none 3 := ⟨in_good (List.mem_of_getElem? (i := 803) (by decide +kernel)) rfl, in_good (List.mem_of_getElem? (i := 74) (by decide +kernel)) rfl, by decide +kernel, by decide +kernel, by decide +kernel⟩
theorem pn_X8_startCuts : plainName yX8_startCuts.cls = true := by decide +kernel
theorem yv_X8_startCuts : Cond.instanceMethod yX8_startCuts ∈ lw_good ∧ Cond.selects yX8_startCuts.cls yX8_startCuts yX8_startCuts ∈ lw_good := ⟨in_good (List.mem_of_getElem? (i := 802) (by decide +kernel)) rfl, in_good (List.mem_of_getElem? (i := 18) (by decide +kernel)) rfl⟩
theorem yf_X8_tryCuts : YF yX8_tryCuts cX8_tryCuts 8 none 3 := ⟨in_good (List.mem_of_getElem? (i := 807) (by decide +kernel)) rfl, in_good (List.mem_of_getElem? (i := 74) (by decide +kernel)) rfl, by decide +kernel, by decide +kernel, by decide +kernel⟩
theorem pn_X8_tryCuts : plainName yX8_tryCuts.cls = true := by decide +kernel
theorem yv_X8_tryCuts : Cond.instanceMethod yX8_tryCuts ∈ lw_good ∧ Cond.selects yX8_tryCuts.cls yX8_tryCuts yX8_tryCuts ∈ lw_good := ⟨in_good (List.mem_of_getElem? (i := 806) (by decide +kernel)) rfl, in_good (List.mem_of_getElem? (i := 19) (by decide +kernel)) rfl⟩
theorem yf_X9_init : YF yX9_init cX9_init 2 none 0 := ⟨in_good (List.mem_of_getElem? (i := 1004) (by decide +kernel)) rfl, in_good (List.mem_of_getElem? (i := 83) (by decide +kernel)) rfl, by decide +kernel, by decide +kernel, by decide +kernel⟩
theorem pn_X9_init : plainName yX9_init.cls = true := by decide +kernel
theorem yv_X9_init : Cond.instanceMethod yX9_init ∈ lw_good := in_good (List.mem_of_getElem? (i := 1003) (by decide +kernel)) rfl
theorem yf_X9_in : YF yX9_in cX9_in 6 (some .boolean) 3 := ⟨in_good (List.mem_of_getElem? (i := 1140) (by decide +kernel)) rfl, in_good (List.mem_of_getElem? (i := 83) (by decide +kernel)) rfl, by decide +kernel, by decide +kernel, by decide +kernel⟩
theorem pn_X9_in : plainName yX9_in.cls = true := by decide +kernel
theorem yv_X9_in : Cond.static yX9_in ∈ lw_good := in_good (List.mem_of_getElem? (i := 1139) (by decide +kernel)) rfl
theorem yf_X9_flag : YF yX9_flag cX9_flag 1 (some .int) 1 := ⟨in_good (List.mem_of_getElem? (i := 1289) (by decide +kernel)) rfl, in_good (List.mem_of_getElem? (i := 83) (by decide +kernel)) rfl, by decide +kernel, by decide +kernel, by decide +kernel⟩
theorem pn_X9_flag : plainName yX9_flag.cls = true := by decide +kernel
theorem yv_X9_flag : Cond.static yX9_flag ∈ lw_good := in_good (List.mem_of_getElem? (i := 1288) (by decide +kernel)) rfl
theorem yf_X9_firstDraft : YF yX9_firstDraft cX9_firstDraft 2 none 0 := ⟨in_good (List.mem_of_getElem? (i := 1009) (by decide +kernel)) rfl, in_good (List.mem_of_getElem? (i := 83) (by decide +kernel)) rfl, by decide +kernel, by decide +kernel, by decide +kernel⟩
theorem pn_X9_firstDraft : plainName yX9_firstDraft.cls = true := by decide +kernel
theorem yv_X9_firstDraft : Cond.instanceMethod yX9_firstDraft ∈ lw_good ∧ Cond.selects yX9_firstDraft.cls yX9_firstDraft yX9_firstDraft ∈ lw_good := ⟨in_good (List.mem_of_getElem? (i := 1008) (by decide +kernel)) rfl, in_good (List.mem_of_getElem? (i := 24) (by decide +kernel)) rfl⟩
theorem yf_X9_keepDraft : YF yX9_keepDraft cX9_keepDraft 2 none 0 := ⟨in_good (List.mem_of_getElem? (i := 1013) (by decide +kernel)) rfl, in_good (List.mem_of_getElem? (i := 83) (by decide +kernel)) rfl, by decide +kernel, by decide +kernel, by decide +kernel⟩
theorem pn_X9_keepDraft : plainName yX9_keepDraft.cls = true := by decide +kernel
theorem yv_X9_keepDraft : Cond.instanceMethod yX9_keepDraft ∈ lw_good ∧ Cond.selects yX9_keepDraft.cls yX9_keepDraft yX9_keepDraft ∈ lw_good := ⟨in_good (List.mem_of_getElem? (i := 1012) (by decide +kernel)) rfl, in_good (List.mem_of_getElem? (i := 25) (by decide +kernel)) rfl⟩
theorem yf_X9_feed : YF yX9_feed cX9_feed 4 (some .int) 1 := ⟨in_good (List.mem_of_getElem? (i := 1132) (by decide +kernel)) rfl, in_good (List.mem_of_getElem? (i := 83) (by decide +kernel)) rfl, by decide +kernel, by decide +kernel, by decide +kernel⟩
theorem pn_X9_feed : plainName yX9_feed.cls = true := by decide +kernel
theorem yv_X9_feed : Cond.instanceMethod yX9_feed ∈ lw_good ∧ Cond.selects yX9_feed.cls yX9_feed yX9_feed ∈ lw_good := ⟨in_good (List.mem_of_getElem? (i := 1130) (by decide +kernel)) rfl, in_good (List.mem_of_getElem? (i := 1131) (by decide +kernel)) rfl⟩
theorem yf_X9_end : YF yX9_end cX9_end 3 (some .int) 1 := ⟨in_good (List.mem_of_getElem? (i := 1137) (by decide +kernel)) rfl, in_good (List.mem_of_getElem? (i := 83) (by decide +kernel)) rfl, by decide +kernel, by decide +kernel, by decide +kernel⟩
theorem pn_X9_end : plainName yX9_end.cls = true := by decide +kernel
theorem yv_X9_end : Cond.instanceMethod yX9_end ∈ lw_good ∧ Cond.selects yX9_end.cls yX9_end yX9_end ∈ lw_good := ⟨in_good (List.mem_of_getElem? (i := 1135) (by decide +kernel)) rfl, in_good (List.mem_of_getElem? (i := 1136) (by decide +kernel)) rfl⟩
theorem yf_X9_needs : YF yX9_needs cX9_needs 3 none 2 := ⟨in_good (List.mem_of_getElem? (i := 1160) (by decide +kernel)) rfl, in_good (List.mem_of_getElem? (i := 83) (by decide +kernel)) rfl, by decide +kernel, by decide +kernel, by decide +kernel⟩
theorem pn_X9_needs : plainName yX9_needs.cls = true := by decide +kernel
theorem yv_X9_needs : Cond.instanceMethod yX9_needs ∈ lw_good ∧ Cond.selects yX9_needs.cls yX9_needs yX9_needs ∈ lw_good := ⟨in_good (List.mem_of_getElem? (i := 1159) (by decide +kernel)) rfl, in_good (List.mem_of_getElem? (i := 28) (by decide +kernel)) rfl⟩
theorem yf_X9_look : YF yX9_look cX9_look 2 (some .int) 1 := ⟨in_good (List.mem_of_getElem? (i := 1152) (by decide +kernel)) rfl, in_good (List.mem_of_getElem? (i := 83) (by decide +kernel)) rfl, by decide +kernel, by decide +kernel, by decide +kernel⟩
theorem pn_X9_look : plainName yX9_look.cls = true := by decide +kernel
theorem yv_X9_look : Cond.instanceMethod yX9_look ∈ lw_good ∧ Cond.selects yX9_look.cls yX9_look yX9_look ∈ lw_good := ⟨in_good (List.mem_of_getElem? (i := 1151) (by decide +kernel)) rfl, in_good (List.mem_of_getElem? (i := 27) (by decide +kernel)) rfl⟩
theorem yf_X9_is : YF yX9_is cX9_is 6 (some .boolean) 5 := ⟨in_good (List.mem_of_getElem? (i := 1172) (by decide +kernel)) rfl, in_good (List.mem_of_getElem? (i := 83) (by decide +kernel)) rfl, by decide +kernel, by decide +kernel, by decide +kernel⟩
theorem pn_X9_is : plainName yX9_is.cls = true := by decide +kernel
theorem yv_X9_is : Cond.instanceMethod yX9_is ∈ lw_good ∧ Cond.selects yX9_is.cls yX9_is yX9_is ∈ lw_good := ⟨in_good (List.mem_of_getElem? (i := 1171) (by decide +kernel)) rfl, in_good (List.mem_of_getElem? (i := 31) (by decide +kernel)) rfl⟩
theorem yf_X9_ends : YF yX9_ends cX9_ends 3 (some .boolean) 2 := ⟨in_good (List.mem_of_getElem? (i := 1176) (by decide +kernel)) rfl, in_good (List.mem_of_getElem? (i := 83) (by decide +kernel)) rfl, by decide +kernel, by decide +kernel, by decide +kernel⟩
theorem pn_X9_ends : plainName yX9_ends.cls = true := by decide +kernel
theorem yv_X9_ends : Cond.instanceMethod yX9_ends ∈ lw_good ∧ Cond.selects yX9_ends.cls yX9_ends yX9_ends ∈ lw_good := ⟨in_good (List.mem_of_getElem? (i := 1175) (by decide +kernel)) rfl, in_good (List.mem_of_getElem? (i := 32) (by decide +kernel)) rfl⟩
theorem yf_X9_lineNow : YF yX9_lineNow cX9_lineNow 1 (some .int) 0 := ⟨in_good (List.mem_of_getElem? (i := 1168) (by decide +kernel)) rfl, in_good (List.mem_of_getElem? (i := 83) (by decide +kernel)) rfl, by decide +kernel, by decide +kernel, by decide +kernel⟩
theorem pn_X9_lineNow : plainName yX9_lineNow.cls = true := by decide +kernel
theorem yv_X9_lineNow : Cond.instanceMethod yX9_lineNow ∈ lw_good ∧ Cond.selects yX9_lineNow.cls yX9_lineNow yX9_lineNow ∈ lw_good := ⟨in_good (List.mem_of_getElem? (i := 1167) (by decide +kernel)) rfl, in_good (List.mem_of_getElem? (i := 30) (by decide +kernel)) rfl⟩
theorem yf_X9_kindNow : YF yX9_kindNow cX9_kindNow 1 (some .int) 0 := ⟨in_good (List.mem_of_getElem? (i := 1204) (by decide +kernel)) rfl, in_good (List.mem_of_getElem? (i := 83) (by decide +kernel)) rfl, by decide +kernel, by decide +kernel, by decide +kernel⟩
theorem pn_X9_kindNow : plainName yX9_kindNow.cls = true := by decide +kernel
theorem yv_X9_kindNow : Cond.instanceMethod yX9_kindNow ∈ lw_good ∧ Cond.selects yX9_kindNow.cls yX9_kindNow yX9_kindNow ∈ lw_good := ⟨in_good (List.mem_of_getElem? (i := 1203) (by decide +kernel)) rfl, in_good (List.mem_of_getElem? (i := 39) (by decide +kernel)) rfl⟩
theorem yf_X9_next : YF yX9_next cX9_next 2 none 0 := ⟨in_good (List.mem_of_getElem? (i := 1148) (by decide +kernel)) rfl, in_good (List.mem_of_getElem? (i := 83) (by decide +kernel)) rfl, by decide +kernel, by decide +kernel, by decide +kernel⟩
theorem pn_X9_next : plainName yX9_next.cls = true := by decide +kernel
theorem yv_X9_next : Cond.instanceMethod yX9_next ∈ lw_good ∧ Cond.selects yX9_next.cls yX9_next yX9_next ∈ lw_good := ⟨in_good (List.mem_of_getElem? (i := 1147) (by decide +kernel)) rfl, in_good (List.mem_of_getElem? (i := 26) (by decide +kernel)) rfl⟩
theorem yf_X9_readNumber : YF yX9_readNumber cX9_readNumber 4 (some .int) 2 := ⟨in_good (List.mem_of_getElem? (i := 1184) (by decide +kernel)) rfl, in_good (List.mem_of_getElem? (i := 83) (by decide +kernel)) rfl, by decide +kernel, by decide +kernel, by decide +kernel⟩
theorem pn_X9_readNumber : plainName yX9_readNumber.cls = true := by decide +kernel
theorem yv_X9_readNumber : Cond.instanceMethod yX9_readNumber ∈ lw_good ∧ Cond.selects yX9_readNumber.cls yX9_readNumber yX9_readNumber ∈ lw_good := ⟨in_good (List.mem_of_getElem? (i := 1183) (by decide +kernel)) rfl, in_good (List.mem_of_getElem? (i := 34) (by decide +kernel)) rfl⟩
theorem yf_X9_readChildOf : YF yX9_readChildOf cX9_readChildOf 2 (some .int) 0 := ⟨in_good (List.mem_of_getElem? (i := 1196) (by decide +kernel)) rfl, in_good (List.mem_of_getElem? (i := 83) (by decide +kernel)) rfl, by decide +kernel, by decide +kernel, by decide +kernel⟩
theorem pn_X9_readChildOf : plainName yX9_readChildOf.cls = true := by decide +kernel
theorem yv_X9_readChildOf : Cond.instanceMethod yX9_readChildOf ∈ lw_good ∧ Cond.selects yX9_readChildOf.cls yX9_readChildOf yX9_readChildOf ∈ lw_good := ⟨in_good (List.mem_of_getElem? (i := 1195) (by decide +kernel)) rfl, in_good (List.mem_of_getElem? (i := 37) (by decide +kernel)) rfl⟩
theorem yf_X9_readChild : YF yX9_readChild cX9_readChild 2 none 0 := ⟨in_good (List.mem_of_getElem? (i := 1188) (by decide +kernel)) rfl, in_good (List.mem_of_getElem? (i := 83) (by decide +kernel)) rfl, by decide +kernel, by decide +kernel, by decide +kernel⟩
theorem pn_X9_readChild : plainName yX9_readChild.cls = true := by decide +kernel
theorem yv_X9_readChild : Cond.instanceMethod yX9_readChild ∈ lw_good ∧ Cond.selects yX9_readChild.cls yX9_readChild yX9_readChild ∈ lw_good := ⟨in_good (List.mem_of_getElem? (i := 1187) (by decide +kernel)) rfl, in_good (List.mem_of_getElem? (i := 35) (by decide +kernel)) rfl⟩
theorem yf_X9_readThing : YF yX9_readThing cX9_readThing 4 none 1 := ⟨in_good (List.mem_of_getElem? (i := 1200) (by decide +kernel)) rfl, in_good (List.mem_of_getElem? (i := 83) (by decide +kernel)) rfl, by decide +kernel, by decide +kernel, by decide +kernel⟩
theorem pn_X9_readThing : plainName yX9_readThing.cls = true := by decide +kernel
theorem yv_X9_readThing : Cond.instanceMethod yX9_readThing ∈ lw_good ∧ Cond.selects yX9_readThing.cls yX9_readThing yX9_readThing ∈ lw_good := ⟨in_good (List.mem_of_getElem? (i := 1199) (by decide +kernel)) rfl, in_good (List.mem_of_getElem? (i := 38) (by decide +kernel)) rfl⟩
theorem yf_X9_readLike : YF yX9_readLike cX9_readLike 4 none 0 := ⟨in_good (List.mem_of_getElem? (i := 1192) (by decide +kernel)) rfl, in_good (List.mem_of_getElem? (i := 83) (by decide +kernel)) rfl, by decide +kernel, by decide +kernel, by decide +kernel⟩
theorem pn_X9_readLike : plainName yX9_readLike.cls = true := by decide +kernel
theorem yv_X9_readLike : Cond.instanceMethod yX9_readLike ∈ lw_good ∧ Cond.selects yX9_readLike.cls yX9_readLike yX9_readLike ∈ lw_good := ⟨in_good (List.mem_of_getElem? (i := 1191) (by decide +kernel)) rfl, in_good (List.mem_of_getElem? (i := 36) (by decide +kernel)) rfl⟩
theorem yf_X9_readLineOf : YF yX9_readLineOf cX9_readLineOf 2 none 1 := ⟨in_good (List.mem_of_getElem? (i := 1180) (by decide +kernel)) rfl, in_good (List.mem_of_getElem? (i := 83) (by decide +kernel)) rfl, by decide +kernel, by decide +kernel, by decide +kernel⟩
theorem pn_X9_readLineOf : plainName yX9_readLineOf.cls = true := by decide +kernel
theorem yv_X9_readLineOf : Cond.instanceMethod yX9_readLineOf ∈ lw_good ∧ Cond.selects yX9_readLineOf.cls yX9_readLineOf yX9_readLineOf ∈ lw_good := ⟨in_good (List.mem_of_getElem? (i := 1179) (by decide +kernel)) rfl, in_good (List.mem_of_getElem? (i := 33) (by decide +kernel)) rfl⟩
theorem yf_X9_readLine : YF yX9_readLine cX9_readLine 2 none 0 := ⟨in_good (List.mem_of_getElem? (i := 1164) (by decide +kernel)) rfl, in_good (List.mem_of_getElem? (i := 83) (by decide +kernel)) rfl, by decide +kernel, by decide +kernel, by decide +kernel⟩
theorem pn_X9_readLine : plainName yX9_readLine.cls = true := by decide +kernel
theorem yv_X9_readLine : Cond.instanceMethod yX9_readLine ∈ lw_good ∧ Cond.selects yX9_readLine.cls yX9_readLine yX9_readLine ∈ lw_good := ⟨in_good (List.mem_of_getElem? (i := 1163) (by decide +kernel)) rfl, in_good (List.mem_of_getElem? (i := 29) (by decide +kernel)) rfl⟩
theorem yf_X9_text : YF yX9_text cX9_text 2 (some .int) 0 := ⟨in_good (List.mem_of_getElem? (i := 1144) (by decide +kernel)) rfl, in_good (List.mem_of_getElem? (i := 83) (by decide +kernel)) rfl, by decide +kernel, by decide +kernel, by decide +kernel⟩
theorem pn_X9_text : plainName yX9_text.cls = true := by decide +kernel
theorem yv_X9_text : Cond.instanceMethod yX9_text ∈ lw_good ∧ Cond.selects yX9_text.cls yX9_text yX9_text ∈ lw_good := ⟨in_good (List.mem_of_getElem? (i := 1142) (by decide +kernel)) rfl, in_good (List.mem_of_getElem? (i := 1143) (by decide +kernel)) rfl⟩
theorem yf_X9_fault : YF yX9_fault cX9_fault 1 (some .int) 0 := ⟨in_good (List.mem_of_getElem? (i := 1208) (by decide +kernel)) rfl, in_good (List.mem_of_getElem? (i := 83) (by decide +kernel)) rfl, by decide +kernel, by decide +kernel, by decide +kernel⟩
theorem pn_X9_fault : plainName yX9_fault.cls = true := by decide +kernel
theorem yv_X9_fault : Cond.instanceMethod yX9_fault ∈ lw_good ∧ Cond.selects yX9_fault.cls yX9_fault yX9_fault ∈ lw_good := ⟨in_good (List.mem_of_getElem? (i := 1206) (by decide +kernel)) rfl, in_good (List.mem_of_getElem? (i := 1207) (by decide +kernel)) rfl⟩
theorem yf_X9_isChild : YF yX9_isChild cX9_isChild 2 (some .boolean) 1 := ⟨in_good (List.mem_of_getElem? (i := 1216) (by decide +kernel)) rfl, in_good (List.mem_of_getElem? (i := 83) (by decide +kernel)) rfl, by decide +kernel, by decide +kernel, by decide +kernel⟩
theorem pn_X9_isChild : plainName yX9_isChild.cls = true := by decide +kernel
theorem yv_X9_isChild : Cond.instanceMethod yX9_isChild ∈ lw_good ∧ Cond.selects yX9_isChild.cls yX9_isChild yX9_isChild ∈ lw_good := ⟨in_good (List.mem_of_getElem? (i := 1215) (by decide +kernel)) rfl, in_good (List.mem_of_getElem? (i := 40) (by decide +kernel)) rfl⟩
theorem yf_X9_isThing : YF yX9_isThing cX9_isThing 2 (some .boolean) 1 := ⟨in_good (List.mem_of_getElem? (i := 1231) (by decide +kernel)) rfl, in_good (List.mem_of_getElem? (i := 83) (by decide +kernel)) rfl, by decide +kernel, by decide +kernel, by decide +kernel⟩
theorem pn_X9_isThing : plainName yX9_isThing.cls = true := by decide +kernel
theorem yv_X9_isThing : Cond.instanceMethod yX9_isThing ∈ lw_good ∧ Cond.selects yX9_isThing.cls yX9_isThing yX9_isThing ∈ lw_good := ⟨in_good (List.mem_of_getElem? (i := 1230) (by decide +kernel)) rfl, in_good (List.mem_of_getElem? (i := 42) (by decide +kernel)) rfl⟩
theorem yf_X9_isSlot : YF yX9_isSlot cX9_isSlot 1 (some .boolean) 1 := ⟨in_good (List.mem_of_getElem? (i := 1282) (by decide +kernel)) rfl, in_good (List.mem_of_getElem? (i := 83) (by decide +kernel)) rfl, by decide +kernel, by decide +kernel, by decide +kernel⟩
theorem pn_X9_isSlot : plainName yX9_isSlot.cls = true := by decide +kernel
theorem yv_X9_isSlot : Cond.static yX9_isSlot ∈ lw_good := in_good (List.mem_of_getElem? (i := 1281) (by decide +kernel)) rfl
theorem yf_X9_of : YF yX9_of cX9_of 3 (some .int) 2 := ⟨in_good (List.mem_of_getElem? (i := 1236) (by decide +kernel)) rfl, in_good (List.mem_of_getElem? (i := 83) (by decide +kernel)) rfl, by decide +kernel, by decide +kernel, by decide +kernel⟩
theorem pn_X9_of : plainName yX9_of.cls = true := by decide +kernel
theorem yv_X9_of : Cond.instanceMethod yX9_of ∈ lw_good ∧ Cond.selects yX9_of.cls yX9_of yX9_of ∈ lw_good := ⟨in_good (List.mem_of_getElem? (i := 1235) (by decide +kernel)) rfl, in_good (List.mem_of_getElem? (i := 43) (by decide +kernel)) rfl⟩
theorem yf_X9_worn : YF yX9_worn cX9_worn 3 (some .int) 2 := ⟨in_good (List.mem_of_getElem? (i := 1223) (by decide +kernel)) rfl, in_good (List.mem_of_getElem? (i := 83) (by decide +kernel)) rfl, by decide +kernel, by decide +kernel, by decide +kernel⟩
theorem pn_X9_worn : plainName yX9_worn.cls = true := by decide +kernel
theorem yv_X9_worn : Cond.instanceMethod yX9_worn ∈ lw_good ∧ Cond.selects yX9_worn.cls yX9_worn yX9_worn ∈ lw_good := ⟨in_good (List.mem_of_getElem? (i := 1222) (by decide +kernel)) rfl, in_good (List.mem_of_getElem? (i := 41) (by decide +kernel)) rfl⟩
theorem yf_X9_whoWears : YF yX9_whoWears cX9_whoWears 4 (some .int) 1 := ⟨in_good (List.mem_of_getElem? (i := 1240) (by decide +kernel)) rfl, in_good (List.mem_of_getElem? (i := 83) (by decide +kernel)) rfl, by decide +kernel, by decide +kernel, by decide +kernel⟩
theorem pn_X9_whoWears : plainName yX9_whoWears.cls = true := by decide +kernel
theorem yv_X9_whoWears : Cond.instanceMethod yX9_whoWears ∈ lw_good ∧ Cond.selects yX9_whoWears.cls yX9_whoWears yX9_whoWears ∈ lw_good := ⟨in_good (List.mem_of_getElem? (i := 1239) (by decide +kernel)) rfl, in_good (List.mem_of_getElem? (i := 44) (by decide +kernel)) rfl⟩
theorem yf_X9_child : YF yX9_child cX9_child 3 (some .int) 2 := ⟨in_good (List.mem_of_getElem? (i := 1212) (by decide +kernel)) rfl, in_good (List.mem_of_getElem? (i := 83) (by decide +kernel)) rfl, by decide +kernel, by decide +kernel, by decide +kernel⟩
theorem pn_X9_child : plainName yX9_child.cls = true := by decide +kernel
theorem yv_X9_child : Cond.instanceMethod yX9_child ∈ lw_good ∧ Cond.selects yX9_child.cls yX9_child yX9_child ∈ lw_good := ⟨in_good (List.mem_of_getElem? (i := 1210) (by decide +kernel)) rfl, in_good (List.mem_of_getElem? (i := 1211) (by decide +kernel)) rfl⟩
theorem yf_X9_thing : YF yX9_thing cX9_thing 3 (some .int) 2 := ⟨in_good (List.mem_of_getElem? (i := 1227) (by decide +kernel)) rfl, in_good (List.mem_of_getElem? (i := 83) (by decide +kernel)) rfl, by decide +kernel, by decide +kernel, by decide +kernel⟩
theorem pn_X9_thing : plainName yX9_thing.cls = true := by decide +kernel
theorem yv_X9_thing : Cond.instanceMethod yX9_thing ∈ lw_good ∧ Cond.selects yX9_thing.cls yX9_thing yX9_thing ∈ lw_good := ⟨in_good (List.mem_of_getElem? (i := 1225) (by decide +kernel)) rfl, in_good (List.mem_of_getElem? (i := 1226) (by decide +kernel)) rfl⟩
theorem yf_X9_slack : YF yX9_slack cX9_slack 3 (some .int) 1 := ⟨in_good (List.mem_of_getElem? (i := 1244) (by decide +kernel)) rfl, in_good (List.mem_of_getElem? (i := 83) (by decide +kernel)) rfl, by decide +kernel, by decide +kernel, by decide +kernel⟩
theorem pn_X9_slack : plainName yX9_slack.cls = true := by decide +kernel
theorem yv_X9_slack : Cond.instanceMethod yX9_slack ∈ lw_good ∧ Cond.selects yX9_slack.cls yX9_slack yX9_slack ∈ lw_good := ⟨in_good (List.mem_of_getElem? (i := 1242) (by decide +kernel)) rfl, in_good (List.mem_of_getElem? (i := 1243) (by decide +kernel)) rfl⟩
theorem yf_X9_like : YF yX9_like cX9_like 5 (some .int) 3 := ⟨in_good (List.mem_of_getElem? (i := 1249) (by decide +kernel)) rfl, in_good (List.mem_of_getElem? (i := 83) (by decide +kernel)) rfl, by decide +kernel, by decide +kernel, by decide +kernel⟩
theorem pn_X9_like : plainName yX9_like.cls = true := by decide +kernel
theorem yv_X9_like : Cond.instanceMethod yX9_like ∈ lw_good ∧ Cond.selects yX9_like.cls yX9_like yX9_like ∈ lw_good := ⟨in_good (List.mem_of_getElem? (i := 1247) (by decide +kernel)) rfl, in_good (List.mem_of_getElem? (i := 1248) (by decide +kernel)) rfl⟩
theorem yf_X9_isOut : YF yX9_isOut cX9_isOut 3 (some .boolean) 1 := ⟨in_good (List.mem_of_getElem? (i := 1341) (by decide +kernel)) rfl, in_good (List.mem_of_getElem? (i := 83) (by decide +kernel)) rfl, by decide +kernel, by decide +kernel, by decide +kernel⟩
theorem pn_X9_isOut : plainName yX9_isOut.cls = true := by decide +kernel
theorem yv_X9_isOut : Cond.instanceMethod yX9_isOut ∈ lw_good ∧ Cond.selects yX9_isOut.cls yX9_isOut yX9_isOut ∈ lw_good := ⟨in_good (List.mem_of_getElem? (i := 1340) (by decide +kernel)) rfl, in_good (List.mem_of_getElem? (i := 58) (by decide +kernel)) rfl⟩
theorem yf_X9_fitOf : YF yX9_fitOf cX9_fitOf 6 (some .int) 3 := ⟨in_good (List.mem_of_getElem? (i := 1262) (by decide +kernel)) rfl, in_good (List.mem_of_getElem? (i := 83) (by decide +kernel)) rfl, by decide +kernel, by decide +kernel, by decide +kernel⟩
theorem pn_X9_fitOf : plainName yX9_fitOf.cls = true := by decide +kernel
theorem yv_X9_fitOf : Cond.instanceMethod yX9_fitOf ∈ lw_good ∧ Cond.selects yX9_fitOf.cls yX9_fitOf yX9_fitOf ∈ lw_good := ⟨in_good (List.mem_of_getElem? (i := 1261) (by decide +kernel)) rfl, in_good (List.mem_of_getElem? (i := 46) (by decide +kernel)) rfl⟩
theorem yf_X9_fitNow : YF yX9_fitNow cX9_fitNow 3 (some .int) 2 := ⟨in_good (List.mem_of_getElem? (i := 1258) (by decide +kernel)) rfl, in_good (List.mem_of_getElem? (i := 83) (by decide +kernel)) rfl, by decide +kernel, by decide +kernel, by decide +kernel⟩
theorem pn_X9_fitNow : plainName yX9_fitNow.cls = true := by decide +kernel
theorem yv_X9_fitNow : Cond.instanceMethod yX9_fitNow ∈ lw_good ∧ Cond.selects yX9_fitNow.cls yX9_fitNow yX9_fitNow ∈ lw_good := ⟨in_good (List.mem_of_getElem? (i := 1257) (by decide +kernel)) rfl, in_good (List.mem_of_getElem? (i := 45) (by decide +kernel)) rfl⟩
theorem yf_X9_fits : YF yX9_fits cX9_fits 3 (some .int) 2 := ⟨in_good (List.mem_of_getElem? (i := 1254) (by decide +kernel)) rfl, in_good (List.mem_of_getElem? (i := 83) (by decide +kernel)) rfl, by decide +kernel, by decide +kernel, by decide +kernel⟩
theorem pn_X9_fits : plainName yX9_fits.cls = true := by decide +kernel
theorem yv_X9_fits : Cond.instanceMethod yX9_fits ∈ lw_good ∧ Cond.selects yX9_fits.cls yX9_fits yX9_fits ∈ lw_good := ⟨in_good (List.mem_of_getElem? (i := 1252) (by decide +kernel)) rfl, in_good (List.mem_of_getElem? (i := 1253) (by decide +kernel)) rfl⟩
theorem yf_X9_takesOff : YF yX9_takesOff cX9_takesOff 3 none 2 := ⟨in_good (List.mem_of_getElem? (i := 1271) (by decide +kernel)) rfl, in_good (List.mem_of_getElem? (i := 83) (by decide +kernel)) rfl, by decide +kernel, by decide +kernel, by decide +kernel⟩
theorem pn_X9_takesOff : plainName yX9_takesOff.cls = true := by decide +kernel
theorem yv_X9_takesOff : Cond.instanceMethod yX9_takesOff ∈ lw_good ∧ Cond.selects yX9_takesOff.cls yX9_takesOff yX9_takesOff ∈ lw_good := ⟨in_good (List.mem_of_getElem? (i := 1270) (by decide +kernel)) rfl, in_good (List.mem_of_getElem? (i := 47) (by decide +kernel)) rfl⟩
theorem yf_X9_putsOn : YF yX9_putsOn cX9_putsOn 3 none 2 := ⟨in_good (List.mem_of_getElem? (i := 1275) (by decide +kernel)) rfl, in_good (List.mem_of_getElem? (i := 83) (by decide +kernel)) rfl, by decide +kernel, by decide +kernel, by decide +kernel⟩
theorem pn_X9_putsOn : plainName yX9_putsOn.cls = true := by decide +kernel
theorem yv_X9_putsOn : Cond.instanceMethod yX9_putsOn ∈ lw_good ∧ Cond.selects yX9_putsOn.cls yX9_putsOn yX9_putsOn ∈ lw_good := ⟨in_good (List.mem_of_getElem? (i := 1274) (by decide +kernel)) rfl, in_good (List.mem_of_getElem? (i := 48) (by decide +kernel)) rfl⟩
theorem yf_X9_wear : YF yX9_wear cX9_wear 5 (some .int) 2 := ⟨in_good (List.mem_of_getElem? (i := 1267) (by decide +kernel)) rfl, in_good (List.mem_of_getElem? (i := 83) (by decide +kernel)) rfl, by decide +kernel, by decide +kernel, by decide +kernel⟩
theorem pn_X9_wear : plainName yX9_wear.cls = true := by decide +kernel
theorem yv_X9_wear : Cond.instanceMethod yX9_wear ∈ lw_good ∧ Cond.selects yX9_wear.cls yX9_wear yX9_wear ∈ lw_good := ⟨in_good (List.mem_of_getElem? (i := 1265) (by decide +kernel)) rfl, in_good (List.mem_of_getElem? (i := 1266) (by decide +kernel)) rfl⟩
theorem yf_X9_doff : YF yX9_doff cX9_doff 4 (some .int) 2 := ⟨in_good (List.mem_of_getElem? (i := 1279) (by decide +kernel)) rfl, in_good (List.mem_of_getElem? (i := 83) (by decide +kernel)) rfl, by decide +kernel, by decide +kernel, by decide +kernel⟩
theorem pn_X9_doff : plainName yX9_doff.cls = true := by decide +kernel
theorem yv_X9_doff : Cond.instanceMethod yX9_doff ∈ lw_good ∧ Cond.selects yX9_doff.cls yX9_doff yX9_doff ∈ lw_good := ⟨in_good (List.mem_of_getElem? (i := 1277) (by decide +kernel)) rfl, in_good (List.mem_of_getElem? (i := 1278) (by decide +kernel)) rfl⟩
theorem yf_X9_cold : YF yX9_cold cX9_cold 4 (some .int) 1 := ⟨in_good (List.mem_of_getElem? (i := 1286) (by decide +kernel)) rfl, in_good (List.mem_of_getElem? (i := 83) (by decide +kernel)) rfl, by decide +kernel, by decide +kernel, by decide +kernel⟩
theorem pn_X9_cold : plainName yX9_cold.cls = true := by decide +kernel
theorem yv_X9_cold : Cond.instanceMethod yX9_cold ∈ lw_good ∧ Cond.selects yX9_cold.cls yX9_cold yX9_cold ∈ lw_good := ⟨in_good (List.mem_of_getElem? (i := 1284) (by decide +kernel)) rfl, in_good (List.mem_of_getElem? (i := 1285) (by decide +kernel)) rfl⟩
theorem yf_X9_findCanHave : YF yX9_findCanHave cX9_findCanHave 4 none 1 := ⟨in_good (List.mem_of_getElem? (i := 1301) (by decide +kernel)) rfl, in_good (List.mem_of_getElem? (i := 83) (by decide +kernel)) rfl, by decide +kernel, by decide +kernel, by decide +kernel⟩
theorem pn_X9_findCanHave : plainName yX9_findCanHave.cls = true := by decide +kernel
theorem yv_X9_findCanHave : Cond.instanceMethod yX9_findCanHave ∈ lw_good ∧ Cond.selects yX9_findCanHave.cls yX9_findCanHave yX9_findCanHave ∈ lw_good := ⟨in_good (List.mem_of_getElem? (i := 1300) (by decide +kernel)) rfl, in_good (List.mem_of_getElem? (i := 50) (by decide +kernel)) rfl⟩
theorem yf_X9_getsOne : YF yX9_getsOne cX9_getsOne 8 (some .boolean) 2 := ⟨in_good (List.mem_of_getElem? (i := 1309) (by decide +kernel)) rfl, in_good (List.mem_of_getElem? (i := 83) (by decide +kernel)) rfl, by decide +kernel, by decide +kernel, by decide +kernel⟩
theorem pn_X9_getsOne : plainName yX9_getsOne.cls = true := by decide +kernel
theorem yv_X9_getsOne : Cond.instanceMethod yX9_getsOne ∈ lw_good ∧ Cond.selects yX9_getsOne.cls yX9_getsOne yX9_getsOne ∈ lw_good := ⟨in_good (List.mem_of_getElem? (i := 1308) (by decide +kernel)) rfl, in_good (List.mem_of_getElem? (i := 52) (by decide +kernel)) rfl⟩
theorem yf_X9_givesOn : YF yX9_givesOn cX9_givesOn 7 none 2 := ⟨in_good (List.mem_of_getElem? (i := 1313) (by decide +kernel)) rfl, in_good (List.mem_of_getElem? (i := 83) (by decide +kernel)) rfl, by decide +kernel, by decide +kernel, by decide +kernel⟩
theorem pn_X9_givesOn : plainName yX9_givesOn.cls = true := by decide +kernel
theorem yv_X9_givesOn : Cond.instanceMethod yX9_givesOn ∈ lw_good ∧ Cond.selects yX9_givesOn.cls yX9_givesOn yX9_givesOn ∈ lw_good := ⟨in_good (List.mem_of_getElem? (i := 1312) (by decide +kernel)) rfl, in_good (List.mem_of_getElem? (i := 53) (by decide +kernel)) rfl⟩
theorem yf_X9_findMost : YF yX9_findMost cX9_findMost 3 (some .int) 0 := ⟨in_good (List.mem_of_getElem? (i := 1305) (by decide +kernel)) rfl, in_good (List.mem_of_getElem? (i := 83) (by decide +kernel)) rfl, by decide +kernel, by decide +kernel, by decide +kernel⟩
theorem pn_X9_findMost : plainName yX9_findMost.cls = true := by decide +kernel
theorem yv_X9_findMost : Cond.instanceMethod yX9_findMost ∈ lw_good ∧ Cond.selects yX9_findMost.cls yX9_findMost yX9_findMost ∈ lw_good := ⟨in_good (List.mem_of_getElem? (i := 1304) (by decide +kernel)) rfl, in_good (List.mem_of_getElem? (i := 51) (by decide +kernel)) rfl⟩
theorem yf_X9_keepsDeal : YF yX9_keepsDeal cX9_keepsDeal 2 none 0 := ⟨in_good (List.mem_of_getElem? (i := 1321) (by decide +kernel)) rfl, in_good (List.mem_of_getElem? (i := 83) (by decide +kernel)) rfl, by decide +kernel, by decide +kernel, by decide +kernel⟩
theorem pn_X9_keepsDeal : plainName yX9_keepsDeal.cls = true := by decide +kernel
theorem yv_X9_keepsDeal : Cond.instanceMethod yX9_keepsDeal ∈ lw_good ∧ Cond.selects yX9_keepsDeal.cls yX9_keepsDeal yX9_keepsDeal ∈ lw_good := ⟨in_good (List.mem_of_getElem? (i := 1320) (by decide +kernel)) rfl, in_good (List.mem_of_getElem? (i := 55) (by decide +kernel)) rfl⟩
theorem yf_X9_asKept : YF yX9_asKept cX9_asKept 2 none 0 := ⟨in_good (List.mem_of_getElem? (i := 1325) (by decide +kernel)) rfl, in_good (List.mem_of_getElem? (i := 83) (by decide +kernel)) rfl, by decide +kernel, by decide +kernel, by decide +kernel⟩
theorem pn_X9_asKept : plainName yX9_asKept.cls = true := by decide +kernel
theorem yv_X9_asKept : Cond.instanceMethod yX9_asKept ∈ lw_good ∧ Cond.selects yX9_asKept.cls yX9_asKept yX9_asKept ∈ lw_good := ⟨in_good (List.mem_of_getElem? (i := 1324) (by decide +kernel)) rfl, in_good (List.mem_of_getElem? (i := 56) (by decide +kernel)) rfl⟩
theorem yf_X9_canGet : YF yX9_canGet cX9_canGet 8 (some .boolean) 3 := ⟨in_good (List.mem_of_getElem? (i := 1317) (by decide +kernel)) rfl, in_good (List.mem_of_getElem? (i := 83) (by decide +kernel)) rfl, by decide +kernel, by decide +kernel, by decide +kernel⟩
theorem pn_X9_canGet : plainName yX9_canGet.cls = true := by decide +kernel
theorem yv_X9_canGet : Cond.instanceMethod yX9_canGet ∈ lw_good ∧ Cond.selects yX9_canGet.cls yX9_canGet yX9_canGet ∈ lw_good := ⟨in_good (List.mem_of_getElem? (i := 1316) (by decide +kernel)) rfl, in_good (List.mem_of_getElem? (i := 54) (by decide +kernel)) rfl⟩
theorem yf_X9_findDeal : YF yX9_findDeal cX9_findDeal 7 (some .int) 1 := ⟨in_good (List.mem_of_getElem? (i := 1297) (by decide +kernel)) rfl, in_good (List.mem_of_getElem? (i := 83) (by decide +kernel)) rfl, by decide +kernel, by decide +kernel, by decide +kernel⟩
theorem pn_X9_findDeal : plainName yX9_findDeal.cls = true := by decide +kernel
theorem yv_X9_findDeal : Cond.instanceMethod yX9_findDeal ∈ lw_good ∧ Cond.selects yX9_findDeal.cls yX9_findDeal yX9_findDeal ∈ lw_good := ⟨in_good (List.mem_of_getElem? (i := 1296) (by decide +kernel)) rfl, in_good (List.mem_of_getElem? (i := 49) (by decide +kernel)) rfl⟩
theorem yf_X9_deal : YF yX9_deal cX9_deal 4 (some .int) 2 := ⟨in_good (List.mem_of_getElem? (i := 1293) (by decide +kernel)) rfl, in_good (List.mem_of_getElem? (i := 83) (by decide +kernel)) rfl, by decide +kernel, by decide +kernel, by decide +kernel⟩
theorem pn_X9_deal : plainName yX9_deal.cls = true := by decide +kernel
theorem yv_X9_deal : Cond.instanceMethod yX9_deal ∈ lw_good ∧ Cond.selects yX9_deal.cls yX9_deal yX9_deal ∈ lw_good := ⟨in_good (List.mem_of_getElem? (i := 1291) (by decide +kernel)) rfl, in_good (List.mem_of_getElem? (i := 1292) (by decide +kernel)) rfl⟩
theorem yf_X9_dresses : YF yX9_dresses cX9_dresses 4 (some .int) 1 := ⟨in_good (List.mem_of_getElem? (i := 1333) (by decide +kernel)) rfl, in_good (List.mem_of_getElem? (i := 83) (by decide +kernel)) rfl, by decide +kernel, by decide +kernel, by decide +kernel⟩
theorem pn_X9_dresses : plainName yX9_dresses.cls = true := by decide +kernel
theorem yv_X9_dresses : Cond.instanceMethod yX9_dresses ∈ lw_good ∧ Cond.selects yX9_dresses.cls yX9_dresses yX9_dresses ∈ lw_good := ⟨in_good (List.mem_of_getElem? (i := 1332) (by decide +kernel)) rfl, in_good (List.mem_of_getElem? (i := 57) (by decide +kernel)) rfl⟩
theorem yf_X9_dress : YF yX9_dress cX9_dress 2 (some .int) 1 := ⟨in_good (List.mem_of_getElem? (i := 1329) (by decide +kernel)) rfl, in_good (List.mem_of_getElem? (i := 83) (by decide +kernel)) rfl, by decide +kernel, by decide +kernel, by decide +kernel⟩
theorem pn_X9_dress : plainName yX9_dress.cls = true := by decide +kernel
theorem yv_X9_dress : Cond.instanceMethod yX9_dress ∈ lw_good ∧ Cond.selects yX9_dress.cls yX9_dress yX9_dress ∈ lw_good := ⟨in_good (List.mem_of_getElem? (i := 1327) (by decide +kernel)) rfl, in_good (List.mem_of_getElem? (i := 1328) (by decide +kernel)) rfl⟩
theorem yf_X9_spare : YF yX9_spare cX9_spare 4 (some .int) 1 := ⟨in_good (List.mem_of_getElem? (i := 1337) (by decide +kernel)) rfl, in_good (List.mem_of_getElem? (i := 83) (by decide +kernel)) rfl, by decide +kernel, by decide +kernel, by decide +kernel⟩
theorem pn_X9_spare : plainName yX9_spare.cls = true := by decide +kernel
theorem yv_X9_spare : Cond.instanceMethod yX9_spare ∈ lw_good ∧ Cond.selects yX9_spare.cls yX9_spare yX9_spare ∈ lw_good := ⟨in_good (List.mem_of_getElem? (i := 1335) (by decide +kernel)) rfl, in_good (List.mem_of_getElem? (i := 1336) (by decide +kernel)) rfl⟩
theorem yf_X9_winters : YF yX9_winters cX9_winters 5 (some .int) 0 := ⟨in_good (List.mem_of_getElem? (i := 1349) (by decide +kernel)) rfl, in_good (List.mem_of_getElem? (i := 83) (by decide +kernel)) rfl, by decide +kernel, by decide +kernel, by decide +kernel⟩
theorem pn_X9_winters : plainName yX9_winters.cls = true := by decide +kernel
theorem yv_X9_winters : Cond.instanceMethod yX9_winters ∈ lw_good ∧ Cond.selects yX9_winters.cls yX9_winters yX9_winters ∈ lw_good := ⟨in_good (List.mem_of_getElem? (i := 1348) (by decide +kernel)) rfl, in_good (List.mem_of_getElem? (i := 59) (by decide +kernel)) rfl⟩
theorem yf_X9_winter : YF yX9_winter cX9_winter 1 (some .int) 0 := ⟨in_good (List.mem_of_getElem? (i := 1345) (by decide +kernel)) rfl, in_good (List.mem_of_getElem? (i := 83) (by decide +kernel)) rfl, by decide +kernel, by decide +kernel, by decide +kernel⟩
theorem pn_X9_winter : plainName yX9_winter.cls = true := by decide +kernel
theorem yv_X9_winter : Cond.instanceMethod yX9_winter ∈ lw_good ∧ Cond.selects yX9_winter.cls yX9_winter yX9_winter ∈ lw_good := ⟨in_good (List.mem_of_getElem? (i := 1343) (by decide +kernel)) rfl, in_good (List.mem_of_getElem? (i := 1344) (by decide +kernel)) rfl⟩
theorem yf_X9_grows : YF yX9_grows cX9_grows 4 none 2 := ⟨in_good (List.mem_of_getElem? (i := 1361) (by decide +kernel)) rfl, in_good (List.mem_of_getElem? (i := 83) (by decide +kernel)) rfl, by decide +kernel, by decide +kernel, by decide +kernel⟩
theorem pn_X9_grows : plainName yX9_grows.cls = true := by decide +kernel
theorem yv_X9_grows : Cond.instanceMethod yX9_grows ∈ lw_good ∧ Cond.selects yX9_grows.cls yX9_grows yX9_grows ∈ lw_good := ⟨in_good (List.mem_of_getElem? (i := 1360) (by decide +kernel)) rfl, in_good (List.mem_of_getElem? (i := 61) (by decide +kernel)) rfl⟩
theorem yf_X9_springs : YF yX9_springs cX9_springs 6 (some .int) 1 := ⟨in_good (List.mem_of_getElem? (i := 1357) (by decide +kernel)) rfl, in_good (List.mem_of_getElem? (i := 83) (by decide +kernel)) rfl, by decide +kernel, by decide +kernel, by decide +kernel⟩
theorem pn_X9_springs : plainName yX9_springs.cls = true := by decide +kernel
theorem yv_X9_springs : Cond.instanceMethod yX9_springs ∈ lw_good ∧ Cond.selects yX9_springs.cls yX9_springs yX9_springs ∈ lw_good := ⟨in_good (List.mem_of_getElem? (i := 1356) (by decide +kernel)) rfl, in_good (List.mem_of_getElem? (i := 60) (by decide +kernel)) rfl⟩
theorem yf_X9_spring : YF yX9_spring cX9_spring 2 (some .int) 1 := ⟨in_good (List.mem_of_getElem? (i := 1353) (by decide +kernel)) rfl, in_good (List.mem_of_getElem? (i := 83) (by decide +kernel)) rfl, by decide +kernel, by decide +kernel, by decide +kernel⟩
theorem pn_X9_spring : plainName yX9_spring.cls = true := by decide +kernel
theorem yv_X9_spring : Cond.instanceMethod yX9_spring ∈ lw_good ∧ Cond.selects yX9_spring.cls yX9_spring yX9_spring ∈ lw_good := ⟨in_good (List.mem_of_getElem? (i := 1351) (by decide +kernel)) rfl, in_good (List.mem_of_getElem? (i := 1352) (by decide +kernel)) rfl⟩
theorem yf_X9_copies : YF yX9_copies cX9_copies 4 none 2 := ⟨in_good (List.mem_of_getElem? (i := 1376) (by decide +kernel)) rfl, in_good (List.mem_of_getElem? (i := 83) (by decide +kernel)) rfl, by decide +kernel, by decide +kernel, by decide +kernel⟩
theorem pn_X9_copies : plainName yX9_copies.cls = true := by decide +kernel
theorem yv_X9_copies : Cond.instanceMethod yX9_copies ∈ lw_good ∧ Cond.selects yX9_copies.cls yX9_copies yX9_copies ∈ lw_good := ⟨in_good (List.mem_of_getElem? (i := 1375) (by decide +kernel)) rfl, in_good (List.mem_of_getElem? (i := 63) (by decide +kernel)) rfl⟩
theorem yf_X9_aheadBy : YF yX9_aheadBy cX9_aheadBy 6 (some .int) 3 := ⟨in_good (List.mem_of_getElem? (i := 1372) (by decide +kernel)) rfl, in_good (List.mem_of_getElem? (i := 83) (by decide +kernel)) rfl, by decide +kernel, by decide +kernel, by decide +kernel⟩
theorem pn_X9_aheadBy : plainName yX9_aheadBy.cls = true := by decide +kernel
theorem yv_X9_aheadBy : Cond.instanceMethod yX9_aheadBy ∈ lw_good ∧ Cond.selects yX9_aheadBy.cls yX9_aheadBy yX9_aheadBy ∈ lw_good := ⟨in_good (List.mem_of_getElem? (i := 1371) (by decide +kernel)) rfl, in_good (List.mem_of_getElem? (i := 62) (by decide +kernel)) rfl⟩
theorem yf_X9_areYears : YF yX9_areYears cX9_areYears 1 (some .boolean) 1 := ⟨in_good (List.mem_of_getElem? (i := 1368) (by decide +kernel)) rfl, in_good (List.mem_of_getElem? (i := 83) (by decide +kernel)) rfl, by decide +kernel, by decide +kernel, by decide +kernel⟩
theorem pn_X9_areYears : plainName yX9_areYears.cls = true := by decide +kernel
theorem yv_X9_areYears : Cond.static yX9_areYears ∈ lw_good := in_good (List.mem_of_getElem? (i := 1367) (by decide +kernel)) rfl
theorem yf_X9_ahead : YF yX9_ahead cX9_ahead 6 (some .int) 4 := ⟨in_good (List.mem_of_getElem? (i := 1365) (by decide +kernel)) rfl, in_good (List.mem_of_getElem? (i := 83) (by decide +kernel)) rfl, by decide +kernel, by decide +kernel, by decide +kernel⟩
theorem pn_X9_ahead : plainName yX9_ahead.cls = true := by decide +kernel
theorem yv_X9_ahead : Cond.instanceMethod yX9_ahead ∈ lw_good ∧ Cond.selects yX9_ahead.cls yX9_ahead yX9_ahead ∈ lw_good := ⟨in_good (List.mem_of_getElem? (i := 1363) (by decide +kernel)) rfl, in_good (List.mem_of_getElem? (i := 1364) (by decide +kernel)) rfl⟩
theorem yf_X9_strong : YF yX9_strong cX9_strong 7 (some .int) 3 := ⟨in_good (List.mem_of_getElem? (i := 1380) (by decide +kernel)) rfl, in_good (List.mem_of_getElem? (i := 83) (by decide +kernel)) rfl, by decide +kernel, by decide +kernel, by decide +kernel⟩
theorem pn_X9_strong : plainName yX9_strong.cls = true := by decide +kernel
theorem yv_X9_strong : Cond.instanceMethod yX9_strong ∈ lw_good ∧ Cond.selects yX9_strong.cls yX9_strong yX9_strong ∈ lw_good := ⟨in_good (List.mem_of_getElem? (i := 1378) (by decide +kernel)) rfl, in_good (List.mem_of_getElem? (i := 1379) (by decide +kernel)) rfl⟩
theorem yf_X9_cut : YF yX9_cut cX9_cut 4 (some .int) 2 := ⟨in_good (List.mem_of_getElem? (i := 1384) (by decide +kernel)) rfl, in_good (List.mem_of_getElem? (i := 83) (by decide +kernel)) rfl, by decide +kernel, by decide +kernel, by decide +kernel⟩
theorem pn_X9_cut : plainName yX9_cut.cls = true := by decide +kernel
theorem yv_X9_cut : Cond.instanceMethod yX9_cut ∈ lw_good ∧ Cond.selects yX9_cut.cls yX9_cut yX9_cut ∈ lw_good := ⟨in_good (List.mem_of_getElem? (i := 1382) (by decide +kernel)) rfl, in_good (List.mem_of_getElem? (i := 1383) (by decide +kernel)) rfl⟩
theorem yf_X9_findCut : YF yX9_findCut cX9_findCut 8 none 4 := ⟨in_good (List.mem_of_getElem? (i := 1392) (by decide +kernel)) rfl, in_good (List.mem_of_getElem? (i := 83) (by decide +kernel)) rfl, by decide +kernel, by decide +kernel, by decide +kernel⟩
theorem pn_X9_findCut : plainName yX9_findCut.cls = true := by decide +kernel
theorem yv_X9_findCut : Cond.instanceMethod yX9_findCut ∈ lw_good ∧ Cond.selects yX9_findCut.cls yX9_findCut yX9_findCut ∈ lw_good := ⟨in_good (List.mem_of_getElem? (i := 1391) (by decide +kernel)) rfl, in_good (List.mem_of_getElem? (i := 64) (by decide +kernel)) rfl⟩
theorem yf_X9_pays : YF yX9_pays cX9_pays 5 (some .int) 4 := ⟨in_good (List.mem_of_getElem? (i := 1388) (by decide +kernel)) rfl, in_good (List.mem_of_getElem? (i := 83) (by decide +kernel)) rfl, by decide +kernel, by decide +kernel, by decide +kernel⟩
theorem pn_X9_pays : plainName yX9_pays.cls = true := by decide +kernel
theorem yv_X9_pays : Cond.instanceMethod yX9_pays ∈ lw_good ∧ Cond.selects yX9_pays.cls yX9_pays yX9_pays ∈ lw_good := ⟨in_good (List.mem_of_getElem? (i := 1386) (by decide +kernel)) rfl, in_good (List.mem_of_getElem? (i := 1387) (by decide +kernel)) rfl⟩
theorem yf_X9_best : YF yX9_best cX9_best 8 (some .int) 4 := ⟨in_good (List.mem_of_getElem? (i := 1396) (by decide +kernel)) rfl, in_good (List.mem_of_getElem? (i := 83) (by decide +kernel)) rfl, by decide +kernel, by decide +kernel, by decide +kernel⟩
theorem pn_X9_best : plainName yX9_best.cls = true := by decide +kernel
theorem yv_X9_best : Cond.instanceMethod yX9_best ∈ lw_good ∧ Cond.selects yX9_best.cls yX9_best yX9_best ∈ lw_good := ⟨in_good (List.mem_of_getElem? (i := 1394) (by decide +kernel)) rfl, in_good (List.mem_of_getElem? (i := 1395) (by decide +kernel)) rfl⟩
theorem yf_X9_sews : YF yX9_sews cX9_sews 6 none 3 := ⟨in_good (List.mem_of_getElem? (i := 1405) (by decide +kernel)) rfl, in_good (List.mem_of_getElem? (i := 83) (by decide +kernel)) rfl, by decide +kernel, by decide +kernel, by decide +kernel⟩
theorem pn_X9_sews : plainName yX9_sews.cls = true := by decide +kernel
theorem yv_X9_sews : Cond.instanceMethod yX9_sews ∈ lw_good ∧ Cond.selects yX9_sews.cls yX9_sews yX9_sews ∈ lw_good := ⟨in_good (List.mem_of_getElem? (i := 1404) (by decide +kernel)) rfl, in_good (List.mem_of_getElem? (i := 65) (by decide +kernel)) rfl⟩
theorem yf_X9_sew : YF yX9_sew cX9_sew 3 (some .int) 2 := ⟨in_good (List.mem_of_getElem? (i := 1400) (by decide +kernel)) rfl, in_good (List.mem_of_getElem? (i := 83) (by decide +kernel)) rfl, by decide +kernel, by decide +kernel, by decide +kernel⟩
theorem pn_X9_sew : plainName yX9_sew.cls = true := by decide +kernel
theorem yv_X9_sew : Cond.instanceMethod yX9_sew ∈ lw_good ∧ Cond.selects yX9_sew.cls yX9_sew yX9_sew ∈ lw_good := ⟨in_good (List.mem_of_getElem? (i := 1398) (by decide +kernel)) rfl, in_good (List.mem_of_getElem? (i := 1399) (by decide +kernel)) rfl⟩
theorem yf_X9_wish : YF yX9_wish cX9_wish 9 (some .int) 4 := ⟨in_good (List.mem_of_getElem? (i := 1409) (by decide +kernel)) rfl, in_good (List.mem_of_getElem? (i := 83) (by decide +kernel)) rfl, by decide +kernel, by decide +kernel, by decide +kernel⟩
theorem pn_X9_wish : plainName yX9_wish.cls = true := by decide +kernel
theorem yv_X9_wish : Cond.instanceMethod yX9_wish ∈ lw_good ∧ Cond.selects yX9_wish.cls yX9_wish yX9_wish ∈ lw_good := ⟨in_good (List.mem_of_getElem? (i := 1407) (by decide +kernel)) rfl, in_good (List.mem_of_getElem? (i := 1408) (by decide +kernel)) rfl⟩
theorem yf_X9_likes : YF yX9_likes cX9_likes 3 (some .int) 2 := ⟨in_good (List.mem_of_getElem? (i := 1426) (by decide +kernel)) rfl, in_good (List.mem_of_getElem? (i := 83) (by decide +kernel)) rfl, by decide +kernel, by decide +kernel, by decide +kernel⟩
theorem pn_X9_likes : plainName yX9_likes.cls = true := by decide +kernel
theorem yv_X9_likes : Cond.instanceMethod yX9_likes ∈ lw_good ∧ Cond.selects yX9_likes.cls yX9_likes yX9_likes ∈ lw_good := ⟨in_good (List.mem_of_getElem? (i := 1425) (by decide +kernel)) rfl, in_good (List.mem_of_getElem? (i := 68) (by decide +kernel)) rfl⟩
theorem yf_X9_isSwap : YF yX9_isSwap cX9_isSwap 6 (some .boolean) 3 := ⟨in_good (List.mem_of_getElem? (i := 1422) (by decide +kernel)) rfl, in_good (List.mem_of_getElem? (i := 83) (by decide +kernel)) rfl, by decide +kernel, by decide +kernel, by decide +kernel⟩
theorem pn_X9_isSwap : plainName yX9_isSwap.cls = true := by decide +kernel
theorem yv_X9_isSwap : Cond.instanceMethod yX9_isSwap ∈ lw_good ∧ Cond.selects yX9_isSwap.cls yX9_isSwap yX9_isSwap ∈ lw_good := ⟨in_good (List.mem_of_getElem? (i := 1421) (by decide +kernel)) rfl, in_good (List.mem_of_getElem? (i := 67) (by decide +kernel)) rfl⟩
theorem yf_X9_firstSwap : YF yX9_firstSwap cX9_firstSwap 4 (some .int) 0 := ⟨in_good (List.mem_of_getElem? (i := 1418) (by decide +kernel)) rfl, in_good (List.mem_of_getElem? (i := 83) (by decide +kernel)) rfl, by decide +kernel, by decide +kernel, by decide +kernel⟩
theorem pn_X9_firstSwap : plainName yX9_firstSwap.cls = true := by decide +kernel
theorem yv_X9_firstSwap : Cond.instanceMethod yX9_firstSwap ∈ lw_good ∧ Cond.selects yX9_firstSwap.cls yX9_firstSwap yX9_firstSwap ∈ lw_good := ⟨in_good (List.mem_of_getElem? (i := 1417) (by decide +kernel)) rfl, in_good (List.mem_of_getElem? (i := 66) (by decide +kernel)) rfl⟩
theorem yf_X9_swap : YF yX9_swap cX9_swap 1 (some .int) 0 := ⟨in_good (List.mem_of_getElem? (i := 1414) (by decide +kernel)) rfl, in_good (List.mem_of_getElem? (i := 83) (by decide +kernel)) rfl, by decide +kernel, by decide +kernel, by decide +kernel⟩
theorem pn_X9_swap : plainName yX9_swap.cls = true := by decide +kernel
theorem yv_X9_swap : Cond.instanceMethod yX9_swap ∈ lw_good ∧ Cond.selects yX9_swap.cls yX9_swap yX9_swap ∈ lw_good := ⟨in_good (List.mem_of_getElem? (i := 1412) (by decide +kernel)) rfl, in_good (List.mem_of_getElem? (i := 1413) (by decide +kernel)) rfl⟩
theorem yf_X9_settle : YF yX9_settle cX9_settle 6 (some .int) 0 := ⟨in_good (List.mem_of_getElem? (i := 1430) (by decide +kernel)) rfl, in_good (List.mem_of_getElem? (i := 83) (by decide +kernel)) rfl, by decide +kernel, by decide +kernel, by decide +kernel⟩
theorem pn_X9_settle : plainName yX9_settle.cls = true := by decide +kernel
theorem yv_X9_settle : Cond.instanceMethod yX9_settle ∈ lw_good ∧ Cond.selects yX9_settle.cls yX9_settle yX9_settle ∈ lw_good := ⟨in_good (List.mem_of_getElem? (i := 1428) (by decide +kernel)) rfl, in_good (List.mem_of_getElem? (i := 1429) (by decide +kernel)) rfl⟩
theorem yf_X9_odds : YF yX9_odds cX9_odds 10 (some .long) 2 := ⟨in_good (List.mem_of_getElem? (i := 1434) (by decide +kernel)) rfl, in_good (List.mem_of_getElem? (i := 83) (by decide +kernel)) rfl, by decide +kernel, by decide +kernel, by decide +kernel⟩
theorem pn_X9_odds : plainName yX9_odds.cls = true := by decide +kernel
theorem yv_X9_odds : Cond.instanceMethod yX9_odds ∈ lw_good ∧ Cond.selects yX9_odds.cls yX9_odds yX9_odds ∈ lw_good := ⟨in_good (List.mem_of_getElem? (i := 1432) (by decide +kernel)) rfl, in_good (List.mem_of_getElem? (i := 1433) (by decide +kernel)) rfl⟩
theorem yf_X9_mark : YF yX9_mark cX9_mark 2 (some .int) 1 := ⟨in_good (List.mem_of_getElem? (i := 1439) (by decide +kernel)) rfl, in_good (List.mem_of_getElem? (i := 83) (by decide +kernel)) rfl, by decide +kernel, by decide +kernel, by decide +kernel⟩
theorem pn_X9_mark : plainName yX9_mark.cls = true := by decide +kernel
theorem yv_X9_mark : Cond.instanceMethod yX9_mark ∈ lw_good ∧ Cond.selects yX9_mark.cls yX9_mark yX9_mark ∈ lw_good := ⟨in_good (List.mem_of_getElem? (i := 1437) (by decide +kernel)) rfl, in_good (List.mem_of_getElem? (i := 1438) (by decide +kernel)) rfl⟩
theorem yf_X9_unmark : YF yX9_unmark cX9_unmark 3 (some .int) 1 := ⟨in_good (List.mem_of_getElem? (i := 1443) (by decide +kernel)) rfl, in_good (List.mem_of_getElem? (i := 83) (by decide +kernel)) rfl, by decide +kernel, by decide +kernel, by decide +kernel⟩
theorem pn_X9_unmark : plainName yX9_unmark.cls = true := by decide +kernel
theorem yv_X9_unmark : Cond.instanceMethod yX9_unmark ∈ lw_good ∧ Cond.selects yX9_unmark.cls yX9_unmark yX9_unmark ∈ lw_good := ⟨in_good (List.mem_of_getElem? (i := 1441) (by decide +kernel)) rfl, in_good (List.mem_of_getElem? (i := 1442) (by decide +kernel)) rfl⟩
theorem yf_X9_canMark : YF yX9_canMark cX9_canMark 4 (some .boolean) 2 := ⟨in_good (List.mem_of_getElem? (i := 1459) (by decide +kernel)) rfl, in_good (List.mem_of_getElem? (i := 83) (by decide +kernel)) rfl, by decide +kernel, by decide +kernel, by decide +kernel⟩
theorem pn_X9_canMark : plainName yX9_canMark.cls = true := by decide +kernel
theorem yv_X9_canMark : Cond.instanceMethod yX9_canMark ∈ lw_good ∧ Cond.selects yX9_canMark.cls yX9_canMark yX9_canMark ∈ lw_good := ⟨in_good (List.mem_of_getElem? (i := 1458) (by decide +kernel)) rfl, in_good (List.mem_of_getElem? (i := 71) (by decide +kernel)) rfl⟩
theorem yf_X9_takesRow : YF yX9_takesRow cX9_takesRow 3 none 1 := ⟨in_good (List.mem_of_getElem? (i := 1455) (by decide +kernel)) rfl, in_good (List.mem_of_getElem? (i := 83) (by decide +kernel)) rfl, by decide +kernel, by decide +kernel, by decide +kernel⟩
theorem pn_X9_takesRow : plainName yX9_takesRow.cls = true := by decide +kernel
theorem yv_X9_takesRow : Cond.instanceMethod yX9_takesRow ∈ lw_good ∧ Cond.selects yX9_takesRow.cls yX9_takesRow yX9_takesRow ∈ lw_good := ⟨in_good (List.mem_of_getElem? (i := 1454) (by decide +kernel)) rfl, in_good (List.mem_of_getElem? (i := 70) (by decide +kernel)) rfl⟩
theorem yf_X9_findRows : YF yX9_findRows cX9_findRows 5 none 0 := ⟨in_good (List.mem_of_getElem? (i := 1451) (by decide +kernel)) rfl, in_good (List.mem_of_getElem? (i := 83) (by decide +kernel)) rfl, by decide +kernel, by decide +kernel, by decide +kernel⟩
theorem pn_X9_findRows : plainName yX9_findRows.cls = true := by decide +kernel
theorem yv_X9_findRows : Cond.instanceMethod yX9_findRows ∈ lw_good ∧ Cond.selects yX9_findRows.cls yX9_findRows yX9_findRows ∈ lw_good := ⟨in_good (List.mem_of_getElem? (i := 1450) (by decide +kernel)) rfl, in_good (List.mem_of_getElem? (i := 69) (by decide +kernel)) rfl⟩
theorem yf_X9_rows : YF yX9_rows cX9_rows 2 (some .int) 1 := ⟨in_good (List.mem_of_getElem? (i := 1447) (by decide +kernel)) rfl, in_good (List.mem_of_getElem? (i := 83) (by decide +kernel)) rfl, by decide +kernel, by decide +kernel, by decide +kernel⟩
theorem pn_X9_rows : plainName yX9_rows.cls = true := by decide +kernel
theorem yv_X9_rows : Cond.instanceMethod yX9_rows ∈ lw_good ∧ Cond.selects yX9_rows.cls yX9_rows yX9_rows ∈ lw_good := ⟨in_good (List.mem_of_getElem? (i := 1445) (by decide +kernel)) rfl, in_good (List.mem_of_getElem? (i := 1446) (by decide +kernel)) rfl⟩
theorem yf_X9_whose : YF yX9_whose cX9_whose 2 (some .int) 1 := ⟨in_good (List.mem_of_getElem? (i := 1463) (by decide +kernel)) rfl, in_good (List.mem_of_getElem? (i := 83) (by decide +kernel)) rfl, by decide +kernel, by decide +kernel, by decide +kernel⟩
theorem pn_X9_whose : plainName yX9_whose.cls = true := by decide +kernel
theorem yv_X9_whose : Cond.instanceMethod yX9_whose ∈ lw_good ∧ Cond.selects yX9_whose.cls yX9_whose yX9_whose ∈ lw_good := ⟨in_good (List.mem_of_getElem? (i := 1461) (by decide +kernel)) rfl, in_good (List.mem_of_getElem? (i := 1462) (by decide +kernel)) rfl⟩
theorem yf_X9_findLeft : YF yX9_findLeft cX9_findLeft 4 none 2 := ⟨in_good (List.mem_of_getElem? (i := 1471) (by decide +kernel)) rfl, in_good (List.mem_of_getElem? (i := 83) (by decide +kernel)) rfl, by decide +kernel, by decide +kernel, by decide +kernel⟩
theorem pn_X9_findLeft : plainName yX9_findLeft.cls = true := by decide +kernel
theorem yv_X9_findLeft : Cond.instanceMethod yX9_findLeft ∈ lw_good ∧ Cond.selects yX9_findLeft.cls yX9_findLeft yX9_findLeft ∈ lw_good := ⟨in_good (List.mem_of_getElem? (i := 1470) (by decide +kernel)) rfl, in_good (List.mem_of_getElem? (i := 72) (by decide +kernel)) rfl⟩
theorem yf_X9_lend : YF yX9_lend cX9_lend 8 (some .int) 3 := ⟨in_good (List.mem_of_getElem? (i := 1467) (by decide +kernel)) rfl, in_good (List.mem_of_getElem? (i := 83) (by decide +kernel)) rfl, by decide +kernel, by decide +kernel, by decide +kernel⟩
theorem pn_X9_lend : plainName yX9_lend.cls = true := by decide +kernel
theorem yv_X9_lend : Cond.instanceMethod yX9_lend ∈ lw_good ∧ Cond.selects yX9_lend.cls yX9_lend yX9_lend ∈ lw_good := ⟨in_good (List.mem_of_getElem? (i := 1465) (by decide +kernel)) rfl, in_good (List.mem_of_getElem? (i := 1466) (by decide +kernel)) rfl⟩
theorem yf_X9_keep : YF yX9_keep cX9_keep 3 (some .int) 1 := ⟨in_good (List.mem_of_getElem? (i := 1475) (by decide +kernel)) rfl, in_good (List.mem_of_getElem? (i := 83) (by decide +kernel)) rfl, by decide +kernel, by decide +kernel, by decide +kernel⟩
theorem pn_X9_keep : plainName yX9_keep.cls = true := by decide +kernel
theorem yv_X9_keep : Cond.instanceMethod yX9_keep ∈ lw_good ∧ Cond.selects yX9_keep.cls yX9_keep yX9_keep ∈ lw_good := ⟨in_good (List.mem_of_getElem? (i := 1473) (by decide +kernel)) rfl, in_good (List.mem_of_getElem? (i := 1474) (by decide +kernel)) rfl⟩
theorem yf_X9_back : YF yX9_back cX9_back 2 (some .int) 1 := ⟨in_good (List.mem_of_getElem? (i := 1479) (by decide +kernel)) rfl, in_good (List.mem_of_getElem? (i := 83) (by decide +kernel)) rfl, by decide +kernel, by decide +kernel, by decide +kernel⟩
theorem pn_X9_back : plainName yX9_back.cls = true := by decide +kernel
theorem yv_X9_back : Cond.instanceMethod yX9_back ∈ lw_good ∧ Cond.selects yX9_back.cls yX9_back yX9_back ∈ lw_good := ⟨in_good (List.mem_of_getElem? (i := 1477) (by decide +kernel)) rfl, in_good (List.mem_of_getElem? (i := 1478) (by decide +kernel)) rfl⟩
theorem yf_X9_isSheet : YF yX9_isSheet cX9_isSheet 2 (some .boolean) 2 := ⟨in_good (List.mem_of_getElem? (i := 1486) (by decide +kernel)) rfl, in_good (List.mem_of_getElem? (i := 83) (by decide +kernel)) rfl, by decide +kernel, by decide +kernel, by decide +kernel⟩
theorem pn_X9_isSheet : plainName yX9_isSheet.cls = true := by decide +kernel
theorem yv_X9_isSheet : Cond.static yX9_isSheet ∈ lw_good := in_good (List.mem_of_getElem? (i := 1485) (by decide +kernel)) rfl
theorem yf_X9_sheet : YF yX9_sheet cX9_sheet 5 (some .int) 3 := ⟨in_good (List.mem_of_getElem? (i := 1483) (by decide +kernel)) rfl, in_good (List.mem_of_getElem? (i := 83) (by decide +kernel)) rfl, by decide +kernel, by decide +kernel, by decide +kernel⟩
theorem pn_X9_sheet : plainName yX9_sheet.cls = true := by decide +kernel
theorem yv_X9_sheet : Cond.instanceMethod yX9_sheet ∈ lw_good ∧ Cond.selects yX9_sheet.cls yX9_sheet yX9_sheet ∈ lw_good := ⟨in_good (List.mem_of_getElem? (i := 1481) (by decide +kernel)) rfl, in_good (List.mem_of_getElem? (i := 1482) (by decide +kernel)) rfl⟩
theorem yf_X9_lay : YF yX9_lay cX9_lay 4 (some .int) 3 := ⟨in_good (List.mem_of_getElem? (i := 1490) (by decide +kernel)) rfl, in_good (List.mem_of_getElem? (i := 83) (by decide +kernel)) rfl, by decide +kernel, by decide +kernel, by decide +kernel⟩
theorem pn_X9_lay : plainName yX9_lay.cls = true := by decide +kernel
theorem yv_X9_lay : Cond.instanceMethod yX9_lay ∈ lw_good ∧ Cond.selects yX9_lay.cls yX9_lay yX9_lay ∈ lw_good := ⟨in_good (List.mem_of_getElem? (i := 1488) (by decide +kernel)) rfl, in_good (List.mem_of_getElem? (i := 1489) (by decide +kernel)) rfl⟩
theorem yf_X9_read : YF yX9_read cX9_read 12 (some .int) 4 := ⟨in_good (List.mem_of_getElem? (i := 1494) (by decide +kernel)) rfl, in_good (List.mem_of_getElem? (i := 83) (by decide +kernel)) rfl, by decide +kernel, by decide +kernel, by decide +kernel⟩
theorem pn_X9_read : plainName yX9_read.cls = true := by decide +kernel
theorem yv_X9_read : Cond.instanceMethod yX9_read ∈ lw_good ∧ Cond.selects yX9_read.cls yX9_read yX9_read ∈ lw_good := ⟨in_good (List.mem_of_getElem? (i := 1492) (by decide +kernel)) rfl, in_good (List.mem_of_getElem? (i := 1493) (by decide +kernel)) rfl⟩
theorem yf_X9_torn : YF yX9_torn cX9_torn 1 (some .int) 0 := ⟨in_good (List.mem_of_getElem? (i := 1499) (by decide +kernel)) rfl, in_good (List.mem_of_getElem? (i := 83) (by decide +kernel)) rfl, by decide +kernel, by decide +kernel, by decide +kernel⟩
theorem pn_X9_torn : plainName yX9_torn.cls = true := by decide +kernel
theorem yv_X9_torn : Cond.instanceMethod yX9_torn ∈ lw_good ∧ Cond.selects yX9_torn.cls yX9_torn yX9_torn ∈ lw_good := ⟨in_good (List.mem_of_getElem? (i := 1497) (by decide +kernel)) rfl, in_good (List.mem_of_getElem? (i := 1498) (by decide +kernel)) rfl⟩
theorem yf_X9_count : YF yX9_count cX9_count 4 (some .int) 1 := ⟨in_good (List.mem_of_getElem? (i := 1503) (by decide +kernel)) rfl, in_good (List.mem_of_getElem? (i := 83) (by decide +kernel)) rfl, by decide +kernel, by decide +kernel, by decide +kernel⟩
theorem pn_X9_count : plainName yX9_count.cls = true := by decide +kernel
theorem yv_X9_count : Cond.instanceMethod yX9_count ∈ lw_good ∧ Cond.selects yX9_count.cls yX9_count yX9_count ∈ lw_good := ⟨in_good (List.mem_of_getElem? (i := 1501) (by decide +kernel)) rfl, in_good (List.mem_of_getElem? (i := 1502) (by decide +kernel)) rfl⟩
theorem yf_J6_bitCount_0f7a4 : YF yJ6_bitCount_0f7a4 cJ6_bitCount_0f7a4 1 (some .int) 1 := ⟨in_good (List.mem_of_getElem? (i := 891) (by decide +kernel)) rfl, in_good (List.mem_of_getElem? (i := 91) (by decide +kernel)) rfl, by decide +kernel, by decide +kernel, by decide +kernel⟩
theorem pn_J6_bitCount_0f7a4 : plainName yJ6_bitCount_0f7a4.cls = true := by decide +kernel
theorem yv_J6_bitCount_0f7a4 : Cond.static yJ6_bitCount_0f7a4 ∈ lw_good := in_good (List.mem_of_getElem? (i := 890) (by decide +kernel)) rfl
theorem yf_J9_max_7cf53 : YF yJ9_max_7cf53 cJ9_max_7cf53 2 (some .int) 2 := ⟨in_good (List.mem_of_getElem? (i := 550) (by decide +kernel)) rfl, in_good (List.mem_of_getElem? (i := 89) (by decide +kernel)) rfl, by decide +kernel, by decide +kernel, by decide +kernel⟩
theorem yv_J9_max_7cf53 : Cond.static yJ9_max_7cf53 ∈ lw_good := in_good (List.mem_of_getElem? (i := 549) (by decide +kernel)) rfl
theorem yf_J9_min_7cf53 : YF yJ9_min_7cf53 cJ9_min_7cf53 2 (some .int) 2 := ⟨in_good (List.mem_of_getElem? (i := 768) (by decide +kernel)) rfl, in_good (List.mem_of_getElem? (i := 89) (by decide +kernel)) rfl, by decide +kernel, by decide +kernel, by decide +kernel⟩
theorem yv_J9_min_7cf53 : Cond.static yJ9_min_7cf53 ∈ lw_good := in_good (List.mem_of_getElem? (i := 767) (by decide +kernel)) rfl
theorem yf_J7_fill_53178 : YF yJ7_fill_53178 cJ7_fill_53178 4 none 2 := ⟨in_good (List.mem_of_getElem? (i := 436) (by decide +kernel)) rfl, in_good (List.mem_of_getElem? (i := 84) (by decide +kernel)) rfl, by decide +kernel, by decide +kernel, by decide +kernel⟩
theorem pn_J7_fill_53178 : plainName yJ7_fill_53178.cls = true := by decide +kernel
theorem yv_J7_fill_53178 : Cond.static yJ7_fill_53178 ∈ lw_good := in_good (List.mem_of_getElem? (i := 435) (by decide +kernel)) rfl
theorem yf_J3_checkIndex_8e157 : YF yJ3_checkIndex_8e157 cJ3_checkIndex_8e157 3 (some .int) 3 := ⟨in_good (List.mem_of_getElem? (i := 492) (by decide +kernel)) rfl, in_good (List.mem_of_getElem? (i := 87) (by decide +kernel)) rfl, by decide +kernel, by decide +kernel, by decide +kernel⟩
theorem pn_J3_checkIndex_8e157 : plainName yJ3_checkIndex_8e157.cls = true := by decide +kernel
theorem yv_J3_checkIndex_8e157 : Cond.static yJ3_checkIndex_8e157 ∈ lw_good := in_good (List.mem_of_getElem? (i := 491) (by decide +kernel)) rfl
theorem ml_X8_9 : ML RX8 9 yX5_init := Or.inr ⟨"HandedDown", in_nest (List.mem_of_getElem? (i := 102) (by decide +kernel)) rfl⟩
theorem ml_X8_18 : ML RX8 18 yX7_init := Or.inl (in_good (List.mem_of_getElem? (i := 118) (by decide +kernel)) rfl)
theorem ml_X8_28 : ML RX8 28 yX3_init := Or.inl (in_good (List.mem_of_getElem? (i := 240) (by decide +kernel)) rfl)
theorem ml_X8_51 : ML RX8 51 yX1_init := Or.inr ⟨"HandedDown", in_nest (List.mem_of_getElem? (i := 289) (by decide +kernel)) rfl⟩
theorem ml_X8_58 : ML RX8 58 yX2_init := Or.inr ⟨"HandedDown", in_nest (List.mem_of_getElem? (i := 322) (by decide +kernel)) rfl⟩
theorem ml_X8_77 : ML RX8 77 yX4_init := Or.inr ⟨"HandedDown", in_nest (List.mem_of_getElem? (i := 343) (by decide +kernel)) rfl⟩
theorem ml_X8_78 : ML RX8 78 yX5_takeEight := Or.inl (in_good (List.mem_of_getElem? (i := 411) (by decide +kernel)) rfl)
theorem ml_X8_85 : ML RX8 85 yX8_within := Or.inl (in_good (List.mem_of_getElem? (i := 419) (by decide +kernel)) rfl)
theorem ml_X8_89 : ML RX8 89 yX3_readAll := Or.inl (in_good (List.mem_of_getElem? (i := 426) (by decide +kernel)) rfl)
theorem ml_X8_99 : ML RX8 99 yX7_becomeAll := Or.inl (in_good (List.mem_of_getElem? (i := 582) (by decide +kernel)) rfl)
theorem ml_X8_106 : ML RX8 106 yX7_hasChild := Or.inl (in_good (List.mem_of_getElem? (i := 609) (by decide +kernel)) rfl)
theorem ml_X8_125 : ML RX8 125 yX7_wornBy := Or.inl (in_good (List.mem_of_getElem? (i := 613) (by decide +kernel)) rfl)
theorem ml_X8_129 : ML RX8 129 yX7_hasThing := Or.inl (in_good (List.mem_of_getElem? (i := 621) (by decide +kernel)) rfl)
theorem ml_X8_161 : ML RX8 161 yX7_likingOf := Or.inl (in_good (List.mem_of_getElem? (i := 630) (by decide +kernel)) rfl)
theorem ml_X8_164 : ML RX8 164 yX7_setLiking := Or.inl (in_good (List.mem_of_getElem? (i := 634) (by decide +kernel)) rfl)
theorem ml_X8_168 : ML RX8 168 yX7_fitOf := Or.inl (in_good (List.mem_of_getElem? (i := 639) (by decide +kernel)) rfl)
theorem ml_X8_172 : ML RX8 172 yX7_putOn := Or.inl (in_good (List.mem_of_getElem? (i := 656) (by decide +kernel)) rfl)
theorem ml_X8_175 : ML RX8 175 yX8_isSlot := Or.inl (in_good (List.mem_of_getElem? (i := 664) (by decide +kernel)) rfl)
theorem ml_X8_178 : ML RX8 178 yX7_coldOnes := Or.inl (in_good (List.mem_of_getElem? (i := 671) (by decide +kernel)) rfl)
theorem ml_X8_182 : ML RX8 182 yX8_isZeroOrOne := Or.inl (in_good (List.mem_of_getElem? (i := 680) (by decide +kernel)) rfl)
theorem ml_X8_185 : ML RX8 185 yX1_make := Or.inl (in_good (List.mem_of_getElem? (i := 683) (by decide +kernel)) rfl)
theorem ml_X8_195 : ML RX8 195 yX1_thingOf := Or.inl (in_good (List.mem_of_getElem? (i := 717) (by decide +kernel)) rfl)
theorem ml_X8_198 : ML RX8 198 yX8_dressAll := Or.inl (in_good (List.mem_of_getElem? (i := 725) (by decide +kernel)) rfl)
theorem ml_X8_202 : ML RX8 202 yX1_leftOf := Or.inl (in_good (List.mem_of_getElem? (i := 740) (by decide +kernel)) rfl)
theorem ml_X8_206 : ML RX8 206 yX7_passWinter := Or.inl (in_good (List.mem_of_getElem? (i := 749) (by decide +kernel)) rfl)
theorem ml_X8_209 : ML RX8 209 yX7_passSpring := Or.inl (in_good (List.mem_of_getElem? (i := 758) (by decide +kernel)) rfl)
theorem ml_X8_213 : ML RX8 213 yX8_isYears := Or.inl (in_good (List.mem_of_getElem? (i := 775) (by decide +kernel)) rfl)
theorem ml_X8_216 : ML RX8 216 yX7_becomeBodies := Or.inl (in_good (List.mem_of_getElem? (i := 778) (by decide +kernel)) rfl)
theorem ml_X8_219 : ML RX8 219 yX8_newAhead := Or.inl (in_good (List.mem_of_getElem? (i := 779) (by decide +kernel)) rfl)
theorem ml_X8_223 : ML RX8 223 yX7_strengthen := Or.inl (in_good (List.mem_of_getElem? (i := 787) (by decide +kernel)) rfl)
theorem ml_X8_227 : ML RX8 227 yX8_startCuts := Or.inl (in_good (List.mem_of_getElem? (i := 800) (by decide +kernel)) rfl)
theorem ml_X8_231 : ML RX8 231 yX8_tryCuts := Or.inl (in_good (List.mem_of_getElem? (i := 804) (by decide +kernel)) rfl)
theorem ml_X8_246 : ML RX8 246 yX8_sewRefusal := Or.inl (in_good (List.mem_of_getElem? (i := 821) (by decide +kernel)) rfl)
theorem ml_X8_249 : ML RX8 249 yX7_addPlain := Or.inl (in_good (List.mem_of_getElem? (i := 827) (by decide +kernel)) rfl)
theorem ml_X8_252 : ML RX8 252 yX7_firstSwap := Or.inl (in_good (List.mem_of_getElem? (i := 836) (by decide +kernel)) rfl)
theorem ml_X8_255 : ML RX8 255 yX7_makeSwap := Or.inl (in_good (List.mem_of_getElem? (i := 849) (by decide +kernel)) rfl)
theorem ml_X8_260 : ML RX8 260 yX7_growEach := Or.inl (in_good (List.mem_of_getElem? (i := 859) (by decide +kernel)) rfl)
theorem ml_X8_264 : ML RX8 264 yX1_begin := Or.inl (in_good (List.mem_of_getElem? (i := 729) (by decide +kernel)) rfl)
theorem ml_X8_267 : ML RX8 267 yX1_warmAll := Or.inl (in_good (List.mem_of_getElem? (i := 730) (by decide +kernel)) rfl)
theorem ml_X8_270 : ML RX8 270 yX8_isSize := Or.inl (in_good (List.mem_of_getElem? (i := 824) (by decide +kernel)) rfl)
theorem ml_X8_276 : ML RX8 276 yX7_addMark := Or.inl (in_good (List.mem_of_getElem? (i := 867) (by decide +kernel)) rfl)
theorem ml_X8_279 : ML RX8 279 yX2_trace := Or.inl (in_good (List.mem_of_getElem? (i := 876) (by decide +kernel)) rfl)
theorem ml_X8_283 : ML RX8 283 yX2_howMany := Or.inl (in_good (List.mem_of_getElem? (i := 899) (by decide +kernel)) rfl)
theorem ml_X8_286 : ML RX8 286 yX2_inFirst := Or.inl (in_good (List.mem_of_getElem? (i := 903) (by decide +kernel)) rfl)
theorem ml_X8_289 : ML RX8 289 yX2_firstOnes := Or.inl (in_good (List.mem_of_getElem? (i := 915) (by decide +kernel)) rfl)
theorem ml_X8_292 : ML RX8 292 yX2_lastOnes := Or.inl (in_good (List.mem_of_getElem? (i := 919) (by decide +kernel)) rfl)
theorem ml_X8_295 : ML RX8 295 yX8_isImage := Or.inl (in_good (List.mem_of_getElem? (i := 928) (by decide +kernel)) rfl)
theorem ml_X8_298 : ML RX8 298 yX1_addLent := Or.inl (in_good (List.mem_of_getElem? (i := 931) (by decide +kernel)) rfl)
theorem ml_X8_302 : ML RX8 302 yX8_isSheet := Or.inl (in_good (List.mem_of_getElem? (i := 947) (by decide +kernel)) rfl)
theorem ml_X8_305 : ML RX8 305 yX8_isLane := Or.inl (in_good (List.mem_of_getElem? (i := 950) (by decide +kernel)) rfl)
theorem ml_X8_308 : ML RX8 308 yX4_renew := Or.inl (in_good (List.mem_of_getElem? (i := 953) (by decide +kernel)) rfl)
theorem ml_X8_311 : ML RX8 311 yX4_isNothing := Or.inl (in_good (List.mem_of_getElem? (i := 962) (by decide +kernel)) rfl)
theorem ml_X8_315 : ML RX8 315 yX4_hasCell := Or.inl (in_good (List.mem_of_getElem? (i := 966) (by decide +kernel)) rfl)
theorem ml_X8_318 : ML RX8 318 yX4_setCell := Or.inl (in_good (List.mem_of_getElem? (i := 970) (by decide +kernel)) rfl)
theorem ml_X8_321 : ML RX8 321 yX4_faultAs := Or.inl (in_good (List.mem_of_getElem? (i := 978) (by decide +kernel)) rfl)
theorem ml_X8_324 : ML RX8 324 yX4_cellAt := Or.inl (in_good (List.mem_of_getElem? (i := 983) (by decide +kernel)) rfl)
theorem ml_X8_327 : ML RX8 327 yX7_wornOutCount := Or.inl (in_good (List.mem_of_getElem? (i := 996) (by decide +kernel)) rfl)
theorem ml_X8_331 : ML RX8 331 yX1_putInOrder := Or.inl (in_good (List.mem_of_getElem? (i := 731) (by decide +kernel)) rfl)
theorem ml_X8_334 : ML RX8 334 yX7_undress := Or.inl (in_good (List.mem_of_getElem? (i := 732) (by decide +kernel)) rfl)
theorem ml_X8_337 : ML RX8 337 yX7_smallestSize := Or.inl (in_good (List.mem_of_getElem? (i := 808) (by decide +kernel)) rfl)
theorem ml_X0_21 : ML RX0 21 yJ9_min_7cf53 := Or.inl (in_good (List.mem_of_getElem? (i := 766) (by decide +kernel)) rfl)
theorem ml_X1_27 : ML RX1 27 yX1_begin := Or.inl (in_good (List.mem_of_getElem? (i := 687) (by decide +kernel)) rfl)
theorem ml_X1_31 : ML RX1 31 yX1_warmAll := Or.inl (in_good (List.mem_of_getElem? (i := 693) (by decide +kernel)) rfl)
theorem ml_X1_34 : ML RX1 34 yX1_putInOrder := Or.inl (in_good (List.mem_of_getElem? (i := 709) (by decide +kernel)) rfl)
theorem ml_X1_51 : ML RX1 51 yJ7_fill_53178 := Or.inl (in_good (List.mem_of_getElem? (i := 691) (by decide +kernel)) rfl)
theorem ml_X1_75 : ML RX1 75 yX6_fitFor := Or.inl (in_good (List.mem_of_getElem? (i := 692) (by decide +kernel)) rfl)
theorem ml_X1_79 : ML RX1 79 yX1_seekFree := Or.inl (in_good (List.mem_of_getElem? (i := 697) (by decide +kernel)) rfl)
theorem ml_X1_83 : ML RX1 83 yX1_passAlong := Or.inl (in_good (List.mem_of_getElem? (i := 701) (by decide +kernel)) rfl)
theorem ml_X1_87 : ML RX1 87 yX6_isWornOut := Or.inl (in_good (List.mem_of_getElem? (i := 744) (by decide +kernel)) rfl)
theorem ml_X1_94 : ML RX1 94 yX1_give := Or.inl (in_good (List.mem_of_getElem? (i := 705) (by decide +kernel)) rfl)
theorem ml_X1_98 : ML RX1 98 yX1_canHave := Or.inl (in_good (List.mem_of_getElem? (i := 713) (by decide +kernel)) rfl)
theorem ml_X2_32 : ML RX2 32 yX2_fittingMark := Or.inl (in_good (List.mem_of_getElem? (i := 880) (by decide +kernel)) rfl)
theorem ml_X2_36 : ML RX2 36 yX2_endingsBehind := Or.inl (in_good (List.mem_of_getElem? (i := 885) (by decide +kernel)) rfl)
theorem ml_X2_52 : ML RX2 52 yJ9_min_7cf53 := Or.inl (in_good (List.mem_of_getElem? (i := 883) (by decide +kernel)) rfl)
theorem ml_X2_61 : ML RX2 61 yX8_within := Or.inr ⟨"HandedDown", in_nest (List.mem_of_getElem? (i := 884) (by decide +kernel)) rfl⟩
theorem ml_X2_65 : ML RX2 65 yJ6_bitCount_0f7a4 := Or.inl (in_good (List.mem_of_getElem? (i := 889) (by decide +kernel)) rfl)
theorem ml_X2_70 : ML RX2 70 yX2_canFollow := Or.inl (in_good (List.mem_of_getElem? (i := 895) (by decide +kernel)) rfl)
theorem ml_X2_73 : ML RX2 73 yX2_firstBehind := Or.inl (in_good (List.mem_of_getElem? (i := 907) (by decide +kernel)) rfl)
theorem ml_X2_76 : ML RX2 76 yJ7_fill_53178 := Or.inl (in_good (List.mem_of_getElem? (i := 923) (by decide +kernel)) rfl)
theorem ml_X3_19 : ML RX3 19 yX7_clear := Or.inl (in_good (List.mem_of_getElem? (i := 430) (by decide +kernel)) rfl)
theorem ml_X3_47 : ML RX3 47 yX3_nextToken := Or.inl (in_good (List.mem_of_getElem? (i := 437) (by decide +kernel)) rfl)
theorem ml_X3_53 : ML RX3 53 yX3_takeLine := Or.inl (in_good (List.mem_of_getElem? (i := 451) (by decide +kernel)) rfl)
theorem ml_X3_63 : ML RX3 63 yX3_refuse := Or.inl (in_good (List.mem_of_getElem? (i := 455) (by decide +kernel)) rfl)
theorem ml_X3_72 : ML RX3 72 yX3_isNamed := Or.inl (in_good (List.mem_of_getElem? (i := 460) (by decide +kernel)) rfl)
theorem ml_X3_76 : ML RX3 76 yX3_takeSlack := Or.inl (in_good (List.mem_of_getElem? (i := 512) (by decide +kernel)) rfl)
theorem ml_X3_81 : ML RX3 81 yX3_takeChild := Or.inl (in_good (List.mem_of_getElem? (i := 526) (by decide +kernel)) rfl)
theorem ml_X3_86 : ML RX3 86 yX3_takeThing := Or.inl (in_good (List.mem_of_getElem? (i := 535) (by decide +kernel)) rfl)
theorem ml_X3_93 : ML RX3 93 yX3_takeLiking := Or.inl (in_good (List.mem_of_getElem? (i := 565) (by decide +kernel)) rfl)
theorem ml_X3_98 : ML RX3 98 yX3_takeMark := Or.inl (in_good (List.mem_of_getElem? (i := 574) (by decide +kernel)) rfl)
theorem ml_X3_101 : ML RX3 101 yX3_takeNumber := Or.inl (in_good (List.mem_of_getElem? (i := 516) (by decide +kernel)) rfl)
theorem ml_X3_108 : ML RX3 108 yX3_takeStop := Or.inl (in_good (List.mem_of_getElem? (i := 521) (by decide +kernel)) rfl)
theorem ml_X3_111 : ML RX3 111 yX7_addChild := Or.inl (in_good (List.mem_of_getElem? (i := 530) (by decide +kernel)) rfl)
theorem ml_X3_115 : ML RX3 115 yX3_kindNamed := Or.inl (in_good (List.mem_of_getElem? (i := 539) (by decide +kernel)) rfl)
theorem ml_X3_119 : ML RX3 119 yJ9_max_7cf53 := Or.inl (in_good (List.mem_of_getElem? (i := 548) (by decide +kernel)) rfl)
theorem ml_X3_125 : ML RX3 125 yX7_addPlain := Or.inl (in_good (List.mem_of_getElem? (i := 551) (by decide +kernel)) rfl)
theorem ml_X3_129 : ML RX3 129 yX7_hasThing := Or.inl (in_good (List.mem_of_getElem? (i := 559) (by decide +kernel)) rfl)
theorem ml_X3_154 : ML RX3 154 yX7_setLiking := Or.inl (in_good (List.mem_of_getElem? (i := 569) (by decide +kernel)) rfl)
theorem ml_X3_160 : ML RX3 160 yX7_addMark := Or.inl (in_good (List.mem_of_getElem? (i := 578) (by decide +kernel)) rfl)
theorem ml_X3_164 : ML RX3 164 yX8_within := Or.inr ⟨"HandedDown", in_nest (List.mem_of_getElem? (i := 520) (by decide +kernel)) rfl⟩
theorem ml_X3_173 : ML RX3 173 yX5_byteAt := Or.inl (in_good (List.mem_of_getElem? (i := 441) (by decide +kernel)) rfl)
theorem ml_X3_177 : ML RX3 177 yX3_isLetter := Or.inl (in_good (List.mem_of_getElem? (i := 445) (by decide +kernel)) rfl)
theorem ml_X3_180 : ML RX3 180 yX3_isFigure := Or.inl (in_good (List.mem_of_getElem? (i := 448) (by decide +kernel)) rfl)
theorem ml_X3_183 : ML RX3 183 yJ0_length_8abf5 := Or.inl (in_good (List.mem_of_getElem? (i := 464) (by decide +kernel)) rfl)
theorem ml_X3_187 : ML RX3 187 yJ0_charAt_5068e := Or.inl (in_good (List.mem_of_getElem? (i := 474) (by decide +kernel)) rfl)
theorem ml_X4_22 : ML RX4 22 yX4_hasCell := Or.inl (in_good (List.mem_of_getElem? (i := 987) (by decide +kernel)) rfl)
theorem ml_X4_26 : ML RX4 26 yJ7_fill_53178 := Or.inl (in_good (List.mem_of_getElem? (i := 957) (by decide +kernel)) rfl)
theorem ml_X4_32 : ML RX4 32 yX4_isNothing := Or.inl (in_good (List.mem_of_getElem? (i := 982) (by decide +kernel)) rfl)
theorem ml_X6_37 : ML RX6 37 yX6_isWornOut := Or.inl (in_good (List.mem_of_getElem? (i := 647) (by decide +kernel)) rfl)
theorem ml_X6_41 : ML RX6 41 yX8_within := Or.inr ⟨"HandedDown", in_nest (List.mem_of_getElem? (i := 651) (by decide +kernel)) rfl⟩
theorem ml_X7_40 : ML RX7 40 yX0_init := Or.inr ⟨"HandedDown", in_nest (List.mem_of_getElem? (i := 127) (by decide +kernel)) rfl⟩
theorem ml_X7_41 : ML RX7 41 yX6_init := Or.inr ⟨"HandedDown", in_nest (List.mem_of_getElem? (i := 152) (by decide +kernel)) rfl⟩
theorem ml_X7_42 : ML RX7 42 yJ7_fill_53178 := Or.inl (in_good (List.mem_of_getElem? (i := 434) (by decide +kernel)) rfl)
theorem ml_X7_48 : ML RX7 48 yX7_becomeBodies := Or.inl (in_good (List.mem_of_getElem? (i := 586) (by decide +kernel)) rfl)
theorem ml_X7_58 : ML RX7 58 yX0_become := Or.inl (in_good (List.mem_of_getElem? (i := 590) (by decide +kernel)) rfl)
theorem ml_X7_62 : ML RX7 62 yX6_become := Or.inl (in_good (List.mem_of_getElem? (i := 594) (by decide +kernel)) rfl)
theorem ml_X7_74 : ML RX7 74 yX6_becomePlain := Or.inl (in_good (List.mem_of_getElem? (i := 555) (by decide +kernel)) rfl)
theorem ml_X7_78 : ML RX7 78 yJ9_min_7cf53 := Or.inl (in_good (List.mem_of_getElem? (i := 812) (by decide +kernel)) rfl)
theorem ml_X7_84 : ML RX7 84 yX6_fitFor := Or.inl (in_good (List.mem_of_getElem? (i := 643) (by decide +kernel)) rfl)
theorem ml_X7_99 : ML RX7 99 yX7_wornBy := Or.inl (in_good (List.mem_of_getElem? (i := 675) (by decide +kernel)) rfl)
theorem ml_X7_102 : ML RX7 102 yX6_isWornOut := Or.inl (in_good (List.mem_of_getElem? (i := 753) (by decide +kernel)) rfl)
theorem ml_X7_109 : ML RX7 109 yX0_grow := Or.inl (in_good (List.mem_of_getElem? (i := 762) (by decide +kernel)) rfl)
theorem ml_X7_113 : ML RX7 113 yX7_hasChild := Or.inl (in_good (List.mem_of_getElem? (i := 769) (by decide +kernel)) rfl)
theorem ml_X7_117 : ML RX7 117 yX7_fitOf := Or.inl (in_good (List.mem_of_getElem? (i := 770) (by decide +kernel)) rfl)
theorem ml_X7_123 : ML RX7 123 yJ9_max_7cf53 := Or.inl (in_good (List.mem_of_getElem? (i := 791) (by decide +kernel)) rfl)
theorem ml_X7_126 : ML RX7 126 yX7_bothWant := Or.inl (in_good (List.mem_of_getElem? (i := 840) (by decide +kernel)) rfl)
theorem ml_X7_130 : ML RX7 130 yX7_likingOf := Or.inl (in_good (List.mem_of_getElem? (i := 844) (by decide +kernel)) rfl)
theorem ml_X7_133 : ML RX7 133 yX7_hasThing := Or.inl (in_good (List.mem_of_getElem? (i := 853) (by decide +kernel)) rfl)
theorem ml_L_9 : ML RL 9 yX8_init := Or.inl (in_good (List.mem_of_getElem? (i := 94) (by decide +kernel)) rfl)
theorem ml_L_12 : ML RL 12 yX9_init := Or.inl (in_good (List.mem_of_getElem? (i := 1002) (by decide +kernel)) rfl)
theorem ml_L_15 : ML RL 15 yX8_feed := Or.inl (in_good (List.mem_of_getElem? (i := 407) (by decide +kernel)) rfl)
theorem ml_L_19 : ML RL 19 yX9_feed := Or.inl (in_good (List.mem_of_getElem? (i := 1129) (by decide +kernel)) rfl)
theorem ml_L_20 : ML RL 20 yX8_end := Or.inl (in_good (List.mem_of_getElem? (i := 415) (by decide +kernel)) rfl)
theorem ml_L_24 : ML RL 24 yX9_end := Or.inl (in_good (List.mem_of_getElem? (i := 1134) (by decide +kernel)) rfl)
theorem ml_L_25 : ML RL 25 yX8_text := Or.inl (in_good (List.mem_of_getElem? (i := 422) (by decide +kernel)) rfl)
theorem ml_L_29 : ML RL 29 yX9_text := Or.inl (in_good (List.mem_of_getElem? (i := 1141) (by decide +kernel)) rfl)
theorem ml_L_30 : ML RL 30 yX8_fault := Or.inl (in_good (List.mem_of_getElem? (i := 601) (by decide +kernel)) rfl)
theorem ml_L_33 : ML RL 33 yX9_fault := Or.inl (in_good (List.mem_of_getElem? (i := 1205) (by decide +kernel)) rfl)
theorem ml_L_34 : ML RL 34 yX8_child := Or.inl (in_good (List.mem_of_getElem? (i := 605) (by decide +kernel)) rfl)
theorem ml_L_38 : ML RL 38 yX9_child := Or.inl (in_good (List.mem_of_getElem? (i := 1209) (by decide +kernel)) rfl)
theorem ml_L_39 : ML RL 39 yX8_thing := Or.inl (in_good (List.mem_of_getElem? (i := 617) (by decide +kernel)) rfl)
theorem ml_L_42 : ML RL 42 yX9_thing := Or.inl (in_good (List.mem_of_getElem? (i := 1224) (by decide +kernel)) rfl)
theorem ml_L_43 : ML RL 43 yX8_slack := Or.inl (in_good (List.mem_of_getElem? (i := 622) (by decide +kernel)) rfl)
theorem ml_L_46 : ML RL 46 yX9_slack := Or.inl (in_good (List.mem_of_getElem? (i := 1241) (by decide +kernel)) rfl)
theorem ml_L_47 : ML RL 47 yX8_like := Or.inl (in_good (List.mem_of_getElem? (i := 626) (by decide +kernel)) rfl)
theorem ml_L_51 : ML RL 51 yX9_like := Or.inl (in_good (List.mem_of_getElem? (i := 1246) (by decide +kernel)) rfl)
theorem ml_L_52 : ML RL 52 yX8_fits := Or.inl (in_good (List.mem_of_getElem? (i := 635) (by decide +kernel)) rfl)
theorem ml_L_55 : ML RL 55 yX9_fits := Or.inl (in_good (List.mem_of_getElem? (i := 1251) (by decide +kernel)) rfl)
theorem ml_L_56 : ML RL 56 yX8_wear := Or.inl (in_good (List.mem_of_getElem? (i := 652) (by decide +kernel)) rfl)
theorem ml_L_59 : ML RL 59 yX9_wear := Or.inl (in_good (List.mem_of_getElem? (i := 1264) (by decide +kernel)) rfl)
theorem ml_L_60 : ML RL 60 yX8_doff := Or.inl (in_good (List.mem_of_getElem? (i := 660) (by decide +kernel)) rfl)
theorem ml_L_63 : ML RL 63 yX9_doff := Or.inl (in_good (List.mem_of_getElem? (i := 1276) (by decide +kernel)) rfl)
theorem ml_L_64 : ML RL 64 yX8_cold := Or.inl (in_good (List.mem_of_getElem? (i := 667) (by decide +kernel)) rfl)
theorem ml_L_67 : ML RL 67 yX9_cold := Or.inl (in_good (List.mem_of_getElem? (i := 1283) (by decide +kernel)) rfl)
theorem ml_L_68 : ML RL 68 yX8_deal := Or.inl (in_good (List.mem_of_getElem? (i := 676) (by decide +kernel)) rfl)
theorem ml_L_71 : ML RL 71 yX9_deal := Or.inl (in_good (List.mem_of_getElem? (i := 1290) (by decide +kernel)) rfl)
theorem ml_L_72 : ML RL 72 yX8_dress := Or.inl (in_good (List.mem_of_getElem? (i := 721) (by decide +kernel)) rfl)
theorem ml_L_75 : ML RL 75 yX9_dress := Or.inl (in_good (List.mem_of_getElem? (i := 1326) (by decide +kernel)) rfl)
theorem ml_L_76 : ML RL 76 yX8_spare := Or.inl (in_good (List.mem_of_getElem? (i := 736) (by decide +kernel)) rfl)
theorem ml_L_79 : ML RL 79 yX9_spare := Or.inl (in_good (List.mem_of_getElem? (i := 1334) (by decide +kernel)) rfl)
theorem ml_L_80 : ML RL 80 yX8_winter := Or.inl (in_good (List.mem_of_getElem? (i := 745) (by decide +kernel)) rfl)
theorem ml_L_83 : ML RL 83 yX9_winter := Or.inl (in_good (List.mem_of_getElem? (i := 1342) (by decide +kernel)) rfl)
theorem ml_L_84 : ML RL 84 yX8_spring := Or.inl (in_good (List.mem_of_getElem? (i := 754) (by decide +kernel)) rfl)
theorem ml_L_88 : ML RL 88 yX9_spring := Or.inl (in_good (List.mem_of_getElem? (i := 1350) (by decide +kernel)) rfl)
theorem ml_L_89 : ML RL 89 yX8_ahead := Or.inl (in_good (List.mem_of_getElem? (i := 771) (by decide +kernel)) rfl)
theorem ml_L_93 : ML RL 93 yX9_ahead := Or.inl (in_good (List.mem_of_getElem? (i := 1362) (by decide +kernel)) rfl)
theorem ml_L_94 : ML RL 94 yX8_strong := Or.inl (in_good (List.mem_of_getElem? (i := 783) (by decide +kernel)) rfl)
theorem ml_L_98 : ML RL 98 yX9_strong := Or.inl (in_good (List.mem_of_getElem? (i := 1377) (by decide +kernel)) rfl)
theorem ml_L_99 : ML RL 99 yX8_cut := Or.inl (in_good (List.mem_of_getElem? (i := 792) (by decide +kernel)) rfl)
theorem ml_L_102 : ML RL 102 yX9_cut := Or.inl (in_good (List.mem_of_getElem? (i := 1381) (by decide +kernel)) rfl)
theorem ml_L_103 : ML RL 103 yX8_pays := Or.inl (in_good (List.mem_of_getElem? (i := 796) (by decide +kernel)) rfl)
theorem ml_L_106 : ML RL 106 yX9_pays := Or.inl (in_good (List.mem_of_getElem? (i := 1385) (by decide +kernel)) rfl)
theorem ml_L_107 : ML RL 107 yX8_best := Or.inl (in_good (List.mem_of_getElem? (i := 813) (by decide +kernel)) rfl)
theorem ml_L_110 : ML RL 110 yX9_best := Or.inl (in_good (List.mem_of_getElem? (i := 1393) (by decide +kernel)) rfl)
theorem ml_L_111 : ML RL 111 yX8_sew := Or.inl (in_good (List.mem_of_getElem? (i := 817) (by decide +kernel)) rfl)
theorem ml_L_114 : ML RL 114 yX9_sew := Or.inl (in_good (List.mem_of_getElem? (i := 1397) (by decide +kernel)) rfl)
theorem ml_L_115 : ML RL 115 yX8_wish := Or.inl (in_good (List.mem_of_getElem? (i := 828) (by decide +kernel)) rfl)
theorem ml_L_118 : ML RL 118 yX9_wish := Or.inl (in_good (List.mem_of_getElem? (i := 1406) (by decide +kernel)) rfl)
theorem ml_L_119 : ML RL 119 yX8_swap := Or.inl (in_good (List.mem_of_getElem? (i := 832) (by decide +kernel)) rfl)
theorem ml_L_122 : ML RL 122 yX9_swap := Or.inl (in_good (List.mem_of_getElem? (i := 1411) (by decide +kernel)) rfl)
theorem ml_L_123 : ML RL 123 yX8_settle := Or.inl (in_good (List.mem_of_getElem? (i := 845) (by decide +kernel)) rfl)
theorem ml_L_126 : ML RL 126 yX9_settle := Or.inl (in_good (List.mem_of_getElem? (i := 1427) (by decide +kernel)) rfl)
theorem ml_L_127 : ML RL 127 yX8_odds := Or.inl (in_good (List.mem_of_getElem? (i := 854) (by decide +kernel)) rfl)
theorem ml_L_131 : ML RL 131 yX9_odds := Or.inl (in_good (List.mem_of_getElem? (i := 1431) (by decide +kernel)) rfl)
theorem ml_L_132 : ML RL 132 yX8_mark := Or.inl (in_good (List.mem_of_getElem? (i := 863) (by decide +kernel)) rfl)
theorem ml_L_135 : ML RL 135 yX9_mark := Or.inl (in_good (List.mem_of_getElem? (i := 1436) (by decide +kernel)) rfl)
theorem ml_L_136 : ML RL 136 yX8_unmark := Or.inl (in_good (List.mem_of_getElem? (i := 868) (by decide +kernel)) rfl)
theorem ml_L_139 : ML RL 139 yX9_unmark := Or.inl (in_good (List.mem_of_getElem? (i := 1440) (by decide +kernel)) rfl)
theorem ml_L_140 : ML RL 140 yX8_rows := Or.inl (in_good (List.mem_of_getElem? (i := 872) (by decide +kernel)) rfl)
theorem ml_L_143 : ML RL 143 yX9_rows := Or.inl (in_good (List.mem_of_getElem? (i := 1444) (by decide +kernel)) rfl)
theorem ml_L_144 : ML RL 144 yX8_whose := Or.inl (in_good (List.mem_of_getElem? (i := 911) (by decide +kernel)) rfl)
theorem ml_L_147 : ML RL 147 yX9_whose := Or.inl (in_good (List.mem_of_getElem? (i := 1460) (by decide +kernel)) rfl)
theorem ml_L_148 : ML RL 148 yX8_lend := Or.inl (in_good (List.mem_of_getElem? (i := 924) (by decide +kernel)) rfl)
theorem ml_L_151 : ML RL 151 yX9_lend := Or.inl (in_good (List.mem_of_getElem? (i := 1464) (by decide +kernel)) rfl)
theorem ml_L_152 : ML RL 152 yX8_keep := Or.inl (in_good (List.mem_of_getElem? (i := 935) (by decide +kernel)) rfl)
theorem ml_L_155 : ML RL 155 yX9_keep := Or.inl (in_good (List.mem_of_getElem? (i := 1472) (by decide +kernel)) rfl)
theorem ml_L_156 : ML RL 156 yX8_back := Or.inl (in_good (List.mem_of_getElem? (i := 939) (by decide +kernel)) rfl)
theorem ml_L_159 : ML RL 159 yX9_back := Or.inl (in_good (List.mem_of_getElem? (i := 1476) (by decide +kernel)) rfl)
theorem ml_L_160 : ML RL 160 yX8_sheet := Or.inl (in_good (List.mem_of_getElem? (i := 943) (by decide +kernel)) rfl)
theorem ml_L_163 : ML RL 163 yX9_sheet := Or.inl (in_good (List.mem_of_getElem? (i := 1480) (by decide +kernel)) rfl)
theorem ml_L_164 : ML RL 164 yX8_lay := Or.inl (in_good (List.mem_of_getElem? (i := 958) (by decide +kernel)) rfl)
theorem ml_L_167 : ML RL 167 yX9_lay := Or.inl (in_good (List.mem_of_getElem? (i := 1487) (by decide +kernel)) rfl)
theorem ml_L_168 : ML RL 168 yX8_read := Or.inl (in_good (List.mem_of_getElem? (i := 974) (by decide +kernel)) rfl)
theorem ml_L_172 : ML RL 172 yX9_read := Or.inl (in_good (List.mem_of_getElem? (i := 1491) (by decide +kernel)) rfl)
theorem ml_L_173 : ML RL 173 yX8_torn := Or.inl (in_good (List.mem_of_getElem? (i := 988) (by decide +kernel)) rfl)
theorem ml_L_176 : ML RL 176 yX9_torn := Or.inl (in_good (List.mem_of_getElem? (i := 1496) (by decide +kernel)) rfl)
theorem ml_L_177 : ML RL 177 yX8_count := Or.inl (in_good (List.mem_of_getElem? (i := 992) (by decide +kernel)) rfl)
theorem ml_L_180 : ML RL 180 yX9_count := Or.inl (in_good (List.mem_of_getElem? (i := 1500) (by decide +kernel)) rfl)
theorem ml_X9_65 : ML RX9 65 yX9_firstDraft := Or.inl (in_good (List.mem_of_getElem? (i := 1006) (by decide +kernel)) rfl)
theorem ml_X9_68 : ML RX9 68 yX9_keepDraft := Or.inl (in_good (List.mem_of_getElem? (i := 1010) (by decide +kernel)) rfl)
theorem ml_X9_93 : ML RX9 93 yX9_in := Or.inl (in_good (List.mem_of_getElem? (i := 1138) (by decide +kernel)) rfl)
theorem ml_X9_109 : ML RX9 109 yX9_look := Or.inl (in_good (List.mem_of_getElem? (i := 1149) (by decide +kernel)) rfl)
theorem ml_X9_113 : ML RX9 113 yX9_is := Or.inl (in_good (List.mem_of_getElem? (i := 1169) (by decide +kernel)) rfl)
theorem ml_X9_117 : ML RX9 117 yX9_ends := Or.inl (in_good (List.mem_of_getElem? (i := 1173) (by decide +kernel)) rfl)
theorem ml_X9_135 : ML RX9 135 yX9_needs := Or.inl (in_good (List.mem_of_getElem? (i := 1157) (by decide +kernel)) rfl)
theorem ml_X9_139 : ML RX9 139 yX9_next := Or.inl (in_good (List.mem_of_getElem? (i := 1145) (by decide +kernel)) rfl)
theorem ml_X9_142 : ML RX9 142 yX9_readNumber := Or.inl (in_good (List.mem_of_getElem? (i := 1181) (by decide +kernel)) rfl)
theorem ml_X9_146 : ML RX9 146 yX9_kindNow := Or.inl (in_good (List.mem_of_getElem? (i := 1201) (by decide +kernel)) rfl)
theorem ml_X9_150 : ML RX9 150 yX9_readChildOf := Or.inl (in_good (List.mem_of_getElem? (i := 1193) (by decide +kernel)) rfl)
theorem ml_X9_153 : ML RX9 153 yX9_readChild := Or.inl (in_good (List.mem_of_getElem? (i := 1185) (by decide +kernel)) rfl)
theorem ml_X9_156 : ML RX9 156 yX9_readLike := Or.inl (in_good (List.mem_of_getElem? (i := 1189) (by decide +kernel)) rfl)
theorem ml_X9_159 : ML RX9 159 yX9_readThing := Or.inl (in_good (List.mem_of_getElem? (i := 1197) (by decide +kernel)) rfl)
theorem ml_X9_163 : ML RX9 163 yX9_lineNow := Or.inl (in_good (List.mem_of_getElem? (i := 1165) (by decide +kernel)) rfl)
theorem ml_X9_166 : ML RX9 166 yX9_readLineOf := Or.inl (in_good (List.mem_of_getElem? (i := 1177) (by decide +kernel)) rfl)
theorem ml_X9_169 : ML RX9 169 yX9_readLine := Or.inl (in_good (List.mem_of_getElem? (i := 1161) (by decide +kernel)) rfl)
theorem ml_X9_172 : ML RX9 172 yX9_of := Or.inl (in_good (List.mem_of_getElem? (i := 1233) (by decide +kernel)) rfl)
theorem ml_X9_175 : ML RX9 175 yX9_worn := Or.inl (in_good (List.mem_of_getElem? (i := 1220) (by decide +kernel)) rfl)
theorem ml_X9_178 : ML RX9 178 yX9_isChild := Or.inl (in_good (List.mem_of_getElem? (i := 1213) (by decide +kernel)) rfl)
theorem ml_X9_188 : ML RX9 188 yX9_isThing := Or.inl (in_good (List.mem_of_getElem? (i := 1228) (by decide +kernel)) rfl)
theorem ml_X9_193 : ML RX9 193 yX9_whoWears := Or.inl (in_good (List.mem_of_getElem? (i := 1237) (by decide +kernel)) rfl)
theorem ml_X9_202 : ML RX9 202 yX9_fitOf := Or.inl (in_good (List.mem_of_getElem? (i := 1259) (by decide +kernel)) rfl)
theorem ml_X9_206 : ML RX9 206 yX9_fitNow := Or.inl (in_good (List.mem_of_getElem? (i := 1255) (by decide +kernel)) rfl)
theorem ml_X9_209 : ML RX9 209 yX9_takesOff := Or.inl (in_good (List.mem_of_getElem? (i := 1268) (by decide +kernel)) rfl)
theorem ml_X9_213 : ML RX9 213 yX9_putsOn := Or.inl (in_good (List.mem_of_getElem? (i := 1272) (by decide +kernel)) rfl)
theorem ml_X9_216 : ML RX9 216 yX9_isSlot := Or.inl (in_good (List.mem_of_getElem? (i := 1280) (by decide +kernel)) rfl)
theorem ml_X9_219 : ML RX9 219 yX9_flag := Or.inl (in_good (List.mem_of_getElem? (i := 1287) (by decide +kernel)) rfl)
theorem ml_X9_226 : ML RX9 226 yX9_givesOn := Or.inl (in_good (List.mem_of_getElem? (i := 1310) (by decide +kernel)) rfl)
theorem ml_X9_229 : ML RX9 229 yX9_getsOne := Or.inl (in_good (List.mem_of_getElem? (i := 1306) (by decide +kernel)) rfl)
theorem ml_X9_232 : ML RX9 232 yX9_keepsDeal := Or.inl (in_good (List.mem_of_getElem? (i := 1318) (by decide +kernel)) rfl)
theorem ml_X9_235 : ML RX9 235 yX9_asKept := Or.inl (in_good (List.mem_of_getElem? (i := 1322) (by decide +kernel)) rfl)
theorem ml_X9_238 : ML RX9 238 yX9_findCanHave := Or.inl (in_good (List.mem_of_getElem? (i := 1298) (by decide +kernel)) rfl)
theorem ml_X9_241 : ML RX9 241 yX9_findMost := Or.inl (in_good (List.mem_of_getElem? (i := 1302) (by decide +kernel)) rfl)
theorem ml_X9_244 : ML RX9 244 yX9_canGet := Or.inl (in_good (List.mem_of_getElem? (i := 1314) (by decide +kernel)) rfl)
theorem ml_X9_248 : ML RX9 248 yX9_findDeal := Or.inl (in_good (List.mem_of_getElem? (i := 1294) (by decide +kernel)) rfl)
theorem ml_X9_251 : ML RX9 251 yX9_dresses := Or.inl (in_good (List.mem_of_getElem? (i := 1330) (by decide +kernel)) rfl)
theorem ml_X9_254 : ML RX9 254 yX9_isOut := Or.inl (in_good (List.mem_of_getElem? (i := 1338) (by decide +kernel)) rfl)
theorem ml_X9_257 : ML RX9 257 yX9_winters := Or.inl (in_good (List.mem_of_getElem? (i := 1346) (by decide +kernel)) rfl)
theorem ml_X9_260 : ML RX9 260 yX9_grows := Or.inl (in_good (List.mem_of_getElem? (i := 1358) (by decide +kernel)) rfl)
theorem ml_X9_264 : ML RX9 264 yX9_springs := Or.inl (in_good (List.mem_of_getElem? (i := 1354) (by decide +kernel)) rfl)
theorem ml_X9_267 : ML RX9 267 yX9_copies := Or.inl (in_good (List.mem_of_getElem? (i := 1373) (by decide +kernel)) rfl)
theorem ml_X9_270 : ML RX9 270 yX9_areYears := Or.inl (in_good (List.mem_of_getElem? (i := 1366) (by decide +kernel)) rfl)
theorem ml_X9_273 : ML RX9 273 yX9_aheadBy := Or.inl (in_good (List.mem_of_getElem? (i := 1369) (by decide +kernel)) rfl)
theorem ml_X9_283 : ML RX9 283 yX9_findCut := Or.inl (in_good (List.mem_of_getElem? (i := 1389) (by decide +kernel)) rfl)
theorem ml_X9_289 : ML RX9 289 yX9_sews := Or.inl (in_good (List.mem_of_getElem? (i := 1402) (by decide +kernel)) rfl)
theorem ml_X9_294 : ML RX9 294 yX9_likes := Or.inl (in_good (List.mem_of_getElem? (i := 1423) (by decide +kernel)) rfl)
theorem ml_X9_297 : ML RX9 297 yX9_isSwap := Or.inl (in_good (List.mem_of_getElem? (i := 1419) (by decide +kernel)) rfl)
theorem ml_X9_300 : ML RX9 300 yX9_firstSwap := Or.inl (in_good (List.mem_of_getElem? (i := 1415) (by decide +kernel)) rfl)
theorem ml_X9_314 : ML RX9 314 yX9_takesRow := Or.inl (in_good (List.mem_of_getElem? (i := 1452) (by decide +kernel)) rfl)
theorem ml_X9_317 : ML RX9 317 yX9_canMark := Or.inl (in_good (List.mem_of_getElem? (i := 1456) (by decide +kernel)) rfl)
theorem ml_X9_320 : ML RX9 320 yX9_findRows := Or.inl (in_good (List.mem_of_getElem? (i := 1448) (by decide +kernel)) rfl)
theorem ml_X9_326 : ML RX9 326 yX9_findLeft := Or.inl (in_good (List.mem_of_getElem? (i := 1468) (by decide +kernel)) rfl)
theorem ml_X9_329 : ML RX9 329 yX9_isSheet := Or.inl (in_good (List.mem_of_getElem? (i := 1484) (by decide +kernel)) rfl)
theorem ml_X9_332 : ML RX9 332 yX9_sew := Or.inl (in_good (List.mem_of_getElem? (i := 1495) (by decide +kernel)) rfl)
theorem ml_J0_335 : ML RJ0 335 yJ0_coder_7d493 := Or.inl (in_good (List.mem_of_getElem? (i := 468) (by decide +kernel)) rfl)
theorem ml_J0_492 : ML RJ0 492 yJ0_isLatin1_aae02 := Or.inl (in_good (List.mem_of_getElem? (i := 478) (by decide +kernel)) rfl)
theorem ml_J0_495 : ML RJ0 495 yJ1_charAt_3b067 := Or.inl (in_good (List.mem_of_getElem? (i := 482) (by decide +kernel)) rfl)
theorem ml_J0_498 : ML RJ0 498 yJ2_charAt_3b067 := Or.inl (in_good (List.mem_of_getElem? (i := 493) (by decide +kernel)) rfl)
theorem ml_J0_1059 : ML RJ0 1059 yJ3_checkIndex_8e157 := Or.inl (in_good (List.mem_of_getElem? (i := 490) (by decide +kernel)) rfl)
theorem ml_J1_9 : ML RJ1 9 yJ0_checkIndex_df160 := Or.inl (in_good (List.mem_of_getElem? (i := 485) (by decide +kernel)) rfl)
theorem ml_J2_48 : ML RJ2 48 yJ2_length_9d52b := Or.inl (in_good (List.mem_of_getElem? (i := 499) (by decide +kernel)) rfl)
theorem ml_J2_67 : ML RJ2 67 yJ2_checkIndex_2214a := Or.inl (in_good (List.mem_of_getElem? (i := 496) (by decide +kernel)) rfl)
theorem ml_J2_71 : ML RJ2 71 yJ2_getChar_3b067 := Or.inl (in_good (List.mem_of_getElem? (i := 503) (by decide +kernel)) rfl)
theorem ml_J2_414 : ML RJ2 414 yJ0_checkIndex_df160 := Or.inl (in_good (List.mem_of_getElem? (i := 502) (by decide +kernel)) rfl)
theorem ct_X8_258 : Cond.constantLong RX8 258 (-1 : Int64) ∈ lw_good := in_good (List.mem_of_getElem? (i := 858) (by decide +kernel)) rfl
theorem ct_L_13 : Cond.constantLong RL 13 (4294967295 : Int64) ∈ lw_good := in_good (List.mem_of_getElem? (i := 1504) (by decide +kernel)) rfl
theorem ct_X9_91 : Cond.constantLong RX9 91 (255 : Int64) ∈ lw_good := in_good (List.mem_of_getElem? (i := 1133) (by decide +kernel)) rfl
theorem ct_X9_124 : Cond.constantLong RX9 124 (97 : Int64) ∈ lw_good := in_good (List.mem_of_getElem? (i := 1153) (by decide +kernel)) rfl
theorem ct_X9_126 : Cond.constantLong RX9 126 (122 : Int64) ∈ lw_good := in_good (List.mem_of_getElem? (i := 1154) (by decide +kernel)) rfl
theorem ct_X9_128 : Cond.constantLong RX9 128 (48 : Int64) ∈ lw_good := in_good (List.mem_of_getElem? (i := 1155) (by decide +kernel)) rfl
theorem ct_X9_130 : Cond.constantLong RX9 130 (57 : Int64) ∈ lw_good := in_good (List.mem_of_getElem? (i := 1156) (by decide +kernel)) rfl
theorem ct_X9_182 : Cond.constantLong RX9 182 (2 : Int64) ∈ lw_good := in_good (List.mem_of_getElem? (i := 1217) (by decide +kernel)) rfl
theorem ct_X9_184 : Cond.constantLong RX9 184 (10 : Int64) ∈ lw_good := in_good (List.mem_of_getElem? (i := 1218) (by decide +kernel)) rfl
theorem ct_X9_186 : Cond.constantLong RX9 186 (11 : Int64) ∈ lw_good := in_good (List.mem_of_getElem? (i := 1219) (by decide +kernel)) rfl
theorem ct_X9_191 : Cond.constantLong RX9 191 (6 : Int64) ∈ lw_good := in_good (List.mem_of_getElem? (i := 1232) (by decide +kernel)) rfl
theorem ct_X9_196 : Cond.constantLong RX9 196 (4 : Int64) ∈ lw_good := in_good (List.mem_of_getElem? (i := 1245) (by decide +kernel)) rfl
theorem ct_X9_198 : Cond.constantLong RX9 198 (9 : Int64) ∈ lw_good := in_good (List.mem_of_getElem? (i := 1250) (by decide +kernel)) rfl
theorem ct_X9_200 : Cond.constantLong RX9 200 (3 : Int64) ∈ lw_good := in_good (List.mem_of_getElem? (i := 1263) (by decide +kernel)) rfl
theorem ct_X9_287 : Cond.constantLong RX9 287 (40 : Int64) ∈ lw_good := in_good (List.mem_of_getElem? (i := 1401) (by decide +kernel)) rfl
theorem ct_X9_293 : Cond.constant RX9 293 (99999 : Int32) ∈ lw_good := in_good (List.mem_of_getElem? (i := 1410) (by decide +kernel)) rfl
theorem ct_X9_303 : Cond.constantLong RX9 303 (-1 : Int64) ∈ lw_good := in_good (List.mem_of_getElem? (i := 1435) (by decide +kernel)) rfl
theorem ct_J6_265 : Cond.constant RJ6 265 (1431655765 : Int32) ∈ lw_good := in_good (List.mem_of_getElem? (i := 892) (by decide +kernel)) rfl
theorem ct_J6_266 : Cond.constant RJ6 266 (858993459 : Int32) ∈ lw_good := in_good (List.mem_of_getElem? (i := 893) (by decide +kernel)) rfl
theorem ct_J6_267 : Cond.constant RJ6 267 (252645135 : Int32) ∈ lw_good := in_good (List.mem_of_getElem? (i := 894) (by decide +kernel)) rfl
