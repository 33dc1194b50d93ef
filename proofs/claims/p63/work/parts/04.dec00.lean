theorem dX3_init_0 : decode cX3_init 0 = .ok (.aload_n 0, 1) := by decide +kernel
theorem dX3_init_1 : decode cX3_init 1 = .ok (.invokespecial 3, 3) := by decide +kernel
theorem dX3_init_4 : decode cX3_init 4 = .ok (.aload_n 0, 1) := by decide +kernel
theorem dX3_init_5 : decode cX3_init 5 = .ok (.bipush 10, 2) := by decide +kernel
theorem dX3_init_7 : decode cX3_init 7 = .ok (.newarray .int, 2) := by decide +kernel
theorem dX3_init_9 : decode cX3_init 9 = .ok (.putfield 9, 3) := by decide +kernel
theorem dX3_init_12 : decode cX3_init 12 = .ok (.aload_n 0, 1) := by decide +kernel
theorem dX3_init_13 : decode cX3_init 13 = .ok (.bipush 10, 2) := by decide +kernel
theorem dX3_init_15 : decode cX3_init 15 = .ok (.newarray .int, 2) := by decide +kernel
theorem dX3_init_17 : decode cX3_init 17 = .ok (.putfield 15, 3) := by decide +kernel
theorem dX3_init_20 : decode cX3_init 20 = .ok (.aload_n 0, 1) := by decide +kernel
theorem dX3_init_21 : decode cX3_init 21 = .ok (.bipush 10, 2) := by decide +kernel
theorem dX3_init_23 : decode cX3_init 23 = .ok (.newarray .int, 2) := by decide +kernel
theorem dX3_init_25 : decode cX3_init 25 = .ok (.putfield 18, 3) := by decide +kernel
theorem dX3_init_28 : decode cX3_init 28 = .ok (.aload_n 0, 1) := by decide +kernel
theorem dX3_init_29 : decode cX3_init 29 = .ok (.bipush 8, 2) := by decide +kernel
theorem dX3_init_31 : decode cX3_init 31 = .ok (.newarray .int, 2) := by decide +kernel
theorem dX3_init_33 : decode cX3_init 33 = .ok (.putfield 21, 3) := by decide +kernel
theorem dX3_init_36 : decode cX3_init 36 = .ok (.aload_n 0, 1) := by decide +kernel
theorem dX3_init_37 : decode cX3_init 37 = .ok (.bipush 8, 2) := by decide +kernel
theorem dX3_init_39 : decode cX3_init 39 = .ok (.newarray .int, 2) := by decide +kernel
theorem dX3_init_41 : decode cX3_init 41 = .ok (.putfield 24, 3) := by decide +kernel
theorem dX3_init_44 : decode cX3_init 44 = .ok (.aload_n 0, 1) := by decide +kernel
theorem dX3_init_45 : decode cX3_init 45 = .ok (.bipush 8, 2) := by decide +kernel
theorem dX3_init_47 : decode cX3_init 47 = .ok (.newarray .int, 2) := by decide +kernel
theorem dX3_init_49 : decode cX3_init 49 = .ok (.putfield 27, 3) := by decide +kernel
theorem dX3_init_52 : decode cX3_init 52 = .ok (.aload_n 0, 1) := by decide +kernel
theorem dX3_init_53 : decode cX3_init 53 = .ok (.bipush 6, 2) := by decide +kernel
theorem dX3_init_55 : decode cX3_init 55 = .ok (.newarray .int, 2) := by decide +kernel
theorem dX3_init_57 : decode cX3_init 57 = .ok (.putfield 30, 3) := by decide +kernel
theorem dX3_init_60 : decode cX3_init 60 = .ok (.aload_n 0, 1) := by decide +kernel
theorem dX3_init_61 : decode cX3_init 61 = .ok (.bipush 6, 2) := by decide +kernel
theorem dX3_init_63 : decode cX3_init 63 = .ok (.newarray .int, 2) := by decide +kernel
theorem dX3_init_65 : decode cX3_init 65 = .ok (.putfield 33, 3) := by decide +kernel
theorem dX3_init_68 : decode cX3_init 68 = .ok (.aload_n 0, 1) := by decide +kernel
theorem dX3_init_69 : decode cX3_init 69 = .ok (.bipush 6, 2) := by decide +kernel
theorem dX3_init_71 : decode cX3_init 71 = .ok (.newarray .int, 2) := by decide +kernel
theorem dX3_init_73 : decode cX3_init 73 = .ok (.putfield 36, 3) := by decide +kernel
theorem dX3_init_76 : decode cX3_init 76 = .ok (.return_, 1) := by decide +kernel
theorem dX3_clear_0 : decode cX3_clear 0 = .ok (.aload_n 0, 1) := by decide +kernel
theorem dX3_clear_1 : decode cX3_clear 1 = .ok (.iload_n 1, 1) := by decide +kernel
theorem dX3_clear_2 : decode cX3_clear 2 = .ok (.putfield 39, 3) := by decide +kernel
theorem dX3_clear_5 : decode cX3_clear 5 = .ok (.aload_n 0, 1) := by decide +kernel
theorem dX3_clear_6 : decode cX3_clear 6 = .ok (.iconst 0, 1) := by decide +kernel
theorem dX3_clear_7 : decode cX3_clear 7 = .ok (.putfield 43, 3) := by decide +kernel
theorem dX3_clear_10 : decode cX3_clear 10 = .ok (.aload_n 0, 1) := by decide +kernel
theorem dX3_clear_11 : decode cX3_clear 11 = .ok (.iconst 0, 1) := by decide +kernel
theorem dX3_clear_12 : decode cX3_clear 12 = .ok (.putfield 46, 3) := by decide +kernel
theorem dX3_clear_15 : decode cX3_clear 15 = .ok (.aload_n 0, 1) := by decide +kernel
theorem dX3_clear_16 : decode cX3_clear 16 = .ok (.iconst 0, 1) := by decide +kernel
theorem dX3_clear_17 : decode cX3_clear 17 = .ok (.putfield 49, 3) := by decide +kernel
theorem dX3_clear_20 : decode cX3_clear 20 = .ok (.return_, 1) := by decide +kernel
theorem dX3_copyFrom_0 : decode cX3_copyFrom 0 = .ok (.aload_n 0, 1) := by decide +kernel
theorem dX3_copyFrom_1 : decode cX3_copyFrom 1 = .ok (.aload_n 1, 1) := by decide +kernel
theorem dX3_copyFrom_2 : decode cX3_copyFrom 2 = .ok (.getfield 39, 3) := by decide +kernel
theorem dX3_copyFrom_5 : decode cX3_copyFrom 5 = .ok (.putfield 39, 3) := by decide +kernel
theorem dX3_copyFrom_8 : decode cX3_copyFrom 8 = .ok (.aload_n 0, 1) := by decide +kernel
theorem dX3_copyFrom_9 : decode cX3_copyFrom 9 = .ok (.aload_n 1, 1) := by decide +kernel
theorem dX3_copyFrom_10 : decode cX3_copyFrom 10 = .ok (.getfield 43, 3) := by decide +kernel
theorem dX3_copyFrom_13 : decode cX3_copyFrom 13 = .ok (.putfield 43, 3) := by decide +kernel
theorem dX3_copyFrom_16 : decode cX3_copyFrom 16 = .ok (.aload_n 1, 1) := by decide +kernel
theorem dX3_copyFrom_17 : decode cX3_copyFrom 17 = .ok (.getfield 9, 3) := by decide +kernel
theorem dX3_copyFrom_20 : decode cX3_copyFrom 20 = .ok (.iconst 0, 1) := by decide +kernel
theorem dX3_copyFrom_21 : decode cX3_copyFrom 21 = .ok (.aload_n 0, 1) := by decide +kernel
theorem dX3_copyFrom_22 : decode cX3_copyFrom 22 = .ok (.getfield 9, 3) := by decide +kernel
theorem dX3_copyFrom_25 : decode cX3_copyFrom 25 = .ok (.iconst 0, 1) := by decide +kernel
theorem dX3_copyFrom_26 : decode cX3_copyFrom 26 = .ok (.bipush 10, 2) := by decide +kernel
theorem dX3_copyFrom_28 : decode cX3_copyFrom 28 = .ok (.invokestatic 52, 3) := by decide +kernel
theorem dX3_copyFrom_31 : decode cX3_copyFrom 31 = .ok (.aload_n 1, 1) := by decide +kernel
theorem dX3_copyFrom_32 : decode cX3_copyFrom 32 = .ok (.getfield 15, 3) := by decide +kernel
theorem dX3_copyFrom_35 : decode cX3_copyFrom 35 = .ok (.iconst 0, 1) := by decide +kernel
theorem dX3_copyFrom_36 : decode cX3_copyFrom 36 = .ok (.aload_n 0, 1) := by decide +kernel
theorem dX3_copyFrom_37 : decode cX3_copyFrom 37 = .ok (.getfield 15, 3) := by decide +kernel
theorem dX3_copyFrom_40 : decode cX3_copyFrom 40 = .ok (.iconst 0, 1) := by decide +kernel
theorem dX3_copyFrom_41 : decode cX3_copyFrom 41 = .ok (.bipush 10, 2) := by decide +kernel
theorem dX3_copyFrom_43 : decode cX3_copyFrom 43 = .ok (.invokestatic 52, 3) := by decide +kernel
theorem dX3_copyFrom_46 : decode cX3_copyFrom 46 = .ok (.aload_n 1, 1) := by decide +kernel
theorem dX3_copyFrom_47 : decode cX3_copyFrom 47 = .ok (.getfield 18, 3) := by decide +kernel
theorem dX3_copyFrom_50 : decode cX3_copyFrom 50 = .ok (.iconst 0, 1) := by decide +kernel
theorem dX3_copyFrom_51 : decode cX3_copyFrom 51 = .ok (.aload_n 0, 1) := by decide +kernel
theorem dX3_copyFrom_52 : decode cX3_copyFrom 52 = .ok (.getfield 18, 3) := by decide +kernel
theorem dX3_copyFrom_55 : decode cX3_copyFrom 55 = .ok (.iconst 0, 1) := by decide +kernel
theorem dX3_copyFrom_56 : decode cX3_copyFrom 56 = .ok (.bipush 10, 2) := by decide +kernel
theorem dX3_copyFrom_58 : decode cX3_copyFrom 58 = .ok (.invokestatic 52, 3) := by decide +kernel
theorem dX3_copyFrom_61 : decode cX3_copyFrom 61 = .ok (.aload_n 0, 1) := by decide +kernel
theorem dX3_copyFrom_62 : decode cX3_copyFrom 62 = .ok (.aload_n 1, 1) := by decide +kernel
theorem dX3_copyFrom_63 : decode cX3_copyFrom 63 = .ok (.getfield 46, 3) := by decide +kernel
theorem dX3_copyFrom_66 : decode cX3_copyFrom 66 = .ok (.putfield 46, 3) := by decide +kernel
theorem dX3_copyFrom_69 : decode cX3_copyFrom 69 = .ok (.aload_n 1, 1) := by decide +kernel
theorem dX3_copyFrom_70 : decode cX3_copyFrom 70 = .ok (.getfield 21, 3) := by decide +kernel
theorem dX3_copyFrom_73 : decode cX3_copyFrom 73 = .ok (.iconst 0, 1) := by decide +kernel
theorem dX3_copyFrom_74 : decode cX3_copyFrom 74 = .ok (.aload_n 0, 1) := by decide +kernel
theorem dX3_copyFrom_75 : decode cX3_copyFrom 75 = .ok (.getfield 21, 3) := by decide +kernel
theorem dX3_copyFrom_78 : decode cX3_copyFrom 78 = .ok (.iconst 0, 1) := by decide +kernel
theorem dX3_copyFrom_79 : decode cX3_copyFrom 79 = .ok (.bipush 8, 2) := by decide +kernel
theorem dX3_copyFrom_81 : decode cX3_copyFrom 81 = .ok (.invokestatic 52, 3) := by decide +kernel
theorem dX3_copyFrom_84 : decode cX3_copyFrom 84 = .ok (.aload_n 1, 1) := by decide +kernel
theorem dX3_copyFrom_85 : decode cX3_copyFrom 85 = .ok (.getfield 24, 3) := by decide +kernel
theorem dX3_copyFrom_88 : decode cX3_copyFrom 88 = .ok (.iconst 0, 1) := by decide +kernel
theorem dX3_copyFrom_89 : decode cX3_copyFrom 89 = .ok (.aload_n 0, 1) := by decide +kernel
theorem dX3_copyFrom_90 : decode cX3_copyFrom 90 = .ok (.getfield 24, 3) := by decide +kernel
theorem dX3_copyFrom_93 : decode cX3_copyFrom 93 = .ok (.iconst 0, 1) := by decide +kernel
theorem dX3_copyFrom_94 : decode cX3_copyFrom 94 = .ok (.bipush 8, 2) := by decide +kernel
theorem dX3_copyFrom_96 : decode cX3_copyFrom 96 = .ok (.invokestatic 52, 3) := by decide +kernel
theorem dX3_copyFrom_99 : decode cX3_copyFrom 99 = .ok (.aload_n 1, 1) := by decide +kernel
theorem dX3_copyFrom_100 : decode cX3_copyFrom 100 = .ok (.getfield 27, 3) := by decide +kernel
theorem dX3_copyFrom_103 : decode cX3_copyFrom 103 = .ok (.iconst 0, 1) := by decide +kernel
theorem dX3_copyFrom_104 : decode cX3_copyFrom 104 = .ok (.aload_n 0, 1) := by decide +kernel
theorem dX3_copyFrom_105 : decode cX3_copyFrom 105 = .ok (.getfield 27, 3) := by decide +kernel
theorem dX3_copyFrom_108 : decode cX3_copyFrom 108 = .ok (.iconst 0, 1) := by decide +kernel
theorem dX3_copyFrom_109 : decode cX3_copyFrom 109 = .ok (.bipush 8, 2) := by decide +kernel
theorem dX3_copyFrom_111 : decode cX3_copyFrom 111 = .ok (.invokestatic 52, 3) := by decide +kernel
theorem dX3_copyFrom_114 : decode cX3_copyFrom 114 = .ok (.aload_n 0, 1) := by decide +kernel
theorem dX3_copyFrom_115 : decode cX3_copyFrom 115 = .ok (.aload_n 1, 1) := by decide +kernel
theorem dX3_copyFrom_116 : decode cX3_copyFrom 116 = .ok (.getfield 49, 3) := by decide +kernel
theorem dX3_copyFrom_119 : decode cX3_copyFrom 119 = .ok (.putfield 49, 3) := by decide +kernel
theorem dX3_copyFrom_122 : decode cX3_copyFrom 122 = .ok (.aload_n 1, 1) := by decide +kernel
theorem dX3_copyFrom_123 : decode cX3_copyFrom 123 = .ok (.getfield 30, 3) := by decide +kernel
theorem dX3_copyFrom_126 : decode cX3_copyFrom 126 = .ok (.iconst 0, 1) := by decide +kernel
theorem dX3_copyFrom_127 : decode cX3_copyFrom 127 = .ok (.aload_n 0, 1) := by decide +kernel
theorem dX3_copyFrom_128 : decode cX3_copyFrom 128 = .ok (.getfield 30, 3) := by decide +kernel
theorem dX3_copyFrom_131 : decode cX3_copyFrom 131 = .ok (.iconst 0, 1) := by decide +kernel
theorem dX3_copyFrom_132 : decode cX3_copyFrom 132 = .ok (.bipush 6, 2) := by decide +kernel
theorem dX3_copyFrom_134 : decode cX3_copyFrom 134 = .ok (.invokestatic 52, 3) := by decide +kernel
theorem dX3_copyFrom_137 : decode cX3_copyFrom 137 = .ok (.aload_n 1, 1) := by decide +kernel
theorem dX3_copyFrom_138 : decode cX3_copyFrom 138 = .ok (.getfield 33, 3) := by decide +kernel
theorem dX3_copyFrom_141 : decode cX3_copyFrom 141 = .ok (.iconst 0, 1) := by decide +kernel
theorem dX3_copyFrom_142 : decode cX3_copyFrom 142 = .ok (.aload_n 0, 1) := by decide +kernel
theorem dX3_copyFrom_143 : decode cX3_copyFrom 143 = .ok (.getfield 33, 3) := by decide +kernel
theorem dX3_copyFrom_146 : decode cX3_copyFrom 146 = .ok (.iconst 0, 1) := by decide +kernel
theorem dX3_copyFrom_147 : decode cX3_copyFrom 147 = .ok (.bipush 6, 2) := by decide +kernel
theorem dX3_copyFrom_149 : decode cX3_copyFrom 149 = .ok (.invokestatic 52, 3) := by decide +kernel
theorem dX3_copyFrom_152 : decode cX3_copyFrom 152 = .ok (.aload_n 1, 1) := by decide +kernel
theorem dX3_copyFrom_153 : decode cX3_copyFrom 153 = .ok (.getfield 36, 3) := by decide +kernel
theorem dX3_copyFrom_156 : decode cX3_copyFrom 156 = .ok (.iconst 0, 1) := by decide +kernel
theorem dX3_copyFrom_157 : decode cX3_copyFrom 157 = .ok (.aload_n 0, 1) := by decide +kernel
theorem dX3_copyFrom_158 : decode cX3_copyFrom 158 = .ok (.getfield 36, 3) := by decide +kernel
theorem dX3_copyFrom_161 : decode cX3_copyFrom 161 = .ok (.iconst 0, 1) := by decide +kernel
theorem dX3_copyFrom_162 : decode cX3_copyFrom 162 = .ok (.bipush 6, 2) := by decide +kernel
theorem dX3_copyFrom_164 : decode cX3_copyFrom 164 = .ok (.invokestatic 52, 3) := by decide +kernel
theorem dX3_copyFrom_167 : decode cX3_copyFrom 167 = .ok (.return_, 1) := by decide +kernel
theorem dX3_hasCamel_0 : decode cX3_hasCamel 0 = .ok (.iload_n 1, 1) := by decide +kernel
theorem dX3_hasCamel_1 : decode cX3_hasCamel 1 = .ok (.ifCond .lt 15, 3) := by decide +kernel
theorem dX3_hasCamel_4 : decode cX3_hasCamel 4 = .ok (.iload_n 1, 1) := by decide +kernel
theorem dX3_hasCamel_5 : decode cX3_hasCamel 5 = .ok (.aload_n 0, 1) := by decide +kernel
theorem dX3_hasCamel_6 : decode cX3_hasCamel 6 = .ok (.getfield 43, 3) := by decide +kernel
theorem dX3_hasCamel_9 : decode cX3_hasCamel 9 = .ok (.if_icmp .ge 7, 3) := by decide +kernel
theorem dX3_hasCamel_12 : decode cX3_hasCamel 12 = .ok (.iconst 1, 1) := by decide +kernel
theorem dX3_hasCamel_13 : decode cX3_hasCamel 13 = .ok (.goto 4, 3) := by decide +kernel
theorem dX3_hasCamel_16 : decode cX3_hasCamel 16 = .ok (.iconst 0, 1) := by decide +kernel
theorem dX3_hasCamel_17 : decode cX3_hasCamel 17 = .ok (.ireturn, 1) := by decide +kernel
theorem dX3_addCamel_0 : decode cX3_addCamel 0 = .ok (.aload_n 0, 1) := by decide +kernel
theorem dX3_addCamel_1 : decode cX3_addCamel 1 = .ok (.getfield 43, 3) := by decide +kernel
theorem dX3_addCamel_4 : decode cX3_addCamel 4 = .ok (.bipush 10, 2) := by decide +kernel
theorem dX3_addCamel_6 : decode cX3_addCamel 6 = .ok (.if_icmp .ge 43, 3) := by decide +kernel
theorem dX3_addCamel_9 : decode cX3_addCamel 9 = .ok (.aload_n 0, 1) := by decide +kernel
theorem dX3_addCamel_10 : decode cX3_addCamel 10 = .ok (.getfield 9, 3) := by decide +kernel
theorem dX3_addCamel_13 : decode cX3_addCamel 13 = .ok (.aload_n 0, 1) := by decide +kernel
theorem dX3_addCamel_14 : decode cX3_addCamel 14 = .ok (.getfield 43, 3) := by decide +kernel
theorem dX3_addCamel_17 : decode cX3_addCamel 17 = .ok (.iload_n 1, 1) := by decide +kernel
theorem dX3_addCamel_18 : decode cX3_addCamel 18 = .ok (.iastore, 1) := by decide +kernel
theorem dX3_addCamel_19 : decode cX3_addCamel 19 = .ok (.aload_n 0, 1) := by decide +kernel
theorem dX3_addCamel_20 : decode cX3_addCamel 20 = .ok (.getfield 15, 3) := by decide +kernel
theorem dX3_addCamel_23 : decode cX3_addCamel 23 = .ok (.aload_n 0, 1) := by decide +kernel
theorem dX3_addCamel_24 : decode cX3_addCamel 24 = .ok (.getfield 43, 3) := by decide +kernel
theorem dX3_addCamel_27 : decode cX3_addCamel 27 = .ok (.iload_n 2, 1) := by decide +kernel
theorem dX3_addCamel_28 : decode cX3_addCamel 28 = .ok (.iastore, 1) := by decide +kernel
theorem dX3_addCamel_29 : decode cX3_addCamel 29 = .ok (.aload_n 0, 1) := by decide +kernel
theorem dX3_addCamel_30 : decode cX3_addCamel 30 = .ok (.getfield 18, 3) := by decide +kernel
theorem dX3_addCamel_33 : decode cX3_addCamel 33 = .ok (.aload_n 0, 1) := by decide +kernel
theorem dX3_addCamel_34 : decode cX3_addCamel 34 = .ok (.getfield 43, 3) := by decide +kernel
theorem dX3_addCamel_37 : decode cX3_addCamel 37 = .ok (.iload_n 3, 1) := by decide +kernel
theorem dX3_addCamel_38 : decode cX3_addCamel 38 = .ok (.iastore, 1) := by decide +kernel
theorem dX3_addCamel_39 : decode cX3_addCamel 39 = .ok (.aload_n 0, 1) := by decide +kernel
theorem dX3_addCamel_40 : decode cX3_addCamel 40 = .ok (.dup, 1) := by decide +kernel
theorem dX3_addCamel_41 : decode cX3_addCamel 41 = .ok (.getfield 43, 3) := by decide +kernel
theorem dX3_addCamel_44 : decode cX3_addCamel 44 = .ok (.iconst 1, 1) := by decide +kernel
theorem dX3_addCamel_45 : decode cX3_addCamel 45 = .ok (.iadd, 1) := by decide +kernel
theorem dX3_addCamel_46 : decode cX3_addCamel 46 = .ok (.putfield 43, 3) := by decide +kernel
theorem dX3_addCamel_49 : decode cX3_addCamel 49 = .ok (.return_, 1) := by decide +kernel
theorem dX3_addWell_0 : decode cX3_addWell 0 = .ok (.aload_n 0, 1) := by decide +kernel
theorem dX3_addWell_1 : decode cX3_addWell 1 = .ok (.getfield 46, 3) := by decide +kernel
theorem dX3_addWell_4 : decode cX3_addWell 4 = .ok (.bipush 8, 2) := by decide +kernel
theorem dX3_addWell_6 : decode cX3_addWell 6 = .ok (.if_icmp .ge 43, 3) := by decide +kernel
theorem dX3_addWell_9 : decode cX3_addWell 9 = .ok (.aload_n 0, 1) := by decide +kernel
theorem dX3_addWell_10 : decode cX3_addWell 10 = .ok (.getfield 21, 3) := by decide +kernel
theorem dX3_addWell_13 : decode cX3_addWell 13 = .ok (.aload_n 0, 1) := by decide +kernel
theorem dX3_addWell_14 : decode cX3_addWell 14 = .ok (.getfield 46, 3) := by decide +kernel
theorem dX3_addWell_17 : decode cX3_addWell 17 = .ok (.iload_n 1, 1) := by decide +kernel
theorem dX3_addWell_18 : decode cX3_addWell 18 = .ok (.iastore, 1) := by decide +kernel
theorem dX3_addWell_19 : decode cX3_addWell 19 = .ok (.aload_n 0, 1) := by decide +kernel
theorem dX3_addWell_20 : decode cX3_addWell 20 = .ok (.getfield 24, 3) := by decide +kernel
theorem dX3_addWell_23 : decode cX3_addWell 23 = .ok (.aload_n 0, 1) := by decide +kernel
theorem dX3_addWell_24 : decode cX3_addWell 24 = .ok (.getfield 46, 3) := by decide +kernel
theorem dX3_addWell_27 : decode cX3_addWell 27 = .ok (.iload_n 2, 1) := by decide +kernel
theorem dX3_addWell_28 : decode cX3_addWell 28 = .ok (.iastore, 1) := by decide +kernel
theorem dX3_addWell_29 : decode cX3_addWell 29 = .ok (.aload_n 0, 1) := by decide +kernel
theorem dX3_addWell_30 : decode cX3_addWell 30 = .ok (.getfield 27, 3) := by decide +kernel
theorem dX3_addWell_33 : decode cX3_addWell 33 = .ok (.aload_n 0, 1) := by decide +kernel
theorem dX3_addWell_34 : decode cX3_addWell 34 = .ok (.getfield 46, 3) := by decide +kernel
theorem dX3_addWell_37 : decode cX3_addWell 37 = .ok (.iload_n 3, 1) := by decide +kernel
theorem dX3_addWell_38 : decode cX3_addWell 38 = .ok (.iastore, 1) := by decide +kernel
theorem dX3_addWell_39 : decode cX3_addWell 39 = .ok (.aload_n 0, 1) := by decide +kernel
theorem dX3_addWell_40 : decode cX3_addWell 40 = .ok (.dup, 1) := by decide +kernel
theorem dX3_addWell_41 : decode cX3_addWell 41 = .ok (.getfield 46, 3) := by decide +kernel
theorem dX3_addWell_44 : decode cX3_addWell 44 = .ok (.iconst 1, 1) := by decide +kernel
theorem dX3_addWell_45 : decode cX3_addWell 45 = .ok (.iadd, 1) := by decide +kernel
theorem dX3_addWell_46 : decode cX3_addWell 46 = .ok (.putfield 46, 3) := by decide +kernel
theorem dX3_addWell_49 : decode cX3_addWell 49 = .ok (.return_, 1) := by decide +kernel
theorem dX3_addStorm_0 : decode cX3_addStorm 0 = .ok (.aload_n 0, 1) := by decide +kernel
theorem dX3_addStorm_1 : decode cX3_addStorm 1 = .ok (.getfield 49, 3) := by decide +kernel
theorem dX3_addStorm_4 : decode cX3_addStorm 4 = .ok (.bipush 6, 2) := by decide +kernel
theorem dX3_addStorm_6 : decode cX3_addStorm 6 = .ok (.if_icmp .ge 43, 3) := by decide +kernel
theorem dX3_addStorm_9 : decode cX3_addStorm 9 = .ok (.aload_n 0, 1) := by decide +kernel
theorem dX3_addStorm_10 : decode cX3_addStorm 10 = .ok (.getfield 30, 3) := by decide +kernel
theorem dX3_addStorm_13 : decode cX3_addStorm 13 = .ok (.aload_n 0, 1) := by decide +kernel
theorem dX3_addStorm_14 : decode cX3_addStorm 14 = .ok (.getfield 49, 3) := by decide +kernel
theorem dX3_addStorm_17 : decode cX3_addStorm 17 = .ok (.iload_n 1, 1) := by decide +kernel
theorem dX3_addStorm_18 : decode cX3_addStorm 18 = .ok (.iastore, 1) := by decide +kernel
theorem dX3_addStorm_19 : decode cX3_addStorm 19 = .ok (.aload_n 0, 1) := by decide +kernel
theorem dX3_addStorm_20 : decode cX3_addStorm 20 = .ok (.getfield 33, 3) := by decide +kernel
theorem dX3_addStorm_23 : decode cX3_addStorm 23 = .ok (.aload_n 0, 1) := by decide +kernel
theorem dX3_addStorm_24 : decode cX3_addStorm 24 = .ok (.getfield 49, 3) := by decide +kernel
theorem dX3_addStorm_27 : decode cX3_addStorm 27 = .ok (.iload_n 2, 1) := by decide +kernel
theorem dX3_addStorm_28 : decode cX3_addStorm 28 = .ok (.iastore, 1) := by decide +kernel
theorem dX3_addStorm_29 : decode cX3_addStorm 29 = .ok (.aload_n 0, 1) := by decide +kernel
theorem dX3_addStorm_30 : decode cX3_addStorm 30 = .ok (.getfield 36, 3) := by decide +kernel
theorem dX3_addStorm_33 : decode cX3_addStorm 33 = .ok (.aload_n 0, 1) := by decide +kernel
theorem dX3_addStorm_34 : decode cX3_addStorm 34 = .ok (.getfield 49, 3) := by decide +kernel
theorem dX3_addStorm_37 : decode cX3_addStorm 37 = .ok (.iload_n 3, 1) := by decide +kernel
theorem dX3_addStorm_38 : decode cX3_addStorm 38 = .ok (.iastore, 1) := by decide +kernel
theorem dX3_addStorm_39 : decode cX3_addStorm 39 = .ok (.aload_n 0, 1) := by decide +kernel
theorem dX3_addStorm_40 : decode cX3_addStorm 40 = .ok (.dup, 1) := by decide +kernel
theorem dX3_addStorm_41 : decode cX3_addStorm 41 = .ok (.getfield 49, 3) := by decide +kernel
theorem dX3_addStorm_44 : decode cX3_addStorm 44 = .ok (.iconst 1, 1) := by decide +kernel
theorem dX3_addStorm_45 : decode cX3_addStorm 45 = .ok (.iadd, 1) := by decide +kernel
theorem dX3_addStorm_46 : decode cX3_addStorm 46 = .ok (.putfield 49, 3) := by decide +kernel
theorem dX3_addStorm_49 : decode cX3_addStorm 49 = .ok (.return_, 1) := by decide +kernel
theorem dX3_greatestStorm_0 : decode cX3_greatestStorm 0 = .ok (.iconst 0, 1) := by decide +kernel
theorem dX3_greatestStorm_1 : decode cX3_greatestStorm 1 = .ok (.istore_n 2, 1) := by decide +kernel
theorem dX3_greatestStorm_2 : decode cX3_greatestStorm 2 = .ok (.iconst 0, 1) := by decide +kernel
theorem dX3_greatestStorm_3 : decode cX3_greatestStorm 3 = .ok (.istore_n 3, 1) := by decide +kernel
theorem dX3_greatestStorm_4 : decode cX3_greatestStorm 4 = .ok (.iload_n 3, 1) := by decide +kernel
theorem dX3_greatestStorm_5 : decode cX3_greatestStorm 5 = .ok (.aload_n 0, 1) := by decide +kernel
theorem dX3_greatestStorm_6 : decode cX3_greatestStorm 6 = .ok (.getfield 49, 3) := by decide +kernel
theorem dX3_greatestStorm_9 : decode cX3_greatestStorm 9 = .ok (.if_icmp .ge 40, 3) := by decide +kernel
theorem dX3_greatestStorm_12 : decode cX3_greatestStorm 12 = .ok (.aload_n 0, 1) := by decide +kernel
theorem dX3_greatestStorm_13 : decode cX3_greatestStorm 13 = .ok (.getfield 30, 3) := by decide +kernel
theorem dX3_greatestStorm_16 : decode cX3_greatestStorm 16 = .ok (.iload_n 3, 1) := by decide +kernel
theorem dX3_greatestStorm_17 : decode cX3_greatestStorm 17 = .ok (.iaload, 1) := by decide +kernel
theorem dX3_greatestStorm_18 : decode cX3_greatestStorm 18 = .ok (.iload_n 1, 1) := by decide +kernel
theorem dX3_greatestStorm_19 : decode cX3_greatestStorm 19 = .ok (.if_icmp .gt 24, 3) := by decide +kernel
theorem dX3_greatestStorm_22 : decode cX3_greatestStorm 22 = .ok (.iload_n 1, 1) := by decide +kernel
theorem dX3_greatestStorm_23 : decode cX3_greatestStorm 23 = .ok (.aload_n 0, 1) := by decide +kernel
theorem dX3_greatestStorm_24 : decode cX3_greatestStorm 24 = .ok (.getfield 33, 3) := by decide +kernel
theorem dX3_greatestStorm_27 : decode cX3_greatestStorm 27 = .ok (.iload_n 3, 1) := by decide +kernel
theorem dX3_greatestStorm_28 : decode cX3_greatestStorm 28 = .ok (.iaload, 1) := by decide +kernel
theorem dX3_greatestStorm_29 : decode cX3_greatestStorm 29 = .ok (.if_icmp .gt 14, 3) := by decide +kernel
theorem dX3_greatestStorm_32 : decode cX3_greatestStorm 32 = .ok (.iload_n 2, 1) := by decide +kernel
theorem dX3_greatestStorm_33 : decode cX3_greatestStorm 33 = .ok (.aload_n 0, 1) := by decide +kernel
theorem dX3_greatestStorm_34 : decode cX3_greatestStorm 34 = .ok (.getfield 36, 3) := by decide +kernel
theorem dX3_greatestStorm_37 : decode cX3_greatestStorm 37 = .ok (.iload_n 3, 1) := by decide +kernel
theorem dX3_greatestStorm_38 : decode cX3_greatestStorm 38 = .ok (.iaload, 1) := by decide +kernel
theorem dX3_greatestStorm_39 : decode cX3_greatestStorm 39 = .ok (.invokestatic 58, 3) := by decide +kernel
theorem dX3_greatestStorm_42 : decode cX3_greatestStorm 42 = .ok (.istore_n 2, 1) := by decide +kernel
theorem dX3_greatestStorm_43 : decode cX3_greatestStorm 43 = .ok (.iinc 3 1, 3) := by decide +kernel
theorem dX3_greatestStorm_46 : decode cX3_greatestStorm 46 = .ok (.goto (-42), 3) := by decide +kernel
theorem dX3_greatestStorm_49 : decode cX3_greatestStorm 49 = .ok (.iload_n 2, 1) := by decide +kernel
theorem dX3_greatestStorm_50 : decode cX3_greatestStorm 50 = .ok (.ireturn, 1) := by decide +kernel
theorem dX3_wellAt_0 : decode cX3_wellAt 0 = .ok (.iconst 0, 1) := by decide +kernel
theorem dX3_wellAt_1 : decode cX3_wellAt 1 = .ok (.istore_n 2, 1) := by decide +kernel
theorem dX3_wellAt_2 : decode cX3_wellAt 2 = .ok (.iload_n 2, 1) := by decide +kernel
theorem dX3_wellAt_3 : decode cX3_wellAt 3 = .ok (.aload_n 0, 1) := by decide +kernel
theorem dX3_wellAt_4 : decode cX3_wellAt 4 = .ok (.getfield 46, 3) := by decide +kernel
theorem dX3_wellAt_7 : decode cX3_wellAt 7 = .ok (.if_icmp .ge 21, 3) := by decide +kernel
theorem dX3_wellAt_10 : decode cX3_wellAt 10 = .ok (.aload_n 0, 1) := by decide +kernel
theorem dX3_wellAt_11 : decode cX3_wellAt 11 = .ok (.getfield 21, 3) := by decide +kernel
theorem dX3_wellAt_14 : decode cX3_wellAt 14 = .ok (.iload_n 2, 1) := by decide +kernel
theorem dX3_wellAt_15 : decode cX3_wellAt 15 = .ok (.iaload, 1) := by decide +kernel
theorem dX3_wellAt_16 : decode cX3_wellAt 16 = .ok (.iload_n 1, 1) := by decide +kernel
theorem dX3_wellAt_17 : decode cX3_wellAt 17 = .ok (.if_icmp .ne 5, 3) := by decide +kernel
theorem dX3_wellAt_20 : decode cX3_wellAt 20 = .ok (.iload_n 2, 1) := by decide +kernel
theorem dX3_wellAt_21 : decode cX3_wellAt 21 = .ok (.ireturn, 1) := by decide +kernel
theorem dX3_wellAt_22 : decode cX3_wellAt 22 = .ok (.iinc 2 1, 3) := by decide +kernel
theorem dX3_wellAt_25 : decode cX3_wellAt 25 = .ok (.goto (-23), 3) := by decide +kernel
theorem dX3_wellAt_28 : decode cX3_wellAt 28 = .ok (.iconst (-1), 1) := by decide +kernel
theorem dX3_wellAt_29 : decode cX3_wellAt 29 = .ok (.ireturn, 1) := by decide +kernel
theorem dX3_firstWellBehind_0 : decode cX3_firstWellBehind 0 = .ok (.iconst (-1), 1) := by decide +kernel
theorem dX3_firstWellBehind_1 : decode cX3_firstWellBehind 1 = .ok (.istore_n 2, 1) := by decide +kernel
theorem dX3_firstWellBehind_2 : decode cX3_firstWellBehind 2 = .ok (.sipush 1000, 3) := by decide +kernel
theorem dX3_firstWellBehind_5 : decode cX3_firstWellBehind 5 = .ok (.istore_n 3, 1) := by decide +kernel
theorem dX3_firstWellBehind_6 : decode cX3_firstWellBehind 6 = .ok (.iconst 0, 1) := by decide +kernel
theorem dX3_firstWellBehind_7 : decode cX3_firstWellBehind 7 = .ok (.istore 4, 2) := by decide +kernel
theorem dX3_firstWellBehind_9 : decode cX3_firstWellBehind 9 = .ok (.iload 4, 2) := by decide +kernel
theorem dX3_firstWellBehind_11 : decode cX3_firstWellBehind 11 = .ok (.aload_n 0, 1) := by decide +kernel
theorem dX3_firstWellBehind_12 : decode cX3_firstWellBehind 12 = .ok (.getfield 46, 3) := by decide +kernel
theorem dX3_firstWellBehind_15 : decode cX3_firstWellBehind 15 = .ok (.if_icmp .ge 42, 3) := by decide +kernel
theorem dX3_firstWellBehind_18 : decode cX3_firstWellBehind 18 = .ok (.aload_n 0, 1) := by decide +kernel
theorem dX3_firstWellBehind_19 : decode cX3_firstWellBehind 19 = .ok (.getfield 21, 3) := by decide +kernel
theorem dX3_firstWellBehind_22 : decode cX3_firstWellBehind 22 = .ok (.iload 4, 2) := by decide +kernel
theorem dX3_firstWellBehind_24 : decode cX3_firstWellBehind 24 = .ok (.iaload, 1) := by decide +kernel
theorem dX3_firstWellBehind_25 : decode cX3_firstWellBehind 25 = .ok (.iload_n 1, 1) := by decide +kernel
theorem dX3_firstWellBehind_26 : decode cX3_firstWellBehind 26 = .ok (.if_icmp .le 25, 3) := by decide +kernel
theorem dX3_firstWellBehind_29 : decode cX3_firstWellBehind 29 = .ok (.aload_n 0, 1) := by decide +kernel
theorem dX3_firstWellBehind_30 : decode cX3_firstWellBehind 30 = .ok (.getfield 21, 3) := by decide +kernel
theorem dX3_firstWellBehind_33 : decode cX3_firstWellBehind 33 = .ok (.iload 4, 2) := by decide +kernel
theorem dX3_firstWellBehind_35 : decode cX3_firstWellBehind 35 = .ok (.iaload, 1) := by decide +kernel
theorem dX3_firstWellBehind_36 : decode cX3_firstWellBehind 36 = .ok (.iload_n 3, 1) := by decide +kernel
theorem dX3_firstWellBehind_37 : decode cX3_firstWellBehind 37 = .ok (.if_icmp .ge 14, 3) := by decide +kernel
theorem dX3_firstWellBehind_40 : decode cX3_firstWellBehind 40 = .ok (.iload 4, 2) := by decide +kernel
theorem dX3_firstWellBehind_42 : decode cX3_firstWellBehind 42 = .ok (.istore_n 2, 1) := by decide +kernel
theorem dX3_firstWellBehind_43 : decode cX3_firstWellBehind 43 = .ok (.aload_n 0, 1) := by decide +kernel
theorem dX3_firstWellBehind_44 : decode cX3_firstWellBehind 44 = .ok (.getfield 21, 3) := by decide +kernel
theorem dX3_firstWellBehind_47 : decode cX3_firstWellBehind 47 = .ok (.iload 4, 2) := by decide +kernel
theorem dX3_firstWellBehind_49 : decode cX3_firstWellBehind 49 = .ok (.iaload, 1) := by decide +kernel
theorem dX3_firstWellBehind_50 : decode cX3_firstWellBehind 50 = .ok (.istore_n 3, 1) := by decide +kernel
theorem dX3_firstWellBehind_51 : decode cX3_firstWellBehind 51 = .ok (.iinc 4 1, 3) := by decide +kernel
theorem dX3_firstWellBehind_54 : decode cX3_firstWellBehind 54 = .ok (.goto (-45), 3) := by decide +kernel
theorem dX3_firstWellBehind_57 : decode cX3_firstWellBehind 57 = .ok (.iload_n 2, 1) := by decide +kernel
theorem dX3_firstWellBehind_58 : decode cX3_firstWellBehind 58 = .ok (.ireturn, 1) := by decide +kernel
theorem dX0_init_0 : decode cX0_init 0 = .ok (.aload_n 0, 1) := by decide +kernel
theorem dX0_init_1 : decode cX0_init 1 = .ok (.invokespecial 3, 3) := by decide +kernel
theorem dX0_init_4 : decode cX0_init 4 = .ok (.aload_n 0, 1) := by decide +kernel
theorem dX0_init_5 : decode cX0_init 5 = .ok (.bipush 10, 2) := by decide +kernel
theorem dX0_init_7 : decode cX0_init 7 = .ok (.newarray .int, 2) := by decide +kernel
theorem dX0_init_9 : decode cX0_init 9 = .ok (.putfield 9, 3) := by decide +kernel
theorem dX0_init_12 : decode cX0_init 12 = .ok (.aload_n 0, 1) := by decide +kernel
theorem dX0_init_13 : decode cX0_init 13 = .ok (.bipush 10, 2) := by decide +kernel
theorem dX0_init_15 : decode cX0_init 15 = .ok (.newarray .int, 2) := by decide +kernel
theorem dX0_init_17 : decode cX0_init 17 = .ok (.putfield 15, 3) := by decide +kernel
theorem dX0_init_20 : decode cX0_init 20 = .ok (.aload_n 0, 1) := by decide +kernel
theorem dX0_init_21 : decode cX0_init 21 = .ok (.bipush 10, 2) := by decide +kernel
theorem dX0_init_23 : decode cX0_init 23 = .ok (.newarray .int, 2) := by decide +kernel
theorem dX0_init_25 : decode cX0_init 25 = .ok (.putfield 18, 3) := by decide +kernel
theorem dX0_init_28 : decode cX0_init 28 = .ok (.aload_n 0, 1) := by decide +kernel
theorem dX0_init_29 : decode cX0_init 29 = .ok (.bipush 10, 2) := by decide +kernel
theorem dX0_init_31 : decode cX0_init 31 = .ok (.newarray .int, 2) := by decide +kernel
theorem dX0_init_33 : decode cX0_init 33 = .ok (.putfield 21, 3) := by decide +kernel
theorem dX0_init_36 : decode cX0_init 36 = .ok (.aload_n 0, 1) := by decide +kernel
theorem dX0_init_37 : decode cX0_init 37 = .ok (.bipush 10, 2) := by decide +kernel
theorem dX0_init_39 : decode cX0_init 39 = .ok (.newarray .int, 2) := by decide +kernel
theorem dX0_init_41 : decode cX0_init 41 = .ok (.putfield 24, 3) := by decide +kernel
theorem dX0_init_44 : decode cX0_init 44 = .ok (.aload_n 0, 1) := by decide +kernel
theorem dX0_init_45 : decode cX0_init 45 = .ok (.bipush 8, 2) := by decide +kernel
theorem dX0_init_47 : decode cX0_init 47 = .ok (.newarray .int, 2) := by decide +kernel
theorem dX0_init_49 : decode cX0_init 49 = .ok (.putfield 27, 3) := by decide +kernel
theorem dX0_init_52 : decode cX0_init 52 = .ok (.aload_n 0, 1) := by decide +kernel
theorem dX0_init_53 : decode cX0_init 53 = .ok (.bipush 20, 2) := by decide +kernel
theorem dX0_init_55 : decode cX0_init 55 = .ok (.newarray .int, 2) := by decide +kernel
theorem dX0_init_57 : decode cX0_init 57 = .ok (.putfield 30, 3) := by decide +kernel
theorem dX0_init_60 : decode cX0_init 60 = .ok (.aload_n 0, 1) := by decide +kernel
theorem dX0_init_61 : decode cX0_init 61 = .ok (.bipush 20, 2) := by decide +kernel
theorem dX0_init_63 : decode cX0_init 63 = .ok (.newarray .int, 2) := by decide +kernel
theorem dX0_init_65 : decode cX0_init 65 = .ok (.putfield 33, 3) := by decide +kernel
theorem dX0_init_68 : decode cX0_init 68 = .ok (.aload_n 0, 1) := by decide +kernel
theorem dX0_init_69 : decode cX0_init 69 = .ok (.bipush 20, 2) := by decide +kernel
theorem dX0_init_71 : decode cX0_init 71 = .ok (.newarray .int, 2) := by decide +kernel
theorem dX0_init_73 : decode cX0_init 73 = .ok (.putfield 36, 3) := by decide +kernel
theorem dX0_init_76 : decode cX0_init 76 = .ok (.aload_n 0, 1) := by decide +kernel
theorem dX0_init_77 : decode cX0_init 77 = .ok (.bipush 20, 2) := by decide +kernel
theorem dX0_init_79 : decode cX0_init 79 = .ok (.newarray .int, 2) := by decide +kernel
theorem dX0_init_81 : decode cX0_init 81 = .ok (.putfield 39, 3) := by decide +kernel
theorem dX0_init_84 : decode cX0_init 84 = .ok (.aload_n 0, 1) := by decide +kernel
theorem dX0_init_85 : decode cX0_init 85 = .ok (.aload_n 1, 1) := by decide +kernel
theorem dX0_init_86 : decode cX0_init 86 = .ok (.putfield 42, 3) := by decide +kernel
theorem dX0_init_89 : decode cX0_init 89 = .ok (.return_, 1) := by decide +kernel
theorem dX0_copyFrom_0 : decode cX0_copyFrom 0 = .ok (.aload_n 0, 1) := by decide +kernel
theorem dX0_copyFrom_1 : decode cX0_copyFrom 1 = .ok (.aload_n 1, 1) := by decide +kernel
theorem dX0_copyFrom_2 : decode cX0_copyFrom 2 = .ok (.getfield 46, 3) := by decide +kernel
theorem dX0_copyFrom_5 : decode cX0_copyFrom 5 = .ok (.putfield 46, 3) := by decide +kernel
theorem dX0_copyFrom_8 : decode cX0_copyFrom 8 = .ok (.aload_n 0, 1) := by decide +kernel
theorem dX0_copyFrom_9 : decode cX0_copyFrom 9 = .ok (.aload_n 1, 1) := by decide +kernel
theorem dX0_copyFrom_10 : decode cX0_copyFrom 10 = .ok (.getfield 50, 3) := by decide +kernel
theorem dX0_copyFrom_13 : decode cX0_copyFrom 13 = .ok (.putfield 50, 3) := by decide +kernel
theorem dX0_copyFrom_16 : decode cX0_copyFrom 16 = .ok (.aload_n 0, 1) := by decide +kernel
theorem dX0_copyFrom_17 : decode cX0_copyFrom 17 = .ok (.aload_n 1, 1) := by decide +kernel
theorem dX0_copyFrom_18 : decode cX0_copyFrom 18 = .ok (.getfield 53, 3) := by decide +kernel
theorem dX0_copyFrom_21 : decode cX0_copyFrom 21 = .ok (.putfield 53, 3) := by decide +kernel
theorem dX0_copyFrom_24 : decode cX0_copyFrom 24 = .ok (.aload_n 0, 1) := by decide +kernel
theorem dX0_copyFrom_25 : decode cX0_copyFrom 25 = .ok (.aload_n 1, 1) := by decide +kernel
theorem dX0_copyFrom_26 : decode cX0_copyFrom 26 = .ok (.getfield 57, 3) := by decide +kernel
theorem dX0_copyFrom_29 : decode cX0_copyFrom 29 = .ok (.putfield 57, 3) := by decide +kernel
theorem dX0_copyFrom_32 : decode cX0_copyFrom 32 = .ok (.aload_n 0, 1) := by decide +kernel
theorem dX0_copyFrom_33 : decode cX0_copyFrom 33 = .ok (.aload_n 1, 1) := by decide +kernel
theorem dX0_copyFrom_34 : decode cX0_copyFrom 34 = .ok (.getfield 60, 3) := by decide +kernel
theorem dX0_copyFrom_37 : decode cX0_copyFrom 37 = .ok (.putfield 60, 3) := by decide +kernel
theorem dX0_copyFrom_40 : decode cX0_copyFrom 40 = .ok (.aload_n 1, 1) := by decide +kernel
theorem dX0_copyFrom_41 : decode cX0_copyFrom 41 = .ok (.getfield 9, 3) := by decide +kernel
theorem dX0_copyFrom_44 : decode cX0_copyFrom 44 = .ok (.iconst 0, 1) := by decide +kernel
theorem dX0_copyFrom_45 : decode cX0_copyFrom 45 = .ok (.aload_n 0, 1) := by decide +kernel
theorem dX0_copyFrom_46 : decode cX0_copyFrom 46 = .ok (.getfield 9, 3) := by decide +kernel
theorem dX0_copyFrom_49 : decode cX0_copyFrom 49 = .ok (.iconst 0, 1) := by decide +kernel
theorem dX0_copyFrom_50 : decode cX0_copyFrom 50 = .ok (.bipush 10, 2) := by decide +kernel
theorem dX0_copyFrom_52 : decode cX0_copyFrom 52 = .ok (.invokestatic 63, 3) := by decide +kernel
theorem dX0_copyFrom_55 : decode cX0_copyFrom 55 = .ok (.aload_n 1, 1) := by decide +kernel
theorem dX0_copyFrom_56 : decode cX0_copyFrom 56 = .ok (.getfield 15, 3) := by decide +kernel
theorem dX0_copyFrom_59 : decode cX0_copyFrom 59 = .ok (.iconst 0, 1) := by decide +kernel
theorem dX0_copyFrom_60 : decode cX0_copyFrom 60 = .ok (.aload_n 0, 1) := by decide +kernel
theorem dX0_copyFrom_61 : decode cX0_copyFrom 61 = .ok (.getfield 15, 3) := by decide +kernel
theorem dX0_copyFrom_64 : decode cX0_copyFrom 64 = .ok (.iconst 0, 1) := by decide +kernel
theorem dX0_copyFrom_65 : decode cX0_copyFrom 65 = .ok (.bipush 10, 2) := by decide +kernel
theorem dX0_copyFrom_67 : decode cX0_copyFrom 67 = .ok (.invokestatic 63, 3) := by decide +kernel
theorem dX0_copyFrom_70 : decode cX0_copyFrom 70 = .ok (.aload_n 1, 1) := by decide +kernel
theorem dX0_copyFrom_71 : decode cX0_copyFrom 71 = .ok (.getfield 18, 3) := by decide +kernel
theorem dX0_copyFrom_74 : decode cX0_copyFrom 74 = .ok (.iconst 0, 1) := by decide +kernel
theorem dX0_copyFrom_75 : decode cX0_copyFrom 75 = .ok (.aload_n 0, 1) := by decide +kernel
theorem dX0_copyFrom_76 : decode cX0_copyFrom 76 = .ok (.getfield 18, 3) := by decide +kernel
theorem dX0_copyFrom_79 : decode cX0_copyFrom 79 = .ok (.iconst 0, 1) := by decide +kernel
theorem dX0_copyFrom_80 : decode cX0_copyFrom 80 = .ok (.bipush 10, 2) := by decide +kernel
theorem dX0_copyFrom_82 : decode cX0_copyFrom 82 = .ok (.invokestatic 63, 3) := by decide +kernel
theorem dX0_copyFrom_85 : decode cX0_copyFrom 85 = .ok (.aload_n 1, 1) := by decide +kernel
theorem dX0_copyFrom_86 : decode cX0_copyFrom 86 = .ok (.getfield 21, 3) := by decide +kernel
theorem dX0_copyFrom_89 : decode cX0_copyFrom 89 = .ok (.iconst 0, 1) := by decide +kernel
theorem dX0_copyFrom_90 : decode cX0_copyFrom 90 = .ok (.aload_n 0, 1) := by decide +kernel
theorem dX0_copyFrom_91 : decode cX0_copyFrom 91 = .ok (.getfield 21, 3) := by decide +kernel
theorem dX0_copyFrom_94 : decode cX0_copyFrom 94 = .ok (.iconst 0, 1) := by decide +kernel
theorem dX0_copyFrom_95 : decode cX0_copyFrom 95 = .ok (.bipush 10, 2) := by decide +kernel
theorem dX0_copyFrom_97 : decode cX0_copyFrom 97 = .ok (.invokestatic 63, 3) := by decide +kernel
theorem dX0_copyFrom_100 : decode cX0_copyFrom 100 = .ok (.aload_n 1, 1) := by decide +kernel
theorem dX0_copyFrom_101 : decode cX0_copyFrom 101 = .ok (.getfield 24, 3) := by decide +kernel
theorem dX0_copyFrom_104 : decode cX0_copyFrom 104 = .ok (.iconst 0, 1) := by decide +kernel
theorem dX0_copyFrom_105 : decode cX0_copyFrom 105 = .ok (.aload_n 0, 1) := by decide +kernel
theorem dX0_copyFrom_106 : decode cX0_copyFrom 106 = .ok (.getfield 24, 3) := by decide +kernel
theorem dX0_copyFrom_109 : decode cX0_copyFrom 109 = .ok (.iconst 0, 1) := by decide +kernel
theorem dX0_copyFrom_110 : decode cX0_copyFrom 110 = .ok (.bipush 10, 2) := by decide +kernel
theorem dX0_copyFrom_112 : decode cX0_copyFrom 112 = .ok (.invokestatic 63, 3) := by decide +kernel
theorem dX0_copyFrom_115 : decode cX0_copyFrom 115 = .ok (.aload_n 1, 1) := by decide +kernel
theorem dX0_copyFrom_116 : decode cX0_copyFrom 116 = .ok (.getfield 27, 3) := by decide +kernel
theorem dX0_copyFrom_119 : decode cX0_copyFrom 119 = .ok (.iconst 0, 1) := by decide +kernel
theorem dX0_copyFrom_120 : decode cX0_copyFrom 120 = .ok (.aload_n 0, 1) := by decide +kernel
theorem dX0_copyFrom_121 : decode cX0_copyFrom 121 = .ok (.getfield 27, 3) := by decide +kernel
theorem dX0_copyFrom_124 : decode cX0_copyFrom 124 = .ok (.iconst 0, 1) := by decide +kernel
theorem dX0_copyFrom_125 : decode cX0_copyFrom 125 = .ok (.bipush 8, 2) := by decide +kernel
theorem dX0_copyFrom_127 : decode cX0_copyFrom 127 = .ok (.invokestatic 63, 3) := by decide +kernel
theorem dX0_copyFrom_130 : decode cX0_copyFrom 130 = .ok (.aload_n 0, 1) := by decide +kernel
theorem dX0_copyFrom_131 : decode cX0_copyFrom 131 = .ok (.aload_n 1, 1) := by decide +kernel
theorem dX0_copyFrom_132 : decode cX0_copyFrom 132 = .ok (.getfield 69, 3) := by decide +kernel
theorem dX0_copyFrom_135 : decode cX0_copyFrom 135 = .ok (.putfield 69, 3) := by decide +kernel
theorem dX0_copyFrom_138 : decode cX0_copyFrom 138 = .ok (.aload_n 1, 1) := by decide +kernel
theorem dX0_copyFrom_139 : decode cX0_copyFrom 139 = .ok (.getfield 30, 3) := by decide +kernel
theorem dX0_copyFrom_142 : decode cX0_copyFrom 142 = .ok (.iconst 0, 1) := by decide +kernel
theorem dX0_copyFrom_143 : decode cX0_copyFrom 143 = .ok (.aload_n 0, 1) := by decide +kernel
theorem dX0_copyFrom_144 : decode cX0_copyFrom 144 = .ok (.getfield 30, 3) := by decide +kernel
theorem dX0_copyFrom_147 : decode cX0_copyFrom 147 = .ok (.iconst 0, 1) := by decide +kernel
theorem dX0_copyFrom_148 : decode cX0_copyFrom 148 = .ok (.bipush 20, 2) := by decide +kernel
theorem dX0_copyFrom_150 : decode cX0_copyFrom 150 = .ok (.invokestatic 63, 3) := by decide +kernel
theorem dX0_copyFrom_153 : decode cX0_copyFrom 153 = .ok (.aload_n 1, 1) := by decide +kernel
theorem dX0_copyFrom_154 : decode cX0_copyFrom 154 = .ok (.getfield 33, 3) := by decide +kernel
theorem dX0_copyFrom_157 : decode cX0_copyFrom 157 = .ok (.iconst 0, 1) := by decide +kernel
theorem dX0_copyFrom_158 : decode cX0_copyFrom 158 = .ok (.aload_n 0, 1) := by decide +kernel
theorem dX0_copyFrom_159 : decode cX0_copyFrom 159 = .ok (.getfield 33, 3) := by decide +kernel
theorem dX0_copyFrom_162 : decode cX0_copyFrom 162 = .ok (.iconst 0, 1) := by decide +kernel
theorem dX0_copyFrom_163 : decode cX0_copyFrom 163 = .ok (.bipush 20, 2) := by decide +kernel
theorem dX0_copyFrom_165 : decode cX0_copyFrom 165 = .ok (.invokestatic 63, 3) := by decide +kernel
theorem dX0_copyFrom_168 : decode cX0_copyFrom 168 = .ok (.aload_n 1, 1) := by decide +kernel
theorem dX0_copyFrom_169 : decode cX0_copyFrom 169 = .ok (.getfield 36, 3) := by decide +kernel
theorem dX0_copyFrom_172 : decode cX0_copyFrom 172 = .ok (.iconst 0, 1) := by decide +kernel
theorem dX0_copyFrom_173 : decode cX0_copyFrom 173 = .ok (.aload_n 0, 1) := by decide +kernel
theorem dX0_copyFrom_174 : decode cX0_copyFrom 174 = .ok (.getfield 36, 3) := by decide +kernel
theorem dX0_copyFrom_177 : decode cX0_copyFrom 177 = .ok (.iconst 0, 1) := by decide +kernel
theorem dX0_copyFrom_178 : decode cX0_copyFrom 178 = .ok (.bipush 20, 2) := by decide +kernel
theorem dX0_copyFrom_180 : decode cX0_copyFrom 180 = .ok (.invokestatic 63, 3) := by decide +kernel
theorem dX0_copyFrom_183 : decode cX0_copyFrom 183 = .ok (.aload_n 1, 1) := by decide +kernel
theorem dX0_copyFrom_184 : decode cX0_copyFrom 184 = .ok (.getfield 39, 3) := by decide +kernel
theorem dX0_copyFrom_187 : decode cX0_copyFrom 187 = .ok (.iconst 0, 1) := by decide +kernel
theorem dX0_copyFrom_188 : decode cX0_copyFrom 188 = .ok (.aload_n 0, 1) := by decide +kernel
theorem dX0_copyFrom_189 : decode cX0_copyFrom 189 = .ok (.getfield 39, 3) := by decide +kernel
theorem dX0_copyFrom_192 : decode cX0_copyFrom 192 = .ok (.iconst 0, 1) := by decide +kernel
theorem dX0_copyFrom_193 : decode cX0_copyFrom 193 = .ok (.bipush 20, 2) := by decide +kernel
theorem dX0_copyFrom_195 : decode cX0_copyFrom 195 = .ok (.invokestatic 63, 3) := by decide +kernel
theorem dX0_copyFrom_198 : decode cX0_copyFrom 198 = .ok (.return_, 1) := by decide +kernel
theorem dX0_setOut_0 : decode cX0_setOut 0 = .ok (.aload_n 0, 1) := by decide +kernel
theorem dX0_setOut_1 : decode cX0_setOut 1 = .ok (.iconst 0, 1) := by decide +kernel
theorem dX0_setOut_2 : decode cX0_setOut 2 = .ok (.putfield 46, 3) := by decide +kernel
theorem dX0_setOut_5 : decode cX0_setOut 5 = .ok (.aload_n 0, 1) := by decide +kernel
theorem dX0_setOut_6 : decode cX0_setOut 6 = .ok (.iconst 0, 1) := by decide +kernel
theorem dX0_setOut_7 : decode cX0_setOut 7 = .ok (.putfield 50, 3) := by decide +kernel
theorem dX0_setOut_10 : decode cX0_setOut 10 = .ok (.aload_n 0, 1) := by decide +kernel
theorem dX0_setOut_11 : decode cX0_setOut 11 = .ok (.iconst 0, 1) := by decide +kernel
theorem dX0_setOut_12 : decode cX0_setOut 12 = .ok (.putfield 53, 3) := by decide +kernel
theorem dX0_setOut_15 : decode cX0_setOut 15 = .ok (.aload_n 0, 1) := by decide +kernel
theorem dX0_setOut_16 : decode cX0_setOut 16 = .ok (.iconst 0, 1) := by decide +kernel
theorem dX0_setOut_17 : decode cX0_setOut 17 = .ok (.putfield 57, 3) := by decide +kernel
theorem dX0_setOut_20 : decode cX0_setOut 20 = .ok (.aload_n 0, 1) := by decide +kernel
theorem dX0_setOut_21 : decode cX0_setOut 21 = .ok (.iconst 0, 1) := by decide +kernel
theorem dX0_setOut_22 : decode cX0_setOut 22 = .ok (.putfield 60, 3) := by decide +kernel
theorem dX0_setOut_25 : decode cX0_setOut 25 = .ok (.aload_n 0, 1) := by decide +kernel
theorem dX0_setOut_26 : decode cX0_setOut 26 = .ok (.iconst 0, 1) := by decide +kernel
theorem dX0_setOut_27 : decode cX0_setOut 27 = .ok (.putfield 69, 3) := by decide +kernel
theorem dX0_setOut_30 : decode cX0_setOut 30 = .ok (.iconst 0, 1) := by decide +kernel
theorem dX0_setOut_31 : decode cX0_setOut 31 = .ok (.istore_n 1, 1) := by decide +kernel
theorem dX0_setOut_32 : decode cX0_setOut 32 = .ok (.iload_n 1, 1) := by decide +kernel
theorem dX0_setOut_33 : decode cX0_setOut 33 = .ok (.aload_n 0, 1) := by decide +kernel
theorem dX0_setOut_34 : decode cX0_setOut 34 = .ok (.getfield 42, 3) := by decide +kernel
theorem dX0_setOut_37 : decode cX0_setOut 37 = .ok (.getfield 72, 3) := by decide +kernel
theorem dX0_setOut_40 : decode cX0_setOut 40 = .ok (.if_icmp .ge 52, 3) := by decide +kernel
theorem dX0_setOut_43 : decode cX0_setOut 43 = .ok (.aload_n 0, 1) := by decide +kernel
theorem dX0_setOut_44 : decode cX0_setOut 44 = .ok (.getfield 9, 3) := by decide +kernel
theorem dX0_setOut_47 : decode cX0_setOut 47 = .ok (.iload_n 1, 1) := by decide +kernel
theorem dX0_setOut_48 : decode cX0_setOut 48 = .ok (.aload_n 0, 1) := by decide +kernel
theorem dX0_setOut_49 : decode cX0_setOut 49 = .ok (.getfield 42, 3) := by decide +kernel
theorem dX0_setOut_52 : decode cX0_setOut 52 = .ok (.getfield 77, 3) := by decide +kernel
theorem dX0_setOut_55 : decode cX0_setOut 55 = .ok (.iload_n 1, 1) := by decide +kernel
theorem dX0_setOut_56 : decode cX0_setOut 56 = .ok (.iaload, 1) := by decide +kernel
theorem dX0_setOut_57 : decode cX0_setOut 57 = .ok (.iastore, 1) := by decide +kernel
theorem dX0_setOut_58 : decode cX0_setOut 58 = .ok (.aload_n 0, 1) := by decide +kernel
theorem dX0_setOut_59 : decode cX0_setOut 59 = .ok (.getfield 15, 3) := by decide +kernel
theorem dX0_setOut_62 : decode cX0_setOut 62 = .ok (.iload_n 1, 1) := by decide +kernel
theorem dX0_setOut_63 : decode cX0_setOut 63 = .ok (.iconst 0, 1) := by decide +kernel
theorem dX0_setOut_64 : decode cX0_setOut 64 = .ok (.iastore, 1) := by decide +kernel
theorem dX0_setOut_65 : decode cX0_setOut 65 = .ok (.aload_n 0, 1) := by decide +kernel
theorem dX0_setOut_66 : decode cX0_setOut 66 = .ok (.getfield 18, 3) := by decide +kernel
theorem dX0_setOut_69 : decode cX0_setOut 69 = .ok (.iload_n 1, 1) := by decide +kernel
theorem dX0_setOut_70 : decode cX0_setOut 70 = .ok (.iconst 0, 1) := by decide +kernel
theorem dX0_setOut_71 : decode cX0_setOut 71 = .ok (.iastore, 1) := by decide +kernel
theorem dX0_setOut_72 : decode cX0_setOut 72 = .ok (.aload_n 0, 1) := by decide +kernel
theorem dX0_setOut_73 : decode cX0_setOut 73 = .ok (.getfield 21, 3) := by decide +kernel
theorem dX0_setOut_76 : decode cX0_setOut 76 = .ok (.iload_n 1, 1) := by decide +kernel
theorem dX0_setOut_77 : decode cX0_setOut 77 = .ok (.iconst 0, 1) := by decide +kernel
theorem dX0_setOut_78 : decode cX0_setOut 78 = .ok (.iastore, 1) := by decide +kernel
theorem dX0_setOut_79 : decode cX0_setOut 79 = .ok (.aload_n 0, 1) := by decide +kernel
theorem dX0_setOut_80 : decode cX0_setOut 80 = .ok (.getfield 24, 3) := by decide +kernel
theorem dX0_setOut_83 : decode cX0_setOut 83 = .ok (.iload_n 1, 1) := by decide +kernel
theorem dX0_setOut_84 : decode cX0_setOut 84 = .ok (.iconst 0, 1) := by decide +kernel
theorem dX0_setOut_85 : decode cX0_setOut 85 = .ok (.iastore, 1) := by decide +kernel
theorem dX0_setOut_86 : decode cX0_setOut 86 = .ok (.iinc 1 1, 3) := by decide +kernel
theorem dX0_setOut_89 : decode cX0_setOut 89 = .ok (.goto (-57), 3) := by decide +kernel
theorem dX0_setOut_92 : decode cX0_setOut 92 = .ok (.iconst 0, 1) := by decide +kernel
theorem dX0_setOut_93 : decode cX0_setOut 93 = .ok (.istore_n 1, 1) := by decide +kernel
theorem dX0_setOut_94 : decode cX0_setOut 94 = .ok (.iload_n 1, 1) := by decide +kernel
theorem dX0_setOut_95 : decode cX0_setOut 95 = .ok (.aload_n 0, 1) := by decide +kernel
theorem dX0_setOut_96 : decode cX0_setOut 96 = .ok (.getfield 42, 3) := by decide +kernel
theorem dX0_setOut_99 : decode cX0_setOut 99 = .ok (.getfield 80, 3) := by decide +kernel
theorem dX0_setOut_102 : decode cX0_setOut 102 = .ok (.if_icmp .ge 24, 3) := by decide +kernel
theorem dX0_setOut_105 : decode cX0_setOut 105 = .ok (.aload_n 0, 1) := by decide +kernel
theorem dX0_setOut_106 : decode cX0_setOut 106 = .ok (.getfield 27, 3) := by decide +kernel
theorem dX0_setOut_109 : decode cX0_setOut 109 = .ok (.iload_n 1, 1) := by decide +kernel
theorem dX0_setOut_110 : decode cX0_setOut 110 = .ok (.aload_n 0, 1) := by decide +kernel
theorem dX0_setOut_111 : decode cX0_setOut 111 = .ok (.getfield 42, 3) := by decide +kernel
theorem dX0_setOut_114 : decode cX0_setOut 114 = .ok (.getfield 83, 3) := by decide +kernel
theorem dX0_setOut_117 : decode cX0_setOut 117 = .ok (.iload_n 1, 1) := by decide +kernel
theorem dX0_setOut_118 : decode cX0_setOut 118 = .ok (.iaload, 1) := by decide +kernel
theorem dX0_setOut_119 : decode cX0_setOut 119 = .ok (.iastore, 1) := by decide +kernel
theorem dX0_setOut_120 : decode cX0_setOut 120 = .ok (.iinc 1 1, 3) := by decide +kernel
theorem dX0_setOut_123 : decode cX0_setOut 123 = .ok (.goto (-29), 3) := by decide +kernel
theorem dX0_setOut_126 : decode cX0_setOut 126 = .ok (.return_, 1) := by decide +kernel
theorem dX0_isAtEnd_0 : decode cX0_isAtEnd 0 = .ok (.aload_n 0, 1) := by decide +kernel
theorem dX0_isAtEnd_1 : decode cX0_isAtEnd 1 = .ok (.getfield 46, 3) := by decide +kernel
theorem dX0_isAtEnd_4 : decode cX0_isAtEnd 4 = .ok (.aload_n 0, 1) := by decide +kernel
theorem dX0_isAtEnd_5 : decode cX0_isAtEnd 5 = .ok (.getfield 42, 3) := by decide +kernel
theorem dX0_isAtEnd_8 : decode cX0_isAtEnd 8 = .ok (.getfield 86, 3) := by decide +kernel
theorem dX0_isAtEnd_11 : decode cX0_isAtEnd 11 = .ok (.if_icmp .lt 7, 3) := by decide +kernel
theorem dX0_isAtEnd_14 : decode cX0_isAtEnd 14 = .ok (.iconst 1, 1) := by decide +kernel
theorem dX0_isAtEnd_15 : decode cX0_isAtEnd 15 = .ok (.goto 4, 3) := by decide +kernel
theorem dX0_isAtEnd_18 : decode cX0_isAtEnd 18 = .ok (.iconst 0, 1) := by decide +kernel
theorem dX0_isAtEnd_19 : decode cX0_isAtEnd 19 = .ok (.ireturn, 1) := by decide +kernel
theorem dX0_canRest_0 : decode cX0_canRest 0 = .ok (.aload_n 0, 1) := by decide +kernel
theorem dX0_canRest_1 : decode cX0_canRest 1 = .ok (.getfield 50, 3) := by decide +kernel
theorem dX0_canRest_4 : decode cX0_canRest 4 = .ok (.sipush 200, 3) := by decide +kernel
theorem dX0_canRest_7 : decode cX0_canRest 7 = .ok (.if_icmp .ge 14, 3) := by decide +kernel
theorem dX0_canRest_10 : decode cX0_canRest 10 = .ok (.aload_n 0, 1) := by decide +kernel
theorem dX0_canRest_11 : decode cX0_canRest 11 = .ok (.invokevirtual 89, 3) := by decide +kernel
theorem dX0_canRest_14 : decode cX0_canRest 14 = .ok (.ifCond .le 7, 3) := by decide +kernel
theorem dX0_canRest_17 : decode cX0_canRest 17 = .ok (.iconst 1, 1) := by decide +kernel
theorem dX0_canRest_18 : decode cX0_canRest 18 = .ok (.goto 4, 3) := by decide +kernel
theorem dX0_canRest_21 : decode cX0_canRest 21 = .ok (.iconst 0, 1) := by decide +kernel
theorem dX0_canRest_22 : decode cX0_canRest 22 = .ok (.ireturn, 1) := by decide +kernel
theorem dX0_canTravel_0 : decode cX0_canTravel 0 = .ok (.aload_n 0, 1) := by decide +kernel
theorem dX0_canTravel_1 : decode cX0_canTravel 1 = .ok (.invokevirtual 93, 3) := by decide +kernel
theorem dX0_canTravel_4 : decode cX0_canTravel 4 = .ok (.ifCond .ne 14, 3) := by decide +kernel
theorem dX0_canTravel_7 : decode cX0_canTravel 7 = .ok (.aload_n 0, 1) := by decide +kernel
theorem dX0_canTravel_8 : decode cX0_canTravel 8 = .ok (.invokevirtual 97, 3) := by decide +kernel
theorem dX0_canTravel_11 : decode cX0_canTravel 11 = .ok (.ifCond .eq 7, 3) := by decide +kernel
theorem dX0_canTravel_14 : decode cX0_canTravel 14 = .ok (.iconst 1, 1) := by decide +kernel
theorem dX0_canTravel_15 : decode cX0_canTravel 15 = .ok (.goto 4, 3) := by decide +kernel
theorem dX0_canTravel_18 : decode cX0_canTravel 18 = .ok (.iconst 0, 1) := by decide +kernel
theorem dX0_canTravel_19 : decode cX0_canTravel 19 = .ok (.ireturn, 1) := by decide +kernel
theorem dX0_isLiving_0 : decode cX0_isLiving 0 = .ok (.aload_n 0, 1) := by decide +kernel
theorem dX0_isLiving_1 : decode cX0_isLiving 1 = .ok (.getfield 42, 3) := by decide +kernel
theorem dX0_isLiving_4 : decode cX0_isLiving 4 = .ok (.iload_n 1, 1) := by decide +kernel
theorem dX0_isLiving_5 : decode cX0_isLiving 5 = .ok (.invokevirtual 100, 3) := by decide +kernel
theorem dX0_isLiving_8 : decode cX0_isLiving 8 = .ok (.ifCond .eq 17, 3) := by decide +kernel
theorem dX0_isLiving_11 : decode cX0_isLiving 11 = .ok (.aload_n 0, 1) := by decide +kernel
theorem dX0_isLiving_12 : decode cX0_isLiving 12 = .ok (.getfield 21, 3) := by decide +kernel
theorem dX0_isLiving_15 : decode cX0_isLiving 15 = .ok (.iload_n 1, 1) := by decide +kernel
theorem dX0_isLiving_16 : decode cX0_isLiving 16 = .ok (.iaload, 1) := by decide +kernel
theorem dX0_isLiving_17 : decode cX0_isLiving 17 = .ok (.iconst 3, 1) := by decide +kernel
theorem dX0_isLiving_18 : decode cX0_isLiving 18 = .ok (.if_icmp .ge 7, 3) := by decide +kernel
theorem dX0_isLiving_21 : decode cX0_isLiving 21 = .ok (.iconst 1, 1) := by decide +kernel
theorem dX0_isLiving_22 : decode cX0_isLiving 22 = .ok (.goto 4, 3) := by decide +kernel
theorem dX0_isLiving_25 : decode cX0_isLiving 25 = .ok (.iconst 0, 1) := by decide +kernel
theorem dX0_isLiving_26 : decode cX0_isLiving 26 = .ok (.ireturn, 1) := by decide +kernel
theorem dX0_countLiving_0 : decode cX0_countLiving 0 = .ok (.iconst 0, 1) := by decide +kernel
theorem dX0_countLiving_1 : decode cX0_countLiving 1 = .ok (.istore_n 1, 1) := by decide +kernel
theorem dX0_countLiving_2 : decode cX0_countLiving 2 = .ok (.iconst 0, 1) := by decide +kernel
theorem dX0_countLiving_3 : decode cX0_countLiving 3 = .ok (.istore_n 2, 1) := by decide +kernel
theorem dX0_countLiving_4 : decode cX0_countLiving 4 = .ok (.iload_n 2, 1) := by decide +kernel
theorem dX0_countLiving_5 : decode cX0_countLiving 5 = .ok (.aload_n 0, 1) := by decide +kernel
theorem dX0_countLiving_6 : decode cX0_countLiving 6 = .ok (.getfield 42, 3) := by decide +kernel
theorem dX0_countLiving_9 : decode cX0_countLiving 9 = .ok (.getfield 72, 3) := by decide +kernel
theorem dX0_countLiving_12 : decode cX0_countLiving 12 = .ok (.if_icmp .ge 20, 3) := by decide +kernel
theorem dX0_countLiving_15 : decode cX0_countLiving 15 = .ok (.aload_n 0, 1) := by decide +kernel
theorem dX0_countLiving_16 : decode cX0_countLiving 16 = .ok (.iload_n 2, 1) := by decide +kernel
theorem dX0_countLiving_17 : decode cX0_countLiving 17 = .ok (.invokevirtual 104, 3) := by decide +kernel
theorem dX0_countLiving_20 : decode cX0_countLiving 20 = .ok (.ifCond .eq 6, 3) := by decide +kernel
theorem dX0_countLiving_23 : decode cX0_countLiving 23 = .ok (.iinc 1 1, 3) := by decide +kernel
theorem dX0_countLiving_26 : decode cX0_countLiving 26 = .ok (.iinc 2 1, 3) := by decide +kernel
theorem dX0_countLiving_29 : decode cX0_countLiving 29 = .ok (.goto (-25), 3) := by decide +kernel
theorem dX0_countLiving_32 : decode cX0_countLiving 32 = .ok (.iload_n 1, 1) := by decide +kernel
theorem dX0_countLiving_33 : decode cX0_countLiving 33 = .ok (.ireturn, 1) := by decide +kernel
theorem dX0_leastWatered_0 : decode cX0_leastWatered 0 = .ok (.iconst (-1), 1) := by decide +kernel
theorem dX0_leastWatered_1 : decode cX0_leastWatered 1 = .ok (.istore_n 1, 1) := by decide +kernel
theorem dX0_leastWatered_2 : decode cX0_leastWatered 2 = .ok (.iconst 0, 1) := by decide +kernel
theorem dX0_leastWatered_3 : decode cX0_leastWatered 3 = .ok (.istore_n 2, 1) := by decide +kernel
theorem dX0_leastWatered_4 : decode cX0_leastWatered 4 = .ok (.iload_n 2, 1) := by decide +kernel
theorem dX0_leastWatered_5 : decode cX0_leastWatered 5 = .ok (.aload_n 0, 1) := by decide +kernel
theorem dX0_leastWatered_6 : decode cX0_leastWatered 6 = .ok (.getfield 42, 3) := by decide +kernel
theorem dX0_leastWatered_9 : decode cX0_leastWatered 9 = .ok (.getfield 72, 3) := by decide +kernel
theorem dX0_leastWatered_12 : decode cX0_leastWatered 12 = .ok (.if_icmp .ge 39, 3) := by decide +kernel
theorem dX0_leastWatered_15 : decode cX0_leastWatered 15 = .ok (.aload_n 0, 1) := by decide +kernel
theorem dX0_leastWatered_16 : decode cX0_leastWatered 16 = .ok (.iload_n 2, 1) := by decide +kernel
theorem dX0_leastWatered_17 : decode cX0_leastWatered 17 = .ok (.invokevirtual 104, 3) := by decide +kernel
theorem dX0_leastWatered_20 : decode cX0_leastWatered 20 = .ok (.ifCond .eq 25, 3) := by decide +kernel
theorem dX0_leastWatered_23 : decode cX0_leastWatered 23 = .ok (.iload_n 1, 1) := by decide +kernel
theorem dX0_leastWatered_24 : decode cX0_leastWatered 24 = .ok (.iconst (-1), 1) := by decide +kernel
theorem dX0_leastWatered_25 : decode cX0_leastWatered 25 = .ok (.if_icmp .eq 18, 3) := by decide +kernel
theorem dX0_leastWatered_28 : decode cX0_leastWatered 28 = .ok (.aload_n 0, 1) := by decide +kernel
theorem dX0_leastWatered_29 : decode cX0_leastWatered 29 = .ok (.getfield 9, 3) := by decide +kernel
theorem dX0_leastWatered_32 : decode cX0_leastWatered 32 = .ok (.iload_n 2, 1) := by decide +kernel
theorem dX0_leastWatered_33 : decode cX0_leastWatered 33 = .ok (.iaload, 1) := by decide +kernel
theorem dX0_leastWatered_34 : decode cX0_leastWatered 34 = .ok (.aload_n 0, 1) := by decide +kernel
theorem dX0_leastWatered_35 : decode cX0_leastWatered 35 = .ok (.getfield 9, 3) := by decide +kernel
theorem dX0_leastWatered_38 : decode cX0_leastWatered 38 = .ok (.iload_n 1, 1) := by decide +kernel
theorem dX0_leastWatered_39 : decode cX0_leastWatered 39 = .ok (.iaload, 1) := by decide +kernel
theorem dX0_leastWatered_40 : decode cX0_leastWatered 40 = .ok (.if_icmp .ge 5, 3) := by decide +kernel
theorem dX0_leastWatered_43 : decode cX0_leastWatered 43 = .ok (.iload_n 2, 1) := by decide +kernel
theorem dX0_leastWatered_44 : decode cX0_leastWatered 44 = .ok (.istore_n 1, 1) := by decide +kernel
theorem dX0_leastWatered_45 : decode cX0_leastWatered 45 = .ok (.iinc 2 1, 3) := by decide +kernel
theorem dX0_leastWatered_48 : decode cX0_leastWatered 48 = .ok (.goto (-44), 3) := by decide +kernel
theorem dX0_leastWatered_51 : decode cX0_leastWatered 51 = .ok (.iload_n 1, 1) := by decide +kernel
theorem dX0_leastWatered_52 : decode cX0_leastWatered 52 = .ok (.ireturn, 1) := by decide +kernel
theorem dX0_quickest_0 : decode cX0_quickest 0 = .ok (.iconst (-1), 1) := by decide +kernel
theorem dX0_quickest_1 : decode cX0_quickest 1 = .ok (.istore_n 1, 1) := by decide +kernel
theorem dX0_quickest_2 : decode cX0_quickest 2 = .ok (.iconst 0, 1) := by decide +kernel
theorem dX0_quickest_3 : decode cX0_quickest 3 = .ok (.istore_n 2, 1) := by decide +kernel
theorem dX0_quickest_4 : decode cX0_quickest 4 = .ok (.iconst 0, 1) := by decide +kernel
theorem dX0_quickest_5 : decode cX0_quickest 5 = .ok (.istore_n 3, 1) := by decide +kernel
theorem dX0_quickest_6 : decode cX0_quickest 6 = .ok (.iload_n 3, 1) := by decide +kernel
theorem dX0_quickest_7 : decode cX0_quickest 7 = .ok (.aload_n 0, 1) := by decide +kernel
theorem dX0_quickest_8 : decode cX0_quickest 8 = .ok (.getfield 42, 3) := by decide +kernel
theorem dX0_quickest_11 : decode cX0_quickest 11 = .ok (.getfield 72, 3) := by decide +kernel
theorem dX0_quickest_14 : decode cX0_quickest 14 = .ok (.if_icmp .ge 34, 3) := by decide +kernel
theorem dX0_quickest_17 : decode cX0_quickest 17 = .ok (.aload_n 0, 1) := by decide +kernel
theorem dX0_quickest_18 : decode cX0_quickest 18 = .ok (.iload_n 3, 1) := by decide +kernel
theorem dX0_quickest_19 : decode cX0_quickest 19 = .ok (.invokevirtual 104, 3) := by decide +kernel
theorem dX0_quickest_22 : decode cX0_quickest 22 = .ok (.ifCond .eq 20, 3) := by decide +kernel
theorem dX0_quickest_25 : decode cX0_quickest 25 = .ok (.aload_n 0, 1) := by decide +kernel
theorem dX0_quickest_26 : decode cX0_quickest 26 = .ok (.iload_n 3, 1) := by decide +kernel
theorem dX0_quickest_27 : decode cX0_quickest 27 = .ok (.invokevirtual 107, 3) := by decide +kernel
theorem dX0_quickest_30 : decode cX0_quickest 30 = .ok (.iload_n 2, 1) := by decide +kernel
theorem dX0_quickest_31 : decode cX0_quickest 31 = .ok (.if_icmp .le 11, 3) := by decide +kernel
theorem dX0_quickest_34 : decode cX0_quickest 34 = .ok (.iload_n 3, 1) := by decide +kernel
theorem dX0_quickest_35 : decode cX0_quickest 35 = .ok (.istore_n 1, 1) := by decide +kernel
theorem dX0_quickest_36 : decode cX0_quickest 36 = .ok (.aload_n 0, 1) := by decide +kernel
theorem dX0_quickest_37 : decode cX0_quickest 37 = .ok (.iload_n 3, 1) := by decide +kernel
theorem dX0_quickest_38 : decode cX0_quickest 38 = .ok (.invokevirtual 107, 3) := by decide +kernel
theorem dX0_quickest_41 : decode cX0_quickest 41 = .ok (.istore_n 2, 1) := by decide +kernel
theorem dX0_quickest_42 : decode cX0_quickest 42 = .ok (.iinc 3 1, 3) := by decide +kernel
theorem dX0_quickest_45 : decode cX0_quickest 45 = .ok (.goto (-39), 3) := by decide +kernel
theorem dX0_quickest_48 : decode cX0_quickest 48 = .ok (.iload_n 1, 1) := by decide +kernel
theorem dX0_quickest_49 : decode cX0_quickest 49 = .ok (.ireturn, 1) := by decide +kernel
theorem dX0_speedOf_0 : decode cX0_speedOf 0 = .ok (.aload_n 0, 1) := by decide +kernel
theorem dX0_speedOf_1 : decode cX0_speedOf 1 = .ok (.getfield 42, 3) := by decide +kernel
theorem dX0_speedOf_4 : decode cX0_speedOf 4 = .ok (.iload_n 1, 1) := by decide +kernel
theorem dX0_speedOf_5 : decode cX0_speedOf 5 = .ok (.invokevirtual 100, 3) := by decide +kernel
theorem dX0_speedOf_8 : decode cX0_speedOf 8 = .ok (.ifCond .ne 5, 3) := by decide +kernel
theorem dX0_speedOf_11 : decode cX0_speedOf 11 = .ok (.iconst 5, 1) := by decide +kernel
theorem dX0_speedOf_12 : decode cX0_speedOf 12 = .ok (.ireturn, 1) := by decide +kernel
theorem dX0_speedOf_13 : decode cX0_speedOf 13 = .ok (.aload_n 0, 1) := by decide +kernel
theorem dX0_speedOf_14 : decode cX0_speedOf 14 = .ok (.getfield 18, 3) := by decide +kernel
theorem dX0_speedOf_17 : decode cX0_speedOf 17 = .ok (.iload_n 1, 1) := by decide +kernel
theorem dX0_speedOf_18 : decode cX0_speedOf 18 = .ok (.iaload, 1) := by decide +kernel
theorem dX0_speedOf_19 : decode cX0_speedOf 19 = .ok (.ifCond .le 17, 3) := by decide +kernel
theorem dX0_speedOf_22 : decode cX0_speedOf 22 = .ok (.aload_n 0, 1) := by decide +kernel
theorem dX0_speedOf_23 : decode cX0_speedOf 23 = .ok (.getfield 42, 3) := by decide +kernel
theorem dX0_speedOf_26 : decode cX0_speedOf 26 = .ok (.getfield 111, 3) := by decide +kernel
theorem dX0_speedOf_29 : decode cX0_speedOf 29 = .ok (.iload_n 1, 1) := by decide +kernel
theorem dX0_speedOf_30 : decode cX0_speedOf 30 = .ok (.iaload, 1) := by decide +kernel
theorem dX0_speedOf_31 : decode cX0_speedOf 31 = .ok (.iconst 2, 1) := by decide +kernel
theorem dX0_speedOf_32 : decode cX0_speedOf 32 = .ok (.idiv, 1) := by decide +kernel
theorem dX0_speedOf_33 : decode cX0_speedOf 33 = .ok (.goto 12, 3) := by decide +kernel
theorem dX0_speedOf_36 : decode cX0_speedOf 36 = .ok (.aload_n 0, 1) := by decide +kernel
theorem dX0_speedOf_37 : decode cX0_speedOf 37 = .ok (.getfield 42, 3) := by decide +kernel
theorem dX0_speedOf_40 : decode cX0_speedOf 40 = .ok (.getfield 111, 3) := by decide +kernel
theorem dX0_speedOf_43 : decode cX0_speedOf 43 = .ok (.iload_n 1, 1) := by decide +kernel
theorem dX0_speedOf_44 : decode cX0_speedOf 44 = .ok (.iaload, 1) := by decide +kernel
theorem dX0_speedOf_45 : decode cX0_speedOf 45 = .ok (.istore_n 2, 1) := by decide +kernel
theorem dX0_speedOf_46 : decode cX0_speedOf 46 = .ok (.iconst 5, 1) := by decide +kernel
theorem dX0_speedOf_47 : decode cX0_speedOf 47 = .ok (.iload_n 2, 1) := by decide +kernel
theorem dX0_speedOf_48 : decode cX0_speedOf 48 = .ok (.aload_n 0, 1) := by decide +kernel
theorem dX0_speedOf_49 : decode cX0_speedOf 49 = .ok (.getfield 24, 3) := by decide +kernel
theorem dX0_speedOf_52 : decode cX0_speedOf 52 = .ok (.iload_n 1, 1) := by decide +kernel
theorem dX0_speedOf_53 : decode cX0_speedOf 53 = .ok (.iaload, 1) := by decide +kernel
theorem dX0_speedOf_54 : decode cX0_speedOf 54 = .ok (.bipush 10, 2) := by decide +kernel
theorem dX0_speedOf_56 : decode cX0_speedOf 56 = .ok (.idiv, 1) := by decide +kernel
theorem dX0_speedOf_57 : decode cX0_speedOf 57 = .ok (.isub, 1) := by decide +kernel
theorem dX0_speedOf_58 : decode cX0_speedOf 58 = .ok (.invokestatic 114, 3) := by decide +kernel
theorem dX0_speedOf_61 : decode cX0_speedOf 61 = .ok (.ireturn, 1) := by decide +kernel
theorem dX0_freeOn_0 : decode cX0_freeOn 0 = .ok (.aload_n 0, 1) := by decide +kernel
theorem dX0_freeOn_1 : decode cX0_freeOn 1 = .ok (.getfield 42, 3) := by decide +kernel
theorem dX0_freeOn_4 : decode cX0_freeOn 4 = .ok (.iload_n 1, 1) := by decide +kernel
theorem dX0_freeOn_5 : decode cX0_freeOn 5 = .ok (.invokevirtual 100, 3) := by decide +kernel
theorem dX0_freeOn_8 : decode cX0_freeOn 8 = .ok (.ifCond .ne 5, 3) := by decide +kernel
theorem dX0_freeOn_11 : decode cX0_freeOn 11 = .ok (.iconst 0, 1) := by decide +kernel
theorem dX0_freeOn_12 : decode cX0_freeOn 12 = .ok (.ireturn, 1) := by decide +kernel
theorem dX0_freeOn_13 : decode cX0_freeOn 13 = .ok (.aload_n 0, 1) := by decide +kernel
theorem dX0_freeOn_14 : decode cX0_freeOn 14 = .ok (.getfield 42, 3) := by decide +kernel
theorem dX0_freeOn_17 : decode cX0_freeOn 17 = .ok (.getfield 120, 3) := by decide +kernel
theorem dX0_freeOn_20 : decode cX0_freeOn 20 = .ok (.iload_n 1, 1) := by decide +kernel
theorem dX0_freeOn_21 : decode cX0_freeOn 21 = .ok (.iaload, 1) := by decide +kernel
theorem dX0_freeOn_22 : decode cX0_freeOn 22 = .ok (.bipush 20, 2) := by decide +kernel
theorem dX0_freeOn_24 : decode cX0_freeOn 24 = .ok (.imul, 1) := by decide +kernel
theorem dX0_freeOn_25 : decode cX0_freeOn 25 = .ok (.aload_n 0, 1) := by decide +kernel
theorem dX0_freeOn_26 : decode cX0_freeOn 26 = .ok (.getfield 24, 3) := by decide +kernel
theorem dX0_freeOn_29 : decode cX0_freeOn 29 = .ok (.iload_n 1, 1) := by decide +kernel
theorem dX0_freeOn_30 : decode cX0_freeOn 30 = .ok (.iaload, 1) := by decide +kernel
theorem dX0_freeOn_31 : decode cX0_freeOn 31 = .ok (.isub, 1) := by decide +kernel
theorem dX0_freeOn_32 : decode cX0_freeOn 32 = .ok (.ireturn, 1) := by decide +kernel
theorem dX0_hasLoad_0 : decode cX0_hasLoad 0 = .ok (.iload_n 1, 1) := by decide +kernel
theorem dX0_hasLoad_1 : decode cX0_hasLoad 1 = .ok (.ifCond .lt 15, 3) := by decide +kernel
theorem dX0_hasLoad_4 : decode cX0_hasLoad 4 = .ok (.iload_n 1, 1) := by decide +kernel
theorem dX0_hasLoad_5 : decode cX0_hasLoad 5 = .ok (.aload_n 0, 1) := by decide +kernel
theorem dX0_hasLoad_6 : decode cX0_hasLoad 6 = .ok (.getfield 69, 3) := by decide +kernel
theorem dX0_hasLoad_9 : decode cX0_hasLoad 9 = .ok (.if_icmp .ge 7, 3) := by decide +kernel
theorem dX0_hasLoad_12 : decode cX0_hasLoad 12 = .ok (.iconst 1, 1) := by decide +kernel
theorem dX0_hasLoad_13 : decode cX0_hasLoad 13 = .ok (.goto 4, 3) := by decide +kernel
theorem dX0_hasLoad_16 : decode cX0_hasLoad 16 = .ok (.iconst 0, 1) := by decide +kernel
theorem dX0_hasLoad_17 : decode cX0_hasLoad 17 = .ok (.ireturn, 1) := by decide +kernel
theorem dX0_whereIs_0 : decode cX0_whereIs 0 = .ok (.aload_n 0, 1) := by decide +kernel
theorem dX0_whereIs_1 : decode cX0_whereIs 1 = .ok (.iload_n 1, 1) := by decide +kernel
theorem dX0_whereIs_2 : decode cX0_whereIs 2 = .ok (.invokevirtual 123, 3) := by decide +kernel
theorem dX0_whereIs_5 : decode cX0_whereIs 5 = .ok (.ifCond .ne 5, 3) := by decide +kernel
theorem dX0_whereIs_8 : decode cX0_whereIs 8 = .ok (.iconst (-1), 1) := by decide +kernel
theorem dX0_whereIs_9 : decode cX0_whereIs 9 = .ok (.ireturn, 1) := by decide +kernel
theorem dX0_whereIs_10 : decode cX0_whereIs 10 = .ok (.aload_n 0, 1) := by decide +kernel
theorem dX0_whereIs_11 : decode cX0_whereIs 11 = .ok (.getfield 36, 3) := by decide +kernel
theorem dX0_whereIs_14 : decode cX0_whereIs 14 = .ok (.iload_n 1, 1) := by decide +kernel
theorem dX0_whereIs_15 : decode cX0_whereIs 15 = .ok (.iaload, 1) := by decide +kernel
theorem dX0_whereIs_16 : decode cX0_whereIs 16 = .ok (.iconst (-1), 1) := by decide +kernel
theorem dX0_whereIs_17 : decode cX0_whereIs 17 = .ok (.if_icmp .ne 12, 3) := by decide +kernel
theorem dX0_whereIs_20 : decode cX0_whereIs 20 = .ok (.aload_n 0, 1) := by decide +kernel
theorem dX0_whereIs_21 : decode cX0_whereIs 21 = .ok (.getfield 39, 3) := by decide +kernel
theorem dX0_whereIs_24 : decode cX0_whereIs 24 = .ok (.iload_n 1, 1) := by decide +kernel
theorem dX0_whereIs_25 : decode cX0_whereIs 25 = .ok (.iaload, 1) := by decide +kernel
theorem dX0_whereIs_26 : decode cX0_whereIs 26 = .ok (.goto 7, 3) := by decide +kernel
theorem dX0_whereIs_29 : decode cX0_whereIs 29 = .ok (.aload_n 0, 1) := by decide +kernel
theorem dX0_whereIs_30 : decode cX0_whereIs 30 = .ok (.getfield 46, 3) := by decide +kernel
theorem dX0_whereIs_33 : decode cX0_whereIs 33 = .ok (.ireturn, 1) := by decide +kernel
theorem dX0_bringLoad_0 : decode cX0_bringLoad 0 = .ok (.aload_n 0, 1) := by decide +kernel
theorem dX0_bringLoad_1 : decode cX0_bringLoad 1 = .ok (.getfield 69, 3) := by decide +kernel
theorem dX0_bringLoad_4 : decode cX0_bringLoad 4 = .ok (.bipush 20, 2) := by decide +kernel
theorem dX0_bringLoad_6 : decode cX0_bringLoad 6 = .ok (.if_icmp .lt 5, 3) := by decide +kernel
theorem dX0_bringLoad_9 : decode cX0_bringLoad 9 = .ok (.iconst (-1), 1) := by decide +kernel
theorem dX0_bringLoad_10 : decode cX0_bringLoad 10 = .ok (.ireturn, 1) := by decide +kernel
theorem dX0_bringLoad_11 : decode cX0_bringLoad 11 = .ok (.aload_n 0, 1) := by decide +kernel
theorem dX0_bringLoad_12 : decode cX0_bringLoad 12 = .ok (.getfield 69, 3) := by decide +kernel
theorem dX0_bringLoad_15 : decode cX0_bringLoad 15 = .ok (.istore_n 3, 1) := by decide +kernel
theorem dX0_bringLoad_16 : decode cX0_bringLoad 16 = .ok (.aload_n 0, 1) := by decide +kernel
theorem dX0_bringLoad_17 : decode cX0_bringLoad 17 = .ok (.getfield 30, 3) := by decide +kernel
theorem dX0_bringLoad_20 : decode cX0_bringLoad 20 = .ok (.iload_n 3, 1) := by decide +kernel
theorem dX0_bringLoad_21 : decode cX0_bringLoad 21 = .ok (.iload_n 1, 1) := by decide +kernel
theorem dX0_bringLoad_22 : decode cX0_bringLoad 22 = .ok (.iastore, 1) := by decide +kernel
theorem dX0_bringLoad_23 : decode cX0_bringLoad 23 = .ok (.aload_n 0, 1) := by decide +kernel
theorem dX0_bringLoad_24 : decode cX0_bringLoad 24 = .ok (.getfield 33, 3) := by decide +kernel
theorem dX0_bringLoad_27 : decode cX0_bringLoad 27 = .ok (.iload_n 3, 1) := by decide +kernel
theorem dX0_bringLoad_28 : decode cX0_bringLoad 28 = .ok (.iload_n 2, 1) := by decide +kernel
theorem dX0_bringLoad_29 : decode cX0_bringLoad 29 = .ok (.iastore, 1) := by decide +kernel
theorem dX0_bringLoad_30 : decode cX0_bringLoad 30 = .ok (.aload_n 0, 1) := by decide +kernel
theorem dX0_bringLoad_31 : decode cX0_bringLoad 31 = .ok (.getfield 36, 3) := by decide +kernel
theorem dX0_bringLoad_34 : decode cX0_bringLoad 34 = .ok (.iload_n 3, 1) := by decide +kernel
theorem dX0_bringLoad_35 : decode cX0_bringLoad 35 = .ok (.iconst (-1), 1) := by decide +kernel
theorem dX0_bringLoad_36 : decode cX0_bringLoad 36 = .ok (.iastore, 1) := by decide +kernel
theorem dX0_bringLoad_37 : decode cX0_bringLoad 37 = .ok (.aload_n 0, 1) := by decide +kernel
theorem dX0_bringLoad_38 : decode cX0_bringLoad 38 = .ok (.getfield 39, 3) := by decide +kernel
theorem dX0_bringLoad_41 : decode cX0_bringLoad 41 = .ok (.iload_n 3, 1) := by decide +kernel
theorem dX0_bringLoad_42 : decode cX0_bringLoad 42 = .ok (.aload_n 0, 1) := by decide +kernel
theorem dX0_bringLoad_43 : decode cX0_bringLoad 43 = .ok (.getfield 46, 3) := by decide +kernel
theorem dX0_bringLoad_46 : decode cX0_bringLoad 46 = .ok (.iastore, 1) := by decide +kernel
theorem dX0_bringLoad_47 : decode cX0_bringLoad 47 = .ok (.aload_n 0, 1) := by decide +kernel
theorem dX0_bringLoad_48 : decode cX0_bringLoad 48 = .ok (.dup, 1) := by decide +kernel
theorem dX0_bringLoad_49 : decode cX0_bringLoad 49 = .ok (.getfield 69, 3) := by decide +kernel
theorem dX0_bringLoad_52 : decode cX0_bringLoad 52 = .ok (.iconst 1, 1) := by decide +kernel
theorem dX0_bringLoad_53 : decode cX0_bringLoad 53 = .ok (.iadd, 1) := by decide +kernel
theorem dX0_bringLoad_54 : decode cX0_bringLoad 54 = .ok (.putfield 69, 3) := by decide +kernel
theorem dX0_bringLoad_57 : decode cX0_bringLoad 57 = .ok (.iload_n 3, 1) := by decide +kernel
theorem dX0_bringLoad_58 : decode cX0_bringLoad 58 = .ok (.ireturn, 1) := by decide +kernel
theorem dX0_hangOn_0 : decode cX0_hangOn 0 = .ok (.aload_n 0, 1) := by decide +kernel
theorem dX0_hangOn_1 : decode cX0_hangOn 1 = .ok (.iload_n 1, 1) := by decide +kernel
theorem dX0_hangOn_2 : decode cX0_hangOn 2 = .ok (.invokevirtual 123, 3) := by decide +kernel
theorem dX0_hangOn_5 : decode cX0_hangOn 5 = .ok (.ifCond .eq 36, 3) := by decide +kernel
theorem dX0_hangOn_8 : decode cX0_hangOn 8 = .ok (.aload_n 0, 1) := by decide +kernel
theorem dX0_hangOn_9 : decode cX0_hangOn 9 = .ok (.getfield 42, 3) := by decide +kernel
theorem dX0_hangOn_12 : decode cX0_hangOn 12 = .ok (.iload_n 2, 1) := by decide +kernel
theorem dX0_hangOn_13 : decode cX0_hangOn 13 = .ok (.invokevirtual 100, 3) := by decide +kernel
theorem dX0_hangOn_16 : decode cX0_hangOn 16 = .ok (.ifCond .eq 25, 3) := by decide +kernel
theorem dX0_hangOn_19 : decode cX0_hangOn 19 = .ok (.aload_n 0, 1) := by decide +kernel
theorem dX0_hangOn_20 : decode cX0_hangOn 20 = .ok (.getfield 36, 3) := by decide +kernel
theorem dX0_hangOn_23 : decode cX0_hangOn 23 = .ok (.iload_n 1, 1) := by decide +kernel
theorem dX0_hangOn_24 : decode cX0_hangOn 24 = .ok (.iload_n 2, 1) := by decide +kernel
theorem dX0_hangOn_25 : decode cX0_hangOn 25 = .ok (.iastore, 1) := by decide +kernel
theorem dX0_hangOn_26 : decode cX0_hangOn 26 = .ok (.aload_n 0, 1) := by decide +kernel
theorem dX0_hangOn_27 : decode cX0_hangOn 27 = .ok (.getfield 24, 3) := by decide +kernel
theorem dX0_hangOn_30 : decode cX0_hangOn 30 = .ok (.iload_n 2, 1) := by decide +kernel
theorem dX0_hangOn_31 : decode cX0_hangOn 31 = .ok (.dup2, 1) := by decide +kernel
theorem dX0_hangOn_32 : decode cX0_hangOn 32 = .ok (.iaload, 1) := by decide +kernel
theorem dX0_hangOn_33 : decode cX0_hangOn 33 = .ok (.aload_n 0, 1) := by decide +kernel
theorem dX0_hangOn_34 : decode cX0_hangOn 34 = .ok (.getfield 30, 3) := by decide +kernel
theorem dX0_hangOn_37 : decode cX0_hangOn 37 = .ok (.iload_n 1, 1) := by decide +kernel
theorem dX0_hangOn_38 : decode cX0_hangOn 38 = .ok (.iaload, 1) := by decide +kernel
theorem dX0_hangOn_39 : decode cX0_hangOn 39 = .ok (.iadd, 1) := by decide +kernel
theorem dX0_hangOn_40 : decode cX0_hangOn 40 = .ok (.iastore, 1) := by decide +kernel
theorem dX0_hangOn_41 : decode cX0_hangOn 41 = .ok (.return_, 1) := by decide +kernel
theorem dX0_layDown_0 : decode cX0_layDown 0 = .ok (.aload_n 0, 1) := by decide +kernel
theorem dX0_layDown_1 : decode cX0_layDown 1 = .ok (.iload_n 1, 1) := by decide +kernel
theorem dX0_layDown_2 : decode cX0_layDown 2 = .ok (.invokevirtual 123, 3) := by decide +kernel
theorem dX0_layDown_5 : decode cX0_layDown 5 = .ok (.ifCond .eq 53, 3) := by decide +kernel
theorem dX0_layDown_8 : decode cX0_layDown 8 = .ok (.aload_n 0, 1) := by decide +kernel
theorem dX0_layDown_9 : decode cX0_layDown 9 = .ok (.getfield 36, 3) := by decide +kernel
theorem dX0_layDown_12 : decode cX0_layDown 12 = .ok (.iload_n 1, 1) := by decide +kernel
theorem dX0_layDown_13 : decode cX0_layDown 13 = .ok (.iaload, 1) := by decide +kernel
theorem dX0_layDown_14 : decode cX0_layDown 14 = .ok (.istore_n 2, 1) := by decide +kernel
theorem dX0_layDown_15 : decode cX0_layDown 15 = .ok (.aload_n 0, 1) := by decide +kernel
theorem dX0_layDown_16 : decode cX0_layDown 16 = .ok (.getfield 42, 3) := by decide +kernel
theorem dX0_layDown_19 : decode cX0_layDown 19 = .ok (.iload_n 2, 1) := by decide +kernel
theorem dX0_layDown_20 : decode cX0_layDown 20 = .ok (.invokevirtual 100, 3) := by decide +kernel
theorem dX0_layDown_23 : decode cX0_layDown 23 = .ok (.ifCond .eq 18, 3) := by decide +kernel
theorem dX0_layDown_26 : decode cX0_layDown 26 = .ok (.aload_n 0, 1) := by decide +kernel
theorem dX0_layDown_27 : decode cX0_layDown 27 = .ok (.getfield 24, 3) := by decide +kernel
theorem dX0_layDown_30 : decode cX0_layDown 30 = .ok (.iload_n 2, 1) := by decide +kernel
theorem dX0_layDown_31 : decode cX0_layDown 31 = .ok (.dup2, 1) := by decide +kernel
theorem dX0_layDown_32 : decode cX0_layDown 32 = .ok (.iaload, 1) := by decide +kernel
theorem dX0_layDown_33 : decode cX0_layDown 33 = .ok (.aload_n 0, 1) := by decide +kernel
theorem dX0_layDown_34 : decode cX0_layDown 34 = .ok (.getfield 30, 3) := by decide +kernel
theorem dX0_layDown_37 : decode cX0_layDown 37 = .ok (.iload_n 1, 1) := by decide +kernel
theorem dX0_layDown_38 : decode cX0_layDown 38 = .ok (.iaload, 1) := by decide +kernel
theorem dX0_layDown_39 : decode cX0_layDown 39 = .ok (.isub, 1) := by decide +kernel
theorem dX0_layDown_40 : decode cX0_layDown 40 = .ok (.iastore, 1) := by decide +kernel
theorem dX0_layDown_41 : decode cX0_layDown 41 = .ok (.aload_n 0, 1) := by decide +kernel
theorem dX0_layDown_42 : decode cX0_layDown 42 = .ok (.getfield 36, 3) := by decide +kernel
theorem dX0_layDown_45 : decode cX0_layDown 45 = .ok (.iload_n 1, 1) := by decide +kernel
theorem dX0_layDown_46 : decode cX0_layDown 46 = .ok (.iconst (-1), 1) := by decide +kernel
theorem dX0_layDown_47 : decode cX0_layDown 47 = .ok (.iastore, 1) := by decide +kernel
theorem dX0_layDown_48 : decode cX0_layDown 48 = .ok (.aload_n 0, 1) := by decide +kernel
theorem dX0_layDown_49 : decode cX0_layDown 49 = .ok (.getfield 39, 3) := by decide +kernel
theorem dX0_layDown_52 : decode cX0_layDown 52 = .ok (.iload_n 1, 1) := by decide +kernel
theorem dX0_layDown_53 : decode cX0_layDown 53 = .ok (.aload_n 0, 1) := by decide +kernel
theorem dX0_layDown_54 : decode cX0_layDown 54 = .ok (.getfield 46, 3) := by decide +kernel
theorem dX0_layDown_57 : decode cX0_layDown 57 = .ok (.iastore, 1) := by decide +kernel
theorem dX0_layDown_58 : decode cX0_layDown 58 = .ok (.return_, 1) := by decide +kernel
theorem dX0_needIn_0 : decode cX0_needIn 0 = .ok (.aload_n 0, 1) := by decide +kernel
theorem dX0_needIn_1 : decode cX0_needIn 1 = .ok (.getfield 42, 3) := by decide +kernel
theorem dX0_needIn_4 : decode cX0_needIn 4 = .ok (.iload_n 1, 1) := by decide +kernel
theorem dX0_needIn_5 : decode cX0_needIn 5 = .ok (.invokevirtual 100, 3) := by decide +kernel
theorem dX0_needIn_8 : decode cX0_needIn 8 = .ok (.ifCond .ne 5, 3) := by decide +kernel
theorem dX0_needIn_11 : decode cX0_needIn 11 = .ok (.iconst 0, 1) := by decide +kernel
theorem dX0_needIn_12 : decode cX0_needIn 12 = .ok (.ireturn, 1) := by decide +kernel
theorem dX0_needIn_13 : decode cX0_needIn 13 = .ok (.iconst 5, 1) := by decide +kernel
theorem dX0_needIn_14 : decode cX0_needIn 14 = .ok (.aload_n 0, 1) := by decide +kernel
theorem dX0_needIn_15 : decode cX0_needIn 15 = .ok (.getfield 24, 3) := by decide +kernel
theorem dX0_needIn_18 : decode cX0_needIn 18 = .ok (.iload_n 1, 1) := by decide +kernel
theorem dX0_needIn_19 : decode cX0_needIn 19 = .ok (.iaload, 1) := by decide +kernel
theorem dX0_needIn_20 : decode cX0_needIn 20 = .ok (.bipush 25, 2) := by decide +kernel
theorem dX0_needIn_22 : decode cX0_needIn 22 = .ok (.idiv, 1) := by decide +kernel
theorem dX0_needIn_23 : decode cX0_needIn 23 = .ok (.iadd, 1) := by decide +kernel
theorem dX0_needIn_24 : decode cX0_needIn 24 = .ok (.iload_n 2, 1) := by decide +kernel
theorem dX0_needIn_25 : decode cX0_needIn 25 = .ok (.iadd, 1) := by decide +kernel
theorem dX0_needIn_26 : decode cX0_needIn 26 = .ok (.ireturn, 1) := by decide +kernel
theorem dX0_distanceNow_0 : decode cX0_distanceNow 0 = .ok (.aload_n 0, 1) := by decide +kernel
theorem dX0_distanceNow_1 : decode cX0_distanceNow 1 = .ok (.invokevirtual 89, 3) := by decide +kernel
theorem dX0_distanceNow_4 : decode cX0_distanceNow 4 = .ok (.ifCond .ne 5, 3) := by decide +kernel
theorem dX0_distanceNow_7 : decode cX0_distanceNow 7 = .ok (.iconst 0, 1) := by decide +kernel
theorem dX0_distanceNow_8 : decode cX0_distanceNow 8 = .ok (.ireturn, 1) := by decide +kernel
theorem dX0_distanceNow_9 : decode cX0_distanceNow 9 = .ok (.aload_n 0, 1) := by decide +kernel
theorem dX0_distanceNow_10 : decode cX0_distanceNow 10 = .ok (.aload_n 0, 1) := by decide +kernel
theorem dX0_distanceNow_11 : decode cX0_distanceNow 11 = .ok (.getfield 57, 3) := by decide +kernel
theorem dX0_distanceNow_14 : decode cX0_distanceNow 14 = .ok (.invokevirtual 107, 3) := by decide +kernel
theorem dX0_distanceNow_17 : decode cX0_distanceNow 17 = .ok (.bipush 10, 2) := by decide +kernel
theorem dX0_distanceNow_19 : decode cX0_distanceNow 19 = .ok (.aload_n 0, 1) := by decide +kernel
theorem dX0_distanceNow_20 : decode cX0_distanceNow 20 = .ok (.getfield 42, 3) := by decide +kernel
theorem dX0_distanceNow_23 : decode cX0_distanceNow 23 = .ok (.aload_n 0, 1) := by decide +kernel
theorem dX0_distanceNow_24 : decode cX0_distanceNow 24 = .ok (.getfield 50, 3) := by decide +kernel
theorem dX0_distanceNow_27 : decode cX0_distanceNow 27 = .ok (.invokevirtual 126, 3) := by decide +kernel
theorem dX0_distanceNow_30 : decode cX0_distanceNow 30 = .ok (.isub, 1) := by decide +kernel
theorem dX0_distanceNow_31 : decode cX0_distanceNow 31 = .ok (.imul, 1) := by decide +kernel
theorem dX0_distanceNow_32 : decode cX0_distanceNow 32 = .ok (.bipush 10, 2) := by decide +kernel
theorem dX0_distanceNow_34 : decode cX0_distanceNow 34 = .ok (.idiv, 1) := by decide +kernel
theorem dX0_distanceNow_35 : decode cX0_distanceNow 35 = .ok (.istore_n 1, 1) := by decide +kernel
theorem dX0_distanceNow_36 : decode cX0_distanceNow 36 = .ok (.iload_n 1, 1) := by decide +kernel
theorem dX0_distanceNow_37 : decode cX0_distanceNow 37 = .ok (.aload_n 0, 1) := by decide +kernel
theorem dX0_distanceNow_38 : decode cX0_distanceNow 38 = .ok (.getfield 42, 3) := by decide +kernel
theorem dX0_distanceNow_41 : decode cX0_distanceNow 41 = .ok (.getfield 86, 3) := by decide +kernel
theorem dX0_distanceNow_44 : decode cX0_distanceNow 44 = .ok (.aload_n 0, 1) := by decide +kernel
theorem dX0_distanceNow_45 : decode cX0_distanceNow 45 = .ok (.getfield 46, 3) := by decide +kernel
theorem dX0_distanceNow_48 : decode cX0_distanceNow 48 = .ok (.isub, 1) := by decide +kernel
theorem dX0_distanceNow_49 : decode cX0_distanceNow 49 = .ok (.invokestatic 129, 3) := by decide +kernel
theorem dX0_distanceNow_52 : decode cX0_distanceNow 52 = .ok (.istore_n 1, 1) := by decide +kernel
theorem dX0_distanceNow_53 : decode cX0_distanceNow 53 = .ok (.aload_n 0, 1) := by decide +kernel
theorem dX0_distanceNow_54 : decode cX0_distanceNow 54 = .ok (.getfield 42, 3) := by decide +kernel
theorem dX0_distanceNow_57 : decode cX0_distanceNow 57 = .ok (.aload_n 0, 1) := by decide +kernel
theorem dX0_distanceNow_58 : decode cX0_distanceNow 58 = .ok (.getfield 46, 3) := by decide +kernel
theorem dX0_distanceNow_61 : decode cX0_distanceNow 61 = .ok (.invokevirtual 132, 3) := by decide +kernel
theorem dX0_distanceNow_64 : decode cX0_distanceNow 64 = .ok (.istore_n 2, 1) := by decide +kernel
theorem dX0_distanceNow_65 : decode cX0_distanceNow 65 = .ok (.aload_n 0, 1) := by decide +kernel
theorem dX0_distanceNow_66 : decode cX0_distanceNow 66 = .ok (.getfield 53, 3) := by decide +kernel
theorem dX0_distanceNow_69 : decode cX0_distanceNow 69 = .ok (.ifCond .eq 27, 3) := by decide +kernel
theorem dX0_distanceNow_72 : decode cX0_distanceNow 72 = .ok (.iload_n 2, 1) := by decide +kernel
theorem dX0_distanceNow_73 : decode cX0_distanceNow 73 = .ok (.iconst (-1), 1) := by decide +kernel
theorem dX0_distanceNow_74 : decode cX0_distanceNow 74 = .ok (.if_icmp .eq 22, 3) := by decide +kernel
theorem dX0_distanceNow_77 : decode cX0_distanceNow 77 = .ok (.iload_n 1, 1) := by decide +kernel
theorem dX0_distanceNow_78 : decode cX0_distanceNow 78 = .ok (.aload_n 0, 1) := by decide +kernel
theorem dX0_distanceNow_79 : decode cX0_distanceNow 79 = .ok (.getfield 42, 3) := by decide +kernel
theorem dX0_distanceNow_82 : decode cX0_distanceNow 82 = .ok (.getfield 135, 3) := by decide +kernel
theorem dX0_distanceNow_85 : decode cX0_distanceNow 85 = .ok (.iload_n 2, 1) := by decide +kernel
theorem dX0_distanceNow_86 : decode cX0_distanceNow 86 = .ok (.iaload, 1) := by decide +kernel
theorem dX0_distanceNow_87 : decode cX0_distanceNow 87 = .ok (.aload_n 0, 1) := by decide +kernel
theorem dX0_distanceNow_88 : decode cX0_distanceNow 88 = .ok (.getfield 46, 3) := by decide +kernel
theorem dX0_distanceNow_91 : decode cX0_distanceNow 91 = .ok (.isub, 1) := by decide +kernel
theorem dX0_distanceNow_92 : decode cX0_distanceNow 92 = .ok (.invokestatic 129, 3) := by decide +kernel
theorem dX0_distanceNow_95 : decode cX0_distanceNow 95 = .ok (.istore_n 1, 1) := by decide +kernel
theorem dX0_distanceNow_96 : decode cX0_distanceNow 96 = .ok (.iload_n 1, 1) := by decide +kernel
theorem dX0_distanceNow_97 : decode cX0_distanceNow 97 = .ok (.ireturn, 1) := by decide +kernel
theorem dX0_passTravelDay_0 : decode cX0_passTravelDay 0 = .ok (.aload_n 0, 1) := by decide +kernel
theorem dX0_passTravelDay_1 : decode cX0_passTravelDay 1 = .ok (.aload_n 0, 1) := by decide +kernel
theorem dX0_passTravelDay_2 : decode cX0_passTravelDay 2 = .ok (.getfield 57, 3) := by decide +kernel
theorem dX0_passTravelDay_5 : decode cX0_passTravelDay 5 = .ok (.invokevirtual 107, 3) := by decide +kernel
theorem dX0_passTravelDay_8 : decode cX0_passTravelDay 8 = .ok (.istore_n 1, 1) := by decide +kernel
theorem dX0_passTravelDay_9 : decode cX0_passTravelDay 9 = .ok (.aload_n 0, 1) := by decide +kernel
theorem dX0_passTravelDay_10 : decode cX0_passTravelDay 10 = .ok (.getfield 42, 3) := by decide +kernel
theorem dX0_passTravelDay_13 : decode cX0_passTravelDay 13 = .ok (.aload_n 0, 1) := by decide +kernel
theorem dX0_passTravelDay_14 : decode cX0_passTravelDay 14 = .ok (.getfield 50, 3) := by decide +kernel
theorem dX0_passTravelDay_17 : decode cX0_passTravelDay 17 = .ok (.invokevirtual 126, 3) := by decide +kernel
theorem dX0_passTravelDay_20 : decode cX0_passTravelDay 20 = .ok (.istore_n 2, 1) := by decide +kernel
theorem dX0_passTravelDay_21 : decode cX0_passTravelDay 21 = .ok (.aload_n 0, 1) := by decide +kernel
theorem dX0_passTravelDay_22 : decode cX0_passTravelDay 22 = .ok (.invokevirtual 138, 3) := by decide +kernel
theorem dX0_passTravelDay_25 : decode cX0_passTravelDay 25 = .ok (.istore_n 3, 1) := by decide +kernel
theorem dX0_passTravelDay_26 : decode cX0_passTravelDay 26 = .ok (.aload_n 0, 1) := by decide +kernel
theorem dX0_passTravelDay_27 : decode cX0_passTravelDay 27 = .ok (.dup, 1) := by decide +kernel
theorem dX0_passTravelDay_28 : decode cX0_passTravelDay 28 = .ok (.getfield 46, 3) := by decide +kernel
theorem dX0_passTravelDay_31 : decode cX0_passTravelDay 31 = .ok (.iload_n 3, 1) := by decide +kernel
theorem dX0_passTravelDay_32 : decode cX0_passTravelDay 32 = .ok (.iadd, 1) := by decide +kernel
theorem dX0_passTravelDay_33 : decode cX0_passTravelDay 33 = .ok (.putfield 46, 3) := by decide +kernel
theorem dX0_passTravelDay_36 : decode cX0_passTravelDay 36 = .ok (.iconst 0, 1) := by decide +kernel
theorem dX0_passTravelDay_37 : decode cX0_passTravelDay 37 = .ok (.istore 4, 2) := by decide +kernel
theorem dX0_passTravelDay_39 : decode cX0_passTravelDay 39 = .ok (.iload 4, 2) := by decide +kernel
theorem dX0_passTravelDay_41 : decode cX0_passTravelDay 41 = .ok (.aload_n 0, 1) := by decide +kernel
theorem dX0_passTravelDay_42 : decode cX0_passTravelDay 42 = .ok (.getfield 42, 3) := by decide +kernel
theorem dX0_passTravelDay_45 : decode cX0_passTravelDay 45 = .ok (.getfield 72, 3) := by decide +kernel
theorem dX0_passTravelDay_48 : decode cX0_passTravelDay 48 = .ok (.if_icmp .ge 45, 3) := by decide +kernel
theorem dX0_passTravelDay_51 : decode cX0_passTravelDay 51 = .ok (.aload_n 0, 1) := by decide +kernel
theorem dX0_passTravelDay_52 : decode cX0_passTravelDay 52 = .ok (.iload 4, 2) := by decide +kernel
theorem dX0_passTravelDay_54 : decode cX0_passTravelDay 54 = .ok (.invokevirtual 104, 3) := by decide +kernel
theorem dX0_passTravelDay_57 : decode cX0_passTravelDay 57 = .ok (.ifCond .eq 30, 3) := by decide +kernel
theorem dX0_passTravelDay_60 : decode cX0_passTravelDay 60 = .ok (.aload_n 0, 1) := by decide +kernel
theorem dX0_passTravelDay_61 : decode cX0_passTravelDay 61 = .ok (.iload 4, 2) := by decide +kernel
theorem dX0_passTravelDay_63 : decode cX0_passTravelDay 63 = .ok (.iload_n 1, 1) := by decide +kernel
theorem dX0_passTravelDay_64 : decode cX0_passTravelDay 64 = .ok (.aload_n 0, 1) := by decide +kernel
theorem dX0_passTravelDay_65 : decode cX0_passTravelDay 65 = .ok (.iload 4, 2) := by decide +kernel
theorem dX0_passTravelDay_67 : decode cX0_passTravelDay 67 = .ok (.invokevirtual 107, 3) := by decide +kernel
theorem dX0_passTravelDay_70 : decode cX0_passTravelDay 70 = .ok (.isub, 1) := by decide +kernel
theorem dX0_passTravelDay_71 : decode cX0_passTravelDay 71 = .ok (.invokevirtual 141, 3) := by decide +kernel
theorem dX0_passTravelDay_74 : decode cX0_passTravelDay 74 = .ok (.aload_n 0, 1) := by decide +kernel
theorem dX0_passTravelDay_75 : decode cX0_passTravelDay 75 = .ok (.iload 4, 2) := by decide +kernel
theorem dX0_passTravelDay_77 : decode cX0_passTravelDay 77 = .ok (.aload_n 0, 1) := by decide +kernel
theorem dX0_passTravelDay_78 : decode cX0_passTravelDay 78 = .ok (.iload 4, 2) := by decide +kernel
theorem dX0_passTravelDay_80 : decode cX0_passTravelDay 80 = .ok (.iload_n 2, 1) := by decide +kernel
theorem dX0_passTravelDay_81 : decode cX0_passTravelDay 81 = .ok (.invokevirtual 145, 3) := by decide +kernel
theorem dX0_passTravelDay_84 : decode cX0_passTravelDay 84 = .ok (.invokevirtual 148, 3) := by decide +kernel
theorem dX0_passTravelDay_87 : decode cX0_passTravelDay 87 = .ok (.iinc 4 1, 3) := by decide +kernel
theorem dX0_passTravelDay_90 : decode cX0_passTravelDay 90 = .ok (.goto (-51), 3) := by decide +kernel
theorem dX0_passTravelDay_93 : decode cX0_passTravelDay 93 = .ok (.aload_n 0, 1) := by decide +kernel
theorem dX0_passTravelDay_94 : decode cX0_passTravelDay 94 = .ok (.invokevirtual 151, 3) := by decide +kernel
theorem dX0_passTravelDay_97 : decode cX0_passTravelDay 97 = .ok (.iload_n 3, 1) := by decide +kernel
theorem dX0_passTravelDay_98 : decode cX0_passTravelDay 98 = .ok (.ireturn, 1) := by decide +kernel
theorem dX0_passRestDay_0 : decode cX0_passRestDay 0 = .ok (.aload_n 0, 1) := by decide +kernel
theorem dX0_passRestDay_1 : decode cX0_passRestDay 1 = .ok (.getfield 42, 3) := by decide +kernel
theorem dX0_passRestDay_4 : decode cX0_passRestDay 4 = .ok (.aload_n 0, 1) := by decide +kernel
theorem dX0_passRestDay_5 : decode cX0_passRestDay 5 = .ok (.getfield 50, 3) := by decide +kernel
theorem dX0_passRestDay_8 : decode cX0_passRestDay 8 = .ok (.invokevirtual 126, 3) := by decide +kernel
theorem dX0_passRestDay_11 : decode cX0_passRestDay 11 = .ok (.istore_n 1, 1) := by decide +kernel
theorem dX0_passRestDay_12 : decode cX0_passRestDay 12 = .ok (.iconst 0, 1) := by decide +kernel
theorem dX0_passRestDay_13 : decode cX0_passRestDay 13 = .ok (.istore_n 2, 1) := by decide +kernel
theorem dX0_passRestDay_14 : decode cX0_passRestDay 14 = .ok (.iload_n 2, 1) := by decide +kernel
theorem dX0_passRestDay_15 : decode cX0_passRestDay 15 = .ok (.aload_n 0, 1) := by decide +kernel
theorem dX0_passRestDay_16 : decode cX0_passRestDay 16 = .ok (.getfield 42, 3) := by decide +kernel
theorem dX0_passRestDay_19 : decode cX0_passRestDay 19 = .ok (.getfield 72, 3) := by decide +kernel
theorem dX0_passRestDay_22 : decode cX0_passRestDay 22 = .ok (.if_icmp .ge 38, 3) := by decide +kernel
theorem dX0_passRestDay_25 : decode cX0_passRestDay 25 = .ok (.aload_n 0, 1) := by decide +kernel
theorem dX0_passRestDay_26 : decode cX0_passRestDay 26 = .ok (.iload_n 2, 1) := by decide +kernel
theorem dX0_passRestDay_27 : decode cX0_passRestDay 27 = .ok (.invokevirtual 104, 3) := by decide +kernel
theorem dX0_passRestDay_30 : decode cX0_passRestDay 30 = .ok (.ifCond .eq 24, 3) := by decide +kernel
theorem dX0_passRestDay_33 : decode cX0_passRestDay 33 = .ok (.aload_n 0, 1) := by decide +kernel
theorem dX0_passRestDay_34 : decode cX0_passRestDay 34 = .ok (.iload_n 2, 1) := by decide +kernel
theorem dX0_passRestDay_35 : decode cX0_passRestDay 35 = .ok (.iconst 0, 1) := by decide +kernel
theorem dX0_passRestDay_36 : decode cX0_passRestDay 36 = .ok (.invokevirtual 141, 3) := by decide +kernel
theorem dX0_passRestDay_39 : decode cX0_passRestDay 39 = .ok (.aload_n 0, 1) := by decide +kernel
theorem dX0_passRestDay_40 : decode cX0_passRestDay 40 = .ok (.iload_n 2, 1) := by decide +kernel
theorem dX0_passRestDay_41 : decode cX0_passRestDay 41 = .ok (.aload_n 0, 1) := by decide +kernel
theorem dX0_passRestDay_42 : decode cX0_passRestDay 42 = .ok (.iload_n 2, 1) := by decide +kernel
theorem dX0_passRestDay_43 : decode cX0_passRestDay 43 = .ok (.iload_n 1, 1) := by decide +kernel
theorem dX0_passRestDay_44 : decode cX0_passRestDay 44 = .ok (.invokevirtual 145, 3) := by decide +kernel
theorem dX0_passRestDay_47 : decode cX0_passRestDay 47 = .ok (.iconst 1, 1) := by decide +kernel
theorem dX0_passRestDay_48 : decode cX0_passRestDay 48 = .ok (.iadd, 1) := by decide +kernel
theorem dX0_passRestDay_49 : decode cX0_passRestDay 49 = .ok (.iconst 2, 1) := by decide +kernel
theorem dX0_passRestDay_50 : decode cX0_passRestDay 50 = .ok (.idiv, 1) := by decide +kernel
theorem dX0_passRestDay_51 : decode cX0_passRestDay 51 = .ok (.invokevirtual 148, 3) := by decide +kernel
theorem dX0_passRestDay_54 : decode cX0_passRestDay 54 = .ok (.iinc 2 1, 3) := by decide +kernel
theorem dX0_passRestDay_57 : decode cX0_passRestDay 57 = .ok (.goto (-43), 3) := by decide +kernel
theorem dX0_passRestDay_60 : decode cX0_passRestDay 60 = .ok (.aload_n 0, 1) := by decide +kernel
theorem dX0_passRestDay_61 : decode cX0_passRestDay 61 = .ok (.invokevirtual 151, 3) := by decide +kernel
theorem dX0_passRestDay_64 : decode cX0_passRestDay 64 = .ok (.return_, 1) := by decide +kernel
theorem dX0_tire_0 : decode cX0_tire 0 = .ok (.iload_n 2, 1) := by decide +kernel
theorem dX0_tire_1 : decode cX0_tire 1 = .ok (.ifCond .le 16, 3) := by decide +kernel
theorem dX0_tire_4 : decode cX0_tire 4 = .ok (.aload_n 0, 1) := by decide +kernel
theorem dX0_tire_5 : decode cX0_tire 5 = .ok (.getfield 15, 3) := by decide +kernel
theorem dX0_tire_8 : decode cX0_tire 8 = .ok (.iload_n 1, 1) := by decide +kernel
theorem dX0_tire_9 : decode cX0_tire 9 = .ok (.dup2, 1) := by decide +kernel
theorem dX0_tire_10 : decode cX0_tire 10 = .ok (.iaload, 1) := by decide +kernel
theorem dX0_tire_11 : decode cX0_tire 11 = .ok (.iload_n 2, 1) := by decide +kernel
theorem dX0_tire_12 : decode cX0_tire 12 = .ok (.iadd, 1) := by decide +kernel
theorem dX0_tire_13 : decode cX0_tire 13 = .ok (.iastore, 1) := by decide +kernel
theorem dX0_tire_14 : decode cX0_tire 14 = .ok (.goto 22, 3) := by decide +kernel
theorem dX0_tire_17 : decode cX0_tire 17 = .ok (.aload_n 0, 1) := by decide +kernel
theorem dX0_tire_18 : decode cX0_tire 18 = .ok (.getfield 15, 3) := by decide +kernel
theorem dX0_tire_21 : decode cX0_tire 21 = .ok (.iload_n 1, 1) := by decide +kernel
theorem dX0_tire_22 : decode cX0_tire 22 = .ok (.iconst 0, 1) := by decide +kernel
theorem dX0_tire_23 : decode cX0_tire 23 = .ok (.aload_n 0, 1) := by decide +kernel
theorem dX0_tire_24 : decode cX0_tire 24 = .ok (.getfield 15, 3) := by decide +kernel
theorem dX0_tire_27 : decode cX0_tire 27 = .ok (.iload_n 1, 1) := by decide +kernel
theorem dX0_tire_28 : decode cX0_tire 28 = .ok (.iaload, 1) := by decide +kernel
theorem dX0_tire_29 : decode cX0_tire 29 = .ok (.bipush 10, 2) := by decide +kernel
theorem dX0_tire_31 : decode cX0_tire 31 = .ok (.isub, 1) := by decide +kernel
theorem dX0_tire_32 : decode cX0_tire 32 = .ok (.invokestatic 114, 3) := by decide +kernel
theorem dX0_tire_35 : decode cX0_tire 35 = .ok (.iastore, 1) := by decide +kernel
theorem dX0_tire_36 : decode cX0_tire 36 = .ok (.aload_n 0, 1) := by decide +kernel
theorem dX0_tire_37 : decode cX0_tire 37 = .ok (.getfield 15, 3) := by decide +kernel
theorem dX0_tire_40 : decode cX0_tire 40 = .ok (.iload_n 1, 1) := by decide +kernel
theorem dX0_tire_41 : decode cX0_tire 41 = .ok (.iaload, 1) := by decide +kernel
theorem dX0_tire_42 : decode cX0_tire 42 = .ok (.bipush 60, 2) := by decide +kernel
theorem dX0_tire_44 : decode cX0_tire 44 = .ok (.if_icmp .le 23, 3) := by decide +kernel
theorem dX0_tire_47 : decode cX0_tire 47 = .ok (.aload_n 0, 1) := by decide +kernel
theorem dX0_tire_48 : decode cX0_tire 48 = .ok (.getfield 18, 3) := by decide +kernel
theorem dX0_tire_51 : decode cX0_tire 51 = .ok (.iload_n 1, 1) := by decide +kernel
theorem dX0_tire_52 : decode cX0_tire 52 = .ok (.dup2, 1) := by decide +kernel
theorem dX0_tire_53 : decode cX0_tire 53 = .ok (.iaload, 1) := by decide +kernel
theorem dX0_tire_54 : decode cX0_tire 54 = .ok (.iconst 3, 1) := by decide +kernel
theorem dX0_tire_55 : decode cX0_tire 55 = .ok (.iadd, 1) := by decide +kernel
theorem dX0_tire_56 : decode cX0_tire 56 = .ok (.iastore, 1) := by decide +kernel
theorem dX0_tire_57 : decode cX0_tire 57 = .ok (.aload_n 0, 1) := by decide +kernel
theorem dX0_tire_58 : decode cX0_tire 58 = .ok (.getfield 15, 3) := by decide +kernel
theorem dX0_tire_61 : decode cX0_tire 61 = .ok (.iload_n 1, 1) := by decide +kernel
theorem dX0_tire_62 : decode cX0_tire 62 = .ok (.iconst 0, 1) := by decide +kernel
theorem dX0_tire_63 : decode cX0_tire 63 = .ok (.iastore, 1) := by decide +kernel
theorem dX0_tire_64 : decode cX0_tire 64 = .ok (.goto 22, 3) := by decide +kernel
theorem dX0_tire_67 : decode cX0_tire 67 = .ok (.aload_n 0, 1) := by decide +kernel
theorem dX0_tire_68 : decode cX0_tire 68 = .ok (.getfield 18, 3) := by decide +kernel
theorem dX0_tire_71 : decode cX0_tire 71 = .ok (.iload_n 1, 1) := by decide +kernel
theorem dX0_tire_72 : decode cX0_tire 72 = .ok (.iaload, 1) := by decide +kernel
theorem dX0_tire_73 : decode cX0_tire 73 = .ok (.ifCond .le 13, 3) := by decide +kernel
theorem dX0_tire_76 : decode cX0_tire 76 = .ok (.aload_n 0, 1) := by decide +kernel
theorem dX0_tire_77 : decode cX0_tire 77 = .ok (.getfield 18, 3) := by decide +kernel
theorem dX0_tire_80 : decode cX0_tire 80 = .ok (.iload_n 1, 1) := by decide +kernel
theorem dX0_tire_81 : decode cX0_tire 81 = .ok (.dup2, 1) := by decide +kernel
theorem dX0_tire_82 : decode cX0_tire 82 = .ok (.iaload, 1) := by decide +kernel
theorem dX0_tire_83 : decode cX0_tire 83 = .ok (.iconst 1, 1) := by decide +kernel
theorem dX0_tire_84 : decode cX0_tire 84 = .ok (.isub, 1) := by decide +kernel
theorem dX0_tire_85 : decode cX0_tire 85 = .ok (.iastore, 1) := by decide +kernel
theorem dX0_tire_86 : decode cX0_tire 86 = .ok (.return_, 1) := by decide +kernel
theorem dX0_useWater_0 : decode cX0_useWater 0 = .ok (.aload_n 0, 1) := by decide +kernel
theorem dX0_useWater_1 : decode cX0_useWater 1 = .ok (.getfield 9, 3) := by decide +kernel
theorem dX0_useWater_4 : decode cX0_useWater 4 = .ok (.iload_n 1, 1) := by decide +kernel
theorem dX0_useWater_5 : decode cX0_useWater 5 = .ok (.iaload, 1) := by decide +kernel
theorem dX0_useWater_6 : decode cX0_useWater 6 = .ok (.iload_n 2, 1) := by decide +kernel
theorem dX0_useWater_7 : decode cX0_useWater 7 = .ok (.if_icmp .lt 21, 3) := by decide +kernel
theorem dX0_useWater_10 : decode cX0_useWater 10 = .ok (.aload_n 0, 1) := by decide +kernel
theorem dX0_useWater_11 : decode cX0_useWater 11 = .ok (.getfield 9, 3) := by decide +kernel
theorem dX0_useWater_14 : decode cX0_useWater 14 = .ok (.iload_n 1, 1) := by decide +kernel
theorem dX0_useWater_15 : decode cX0_useWater 15 = .ok (.dup2, 1) := by decide +kernel
theorem dX0_useWater_16 : decode cX0_useWater 16 = .ok (.iaload, 1) := by decide +kernel
theorem dX0_useWater_17 : decode cX0_useWater 17 = .ok (.iload_n 2, 1) := by decide +kernel
theorem dX0_useWater_18 : decode cX0_useWater 18 = .ok (.isub, 1) := by decide +kernel
theorem dX0_useWater_19 : decode cX0_useWater 19 = .ok (.iastore, 1) := by decide +kernel
theorem dX0_useWater_20 : decode cX0_useWater 20 = .ok (.aload_n 0, 1) := by decide +kernel
theorem dX0_useWater_21 : decode cX0_useWater 21 = .ok (.getfield 21, 3) := by decide +kernel
theorem dX0_useWater_24 : decode cX0_useWater 24 = .ok (.iload_n 1, 1) := by decide +kernel
theorem dX0_useWater_25 : decode cX0_useWater 25 = .ok (.iconst 0, 1) := by decide +kernel
theorem dX0_useWater_26 : decode cX0_useWater 26 = .ok (.iastore, 1) := by decide +kernel
theorem dX0_useWater_27 : decode cX0_useWater 27 = .ok (.return_, 1) := by decide +kernel
theorem dX0_useWater_28 : decode cX0_useWater 28 = .ok (.aload_n 0, 1) := by decide +kernel
theorem dX0_useWater_29 : decode cX0_useWater 29 = .ok (.getfield 9, 3) := by decide +kernel
theorem dX0_useWater_32 : decode cX0_useWater 32 = .ok (.iload_n 1, 1) := by decide +kernel
theorem dX0_useWater_33 : decode cX0_useWater 33 = .ok (.iconst 0, 1) := by decide +kernel
theorem dX0_useWater_34 : decode cX0_useWater 34 = .ok (.iastore, 1) := by decide +kernel
theorem dX0_useWater_35 : decode cX0_useWater 35 = .ok (.aload_n 0, 1) := by decide +kernel
theorem dX0_useWater_36 : decode cX0_useWater 36 = .ok (.getfield 21, 3) := by decide +kernel
theorem dX0_useWater_39 : decode cX0_useWater 39 = .ok (.iload_n 1, 1) := by decide +kernel
theorem dX0_useWater_40 : decode cX0_useWater 40 = .ok (.dup2, 1) := by decide +kernel
theorem dX0_useWater_41 : decode cX0_useWater 41 = .ok (.iaload, 1) := by decide +kernel
theorem dX0_useWater_42 : decode cX0_useWater 42 = .ok (.iconst 1, 1) := by decide +kernel
theorem dX0_useWater_43 : decode cX0_useWater 43 = .ok (.iadd, 1) := by decide +kernel
theorem dX0_useWater_44 : decode cX0_useWater 44 = .ok (.iastore, 1) := by decide +kernel
theorem dX0_useWater_45 : decode cX0_useWater 45 = .ok (.aload_n 0, 1) := by decide +kernel
theorem dX0_useWater_46 : decode cX0_useWater 46 = .ok (.iload_n 1, 1) := by decide +kernel
theorem dX0_useWater_47 : decode cX0_useWater 47 = .ok (.invokevirtual 104, 3) := by decide +kernel
theorem dX0_useWater_50 : decode cX0_useWater 50 = .ok (.ifCond .ne 8, 3) := by decide +kernel
theorem dX0_useWater_53 : decode cX0_useWater 53 = .ok (.aload_n 0, 1) := by decide +kernel
theorem dX0_useWater_54 : decode cX0_useWater 54 = .ok (.iload_n 1, 1) := by decide +kernel
theorem dX0_useWater_55 : decode cX0_useWater 55 = .ok (.invokevirtual 154, 3) := by decide +kernel
theorem dX0_useWater_58 : decode cX0_useWater 58 = .ok (.return_, 1) := by decide +kernel
theorem dX0_dropAllOf_0 : decode cX0_dropAllOf 0 = .ok (.iconst 0, 1) := by decide +kernel
theorem dX0_dropAllOf_1 : decode cX0_dropAllOf 1 = .ok (.istore_n 2, 1) := by decide +kernel
theorem dX0_dropAllOf_2 : decode cX0_dropAllOf 2 = .ok (.iload_n 2, 1) := by decide +kernel
theorem dX0_dropAllOf_3 : decode cX0_dropAllOf 3 = .ok (.aload_n 0, 1) := by decide +kernel
theorem dX0_dropAllOf_4 : decode cX0_dropAllOf 4 = .ok (.getfield 69, 3) := by decide +kernel
theorem dX0_dropAllOf_7 : decode cX0_dropAllOf 7 = .ok (.if_icmp .ge 24, 3) := by decide +kernel
theorem dX0_dropAllOf_10 : decode cX0_dropAllOf 10 = .ok (.aload_n 0, 1) := by decide +kernel
theorem dX0_dropAllOf_11 : decode cX0_dropAllOf 11 = .ok (.getfield 36, 3) := by decide +kernel
theorem dX0_dropAllOf_14 : decode cX0_dropAllOf 14 = .ok (.iload_n 2, 1) := by decide +kernel
theorem dX0_dropAllOf_15 : decode cX0_dropAllOf 15 = .ok (.iaload, 1) := by decide +kernel
theorem dX0_dropAllOf_16 : decode cX0_dropAllOf 16 = .ok (.iload_n 1, 1) := by decide +kernel
theorem dX0_dropAllOf_17 : decode cX0_dropAllOf 17 = .ok (.if_icmp .ne 8, 3) := by decide +kernel
theorem dX0_dropAllOf_20 : decode cX0_dropAllOf 20 = .ok (.aload_n 0, 1) := by decide +kernel
theorem dX0_dropAllOf_21 : decode cX0_dropAllOf 21 = .ok (.iload_n 2, 1) := by decide +kernel
theorem dX0_dropAllOf_22 : decode cX0_dropAllOf 22 = .ok (.invokevirtual 158, 3) := by decide +kernel
theorem dX0_dropAllOf_25 : decode cX0_dropAllOf 25 = .ok (.iinc 2 1, 3) := by decide +kernel
theorem dX0_dropAllOf_28 : decode cX0_dropAllOf 28 = .ok (.goto (-26), 3) := by decide +kernel
theorem dX0_dropAllOf_31 : decode cX0_dropAllOf 31 = .ok (.return_, 1) := by decide +kernel
theorem dX0_endDay_0 : decode cX0_endDay 0 = .ok (.aload_n 0, 1) := by decide +kernel
theorem dX0_endDay_1 : decode cX0_endDay 1 = .ok (.aload_n 0, 1) := by decide +kernel
theorem dX0_endDay_2 : decode cX0_endDay 2 = .ok (.getfield 57, 3) := by decide +kernel
theorem dX0_endDay_5 : decode cX0_endDay 5 = .ok (.invokevirtual 104, 3) := by decide +kernel
theorem dX0_endDay_8 : decode cX0_endDay 8 = .ok (.ifCond .ne 25, 3) := by decide +kernel
theorem dX0_endDay_11 : decode cX0_endDay 11 = .ok (.aload_n 0, 1) := by decide +kernel
theorem dX0_endDay_12 : decode cX0_endDay 12 = .ok (.invokevirtual 161, 3) := by decide +kernel
theorem dX0_endDay_15 : decode cX0_endDay 15 = .ok (.istore_n 1, 1) := by decide +kernel
theorem dX0_endDay_16 : decode cX0_endDay 16 = .ok (.aload_n 0, 1) := by decide +kernel
theorem dX0_endDay_17 : decode cX0_endDay 17 = .ok (.iload_n 1, 1) := by decide +kernel
theorem dX0_endDay_18 : decode cX0_endDay 18 = .ok (.iconst (-1), 1) := by decide +kernel
theorem dX0_endDay_19 : decode cX0_endDay 19 = .ok (.if_icmp .ne 10, 3) := by decide +kernel
theorem dX0_endDay_22 : decode cX0_endDay 22 = .ok (.aload_n 0, 1) := by decide +kernel
theorem dX0_endDay_23 : decode cX0_endDay 23 = .ok (.getfield 57, 3) := by decide +kernel
theorem dX0_endDay_26 : decode cX0_endDay 26 = .ok (.goto 4, 3) := by decide +kernel
theorem dX0_endDay_29 : decode cX0_endDay 29 = .ok (.iload_n 1, 1) := by decide +kernel
theorem dX0_endDay_30 : decode cX0_endDay 30 = .ok (.putfield 57, 3) := by decide +kernel
theorem dX0_endDay_33 : decode cX0_endDay 33 = .ok (.iconst 0, 1) := by decide +kernel
theorem dX0_endDay_34 : decode cX0_endDay 34 = .ok (.istore_n 1, 1) := by decide +kernel
theorem dX0_endDay_35 : decode cX0_endDay 35 = .ok (.iload_n 1, 1) := by decide +kernel
theorem dX0_endDay_36 : decode cX0_endDay 36 = .ok (.aload_n 0, 1) := by decide +kernel
theorem dX0_endDay_37 : decode cX0_endDay 37 = .ok (.getfield 42, 3) := by decide +kernel
theorem dX0_endDay_40 : decode cX0_endDay 40 = .ok (.getfield 80, 3) := by decide +kernel
theorem dX0_endDay_43 : decode cX0_endDay 43 = .ok (.if_icmp .ge 43, 3) := by decide +kernel
theorem dX0_endDay_46 : decode cX0_endDay 46 = .ok (.aload_n 0, 1) := by decide +kernel
theorem dX0_endDay_47 : decode cX0_endDay 47 = .ok (.getfield 27, 3) := by decide +kernel
theorem dX0_endDay_50 : decode cX0_endDay 50 = .ok (.iload_n 1, 1) := by decide +kernel
theorem dX0_endDay_51 : decode cX0_endDay 51 = .ok (.aload_n 0, 1) := by decide +kernel
theorem dX0_endDay_52 : decode cX0_endDay 52 = .ok (.getfield 42, 3) := by decide +kernel
theorem dX0_endDay_55 : decode cX0_endDay 55 = .ok (.getfield 83, 3) := by decide +kernel
theorem dX0_endDay_58 : decode cX0_endDay 58 = .ok (.iload_n 1, 1) := by decide +kernel
theorem dX0_endDay_59 : decode cX0_endDay 59 = .ok (.iaload, 1) := by decide +kernel
theorem dX0_endDay_60 : decode cX0_endDay 60 = .ok (.aload_n 0, 1) := by decide +kernel
theorem dX0_endDay_61 : decode cX0_endDay 61 = .ok (.getfield 27, 3) := by decide +kernel
theorem dX0_endDay_64 : decode cX0_endDay 64 = .ok (.iload_n 1, 1) := by decide +kernel
theorem dX0_endDay_65 : decode cX0_endDay 65 = .ok (.iaload, 1) := by decide +kernel
theorem dX0_endDay_66 : decode cX0_endDay 66 = .ok (.aload_n 0, 1) := by decide +kernel
theorem dX0_endDay_67 : decode cX0_endDay 67 = .ok (.getfield 42, 3) := by decide +kernel
theorem dX0_endDay_70 : decode cX0_endDay 70 = .ok (.getfield 164, 3) := by decide +kernel
theorem dX0_endDay_73 : decode cX0_endDay 73 = .ok (.iload_n 1, 1) := by decide +kernel
theorem dX0_endDay_74 : decode cX0_endDay 74 = .ok (.iaload, 1) := by decide +kernel
theorem dX0_endDay_75 : decode cX0_endDay 75 = .ok (.iadd, 1) := by decide +kernel
theorem dX0_endDay_76 : decode cX0_endDay 76 = .ok (.invokestatic 129, 3) := by decide +kernel
theorem dX0_endDay_79 : decode cX0_endDay 79 = .ok (.iastore, 1) := by decide +kernel
theorem dX0_endDay_80 : decode cX0_endDay 80 = .ok (.iinc 1 1, 3) := by decide +kernel
theorem dX0_endDay_83 : decode cX0_endDay 83 = .ok (.goto (-48), 3) := by decide +kernel
theorem dX0_endDay_86 : decode cX0_endDay 86 = .ok (.aload_n 0, 1) := by decide +kernel
theorem dX0_endDay_87 : decode cX0_endDay 87 = .ok (.dup, 1) := by decide +kernel
theorem dX0_endDay_88 : decode cX0_endDay 88 = .ok (.getfield 50, 3) := by decide +kernel
theorem dX0_endDay_91 : decode cX0_endDay 91 = .ok (.iconst 1, 1) := by decide +kernel
theorem dX0_endDay_92 : decode cX0_endDay 92 = .ok (.iadd, 1) := by decide +kernel
theorem dX0_endDay_93 : decode cX0_endDay 93 = .ok (.putfield 50, 3) := by decide +kernel
theorem dX0_endDay_96 : decode cX0_endDay 96 = .ok (.return_, 1) := by decide +kernel
theorem dX0_shareOut_0 : decode cX0_shareOut 0 = .ok (.iconst 0, 1) := by decide +kernel
theorem dX0_shareOut_1 : decode cX0_shareOut 1 = .ok (.istore_n 3, 1) := by decide +kernel
theorem dX0_shareOut_2 : decode cX0_shareOut 2 = .ok (.iload_n 3, 1) := by decide +kernel
theorem dX0_shareOut_3 : decode cX0_shareOut 3 = .ok (.aload_n 0, 1) := by decide +kernel
theorem dX0_shareOut_4 : decode cX0_shareOut 4 = .ok (.getfield 42, 3) := by decide +kernel
theorem dX0_shareOut_7 : decode cX0_shareOut 7 = .ok (.getfield 72, 3) := by decide +kernel
theorem dX0_shareOut_10 : decode cX0_shareOut 10 = .ok (.if_icmp .ge 13, 3) := by decide +kernel
theorem dX0_shareOut_13 : decode cX0_shareOut 13 = .ok (.aload_n 2, 1) := by decide +kernel
theorem dX0_shareOut_14 : decode cX0_shareOut 14 = .ok (.iload_n 3, 1) := by decide +kernel
theorem dX0_shareOut_15 : decode cX0_shareOut 15 = .ok (.iconst (-1), 1) := by decide +kernel
theorem dX0_shareOut_16 : decode cX0_shareOut 16 = .ok (.iastore, 1) := by decide +kernel
