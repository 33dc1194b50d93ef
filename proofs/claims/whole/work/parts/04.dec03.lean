theorem dX6_less_6 : decode cX6_less 6 = .ok (.ireturn, 1) := by decide +kernel
theorem dX6_less_7 : decode cX6_less 7 = .ok (.iload_n 1, 1) := by decide +kernel
theorem dX6_less_8 : decode cX6_less 8 = .ok (.ireturn, 1) := by decide +kernel
theorem dX6_more_0 : decode cX6_more 0 = .ok (.iload_n 0, 1) := by decide +kernel
theorem dX6_more_1 : decode cX6_more 1 = .ok (.iload_n 1, 1) := by decide +kernel
theorem dX6_more_2 : decode cX6_more 2 = .ok (.if_icmp .le 5, 3) := by decide +kernel
theorem dX6_more_5 : decode cX6_more 5 = .ok (.iload_n 0, 1) := by decide +kernel
theorem dX6_more_6 : decode cX6_more 6 = .ok (.ireturn, 1) := by decide +kernel
theorem dX6_more_7 : decode cX6_more 7 = .ok (.iload_n 1, 1) := by decide +kernel
theorem dX6_more_8 : decode cX6_more 8 = .ok (.ireturn, 1) := by decide +kernel
theorem dX6_layRow_0 : decode cX6_layRow 0 = .ok (.iconst 0, 1) := by decide +kernel
theorem dX6_layRow_1 : decode cX6_layRow 1 = .ok (.istore 4, 2) := by decide +kernel
theorem dX6_layRow_3 : decode cX6_layRow 3 = .ok (.iload 4, 2) := by decide +kernel
theorem dX6_layRow_5 : decode cX6_layRow 5 = .ok (.sipush 220, 3) := by decide +kernel
theorem dX6_layRow_8 : decode cX6_layRow 8 = .ok (.if_icmp .ge 21, 3) := by decide +kernel
theorem dX6_layRow_11 : decode cX6_layRow 11 = .ok (.aload_n 2, 1) := by decide +kernel
theorem dX6_layRow_12 : decode cX6_layRow 12 = .ok (.iload_n 3, 1) := by decide +kernel
theorem dX6_layRow_13 : decode cX6_layRow 13 = .ok (.iload 4, 2) := by decide +kernel
theorem dX6_layRow_15 : decode cX6_layRow 15 = .ok (.iadd, 1) := by decide +kernel
theorem dX6_layRow_16 : decode cX6_layRow 16 = .ok (.aload_n 0, 1) := by decide +kernel
theorem dX6_layRow_17 : decode cX6_layRow 17 = .ok (.iload_n 1, 1) := by decide +kernel
theorem dX6_layRow_18 : decode cX6_layRow 18 = .ok (.iload 4, 2) := by decide +kernel
theorem dX6_layRow_20 : decode cX6_layRow 20 = .ok (.iadd, 1) := by decide +kernel
theorem dX6_layRow_21 : decode cX6_layRow 21 = .ok (.iaload, 1) := by decide +kernel
theorem dX6_layRow_22 : decode cX6_layRow 22 = .ok (.iastore, 1) := by decide +kernel
theorem dX6_layRow_23 : decode cX6_layRow 23 = .ok (.iinc 4 1, 3) := by decide +kernel
theorem dX6_layRow_26 : decode cX6_layRow 26 = .ok (.goto (-23), 3) := by decide +kernel
theorem dX6_layRow_29 : decode cX6_layRow 29 = .ok (.return_, 1) := by decide +kernel
theorem dX6_takesSpare_0 : decode cX6_takesSpare 0 = .ok (.aload_n 0, 1) := by decide +kernel
theorem dX6_takesSpare_1 : decode cX6_takesSpare 1 = .ok (.getfield 7, 3) := by decide +kernel
theorem dX6_takesSpare_4 : decode cX6_takesSpare 4 = .ok (.iconst 0, 1) := by decide +kernel
theorem dX6_takesSpare_5 : decode cX6_takesSpare 5 = .ok (.aload_n 0, 1) := by decide +kernel
theorem dX6_takesSpare_6 : decode cX6_takesSpare 6 = .ok (.getfield 16, 3) := by decide +kernel
theorem dX6_takesSpare_9 : decode cX6_takesSpare 9 = .ok (.iconst 0, 1) := by decide +kernel
theorem dX6_takesSpare_10 : decode cX6_takesSpare 10 = .ok (.invokestatic 63, 3) := by decide +kernel
theorem dX6_takesSpare_13 : decode cX6_takesSpare 13 = .ok (.return_, 1) := by decide +kernel
theorem dX6_camelAt_0 : decode cX6_camelAt 0 = .ok (.bipush 10, 2) := by decide +kernel
theorem dX6_camelAt_2 : decode cX6_camelAt 2 = .ok (.bipush 8, 2) := by decide +kernel
theorem dX6_camelAt_4 : decode cX6_camelAt 4 = .ok (.iload_n 0, 1) := by decide +kernel
theorem dX6_camelAt_5 : decode cX6_camelAt 5 = .ok (.imul, 1) := by decide +kernel
theorem dX6_camelAt_6 : decode cX6_camelAt 6 = .ok (.iadd, 1) := by decide +kernel
theorem dX6_camelAt_7 : decode cX6_camelAt 7 = .ok (.iload_n 1, 1) := by decide +kernel
theorem dX6_camelAt_8 : decode cX6_camelAt 8 = .ok (.iadd, 1) := by decide +kernel
theorem dX6_camelAt_9 : decode cX6_camelAt 9 = .ok (.ireturn, 1) := by decide +kernel
theorem dX6_wellAt_0 : decode cX6_wellAt 0 = .ok (.bipush 90, 2) := by decide +kernel
theorem dX6_wellAt_2 : decode cX6_wellAt 2 = .ok (.iconst 4, 1) := by decide +kernel
theorem dX6_wellAt_3 : decode cX6_wellAt 3 = .ok (.iload_n 0, 1) := by decide +kernel
theorem dX6_wellAt_4 : decode cX6_wellAt 4 = .ok (.imul, 1) := by decide +kernel
theorem dX6_wellAt_5 : decode cX6_wellAt 5 = .ok (.iadd, 1) := by decide +kernel
theorem dX6_wellAt_6 : decode cX6_wellAt 6 = .ok (.iload_n 1, 1) := by decide +kernel
theorem dX6_wellAt_7 : decode cX6_wellAt 7 = .ok (.iadd, 1) := by decide +kernel
theorem dX6_wellAt_8 : decode cX6_wellAt 8 = .ok (.ireturn, 1) := by decide +kernel
theorem dX6_stormAt_0 : decode cX6_stormAt 0 = .ok (.bipush 122, 2) := by decide +kernel
theorem dX6_stormAt_2 : decode cX6_stormAt 2 = .ok (.iconst 3, 1) := by decide +kernel
theorem dX6_stormAt_3 : decode cX6_stormAt 3 = .ok (.iload_n 0, 1) := by decide +kernel
theorem dX6_stormAt_4 : decode cX6_stormAt 4 = .ok (.imul, 1) := by decide +kernel
theorem dX6_stormAt_5 : decode cX6_stormAt 5 = .ok (.iadd, 1) := by decide +kernel
theorem dX6_stormAt_6 : decode cX6_stormAt 6 = .ok (.iload_n 1, 1) := by decide +kernel
theorem dX6_stormAt_7 : decode cX6_stormAt 7 = .ok (.iadd, 1) := by decide +kernel
theorem dX6_stormAt_8 : decode cX6_stormAt 8 = .ok (.ireturn, 1) := by decide +kernel
theorem dX6_loadAt_0 : decode cX6_loadAt 0 = .ok (.sipush 140, 3) := by decide +kernel
theorem dX6_loadAt_3 : decode cX6_loadAt 3 = .ok (.iconst 4, 1) := by decide +kernel
theorem dX6_loadAt_4 : decode cX6_loadAt 4 = .ok (.iload_n 0, 1) := by decide +kernel
theorem dX6_loadAt_5 : decode cX6_loadAt 5 = .ok (.imul, 1) := by decide +kernel
theorem dX6_loadAt_6 : decode cX6_loadAt 6 = .ok (.iadd, 1) := by decide +kernel
theorem dX6_loadAt_7 : decode cX6_loadAt 7 = .ok (.iload_n 1, 1) := by decide +kernel
theorem dX6_loadAt_8 : decode cX6_loadAt 8 = .ok (.iadd, 1) := by decide +kernel
theorem dX6_loadAt_9 : decode cX6_loadAt 9 = .ok (.ireturn, 1) := by decide +kernel
theorem dX6_isCamel_0 : decode cX6_isCamel 0 = .ok (.iload_n 1, 1) := by decide +kernel
theorem dX6_isCamel_1 : decode cX6_isCamel 1 = .ok (.iconst 0, 1) := by decide +kernel
theorem dX6_isCamel_2 : decode cX6_isCamel 2 = .ok (.aload_n 0, 1) := by decide +kernel
theorem dX6_isCamel_3 : decode cX6_isCamel 3 = .ok (.getfield 7, 3) := by decide +kernel
theorem dX6_isCamel_6 : decode cX6_isCamel 6 = .ok (.bipush 6, 2) := by decide +kernel
theorem dX6_isCamel_8 : decode cX6_isCamel 8 = .ok (.iaload, 1) := by decide +kernel
theorem dX6_isCamel_9 : decode cX6_isCamel 9 = .ok (.iconst 1, 1) := by decide +kernel
theorem dX6_isCamel_10 : decode cX6_isCamel 10 = .ok (.isub, 1) := by decide +kernel
theorem dX6_isCamel_11 : decode cX6_isCamel 11 = .ok (.invokestatic 67, 3) := by decide +kernel
theorem dX6_isCamel_14 : decode cX6_isCamel 14 = .ok (.ireturn, 1) := by decide +kernel
theorem dX6_isWell_0 : decode cX6_isWell 0 = .ok (.iload_n 1, 1) := by decide +kernel
theorem dX6_isWell_1 : decode cX6_isWell 1 = .ok (.iconst 0, 1) := by decide +kernel
theorem dX6_isWell_2 : decode cX6_isWell 2 = .ok (.aload_n 0, 1) := by decide +kernel
theorem dX6_isWell_3 : decode cX6_isWell 3 = .ok (.getfield 7, 3) := by decide +kernel
theorem dX6_isWell_6 : decode cX6_isWell 6 = .ok (.bipush 7, 2) := by decide +kernel
theorem dX6_isWell_8 : decode cX6_isWell 8 = .ok (.iaload, 1) := by decide +kernel
theorem dX6_isWell_9 : decode cX6_isWell 9 = .ok (.iconst 1, 1) := by decide +kernel
theorem dX6_isWell_10 : decode cX6_isWell 10 = .ok (.isub, 1) := by decide +kernel
theorem dX6_isWell_11 : decode cX6_isWell 11 = .ok (.invokestatic 67, 3) := by decide +kernel
theorem dX6_isWell_14 : decode cX6_isWell 14 = .ok (.ireturn, 1) := by decide +kernel
theorem dX6_isLoad_0 : decode cX6_isLoad 0 = .ok (.iload_n 1, 1) := by decide +kernel
theorem dX6_isLoad_1 : decode cX6_isLoad 1 = .ok (.iconst 0, 1) := by decide +kernel
theorem dX6_isLoad_2 : decode cX6_isLoad 2 = .ok (.aload_n 0, 1) := by decide +kernel
theorem dX6_isLoad_3 : decode cX6_isLoad 3 = .ok (.getfield 7, 3) := by decide +kernel
theorem dX6_isLoad_6 : decode cX6_isLoad 6 = .ok (.bipush 9, 2) := by decide +kernel
theorem dX6_isLoad_8 : decode cX6_isLoad 8 = .ok (.iaload, 1) := by decide +kernel
theorem dX6_isLoad_9 : decode cX6_isLoad 9 = .ok (.iconst 1, 1) := by decide +kernel
theorem dX6_isLoad_10 : decode cX6_isLoad 10 = .ok (.isub, 1) := by decide +kernel
theorem dX6_isLoad_11 : decode cX6_isLoad 11 = .ok (.invokestatic 67, 3) := by decide +kernel
theorem dX6_isLoad_14 : decode cX6_isLoad 14 = .ok (.ireturn, 1) := by decide +kernel
theorem dX6_addsCamel_0 : decode cX6_addsCamel 0 = .ok (.aload_n 0, 1) := by decide +kernel
theorem dX6_addsCamel_1 : decode cX6_addsCamel 1 = .ok (.bipush 6, 2) := by decide +kernel
theorem dX6_addsCamel_3 : decode cX6_addsCamel 3 = .ok (.iaload, 1) := by decide +kernel
theorem dX6_addsCamel_4 : decode cX6_addsCamel 4 = .ok (.istore 4, 2) := by decide +kernel
theorem dX6_addsCamel_6 : decode cX6_addsCamel 6 = .ok (.aload_n 0, 1) := by decide +kernel
theorem dX6_addsCamel_7 : decode cX6_addsCamel 7 = .ok (.iload 4, 2) := by decide +kernel
theorem dX6_addsCamel_9 : decode cX6_addsCamel 9 = .ok (.iconst 0, 1) := by decide +kernel
theorem dX6_addsCamel_10 : decode cX6_addsCamel 10 = .ok (.invokestatic 71, 3) := by decide +kernel
theorem dX6_addsCamel_13 : decode cX6_addsCamel 13 = .ok (.iload_n 1, 1) := by decide +kernel
theorem dX6_addsCamel_14 : decode cX6_addsCamel 14 = .ok (.iastore, 1) := by decide +kernel
theorem dX6_addsCamel_15 : decode cX6_addsCamel 15 = .ok (.aload_n 0, 1) := by decide +kernel
theorem dX6_addsCamel_16 : decode cX6_addsCamel 16 = .ok (.iload 4, 2) := by decide +kernel
theorem dX6_addsCamel_18 : decode cX6_addsCamel 18 = .ok (.iconst 1, 1) := by decide +kernel
theorem dX6_addsCamel_19 : decode cX6_addsCamel 19 = .ok (.invokestatic 71, 3) := by decide +kernel
theorem dX6_addsCamel_22 : decode cX6_addsCamel 22 = .ok (.iload_n 2, 1) := by decide +kernel
theorem dX6_addsCamel_23 : decode cX6_addsCamel 23 = .ok (.iastore, 1) := by decide +kernel
theorem dX6_addsCamel_24 : decode cX6_addsCamel 24 = .ok (.aload_n 0, 1) := by decide +kernel
theorem dX6_addsCamel_25 : decode cX6_addsCamel 25 = .ok (.iload 4, 2) := by decide +kernel
theorem dX6_addsCamel_27 : decode cX6_addsCamel 27 = .ok (.iconst 2, 1) := by decide +kernel
theorem dX6_addsCamel_28 : decode cX6_addsCamel 28 = .ok (.invokestatic 71, 3) := by decide +kernel
theorem dX6_addsCamel_31 : decode cX6_addsCamel 31 = .ok (.iload_n 3, 1) := by decide +kernel
theorem dX6_addsCamel_32 : decode cX6_addsCamel 32 = .ok (.iastore, 1) := by decide +kernel
theorem dX6_addsCamel_33 : decode cX6_addsCamel 33 = .ok (.aload_n 0, 1) := by decide +kernel
theorem dX6_addsCamel_34 : decode cX6_addsCamel 34 = .ok (.iload 4, 2) := by decide +kernel
theorem dX6_addsCamel_36 : decode cX6_addsCamel 36 = .ok (.iconst 3, 1) := by decide +kernel
theorem dX6_addsCamel_37 : decode cX6_addsCamel 37 = .ok (.invokestatic 71, 3) := by decide +kernel
theorem dX6_addsCamel_40 : decode cX6_addsCamel 40 = .ok (.iload_n 3, 1) := by decide +kernel
theorem dX6_addsCamel_41 : decode cX6_addsCamel 41 = .ok (.iastore, 1) := by decide +kernel
theorem dX6_addsCamel_42 : decode cX6_addsCamel 42 = .ok (.aload_n 0, 1) := by decide +kernel
theorem dX6_addsCamel_43 : decode cX6_addsCamel 43 = .ok (.bipush 6, 2) := by decide +kernel
theorem dX6_addsCamel_45 : decode cX6_addsCamel 45 = .ok (.dup2, 1) := by decide +kernel
theorem dX6_addsCamel_46 : decode cX6_addsCamel 46 = .ok (.iaload, 1) := by decide +kernel
theorem dX6_addsCamel_47 : decode cX6_addsCamel 47 = .ok (.iconst 1, 1) := by decide +kernel
theorem dX6_addsCamel_48 : decode cX6_addsCamel 48 = .ok (.iadd, 1) := by decide +kernel
theorem dX6_addsCamel_49 : decode cX6_addsCamel 49 = .ok (.iastore, 1) := by decide +kernel
theorem dX6_addsCamel_50 : decode cX6_addsCamel 50 = .ok (.return_, 1) := by decide +kernel
theorem dX6_addsWell_0 : decode cX6_addsWell 0 = .ok (.aload_n 0, 1) := by decide +kernel
theorem dX6_addsWell_1 : decode cX6_addsWell 1 = .ok (.bipush 7, 2) := by decide +kernel
theorem dX6_addsWell_3 : decode cX6_addsWell 3 = .ok (.iaload, 1) := by decide +kernel
theorem dX6_addsWell_4 : decode cX6_addsWell 4 = .ok (.istore 4, 2) := by decide +kernel
theorem dX6_addsWell_6 : decode cX6_addsWell 6 = .ok (.aload_n 0, 1) := by decide +kernel
theorem dX6_addsWell_7 : decode cX6_addsWell 7 = .ok (.iload 4, 2) := by decide +kernel
theorem dX6_addsWell_9 : decode cX6_addsWell 9 = .ok (.iconst 0, 1) := by decide +kernel
theorem dX6_addsWell_10 : decode cX6_addsWell 10 = .ok (.invokestatic 74, 3) := by decide +kernel
theorem dX6_addsWell_13 : decode cX6_addsWell 13 = .ok (.iload_n 1, 1) := by decide +kernel
theorem dX6_addsWell_14 : decode cX6_addsWell 14 = .ok (.iastore, 1) := by decide +kernel
theorem dX6_addsWell_15 : decode cX6_addsWell 15 = .ok (.aload_n 0, 1) := by decide +kernel
theorem dX6_addsWell_16 : decode cX6_addsWell 16 = .ok (.iload 4, 2) := by decide +kernel
theorem dX6_addsWell_18 : decode cX6_addsWell 18 = .ok (.iconst 1, 1) := by decide +kernel
theorem dX6_addsWell_19 : decode cX6_addsWell 19 = .ok (.invokestatic 74, 3) := by decide +kernel
theorem dX6_addsWell_22 : decode cX6_addsWell 22 = .ok (.iload_n 2, 1) := by decide +kernel
theorem dX6_addsWell_23 : decode cX6_addsWell 23 = .ok (.iastore, 1) := by decide +kernel
theorem dX6_addsWell_24 : decode cX6_addsWell 24 = .ok (.aload_n 0, 1) := by decide +kernel
theorem dX6_addsWell_25 : decode cX6_addsWell 25 = .ok (.iload 4, 2) := by decide +kernel
theorem dX6_addsWell_27 : decode cX6_addsWell 27 = .ok (.iconst 2, 1) := by decide +kernel
theorem dX6_addsWell_28 : decode cX6_addsWell 28 = .ok (.invokestatic 74, 3) := by decide +kernel
theorem dX6_addsWell_31 : decode cX6_addsWell 31 = .ok (.iload_n 3, 1) := by decide +kernel
theorem dX6_addsWell_32 : decode cX6_addsWell 32 = .ok (.iastore, 1) := by decide +kernel
theorem dX6_addsWell_33 : decode cX6_addsWell 33 = .ok (.aload_n 0, 1) := by decide +kernel
theorem dX6_addsWell_34 : decode cX6_addsWell 34 = .ok (.iload 4, 2) := by decide +kernel
theorem dX6_addsWell_36 : decode cX6_addsWell 36 = .ok (.iconst 3, 1) := by decide +kernel
theorem dX6_addsWell_37 : decode cX6_addsWell 37 = .ok (.invokestatic 74, 3) := by decide +kernel
theorem dX6_addsWell_40 : decode cX6_addsWell 40 = .ok (.iload_n 2, 1) := by decide +kernel
theorem dX6_addsWell_41 : decode cX6_addsWell 41 = .ok (.iastore, 1) := by decide +kernel
theorem dX6_addsWell_42 : decode cX6_addsWell 42 = .ok (.aload_n 0, 1) := by decide +kernel
theorem dX6_addsWell_43 : decode cX6_addsWell 43 = .ok (.bipush 7, 2) := by decide +kernel
theorem dX6_addsWell_45 : decode cX6_addsWell 45 = .ok (.dup2, 1) := by decide +kernel
theorem dX6_addsWell_46 : decode cX6_addsWell 46 = .ok (.iaload, 1) := by decide +kernel
theorem dX6_addsWell_47 : decode cX6_addsWell 47 = .ok (.iconst 1, 1) := by decide +kernel
theorem dX6_addsWell_48 : decode cX6_addsWell 48 = .ok (.iadd, 1) := by decide +kernel
theorem dX6_addsWell_49 : decode cX6_addsWell 49 = .ok (.iastore, 1) := by decide +kernel
theorem dX6_addsWell_50 : decode cX6_addsWell 50 = .ok (.return_, 1) := by decide +kernel
theorem dX6_addsStorm_0 : decode cX6_addsStorm 0 = .ok (.aload_n 0, 1) := by decide +kernel
theorem dX6_addsStorm_1 : decode cX6_addsStorm 1 = .ok (.bipush 8, 2) := by decide +kernel
theorem dX6_addsStorm_3 : decode cX6_addsStorm 3 = .ok (.iaload, 1) := by decide +kernel
theorem dX6_addsStorm_4 : decode cX6_addsStorm 4 = .ok (.istore 4, 2) := by decide +kernel
theorem dX6_addsStorm_6 : decode cX6_addsStorm 6 = .ok (.aload_n 0, 1) := by decide +kernel
theorem dX6_addsStorm_7 : decode cX6_addsStorm 7 = .ok (.iload 4, 2) := by decide +kernel
theorem dX6_addsStorm_9 : decode cX6_addsStorm 9 = .ok (.iconst 0, 1) := by decide +kernel
theorem dX6_addsStorm_10 : decode cX6_addsStorm 10 = .ok (.invokestatic 77, 3) := by decide +kernel
theorem dX6_addsStorm_13 : decode cX6_addsStorm 13 = .ok (.iload_n 1, 1) := by decide +kernel
theorem dX6_addsStorm_14 : decode cX6_addsStorm 14 = .ok (.iastore, 1) := by decide +kernel
theorem dX6_addsStorm_15 : decode cX6_addsStorm 15 = .ok (.aload_n 0, 1) := by decide +kernel
theorem dX6_addsStorm_16 : decode cX6_addsStorm 16 = .ok (.iload 4, 2) := by decide +kernel
theorem dX6_addsStorm_18 : decode cX6_addsStorm 18 = .ok (.iconst 1, 1) := by decide +kernel
theorem dX6_addsStorm_19 : decode cX6_addsStorm 19 = .ok (.invokestatic 77, 3) := by decide +kernel
theorem dX6_addsStorm_22 : decode cX6_addsStorm 22 = .ok (.iload_n 2, 1) := by decide +kernel
theorem dX6_addsStorm_23 : decode cX6_addsStorm 23 = .ok (.iastore, 1) := by decide +kernel
theorem dX6_addsStorm_24 : decode cX6_addsStorm 24 = .ok (.aload_n 0, 1) := by decide +kernel
theorem dX6_addsStorm_25 : decode cX6_addsStorm 25 = .ok (.iload 4, 2) := by decide +kernel
theorem dX6_addsStorm_27 : decode cX6_addsStorm 27 = .ok (.iconst 2, 1) := by decide +kernel
theorem dX6_addsStorm_28 : decode cX6_addsStorm 28 = .ok (.invokestatic 77, 3) := by decide +kernel
theorem dX6_addsStorm_31 : decode cX6_addsStorm 31 = .ok (.iload_n 3, 1) := by decide +kernel
theorem dX6_addsStorm_32 : decode cX6_addsStorm 32 = .ok (.iastore, 1) := by decide +kernel
theorem dX6_addsStorm_33 : decode cX6_addsStorm 33 = .ok (.aload_n 0, 1) := by decide +kernel
theorem dX6_addsStorm_34 : decode cX6_addsStorm 34 = .ok (.bipush 8, 2) := by decide +kernel
theorem dX6_addsStorm_36 : decode cX6_addsStorm 36 = .ok (.dup2, 1) := by decide +kernel
theorem dX6_addsStorm_37 : decode cX6_addsStorm 37 = .ok (.iaload, 1) := by decide +kernel
theorem dX6_addsStorm_38 : decode cX6_addsStorm 38 = .ok (.iconst 1, 1) := by decide +kernel
theorem dX6_addsStorm_39 : decode cX6_addsStorm 39 = .ok (.iadd, 1) := by decide +kernel
theorem dX6_addsStorm_40 : decode cX6_addsStorm 40 = .ok (.iastore, 1) := by decide +kernel
theorem dX6_addsStorm_41 : decode cX6_addsStorm 41 = .ok (.return_, 1) := by decide +kernel
theorem dX6_addsLoad_0 : decode cX6_addsLoad 0 = .ok (.aload_n 0, 1) := by decide +kernel
theorem dX6_addsLoad_1 : decode cX6_addsLoad 1 = .ok (.bipush 9, 2) := by decide +kernel
theorem dX6_addsLoad_3 : decode cX6_addsLoad 3 = .ok (.iaload, 1) := by decide +kernel
theorem dX6_addsLoad_4 : decode cX6_addsLoad 4 = .ok (.istore_n 3, 1) := by decide +kernel
theorem dX6_addsLoad_5 : decode cX6_addsLoad 5 = .ok (.aload_n 0, 1) := by decide +kernel
theorem dX6_addsLoad_6 : decode cX6_addsLoad 6 = .ok (.iload_n 3, 1) := by decide +kernel
theorem dX6_addsLoad_7 : decode cX6_addsLoad 7 = .ok (.iconst 0, 1) := by decide +kernel
theorem dX6_addsLoad_8 : decode cX6_addsLoad 8 = .ok (.invokestatic 56, 3) := by decide +kernel
theorem dX6_addsLoad_11 : decode cX6_addsLoad 11 = .ok (.iload_n 1, 1) := by decide +kernel
theorem dX6_addsLoad_12 : decode cX6_addsLoad 12 = .ok (.iastore, 1) := by decide +kernel
theorem dX6_addsLoad_13 : decode cX6_addsLoad 13 = .ok (.aload_n 0, 1) := by decide +kernel
theorem dX6_addsLoad_14 : decode cX6_addsLoad 14 = .ok (.iload_n 3, 1) := by decide +kernel
theorem dX6_addsLoad_15 : decode cX6_addsLoad 15 = .ok (.iconst 1, 1) := by decide +kernel
theorem dX6_addsLoad_16 : decode cX6_addsLoad 16 = .ok (.invokestatic 56, 3) := by decide +kernel
theorem dX6_addsLoad_19 : decode cX6_addsLoad 19 = .ok (.iload_n 2, 1) := by decide +kernel
theorem dX6_addsLoad_20 : decode cX6_addsLoad 20 = .ok (.iastore, 1) := by decide +kernel
theorem dX6_addsLoad_21 : decode cX6_addsLoad 21 = .ok (.aload_n 0, 1) := by decide +kernel
theorem dX6_addsLoad_22 : decode cX6_addsLoad 22 = .ok (.iload_n 3, 1) := by decide +kernel
theorem dX6_addsLoad_23 : decode cX6_addsLoad 23 = .ok (.iconst 2, 1) := by decide +kernel
theorem dX6_addsLoad_24 : decode cX6_addsLoad 24 = .ok (.invokestatic 56, 3) := by decide +kernel
theorem dX6_addsLoad_27 : decode cX6_addsLoad 27 = .ok (.iconst (-1), 1) := by decide +kernel
theorem dX6_addsLoad_28 : decode cX6_addsLoad 28 = .ok (.iastore, 1) := by decide +kernel
theorem dX6_addsLoad_29 : decode cX6_addsLoad 29 = .ok (.aload_n 0, 1) := by decide +kernel
theorem dX6_addsLoad_30 : decode cX6_addsLoad 30 = .ok (.iload_n 3, 1) := by decide +kernel
theorem dX6_addsLoad_31 : decode cX6_addsLoad 31 = .ok (.iconst 3, 1) := by decide +kernel
theorem dX6_addsLoad_32 : decode cX6_addsLoad 32 = .ok (.invokestatic 56, 3) := by decide +kernel
theorem dX6_addsLoad_35 : decode cX6_addsLoad 35 = .ok (.aload_n 0, 1) := by decide +kernel
theorem dX6_addsLoad_36 : decode cX6_addsLoad 36 = .ok (.iconst 1, 1) := by decide +kernel
theorem dX6_addsLoad_37 : decode cX6_addsLoad 37 = .ok (.iaload, 1) := by decide +kernel
theorem dX6_addsLoad_38 : decode cX6_addsLoad 38 = .ok (.iastore, 1) := by decide +kernel
theorem dX6_addsLoad_39 : decode cX6_addsLoad 39 = .ok (.aload_n 0, 1) := by decide +kernel
theorem dX6_addsLoad_40 : decode cX6_addsLoad 40 = .ok (.bipush 9, 2) := by decide +kernel
theorem dX6_addsLoad_42 : decode cX6_addsLoad 42 = .ok (.dup2, 1) := by decide +kernel
theorem dX6_addsLoad_43 : decode cX6_addsLoad 43 = .ok (.iaload, 1) := by decide +kernel
theorem dX6_addsLoad_44 : decode cX6_addsLoad 44 = .ok (.iconst 1, 1) := by decide +kernel
theorem dX6_addsLoad_45 : decode cX6_addsLoad 45 = .ok (.iadd, 1) := by decide +kernel
theorem dX6_addsLoad_46 : decode cX6_addsLoad 46 = .ok (.iastore, 1) := by decide +kernel
theorem dX6_addsLoad_47 : decode cX6_addsLoad 47 = .ok (.iload_n 3, 1) := by decide +kernel
theorem dX6_addsLoad_48 : decode cX6_addsLoad 48 = .ok (.ireturn, 1) := by decide +kernel
theorem dX6_wellOn_0 : decode cX6_wellOn 0 = .ok (.iconst 0, 1) := by decide +kernel
theorem dX6_wellOn_1 : decode cX6_wellOn 1 = .ok (.istore_n 2, 1) := by decide +kernel
theorem dX6_wellOn_2 : decode cX6_wellOn 2 = .ok (.iload_n 2, 1) := by decide +kernel
theorem dX6_wellOn_3 : decode cX6_wellOn 3 = .ok (.aload_n 0, 1) := by decide +kernel
theorem dX6_wellOn_4 : decode cX6_wellOn 4 = .ok (.bipush 7, 2) := by decide +kernel
theorem dX6_wellOn_6 : decode cX6_wellOn 6 = .ok (.iaload, 1) := by decide +kernel
theorem dX6_wellOn_7 : decode cX6_wellOn 7 = .ok (.if_icmp .ge 22, 3) := by decide +kernel
theorem dX6_wellOn_10 : decode cX6_wellOn 10 = .ok (.aload_n 0, 1) := by decide +kernel
theorem dX6_wellOn_11 : decode cX6_wellOn 11 = .ok (.iload_n 2, 1) := by decide +kernel
theorem dX6_wellOn_12 : decode cX6_wellOn 12 = .ok (.iconst 0, 1) := by decide +kernel
theorem dX6_wellOn_13 : decode cX6_wellOn 13 = .ok (.invokestatic 74, 3) := by decide +kernel
theorem dX6_wellOn_16 : decode cX6_wellOn 16 = .ok (.iaload, 1) := by decide +kernel
theorem dX6_wellOn_17 : decode cX6_wellOn 17 = .ok (.iload_n 1, 1) := by decide +kernel
theorem dX6_wellOn_18 : decode cX6_wellOn 18 = .ok (.if_icmp .ne 5, 3) := by decide +kernel
theorem dX6_wellOn_21 : decode cX6_wellOn 21 = .ok (.iload_n 2, 1) := by decide +kernel
theorem dX6_wellOn_22 : decode cX6_wellOn 22 = .ok (.ireturn, 1) := by decide +kernel
theorem dX6_wellOn_23 : decode cX6_wellOn 23 = .ok (.iinc 2 1, 3) := by decide +kernel
theorem dX6_wellOn_26 : decode cX6_wellOn 26 = .ok (.goto (-24), 3) := by decide +kernel
theorem dX6_wellOn_29 : decode cX6_wellOn 29 = .ok (.iconst (-1), 1) := by decide +kernel
theorem dX6_wellOn_30 : decode cX6_wellOn 30 = .ok (.ireturn, 1) := by decide +kernel
theorem dX6_wellBehind_0 : decode cX6_wellBehind 0 = .ok (.iconst (-1), 1) := by decide +kernel
theorem dX6_wellBehind_1 : decode cX6_wellBehind 1 = .ok (.istore_n 2, 1) := by decide +kernel
theorem dX6_wellBehind_2 : decode cX6_wellBehind 2 = .ok (.iconst 0, 1) := by decide +kernel
theorem dX6_wellBehind_3 : decode cX6_wellBehind 3 = .ok (.istore_n 3, 1) := by decide +kernel
theorem dX6_wellBehind_4 : decode cX6_wellBehind 4 = .ok (.iload_n 3, 1) := by decide +kernel
theorem dX6_wellBehind_5 : decode cX6_wellBehind 5 = .ok (.aload_n 0, 1) := by decide +kernel
theorem dX6_wellBehind_6 : decode cX6_wellBehind 6 = .ok (.bipush 7, 2) := by decide +kernel
theorem dX6_wellBehind_8 : decode cX6_wellBehind 8 = .ok (.iaload, 1) := by decide +kernel
theorem dX6_wellBehind_9 : decode cX6_wellBehind 9 = .ok (.if_icmp .ge 46, 3) := by decide +kernel
theorem dX6_wellBehind_12 : decode cX6_wellBehind 12 = .ok (.aload_n 0, 1) := by decide +kernel
theorem dX6_wellBehind_13 : decode cX6_wellBehind 13 = .ok (.iload_n 3, 1) := by decide +kernel
theorem dX6_wellBehind_14 : decode cX6_wellBehind 14 = .ok (.iconst 0, 1) := by decide +kernel
theorem dX6_wellBehind_15 : decode cX6_wellBehind 15 = .ok (.invokestatic 74, 3) := by decide +kernel
theorem dX6_wellBehind_18 : decode cX6_wellBehind 18 = .ok (.iaload, 1) := by decide +kernel
theorem dX6_wellBehind_19 : decode cX6_wellBehind 19 = .ok (.iload_n 1, 1) := by decide +kernel
theorem dX6_wellBehind_20 : decode cX6_wellBehind 20 = .ok (.if_icmp .gt 6, 3) := by decide +kernel
theorem dX6_wellBehind_23 : decode cX6_wellBehind 23 = .ok (.goto 26, 3) := by decide +kernel
theorem dX6_wellBehind_26 : decode cX6_wellBehind 26 = .ok (.iload_n 2, 1) := by decide +kernel
theorem dX6_wellBehind_27 : decode cX6_wellBehind 27 = .ok (.ifCond .lt 20, 3) := by decide +kernel
theorem dX6_wellBehind_30 : decode cX6_wellBehind 30 = .ok (.aload_n 0, 1) := by decide +kernel
theorem dX6_wellBehind_31 : decode cX6_wellBehind 31 = .ok (.iload_n 3, 1) := by decide +kernel
theorem dX6_wellBehind_32 : decode cX6_wellBehind 32 = .ok (.iconst 0, 1) := by decide +kernel
theorem dX6_wellBehind_33 : decode cX6_wellBehind 33 = .ok (.invokestatic 74, 3) := by decide +kernel
theorem dX6_wellBehind_36 : decode cX6_wellBehind 36 = .ok (.iaload, 1) := by decide +kernel
theorem dX6_wellBehind_37 : decode cX6_wellBehind 37 = .ok (.aload_n 0, 1) := by decide +kernel
theorem dX6_wellBehind_38 : decode cX6_wellBehind 38 = .ok (.iload_n 2, 1) := by decide +kernel
theorem dX6_wellBehind_39 : decode cX6_wellBehind 39 = .ok (.iconst 0, 1) := by decide +kernel
theorem dX6_wellBehind_40 : decode cX6_wellBehind 40 = .ok (.invokestatic 74, 3) := by decide +kernel
theorem dX6_wellBehind_43 : decode cX6_wellBehind 43 = .ok (.iaload, 1) := by decide +kernel
theorem dX6_wellBehind_44 : decode cX6_wellBehind 44 = .ok (.if_icmp .ge 5, 3) := by decide +kernel
theorem dX6_wellBehind_47 : decode cX6_wellBehind 47 = .ok (.iload_n 3, 1) := by decide +kernel
theorem dX6_wellBehind_48 : decode cX6_wellBehind 48 = .ok (.istore_n 2, 1) := by decide +kernel
theorem dX6_wellBehind_49 : decode cX6_wellBehind 49 = .ok (.iinc 3 1, 3) := by decide +kernel
theorem dX6_wellBehind_52 : decode cX6_wellBehind 52 = .ok (.goto (-48), 3) := by decide +kernel
theorem dX6_wellBehind_55 : decode cX6_wellBehind 55 = .ok (.iload_n 2, 1) := by decide +kernel
theorem dX6_wellBehind_56 : decode cX6_wellBehind 56 = .ok (.ireturn, 1) := by decide +kernel
theorem dX6_stormOf_0 : decode cX6_stormOf 0 = .ok (.iconst 0, 1) := by decide +kernel
theorem dX6_stormOf_1 : decode cX6_stormOf 1 = .ok (.istore_n 2, 1) := by decide +kernel
theorem dX6_stormOf_2 : decode cX6_stormOf 2 = .ok (.iconst 0, 1) := by decide +kernel
theorem dX6_stormOf_3 : decode cX6_stormOf 3 = .ok (.istore_n 3, 1) := by decide +kernel
theorem dX6_stormOf_4 : decode cX6_stormOf 4 = .ok (.iload_n 3, 1) := by decide +kernel
theorem dX6_stormOf_5 : decode cX6_stormOf 5 = .ok (.aload_n 0, 1) := by decide +kernel
theorem dX6_stormOf_6 : decode cX6_stormOf 6 = .ok (.bipush 8, 2) := by decide +kernel
theorem dX6_stormOf_8 : decode cX6_stormOf 8 = .ok (.iaload, 1) := by decide +kernel
theorem dX6_stormOf_9 : decode cX6_stormOf 9 = .ok (.if_icmp .ge 42, 3) := by decide +kernel
theorem dX6_stormOf_12 : decode cX6_stormOf 12 = .ok (.iload_n 1, 1) := by decide +kernel
theorem dX6_stormOf_13 : decode cX6_stormOf 13 = .ok (.aload_n 0, 1) := by decide +kernel
theorem dX6_stormOf_14 : decode cX6_stormOf 14 = .ok (.iload_n 3, 1) := by decide +kernel
theorem dX6_stormOf_15 : decode cX6_stormOf 15 = .ok (.iconst 0, 1) := by decide +kernel
theorem dX6_stormOf_16 : decode cX6_stormOf 16 = .ok (.invokestatic 77, 3) := by decide +kernel
theorem dX6_stormOf_19 : decode cX6_stormOf 19 = .ok (.iaload, 1) := by decide +kernel
theorem dX6_stormOf_20 : decode cX6_stormOf 20 = .ok (.aload_n 0, 1) := by decide +kernel
theorem dX6_stormOf_21 : decode cX6_stormOf 21 = .ok (.iload_n 3, 1) := by decide +kernel
theorem dX6_stormOf_22 : decode cX6_stormOf 22 = .ok (.iconst 1, 1) := by decide +kernel
theorem dX6_stormOf_23 : decode cX6_stormOf 23 = .ok (.invokestatic 77, 3) := by decide +kernel
theorem dX6_stormOf_26 : decode cX6_stormOf 26 = .ok (.iaload, 1) := by decide +kernel
theorem dX6_stormOf_27 : decode cX6_stormOf 27 = .ok (.invokestatic 67, 3) := by decide +kernel
theorem dX6_stormOf_30 : decode cX6_stormOf 30 = .ok (.ifCond .eq 15, 3) := by decide +kernel
theorem dX6_stormOf_33 : decode cX6_stormOf 33 = .ok (.iload_n 2, 1) := by decide +kernel
theorem dX6_stormOf_34 : decode cX6_stormOf 34 = .ok (.aload_n 0, 1) := by decide +kernel
theorem dX6_stormOf_35 : decode cX6_stormOf 35 = .ok (.iload_n 3, 1) := by decide +kernel
theorem dX6_stormOf_36 : decode cX6_stormOf 36 = .ok (.iconst 2, 1) := by decide +kernel
theorem dX6_stormOf_37 : decode cX6_stormOf 37 = .ok (.invokestatic 77, 3) := by decide +kernel
theorem dX6_stormOf_40 : decode cX6_stormOf 40 = .ok (.iaload, 1) := by decide +kernel
theorem dX6_stormOf_41 : decode cX6_stormOf 41 = .ok (.invokestatic 80, 3) := by decide +kernel
theorem dX6_stormOf_44 : decode cX6_stormOf 44 = .ok (.istore_n 2, 1) := by decide +kernel
theorem dX6_stormOf_45 : decode cX6_stormOf 45 = .ok (.iinc 3 1, 3) := by decide +kernel
theorem dX6_stormOf_48 : decode cX6_stormOf 48 = .ok (.goto (-44), 3) := by decide +kernel
theorem dX6_stormOf_51 : decode cX6_stormOf 51 = .ok (.iload_n 2, 1) := by decide +kernel
theorem dX6_stormOf_52 : decode cX6_stormOf 52 = .ok (.ireturn, 1) := by decide +kernel
theorem dX6_lives_0 : decode cX6_lives 0 = .ok (.aload_n 0, 1) := by decide +kernel
theorem dX6_lives_1 : decode cX6_lives 1 = .ok (.iload_n 1, 1) := by decide +kernel
theorem dX6_lives_2 : decode cX6_lives 2 = .ok (.bipush 7, 2) := by decide +kernel
theorem dX6_lives_4 : decode cX6_lives 4 = .ok (.invokestatic 71, 3) := by decide +kernel
theorem dX6_lives_7 : decode cX6_lives 7 = .ok (.iaload, 1) := by decide +kernel
theorem dX6_lives_8 : decode cX6_lives 8 = .ok (.ifCond .ne 7, 3) := by decide +kernel
theorem dX6_lives_11 : decode cX6_lives 11 = .ok (.iconst 1, 1) := by decide +kernel
theorem dX6_lives_12 : decode cX6_lives 12 = .ok (.goto 4, 3) := by decide +kernel
theorem dX6_lives_15 : decode cX6_lives 15 = .ok (.iconst 0, 1) := by decide +kernel
theorem dX6_lives_16 : decode cX6_lives 16 = .ok (.ireturn, 1) := by decide +kernel
theorem dX6_livingOf_0 : decode cX6_livingOf 0 = .ok (.iconst 0, 1) := by decide +kernel
theorem dX6_livingOf_1 : decode cX6_livingOf 1 = .ok (.istore_n 1, 1) := by decide +kernel
theorem dX6_livingOf_2 : decode cX6_livingOf 2 = .ok (.iconst 0, 1) := by decide +kernel
theorem dX6_livingOf_3 : decode cX6_livingOf 3 = .ok (.istore_n 2, 1) := by decide +kernel
theorem dX6_livingOf_4 : decode cX6_livingOf 4 = .ok (.iload_n 2, 1) := by decide +kernel
theorem dX6_livingOf_5 : decode cX6_livingOf 5 = .ok (.aload_n 0, 1) := by decide +kernel
theorem dX6_livingOf_6 : decode cX6_livingOf 6 = .ok (.bipush 6, 2) := by decide +kernel
theorem dX6_livingOf_8 : decode cX6_livingOf 8 = .ok (.iaload, 1) := by decide +kernel
theorem dX6_livingOf_9 : decode cX6_livingOf 9 = .ok (.if_icmp .ge 20, 3) := by decide +kernel
theorem dX6_livingOf_12 : decode cX6_livingOf 12 = .ok (.aload_n 0, 1) := by decide +kernel
theorem dX6_livingOf_13 : decode cX6_livingOf 13 = .ok (.iload_n 2, 1) := by decide +kernel
theorem dX6_livingOf_14 : decode cX6_livingOf 14 = .ok (.invokestatic 83, 3) := by decide +kernel
theorem dX6_livingOf_17 : decode cX6_livingOf 17 = .ok (.ifCond .eq 6, 3) := by decide +kernel
theorem dX6_livingOf_20 : decode cX6_livingOf 20 = .ok (.iinc 1 1, 3) := by decide +kernel
theorem dX6_livingOf_23 : decode cX6_livingOf 23 = .ok (.iinc 2 1, 3) := by decide +kernel
theorem dX6_livingOf_26 : decode cX6_livingOf 26 = .ok (.goto (-22), 3) := by decide +kernel
theorem dX6_livingOf_29 : decode cX6_livingOf 29 = .ok (.iload_n 1, 1) := by decide +kernel
theorem dX6_livingOf_30 : decode cX6_livingOf 30 = .ok (.ireturn, 1) := by decide +kernel
theorem dX6_carriedBy_0 : decode cX6_carriedBy 0 = .ok (.iconst 0, 1) := by decide +kernel
theorem dX6_carriedBy_1 : decode cX6_carriedBy 1 = .ok (.istore_n 2, 1) := by decide +kernel
theorem dX6_carriedBy_2 : decode cX6_carriedBy 2 = .ok (.iconst 0, 1) := by decide +kernel
theorem dX6_carriedBy_3 : decode cX6_carriedBy 3 = .ok (.istore_n 3, 1) := by decide +kernel
theorem dX6_carriedBy_4 : decode cX6_carriedBy 4 = .ok (.iload_n 3, 1) := by decide +kernel
theorem dX6_carriedBy_5 : decode cX6_carriedBy 5 = .ok (.aload_n 0, 1) := by decide +kernel
theorem dX6_carriedBy_6 : decode cX6_carriedBy 6 = .ok (.bipush 9, 2) := by decide +kernel
theorem dX6_carriedBy_8 : decode cX6_carriedBy 8 = .ok (.iaload, 1) := by decide +kernel
theorem dX6_carriedBy_9 : decode cX6_carriedBy 9 = .ok (.if_icmp .ge 30, 3) := by decide +kernel
theorem dX6_carriedBy_12 : decode cX6_carriedBy 12 = .ok (.aload_n 0, 1) := by decide +kernel
theorem dX6_carriedBy_13 : decode cX6_carriedBy 13 = .ok (.iload_n 3, 1) := by decide +kernel
theorem dX6_carriedBy_14 : decode cX6_carriedBy 14 = .ok (.iconst 2, 1) := by decide +kernel
theorem dX6_carriedBy_15 : decode cX6_carriedBy 15 = .ok (.invokestatic 56, 3) := by decide +kernel
theorem dX6_carriedBy_18 : decode cX6_carriedBy 18 = .ok (.iaload, 1) := by decide +kernel
theorem dX6_carriedBy_19 : decode cX6_carriedBy 19 = .ok (.iload_n 1, 1) := by decide +kernel
theorem dX6_carriedBy_20 : decode cX6_carriedBy 20 = .ok (.if_icmp .ne 13, 3) := by decide +kernel
theorem dX6_carriedBy_23 : decode cX6_carriedBy 23 = .ok (.iload_n 2, 1) := by decide +kernel
theorem dX6_carriedBy_24 : decode cX6_carriedBy 24 = .ok (.aload_n 0, 1) := by decide +kernel
theorem dX6_carriedBy_25 : decode cX6_carriedBy 25 = .ok (.iload_n 3, 1) := by decide +kernel
theorem dX6_carriedBy_26 : decode cX6_carriedBy 26 = .ok (.iconst 0, 1) := by decide +kernel
theorem dX6_carriedBy_27 : decode cX6_carriedBy 27 = .ok (.invokestatic 56, 3) := by decide +kernel
theorem dX6_carriedBy_30 : decode cX6_carriedBy 30 = .ok (.iaload, 1) := by decide +kernel
theorem dX6_carriedBy_31 : decode cX6_carriedBy 31 = .ok (.iadd, 1) := by decide +kernel
theorem dX6_carriedBy_32 : decode cX6_carriedBy 32 = .ok (.istore_n 2, 1) := by decide +kernel
theorem dX6_carriedBy_33 : decode cX6_carriedBy 33 = .ok (.iinc 3 1, 3) := by decide +kernel
theorem dX6_carriedBy_36 : decode cX6_carriedBy 36 = .ok (.goto (-32), 3) := by decide +kernel
theorem dX6_carriedBy_39 : decode cX6_carriedBy 39 = .ok (.iload_n 2, 1) := by decide +kernel
theorem dX6_carriedBy_40 : decode cX6_carriedBy 40 = .ok (.ireturn, 1) := by decide +kernel
theorem dX6_freeOf_0 : decode cX6_freeOf 0 = .ok (.bipush 20, 2) := by decide +kernel
theorem dX6_freeOf_2 : decode cX6_freeOf 2 = .ok (.aload_n 0, 1) := by decide +kernel
theorem dX6_freeOf_3 : decode cX6_freeOf 3 = .ok (.iload_n 1, 1) := by decide +kernel
theorem dX6_freeOf_4 : decode cX6_freeOf 4 = .ok (.iconst 1, 1) := by decide +kernel
theorem dX6_freeOf_5 : decode cX6_freeOf 5 = .ok (.invokestatic 71, 3) := by decide +kernel
theorem dX6_freeOf_8 : decode cX6_freeOf 8 = .ok (.iaload, 1) := by decide +kernel
theorem dX6_freeOf_9 : decode cX6_freeOf 9 = .ok (.imul, 1) := by decide +kernel
theorem dX6_freeOf_10 : decode cX6_freeOf 10 = .ok (.aload_n 0, 1) := by decide +kernel
theorem dX6_freeOf_11 : decode cX6_freeOf 11 = .ok (.iload_n 1, 1) := by decide +kernel
theorem dX6_freeOf_12 : decode cX6_freeOf 12 = .ok (.invokestatic 87, 3) := by decide +kernel
theorem dX6_freeOf_15 : decode cX6_freeOf 15 = .ok (.isub, 1) := by decide +kernel
theorem dX6_freeOf_16 : decode cX6_freeOf 16 = .ok (.ireturn, 1) := by decide +kernel
theorem dX6_speedOf_0 : decode cX6_speedOf 0 = .ok (.aload_n 0, 1) := by decide +kernel
theorem dX6_speedOf_1 : decode cX6_speedOf 1 = .ok (.iload_n 1, 1) := by decide +kernel
theorem dX6_speedOf_2 : decode cX6_speedOf 2 = .ok (.iconst 0, 1) := by decide +kernel
theorem dX6_speedOf_3 : decode cX6_speedOf 3 = .ok (.invokestatic 71, 3) := by decide +kernel
theorem dX6_speedOf_6 : decode cX6_speedOf 6 = .ok (.iaload, 1) := by decide +kernel
theorem dX6_speedOf_7 : decode cX6_speedOf 7 = .ok (.istore_n 2, 1) := by decide +kernel
theorem dX6_speedOf_8 : decode cX6_speedOf 8 = .ok (.aload_n 0, 1) := by decide +kernel
theorem dX6_speedOf_9 : decode cX6_speedOf 9 = .ok (.iload_n 1, 1) := by decide +kernel
theorem dX6_speedOf_10 : decode cX6_speedOf 10 = .ok (.iconst 5, 1) := by decide +kernel
theorem dX6_speedOf_11 : decode cX6_speedOf 11 = .ok (.invokestatic 71, 3) := by decide +kernel
theorem dX6_speedOf_14 : decode cX6_speedOf 14 = .ok (.iaload, 1) := by decide +kernel
theorem dX6_speedOf_15 : decode cX6_speedOf 15 = .ok (.ifCond .le 7, 3) := by decide +kernel
theorem dX6_speedOf_18 : decode cX6_speedOf 18 = .ok (.iload_n 2, 1) := by decide +kernel
theorem dX6_speedOf_19 : decode cX6_speedOf 19 = .ok (.iconst 2, 1) := by decide +kernel
theorem dX6_speedOf_20 : decode cX6_speedOf 20 = .ok (.idiv, 1) := by decide +kernel
theorem dX6_speedOf_21 : decode cX6_speedOf 21 = .ok (.istore_n 2, 1) := by decide +kernel
theorem dX6_speedOf_22 : decode cX6_speedOf 22 = .ok (.iconst 5, 1) := by decide +kernel
theorem dX6_speedOf_23 : decode cX6_speedOf 23 = .ok (.iload_n 2, 1) := by decide +kernel
theorem dX6_speedOf_24 : decode cX6_speedOf 24 = .ok (.aload_n 0, 1) := by decide +kernel
theorem dX6_speedOf_25 : decode cX6_speedOf 25 = .ok (.iload_n 1, 1) := by decide +kernel
theorem dX6_speedOf_26 : decode cX6_speedOf 26 = .ok (.invokestatic 87, 3) := by decide +kernel
theorem dX6_speedOf_29 : decode cX6_speedOf 29 = .ok (.bipush 10, 2) := by decide +kernel
theorem dX6_speedOf_31 : decode cX6_speedOf 31 = .ok (.idiv, 1) := by decide +kernel
theorem dX6_speedOf_32 : decode cX6_speedOf 32 = .ok (.isub, 1) := by decide +kernel
theorem dX6_speedOf_33 : decode cX6_speedOf 33 = .ok (.invokestatic 80, 3) := by decide +kernel
theorem dX6_speedOf_36 : decode cX6_speedOf 36 = .ok (.ireturn, 1) := by decide +kernel
theorem dX6_fastestOf_0 : decode cX6_fastestOf 0 = .ok (.iconst (-1), 1) := by decide +kernel
theorem dX6_fastestOf_1 : decode cX6_fastestOf 1 = .ok (.istore_n 1, 1) := by decide +kernel
theorem dX6_fastestOf_2 : decode cX6_fastestOf 2 = .ok (.iconst 0, 1) := by decide +kernel
theorem dX6_fastestOf_3 : decode cX6_fastestOf 3 = .ok (.istore_n 2, 1) := by decide +kernel
theorem dX6_fastestOf_4 : decode cX6_fastestOf 4 = .ok (.iload_n 2, 1) := by decide +kernel
theorem dX6_fastestOf_5 : decode cX6_fastestOf 5 = .ok (.aload_n 0, 1) := by decide +kernel
theorem dX6_fastestOf_6 : decode cX6_fastestOf 6 = .ok (.bipush 6, 2) := by decide +kernel
theorem dX6_fastestOf_8 : decode cX6_fastestOf 8 = .ok (.iaload, 1) := by decide +kernel
theorem dX6_fastestOf_9 : decode cX6_fastestOf 9 = .ok (.if_icmp .ge 39, 3) := by decide +kernel
theorem dX6_fastestOf_12 : decode cX6_fastestOf 12 = .ok (.aload_n 0, 1) := by decide +kernel
theorem dX6_fastestOf_13 : decode cX6_fastestOf 13 = .ok (.iload_n 2, 1) := by decide +kernel
theorem dX6_fastestOf_14 : decode cX6_fastestOf 14 = .ok (.invokestatic 83, 3) := by decide +kernel
theorem dX6_fastestOf_17 : decode cX6_fastestOf 17 = .ok (.ifCond .ne 6, 3) := by decide +kernel
theorem dX6_fastestOf_20 : decode cX6_fastestOf 20 = .ok (.goto 22, 3) := by decide +kernel
theorem dX6_fastestOf_23 : decode cX6_fastestOf 23 = .ok (.iload_n 1, 1) := by decide +kernel
theorem dX6_fastestOf_24 : decode cX6_fastestOf 24 = .ok (.ifCond .lt 16, 3) := by decide +kernel
theorem dX6_fastestOf_27 : decode cX6_fastestOf 27 = .ok (.aload_n 0, 1) := by decide +kernel
theorem dX6_fastestOf_28 : decode cX6_fastestOf 28 = .ok (.iload_n 2, 1) := by decide +kernel
theorem dX6_fastestOf_29 : decode cX6_fastestOf 29 = .ok (.invokestatic 91, 3) := by decide +kernel
theorem dX6_fastestOf_32 : decode cX6_fastestOf 32 = .ok (.aload_n 0, 1) := by decide +kernel
theorem dX6_fastestOf_33 : decode cX6_fastestOf 33 = .ok (.iload_n 1, 1) := by decide +kernel
theorem dX6_fastestOf_34 : decode cX6_fastestOf 34 = .ok (.invokestatic 91, 3) := by decide +kernel
theorem dX6_fastestOf_37 : decode cX6_fastestOf 37 = .ok (.if_icmp .le 5, 3) := by decide +kernel
theorem dX6_fastestOf_40 : decode cX6_fastestOf 40 = .ok (.iload_n 2, 1) := by decide +kernel
theorem dX6_fastestOf_41 : decode cX6_fastestOf 41 = .ok (.istore_n 1, 1) := by decide +kernel
theorem dX6_fastestOf_42 : decode cX6_fastestOf 42 = .ok (.iinc 2 1, 3) := by decide +kernel
theorem dX6_fastestOf_45 : decode cX6_fastestOf 45 = .ok (.goto (-41), 3) := by decide +kernel
theorem dX6_fastestOf_48 : decode cX6_fastestOf 48 = .ok (.iload_n 1, 1) := by decide +kernel
theorem dX6_fastestOf_49 : decode cX6_fastestOf 49 = .ok (.ireturn, 1) := by decide +kernel
theorem dX6_needOf_0 : decode cX6_needOf 0 = .ok (.iconst 5, 1) := by decide +kernel
theorem dX6_needOf_1 : decode cX6_needOf 1 = .ok (.aload_n 0, 1) := by decide +kernel
theorem dX6_needOf_2 : decode cX6_needOf 2 = .ok (.iload_n 1, 1) := by decide +kernel
theorem dX6_needOf_3 : decode cX6_needOf 3 = .ok (.invokestatic 87, 3) := by decide +kernel
theorem dX6_needOf_6 : decode cX6_needOf 6 = .ok (.bipush 25, 2) := by decide +kernel
theorem dX6_needOf_8 : decode cX6_needOf 8 = .ok (.idiv, 1) := by decide +kernel
theorem dX6_needOf_9 : decode cX6_needOf 9 = .ok (.iadd, 1) := by decide +kernel
theorem dX6_needOf_10 : decode cX6_needOf 10 = .ok (.aload_n 0, 1) := by decide +kernel
theorem dX6_needOf_11 : decode cX6_needOf 11 = .ok (.aload_n 0, 1) := by decide +kernel
theorem dX6_needOf_12 : decode cX6_needOf 12 = .ok (.iconst 2, 1) := by decide +kernel
theorem dX6_needOf_13 : decode cX6_needOf 13 = .ok (.iaload, 1) := by decide +kernel
theorem dX6_needOf_14 : decode cX6_needOf 14 = .ok (.invokestatic 94, 3) := by decide +kernel
theorem dX6_needOf_17 : decode cX6_needOf 17 = .ok (.iadd, 1) := by decide +kernel
theorem dX6_needOf_18 : decode cX6_needOf 18 = .ok (.ireturn, 1) := by decide +kernel
theorem dX6_distanceOf_0 : decode cX6_distanceOf 0 = .ok (.aload_n 0, 1) := by decide +kernel
theorem dX6_distanceOf_1 : decode cX6_distanceOf 1 = .ok (.aload_n 0, 1) := by decide +kernel
theorem dX6_distanceOf_2 : decode cX6_distanceOf 2 = .ok (.iconst 4, 1) := by decide +kernel
theorem dX6_distanceOf_3 : decode cX6_distanceOf 3 = .ok (.iaload, 1) := by decide +kernel
theorem dX6_distanceOf_4 : decode cX6_distanceOf 4 = .ok (.invokestatic 91, 3) := by decide +kernel
theorem dX6_distanceOf_7 : decode cX6_distanceOf 7 = .ok (.bipush 10, 2) := by decide +kernel
theorem dX6_distanceOf_9 : decode cX6_distanceOf 9 = .ok (.aload_n 0, 1) := by decide +kernel
theorem dX6_distanceOf_10 : decode cX6_distanceOf 10 = .ok (.aload_n 0, 1) := by decide +kernel
theorem dX6_distanceOf_11 : decode cX6_distanceOf 11 = .ok (.iconst 2, 1) := by decide +kernel
theorem dX6_distanceOf_12 : decode cX6_distanceOf 12 = .ok (.iaload, 1) := by decide +kernel
theorem dX6_distanceOf_13 : decode cX6_distanceOf 13 = .ok (.invokestatic 94, 3) := by decide +kernel
theorem dX6_distanceOf_16 : decode cX6_distanceOf 16 = .ok (.isub, 1) := by decide +kernel
theorem dX6_distanceOf_17 : decode cX6_distanceOf 17 = .ok (.imul, 1) := by decide +kernel
theorem dX6_distanceOf_18 : decode cX6_distanceOf 18 = .ok (.bipush 10, 2) := by decide +kernel
theorem dX6_distanceOf_20 : decode cX6_distanceOf 20 = .ok (.idiv, 1) := by decide +kernel
theorem dX6_distanceOf_21 : decode cX6_distanceOf 21 = .ok (.istore_n 1, 1) := by decide +kernel
theorem dX6_distanceOf_22 : decode cX6_distanceOf 22 = .ok (.iload_n 1, 1) := by decide +kernel
theorem dX6_distanceOf_23 : decode cX6_distanceOf 23 = .ok (.aload_n 0, 1) := by decide +kernel
theorem dX6_distanceOf_24 : decode cX6_distanceOf 24 = .ok (.iconst 0, 1) := by decide +kernel
theorem dX6_distanceOf_25 : decode cX6_distanceOf 25 = .ok (.iaload, 1) := by decide +kernel
theorem dX6_distanceOf_26 : decode cX6_distanceOf 26 = .ok (.aload_n 0, 1) := by decide +kernel
theorem dX6_distanceOf_27 : decode cX6_distanceOf 27 = .ok (.iconst 1, 1) := by decide +kernel
theorem dX6_distanceOf_28 : decode cX6_distanceOf 28 = .ok (.iaload, 1) := by decide +kernel
theorem dX6_distanceOf_29 : decode cX6_distanceOf 29 = .ok (.isub, 1) := by decide +kernel
theorem dX6_distanceOf_30 : decode cX6_distanceOf 30 = .ok (.invokestatic 97, 3) := by decide +kernel
theorem dX6_distanceOf_33 : decode cX6_distanceOf 33 = .ok (.istore_n 1, 1) := by decide +kernel
theorem dX6_distanceOf_34 : decode cX6_distanceOf 34 = .ok (.aload_n 0, 1) := by decide +kernel
theorem dX6_distanceOf_35 : decode cX6_distanceOf 35 = .ok (.aload_n 0, 1) := by decide +kernel
theorem dX6_distanceOf_36 : decode cX6_distanceOf 36 = .ok (.iconst 1, 1) := by decide +kernel
theorem dX6_distanceOf_37 : decode cX6_distanceOf 37 = .ok (.iaload, 1) := by decide +kernel
theorem dX6_distanceOf_38 : decode cX6_distanceOf 38 = .ok (.invokestatic 100, 3) := by decide +kernel
theorem dX6_distanceOf_41 : decode cX6_distanceOf 41 = .ok (.istore_n 2, 1) := by decide +kernel
theorem dX6_distanceOf_42 : decode cX6_distanceOf 42 = .ok (.aload_n 0, 1) := by decide +kernel
theorem dX6_distanceOf_43 : decode cX6_distanceOf 43 = .ok (.iconst 3, 1) := by decide +kernel
theorem dX6_distanceOf_44 : decode cX6_distanceOf 44 = .ok (.iaload, 1) := by decide +kernel
theorem dX6_distanceOf_45 : decode cX6_distanceOf 45 = .ok (.iconst 1, 1) := by decide +kernel
theorem dX6_distanceOf_46 : decode cX6_distanceOf 46 = .ok (.if_icmp .ne 23, 3) := by decide +kernel
theorem dX6_distanceOf_49 : decode cX6_distanceOf 49 = .ok (.iload_n 2, 1) := by decide +kernel
theorem dX6_distanceOf_50 : decode cX6_distanceOf 50 = .ok (.ifCond .lt 19, 3) := by decide +kernel
theorem dX6_distanceOf_53 : decode cX6_distanceOf 53 = .ok (.iload_n 1, 1) := by decide +kernel
theorem dX6_distanceOf_54 : decode cX6_distanceOf 54 = .ok (.aload_n 0, 1) := by decide +kernel
theorem dX6_distanceOf_55 : decode cX6_distanceOf 55 = .ok (.iload_n 2, 1) := by decide +kernel
theorem dX6_distanceOf_56 : decode cX6_distanceOf 56 = .ok (.iconst 0, 1) := by decide +kernel
theorem dX6_distanceOf_57 : decode cX6_distanceOf 57 = .ok (.invokestatic 74, 3) := by decide +kernel
theorem dX6_distanceOf_60 : decode cX6_distanceOf 60 = .ok (.iaload, 1) := by decide +kernel
theorem dX6_distanceOf_61 : decode cX6_distanceOf 61 = .ok (.aload_n 0, 1) := by decide +kernel
theorem dX6_distanceOf_62 : decode cX6_distanceOf 62 = .ok (.iconst 1, 1) := by decide +kernel
theorem dX6_distanceOf_63 : decode cX6_distanceOf 63 = .ok (.iaload, 1) := by decide +kernel
theorem dX6_distanceOf_64 : decode cX6_distanceOf 64 = .ok (.isub, 1) := by decide +kernel
theorem dX6_distanceOf_65 : decode cX6_distanceOf 65 = .ok (.invokestatic 97, 3) := by decide +kernel
theorem dX6_distanceOf_68 : decode cX6_distanceOf 68 = .ok (.istore_n 1, 1) := by decide +kernel
theorem dX6_distanceOf_69 : decode cX6_distanceOf 69 = .ok (.iload_n 1, 1) := by decide +kernel
theorem dX6_distanceOf_70 : decode cX6_distanceOf 70 = .ok (.ireturn, 1) := by decide +kernel
theorem dX6_isAtEnd_0 : decode cX6_isAtEnd 0 = .ok (.aload_n 0, 1) := by decide +kernel
theorem dX6_isAtEnd_1 : decode cX6_isAtEnd 1 = .ok (.iconst 1, 1) := by decide +kernel
theorem dX6_isAtEnd_2 : decode cX6_isAtEnd 2 = .ok (.iaload, 1) := by decide +kernel
theorem dX6_isAtEnd_3 : decode cX6_isAtEnd 3 = .ok (.aload_n 0, 1) := by decide +kernel
theorem dX6_isAtEnd_4 : decode cX6_isAtEnd 4 = .ok (.iconst 0, 1) := by decide +kernel
theorem dX6_isAtEnd_5 : decode cX6_isAtEnd 5 = .ok (.iaload, 1) := by decide +kernel
theorem dX6_isAtEnd_6 : decode cX6_isAtEnd 6 = .ok (.if_icmp .ne 7, 3) := by decide +kernel
theorem dX6_isAtEnd_9 : decode cX6_isAtEnd 9 = .ok (.iconst 1, 1) := by decide +kernel
theorem dX6_isAtEnd_10 : decode cX6_isAtEnd 10 = .ok (.goto 4, 3) := by decide +kernel
theorem dX6_isAtEnd_13 : decode cX6_isAtEnd 13 = .ok (.iconst 0, 1) := by decide +kernel
theorem dX6_isAtEnd_14 : decode cX6_isAtEnd 14 = .ok (.ireturn, 1) := by decide +kernel
theorem dX6_recovers_0 : decode cX6_recovers 0 = .ok (.iload_n 1, 1) := by decide +kernel
theorem dX6_recovers_1 : decode cX6_recovers 1 = .ok (.iconst 4, 1) := by decide +kernel
theorem dX6_recovers_2 : decode cX6_recovers 2 = .ok (.invokestatic 71, 3) := by decide +kernel
theorem dX6_recovers_5 : decode cX6_recovers 5 = .ok (.istore_n 2, 1) := by decide +kernel
theorem dX6_recovers_6 : decode cX6_recovers 6 = .ok (.aload_n 0, 1) := by decide +kernel
theorem dX6_recovers_7 : decode cX6_recovers 7 = .ok (.iload_n 2, 1) := by decide +kernel
theorem dX6_recovers_8 : decode cX6_recovers 8 = .ok (.iconst 0, 1) := by decide +kernel
theorem dX6_recovers_9 : decode cX6_recovers 9 = .ok (.aload_n 0, 1) := by decide +kernel
theorem dX6_recovers_10 : decode cX6_recovers 10 = .ok (.iload_n 2, 1) := by decide +kernel
theorem dX6_recovers_11 : decode cX6_recovers 11 = .ok (.iaload, 1) := by decide +kernel
theorem dX6_recovers_12 : decode cX6_recovers 12 = .ok (.bipush 10, 2) := by decide +kernel
theorem dX6_recovers_14 : decode cX6_recovers 14 = .ok (.isub, 1) := by decide +kernel
theorem dX6_recovers_15 : decode cX6_recovers 15 = .ok (.invokestatic 80, 3) := by decide +kernel
theorem dX6_recovers_18 : decode cX6_recovers 18 = .ok (.iastore, 1) := by decide +kernel
theorem dX6_recovers_19 : decode cX6_recovers 19 = .ok (.return_, 1) := by decide +kernel
theorem dX6_strains_0 : decode cX6_strains 0 = .ok (.aload_n 0, 1) := by decide +kernel
theorem dX6_strains_1 : decode cX6_strains 1 = .ok (.iload_n 1, 1) := by decide +kernel
theorem dX6_strains_2 : decode cX6_strains 2 = .ok (.invokestatic 91, 3) := by decide +kernel
theorem dX6_strains_5 : decode cX6_strains 5 = .ok (.istore_n 3, 1) := by decide +kernel
theorem dX6_strains_6 : decode cX6_strains 6 = .ok (.iload_n 2, 1) := by decide +kernel
theorem dX6_strains_7 : decode cX6_strains 7 = .ok (.iload_n 3, 1) := by decide +kernel
theorem dX6_strains_8 : decode cX6_strains 8 = .ok (.if_icmp .le 19, 3) := by decide +kernel
theorem dX6_strains_11 : decode cX6_strains 11 = .ok (.aload_n 0, 1) := by decide +kernel
theorem dX6_strains_12 : decode cX6_strains 12 = .ok (.iload_n 1, 1) := by decide +kernel
theorem dX6_strains_13 : decode cX6_strains 13 = .ok (.iconst 4, 1) := by decide +kernel
theorem dX6_strains_14 : decode cX6_strains 14 = .ok (.invokestatic 71, 3) := by decide +kernel
theorem dX6_strains_17 : decode cX6_strains 17 = .ok (.dup2, 1) := by decide +kernel
theorem dX6_strains_18 : decode cX6_strains 18 = .ok (.iaload, 1) := by decide +kernel
theorem dX6_strains_19 : decode cX6_strains 19 = .ok (.iload_n 2, 1) := by decide +kernel
theorem dX6_strains_20 : decode cX6_strains 20 = .ok (.iload_n 3, 1) := by decide +kernel
theorem dX6_strains_21 : decode cX6_strains 21 = .ok (.isub, 1) := by decide +kernel
theorem dX6_strains_22 : decode cX6_strains 22 = .ok (.iadd, 1) := by decide +kernel
theorem dX6_strains_23 : decode cX6_strains 23 = .ok (.iastore, 1) := by decide +kernel
theorem dX6_strains_24 : decode cX6_strains 24 = .ok (.goto 8, 3) := by decide +kernel
theorem dX6_strains_27 : decode cX6_strains 27 = .ok (.aload_n 0, 1) := by decide +kernel
theorem dX6_strains_28 : decode cX6_strains 28 = .ok (.iload_n 1, 1) := by decide +kernel
theorem dX6_strains_29 : decode cX6_strains 29 = .ok (.invokestatic 103, 3) := by decide +kernel
theorem dX6_strains_32 : decode cX6_strains 32 = .ok (.return_, 1) := by decide +kernel
theorem dX6_limps_0 : decode cX6_limps 0 = .ok (.aload_n 0, 1) := by decide +kernel
theorem dX6_limps_1 : decode cX6_limps 1 = .ok (.iload_n 1, 1) := by decide +kernel
theorem dX6_limps_2 : decode cX6_limps 2 = .ok (.iconst 4, 1) := by decide +kernel
theorem dX6_limps_3 : decode cX6_limps 3 = .ok (.invokestatic 71, 3) := by decide +kernel
theorem dX6_limps_6 : decode cX6_limps 6 = .ok (.iaload, 1) := by decide +kernel
theorem dX6_limps_7 : decode cX6_limps 7 = .ok (.bipush 60, 2) := by decide +kernel
theorem dX6_limps_9 : decode cX6_limps 9 = .ok (.if_icmp .le 25, 3) := by decide +kernel
theorem dX6_limps_12 : decode cX6_limps 12 = .ok (.aload_n 0, 1) := by decide +kernel
theorem dX6_limps_13 : decode cX6_limps 13 = .ok (.iload_n 1, 1) := by decide +kernel
theorem dX6_limps_14 : decode cX6_limps 14 = .ok (.iconst 5, 1) := by decide +kernel
theorem dX6_limps_15 : decode cX6_limps 15 = .ok (.invokestatic 71, 3) := by decide +kernel
theorem dX6_limps_18 : decode cX6_limps 18 = .ok (.dup2, 1) := by decide +kernel
theorem dX6_limps_19 : decode cX6_limps 19 = .ok (.iaload, 1) := by decide +kernel
theorem dX6_limps_20 : decode cX6_limps 20 = .ok (.iconst 3, 1) := by decide +kernel
theorem dX6_limps_21 : decode cX6_limps 21 = .ok (.iadd, 1) := by decide +kernel
theorem dX6_limps_22 : decode cX6_limps 22 = .ok (.iastore, 1) := by decide +kernel
theorem dX6_limps_23 : decode cX6_limps 23 = .ok (.aload_n 0, 1) := by decide +kernel
theorem dX6_limps_24 : decode cX6_limps 24 = .ok (.iload_n 1, 1) := by decide +kernel
theorem dX6_limps_25 : decode cX6_limps 25 = .ok (.iconst 4, 1) := by decide +kernel
theorem dX6_limps_26 : decode cX6_limps 26 = .ok (.invokestatic 71, 3) := by decide +kernel
theorem dX6_limps_29 : decode cX6_limps 29 = .ok (.iconst 0, 1) := by decide +kernel
theorem dX6_limps_30 : decode cX6_limps 30 = .ok (.iastore, 1) := by decide +kernel
theorem dX6_limps_31 : decode cX6_limps 31 = .ok (.goto 24, 3) := by decide +kernel
theorem dX6_limps_34 : decode cX6_limps 34 = .ok (.aload_n 0, 1) := by decide +kernel
theorem dX6_limps_35 : decode cX6_limps 35 = .ok (.iload_n 1, 1) := by decide +kernel
theorem dX6_limps_36 : decode cX6_limps 36 = .ok (.iconst 5, 1) := by decide +kernel
theorem dX6_limps_37 : decode cX6_limps 37 = .ok (.invokestatic 71, 3) := by decide +kernel
theorem dX6_limps_40 : decode cX6_limps 40 = .ok (.iaload, 1) := by decide +kernel
theorem dX6_limps_41 : decode cX6_limps 41 = .ok (.ifCond .le 14, 3) := by decide +kernel
theorem dX6_limps_44 : decode cX6_limps 44 = .ok (.aload_n 0, 1) := by decide +kernel
theorem dX6_limps_45 : decode cX6_limps 45 = .ok (.iload_n 1, 1) := by decide +kernel
theorem dX6_limps_46 : decode cX6_limps 46 = .ok (.iconst 5, 1) := by decide +kernel
theorem dX6_limps_47 : decode cX6_limps 47 = .ok (.invokestatic 71, 3) := by decide +kernel
theorem dX6_limps_50 : decode cX6_limps 50 = .ok (.dup2, 1) := by decide +kernel
theorem dX6_limps_51 : decode cX6_limps 51 = .ok (.iaload, 1) := by decide +kernel
theorem dX6_limps_52 : decode cX6_limps 52 = .ok (.iconst 1, 1) := by decide +kernel
theorem dX6_limps_53 : decode cX6_limps 53 = .ok (.isub, 1) := by decide +kernel
theorem dX6_limps_54 : decode cX6_limps 54 = .ok (.iastore, 1) := by decide +kernel
theorem dX6_limps_55 : decode cX6_limps 55 = .ok (.return_, 1) := by decide +kernel
theorem dX6_dies_0 : decode cX6_dies 0 = .ok (.aload_n 0, 1) := by decide +kernel
theorem dX6_dies_1 : decode cX6_dies 1 = .ok (.iload_n 1, 1) := by decide +kernel
theorem dX6_dies_2 : decode cX6_dies 2 = .ok (.bipush 7, 2) := by decide +kernel
theorem dX6_dies_4 : decode cX6_dies 4 = .ok (.invokestatic 71, 3) := by decide +kernel
theorem dX6_dies_7 : decode cX6_dies 7 = .ok (.iconst 1, 1) := by decide +kernel
theorem dX6_dies_8 : decode cX6_dies 8 = .ok (.iastore, 1) := by decide +kernel
theorem dX6_dies_9 : decode cX6_dies 9 = .ok (.iconst 0, 1) := by decide +kernel
theorem dX6_dies_10 : decode cX6_dies 10 = .ok (.istore_n 2, 1) := by decide +kernel
theorem dX6_dies_11 : decode cX6_dies 11 = .ok (.iload_n 2, 1) := by decide +kernel
theorem dX6_dies_12 : decode cX6_dies 12 = .ok (.aload_n 0, 1) := by decide +kernel
theorem dX6_dies_13 : decode cX6_dies 13 = .ok (.bipush 9, 2) := by decide +kernel
theorem dX6_dies_15 : decode cX6_dies 15 = .ok (.iaload, 1) := by decide +kernel
theorem dX6_dies_16 : decode cX6_dies 16 = .ok (.if_icmp .ge 41, 3) := by decide +kernel
theorem dX6_dies_19 : decode cX6_dies 19 = .ok (.aload_n 0, 1) := by decide +kernel
theorem dX6_dies_20 : decode cX6_dies 20 = .ok (.iload_n 2, 1) := by decide +kernel
theorem dX6_dies_21 : decode cX6_dies 21 = .ok (.iconst 2, 1) := by decide +kernel
theorem dX6_dies_22 : decode cX6_dies 22 = .ok (.invokestatic 56, 3) := by decide +kernel
theorem dX6_dies_25 : decode cX6_dies 25 = .ok (.iaload, 1) := by decide +kernel
theorem dX6_dies_26 : decode cX6_dies 26 = .ok (.iload_n 1, 1) := by decide +kernel
theorem dX6_dies_27 : decode cX6_dies 27 = .ok (.if_icmp .eq 6, 3) := by decide +kernel
theorem dX6_dies_30 : decode cX6_dies 30 = .ok (.goto 21, 3) := by decide +kernel
theorem dX6_dies_33 : decode cX6_dies 33 = .ok (.aload_n 0, 1) := by decide +kernel
theorem dX6_dies_34 : decode cX6_dies 34 = .ok (.iload_n 2, 1) := by decide +kernel
theorem dX6_dies_35 : decode cX6_dies 35 = .ok (.iconst 2, 1) := by decide +kernel
theorem dX6_dies_36 : decode cX6_dies 36 = .ok (.invokestatic 56, 3) := by decide +kernel
theorem dX6_dies_39 : decode cX6_dies 39 = .ok (.iconst (-1), 1) := by decide +kernel
theorem dX6_dies_40 : decode cX6_dies 40 = .ok (.iastore, 1) := by decide +kernel
theorem dX6_dies_41 : decode cX6_dies 41 = .ok (.aload_n 0, 1) := by decide +kernel
theorem dX6_dies_42 : decode cX6_dies 42 = .ok (.iload_n 2, 1) := by decide +kernel
theorem dX6_dies_43 : decode cX6_dies 43 = .ok (.iconst 3, 1) := by decide +kernel
theorem dX6_dies_44 : decode cX6_dies 44 = .ok (.invokestatic 56, 3) := by decide +kernel
theorem dX6_dies_47 : decode cX6_dies 47 = .ok (.aload_n 0, 1) := by decide +kernel
theorem dX6_dies_48 : decode cX6_dies 48 = .ok (.iconst 1, 1) := by decide +kernel
theorem dX6_dies_49 : decode cX6_dies 49 = .ok (.iaload, 1) := by decide +kernel
theorem dX6_dies_50 : decode cX6_dies 50 = .ok (.iastore, 1) := by decide +kernel
theorem dX6_dies_51 : decode cX6_dies 51 = .ok (.iinc 2 1, 3) := by decide +kernel
theorem dX6_dies_54 : decode cX6_dies 54 = .ok (.goto (-43), 3) := by decide +kernel
theorem dX6_dies_57 : decode cX6_dies 57 = .ok (.return_, 1) := by decide +kernel
theorem dX6_thirsts_0 : decode cX6_thirsts 0 = .ok (.iload_n 1, 1) := by decide +kernel
theorem dX6_thirsts_1 : decode cX6_thirsts 1 = .ok (.iconst 3, 1) := by decide +kernel
theorem dX6_thirsts_2 : decode cX6_thirsts 2 = .ok (.invokestatic 71, 3) := by decide +kernel
theorem dX6_thirsts_5 : decode cX6_thirsts 5 = .ok (.istore_n 3, 1) := by decide +kernel
theorem dX6_thirsts_6 : decode cX6_thirsts 6 = .ok (.aload_n 0, 1) := by decide +kernel
theorem dX6_thirsts_7 : decode cX6_thirsts 7 = .ok (.iload_n 3, 1) := by decide +kernel
theorem dX6_thirsts_8 : decode cX6_thirsts 8 = .ok (.iaload, 1) := by decide +kernel
theorem dX6_thirsts_9 : decode cX6_thirsts 9 = .ok (.iload_n 2, 1) := by decide +kernel
theorem dX6_thirsts_10 : decode cX6_thirsts 10 = .ok (.if_icmp .lt 20, 3) := by decide +kernel
theorem dX6_thirsts_13 : decode cX6_thirsts 13 = .ok (.aload_n 0, 1) := by decide +kernel
theorem dX6_thirsts_14 : decode cX6_thirsts 14 = .ok (.iload_n 3, 1) := by decide +kernel
theorem dX6_thirsts_15 : decode cX6_thirsts 15 = .ok (.dup2, 1) := by decide +kernel
theorem dX6_thirsts_16 : decode cX6_thirsts 16 = .ok (.iaload, 1) := by decide +kernel
theorem dX6_thirsts_17 : decode cX6_thirsts 17 = .ok (.iload_n 2, 1) := by decide +kernel
theorem dX6_thirsts_18 : decode cX6_thirsts 18 = .ok (.isub, 1) := by decide +kernel
theorem dX6_thirsts_19 : decode cX6_thirsts 19 = .ok (.iastore, 1) := by decide +kernel
theorem dX6_thirsts_20 : decode cX6_thirsts 20 = .ok (.aload_n 0, 1) := by decide +kernel
theorem dX6_thirsts_21 : decode cX6_thirsts 21 = .ok (.iload_n 1, 1) := by decide +kernel
theorem dX6_thirsts_22 : decode cX6_thirsts 22 = .ok (.bipush 6, 2) := by decide +kernel
theorem dX6_thirsts_24 : decode cX6_thirsts 24 = .ok (.invokestatic 71, 3) := by decide +kernel
theorem dX6_thirsts_27 : decode cX6_thirsts 27 = .ok (.iconst 0, 1) := by decide +kernel
theorem dX6_thirsts_28 : decode cX6_thirsts 28 = .ok (.iastore, 1) := by decide +kernel
theorem dX6_thirsts_29 : decode cX6_thirsts 29 = .ok (.return_, 1) := by decide +kernel
theorem dX6_thirsts_30 : decode cX6_thirsts 30 = .ok (.aload_n 0, 1) := by decide +kernel
theorem dX6_thirsts_31 : decode cX6_thirsts 31 = .ok (.iload_n 3, 1) := by decide +kernel
theorem dX6_thirsts_32 : decode cX6_thirsts 32 = .ok (.iconst 0, 1) := by decide +kernel
theorem dX6_thirsts_33 : decode cX6_thirsts 33 = .ok (.iastore, 1) := by decide +kernel
theorem dX6_thirsts_34 : decode cX6_thirsts 34 = .ok (.aload_n 0, 1) := by decide +kernel
theorem dX6_thirsts_35 : decode cX6_thirsts 35 = .ok (.iload_n 1, 1) := by decide +kernel
theorem dX6_thirsts_36 : decode cX6_thirsts 36 = .ok (.bipush 6, 2) := by decide +kernel
theorem dX6_thirsts_38 : decode cX6_thirsts 38 = .ok (.invokestatic 71, 3) := by decide +kernel
theorem dX6_thirsts_41 : decode cX6_thirsts 41 = .ok (.dup2, 1) := by decide +kernel
theorem dX6_thirsts_42 : decode cX6_thirsts 42 = .ok (.iaload, 1) := by decide +kernel
theorem dX6_thirsts_43 : decode cX6_thirsts 43 = .ok (.iconst 1, 1) := by decide +kernel
theorem dX6_thirsts_44 : decode cX6_thirsts 44 = .ok (.iadd, 1) := by decide +kernel
theorem dX6_thirsts_45 : decode cX6_thirsts 45 = .ok (.iastore, 1) := by decide +kernel
theorem dX6_thirsts_46 : decode cX6_thirsts 46 = .ok (.aload_n 0, 1) := by decide +kernel
theorem dX6_thirsts_47 : decode cX6_thirsts 47 = .ok (.iload_n 1, 1) := by decide +kernel
theorem dX6_thirsts_48 : decode cX6_thirsts 48 = .ok (.bipush 6, 2) := by decide +kernel
theorem dX6_thirsts_50 : decode cX6_thirsts 50 = .ok (.invokestatic 71, 3) := by decide +kernel
theorem dX6_thirsts_53 : decode cX6_thirsts 53 = .ok (.iaload, 1) := by decide +kernel
theorem dX6_thirsts_54 : decode cX6_thirsts 54 = .ok (.iconst 3, 1) := by decide +kernel
theorem dX6_thirsts_55 : decode cX6_thirsts 55 = .ok (.if_icmp .ne 8, 3) := by decide +kernel
theorem dX6_thirsts_58 : decode cX6_thirsts 58 = .ok (.aload_n 0, 1) := by decide +kernel
theorem dX6_thirsts_59 : decode cX6_thirsts 59 = .ok (.iload_n 1, 1) := by decide +kernel
theorem dX6_thirsts_60 : decode cX6_thirsts 60 = .ok (.invokestatic 107, 3) := by decide +kernel
theorem dX6_thirsts_63 : decode cX6_thirsts 63 = .ok (.return_, 1) := by decide +kernel
theorem dX6_endsDay_0 : decode cX6_endsDay 0 = .ok (.aload_n 0, 1) := by decide +kernel
theorem dX6_endsDay_1 : decode cX6_endsDay 1 = .ok (.aload_n 0, 1) := by decide +kernel
theorem dX6_endsDay_2 : decode cX6_endsDay 2 = .ok (.iconst 4, 1) := by decide +kernel
theorem dX6_endsDay_3 : decode cX6_endsDay 3 = .ok (.iaload, 1) := by decide +kernel
theorem dX6_endsDay_4 : decode cX6_endsDay 4 = .ok (.invokestatic 83, 3) := by decide +kernel
theorem dX6_endsDay_7 : decode cX6_endsDay 7 = .ok (.ifCond .ne 16, 3) := by decide +kernel
theorem dX6_endsDay_10 : decode cX6_endsDay 10 = .ok (.aload_n 0, 1) := by decide +kernel
theorem dX6_endsDay_11 : decode cX6_endsDay 11 = .ok (.invokestatic 110, 3) := by decide +kernel
theorem dX6_endsDay_14 : decode cX6_endsDay 14 = .ok (.istore_n 1, 1) := by decide +kernel
theorem dX6_endsDay_15 : decode cX6_endsDay 15 = .ok (.iload_n 1, 1) := by decide +kernel
theorem dX6_endsDay_16 : decode cX6_endsDay 16 = .ok (.ifCond .lt 7, 3) := by decide +kernel
theorem dX6_endsDay_19 : decode cX6_endsDay 19 = .ok (.aload_n 0, 1) := by decide +kernel
theorem dX6_endsDay_20 : decode cX6_endsDay 20 = .ok (.iconst 4, 1) := by decide +kernel
theorem dX6_endsDay_21 : decode cX6_endsDay 21 = .ok (.iload_n 1, 1) := by decide +kernel
theorem dX6_endsDay_22 : decode cX6_endsDay 22 = .ok (.iastore, 1) := by decide +kernel
theorem dX6_endsDay_23 : decode cX6_endsDay 23 = .ok (.iconst 0, 1) := by decide +kernel
theorem dX6_endsDay_24 : decode cX6_endsDay 24 = .ok (.istore_n 1, 1) := by decide +kernel
theorem dX6_endsDay_25 : decode cX6_endsDay 25 = .ok (.iload_n 1, 1) := by decide +kernel
theorem dX6_endsDay_26 : decode cX6_endsDay 26 = .ok (.aload_n 0, 1) := by decide +kernel
theorem dX6_endsDay_27 : decode cX6_endsDay 27 = .ok (.bipush 7, 2) := by decide +kernel
theorem dX6_endsDay_29 : decode cX6_endsDay 29 = .ok (.iaload, 1) := by decide +kernel
theorem dX6_endsDay_30 : decode cX6_endsDay 30 = .ok (.if_icmp .ge 41, 3) := by decide +kernel
theorem dX6_endsDay_33 : decode cX6_endsDay 33 = .ok (.aload_n 0, 1) := by decide +kernel
theorem dX6_endsDay_34 : decode cX6_endsDay 34 = .ok (.iload_n 1, 1) := by decide +kernel
theorem dX6_endsDay_35 : decode cX6_endsDay 35 = .ok (.iconst 3, 1) := by decide +kernel
theorem dX6_endsDay_36 : decode cX6_endsDay 36 = .ok (.invokestatic 74, 3) := by decide +kernel
theorem dX6_endsDay_39 : decode cX6_endsDay 39 = .ok (.aload_n 0, 1) := by decide +kernel
theorem dX6_endsDay_40 : decode cX6_endsDay 40 = .ok (.iload_n 1, 1) := by decide +kernel
theorem dX6_endsDay_41 : decode cX6_endsDay 41 = .ok (.iconst 1, 1) := by decide +kernel
theorem dX6_endsDay_42 : decode cX6_endsDay 42 = .ok (.invokestatic 74, 3) := by decide +kernel
theorem dX6_endsDay_45 : decode cX6_endsDay 45 = .ok (.iaload, 1) := by decide +kernel
theorem dX6_endsDay_46 : decode cX6_endsDay 46 = .ok (.aload_n 0, 1) := by decide +kernel
theorem dX6_endsDay_47 : decode cX6_endsDay 47 = .ok (.iload_n 1, 1) := by decide +kernel
theorem dX6_endsDay_48 : decode cX6_endsDay 48 = .ok (.iconst 3, 1) := by decide +kernel
theorem dX6_endsDay_49 : decode cX6_endsDay 49 = .ok (.invokestatic 74, 3) := by decide +kernel
theorem dX6_endsDay_52 : decode cX6_endsDay 52 = .ok (.iaload, 1) := by decide +kernel
theorem dX6_endsDay_53 : decode cX6_endsDay 53 = .ok (.aload_n 0, 1) := by decide +kernel
theorem dX6_endsDay_54 : decode cX6_endsDay 54 = .ok (.iload_n 1, 1) := by decide +kernel
theorem dX6_endsDay_55 : decode cX6_endsDay 55 = .ok (.iconst 2, 1) := by decide +kernel
theorem dX6_endsDay_56 : decode cX6_endsDay 56 = .ok (.invokestatic 74, 3) := by decide +kernel
theorem dX6_endsDay_59 : decode cX6_endsDay 59 = .ok (.iaload, 1) := by decide +kernel
theorem dX6_endsDay_60 : decode cX6_endsDay 60 = .ok (.iadd, 1) := by decide +kernel
theorem dX6_endsDay_61 : decode cX6_endsDay 61 = .ok (.invokestatic 97, 3) := by decide +kernel
theorem dX6_endsDay_64 : decode cX6_endsDay 64 = .ok (.iastore, 1) := by decide +kernel
theorem dX6_endsDay_65 : decode cX6_endsDay 65 = .ok (.iinc 1 1, 3) := by decide +kernel
theorem dX6_endsDay_68 : decode cX6_endsDay 68 = .ok (.goto (-43), 3) := by decide +kernel
theorem dX6_endsDay_71 : decode cX6_endsDay 71 = .ok (.aload_n 0, 1) := by decide +kernel
theorem dX6_endsDay_72 : decode cX6_endsDay 72 = .ok (.iconst 2, 1) := by decide +kernel
theorem dX6_endsDay_73 : decode cX6_endsDay 73 = .ok (.dup2, 1) := by decide +kernel
theorem dX6_endsDay_74 : decode cX6_endsDay 74 = .ok (.iaload, 1) := by decide +kernel
theorem dX6_endsDay_75 : decode cX6_endsDay 75 = .ok (.iconst 1, 1) := by decide +kernel
theorem dX6_endsDay_76 : decode cX6_endsDay 76 = .ok (.iadd, 1) := by decide +kernel
theorem dX6_endsDay_77 : decode cX6_endsDay 77 = .ok (.iastore, 1) := by decide +kernel
theorem dX6_endsDay_78 : decode cX6_endsDay 78 = .ok (.return_, 1) := by decide +kernel
theorem dX6_travels_0 : decode cX6_travels 0 = .ok (.aload_n 0, 1) := by decide +kernel
theorem dX6_travels_1 : decode cX6_travels 1 = .ok (.aload_n 0, 1) := by decide +kernel
theorem dX6_travels_2 : decode cX6_travels 2 = .ok (.iconst 4, 1) := by decide +kernel
theorem dX6_travels_3 : decode cX6_travels 3 = .ok (.iaload, 1) := by decide +kernel
theorem dX6_travels_4 : decode cX6_travels 4 = .ok (.invokestatic 91, 3) := by decide +kernel
theorem dX6_travels_7 : decode cX6_travels 7 = .ok (.istore_n 1, 1) := by decide +kernel
theorem dX6_travels_8 : decode cX6_travels 8 = .ok (.aload_n 0, 1) := by decide +kernel
theorem dX6_travels_9 : decode cX6_travels 9 = .ok (.invokestatic 114, 3) := by decide +kernel
theorem dX6_travels_12 : decode cX6_travels 12 = .ok (.istore_n 2, 1) := by decide +kernel
theorem dX6_travels_13 : decode cX6_travels 13 = .ok (.aload_n 0, 1) := by decide +kernel
theorem dX6_travels_14 : decode cX6_travels 14 = .ok (.iconst 1, 1) := by decide +kernel
theorem dX6_travels_15 : decode cX6_travels 15 = .ok (.dup2, 1) := by decide +kernel
theorem dX6_travels_16 : decode cX6_travels 16 = .ok (.iaload, 1) := by decide +kernel
theorem dX6_travels_17 : decode cX6_travels 17 = .ok (.iload_n 2, 1) := by decide +kernel
theorem dX6_travels_18 : decode cX6_travels 18 = .ok (.iadd, 1) := by decide +kernel
theorem dX6_travels_19 : decode cX6_travels 19 = .ok (.iastore, 1) := by decide +kernel
theorem dX6_travels_20 : decode cX6_travels 20 = .ok (.iconst 0, 1) := by decide +kernel
theorem dX6_travels_21 : decode cX6_travels 21 = .ok (.istore_n 3, 1) := by decide +kernel
theorem dX6_travels_22 : decode cX6_travels 22 = .ok (.iload_n 3, 1) := by decide +kernel
theorem dX6_travels_23 : decode cX6_travels 23 = .ok (.aload_n 0, 1) := by decide +kernel
theorem dX6_travels_24 : decode cX6_travels 24 = .ok (.bipush 6, 2) := by decide +kernel
theorem dX6_travels_26 : decode cX6_travels 26 = .ok (.iaload, 1) := by decide +kernel
theorem dX6_travels_27 : decode cX6_travels 27 = .ok (.if_icmp .ge 41, 3) := by decide +kernel
theorem dX6_travels_30 : decode cX6_travels 30 = .ok (.aload_n 0, 1) := by decide +kernel
theorem dX6_travels_31 : decode cX6_travels 31 = .ok (.iload_n 3, 1) := by decide +kernel
theorem dX6_travels_32 : decode cX6_travels 32 = .ok (.invokestatic 83, 3) := by decide +kernel
theorem dX6_travels_35 : decode cX6_travels 35 = .ok (.ifCond .ne 6, 3) := by decide +kernel
theorem dX6_travels_38 : decode cX6_travels 38 = .ok (.goto 24, 3) := by decide +kernel
theorem dX6_travels_41 : decode cX6_travels 41 = .ok (.aload_n 0, 1) := by decide +kernel
theorem dX6_travels_42 : decode cX6_travels 42 = .ok (.iload_n 3, 1) := by decide +kernel
theorem dX6_travels_43 : decode cX6_travels 43 = .ok (.iload_n 1, 1) := by decide +kernel
theorem dX6_travels_44 : decode cX6_travels 44 = .ok (.invokestatic 117, 3) := by decide +kernel
theorem dX6_travels_47 : decode cX6_travels 47 = .ok (.aload_n 0, 1) := by decide +kernel
theorem dX6_travels_48 : decode cX6_travels 48 = .ok (.iload_n 3, 1) := by decide +kernel
theorem dX6_travels_49 : decode cX6_travels 49 = .ok (.invokestatic 121, 3) := by decide +kernel
theorem dX6_travels_52 : decode cX6_travels 52 = .ok (.aload_n 0, 1) := by decide +kernel
theorem dX6_travels_53 : decode cX6_travels 53 = .ok (.iload_n 3, 1) := by decide +kernel
theorem dX6_travels_54 : decode cX6_travels 54 = .ok (.aload_n 0, 1) := by decide +kernel
theorem dX6_travels_55 : decode cX6_travels 55 = .ok (.iload_n 3, 1) := by decide +kernel
theorem dX6_travels_56 : decode cX6_travels 56 = .ok (.invokestatic 124, 3) := by decide +kernel
theorem dX6_travels_59 : decode cX6_travels 59 = .ok (.invokestatic 127, 3) := by decide +kernel
theorem dX6_travels_62 : decode cX6_travels 62 = .ok (.iinc 3 1, 3) := by decide +kernel
theorem dX6_travels_65 : decode cX6_travels 65 = .ok (.goto (-43), 3) := by decide +kernel
theorem dX6_travels_68 : decode cX6_travels 68 = .ok (.aload_n 0, 1) := by decide +kernel
theorem dX6_travels_69 : decode cX6_travels 69 = .ok (.invokestatic 130, 3) := by decide +kernel
theorem dX6_travels_72 : decode cX6_travels 72 = .ok (.iload_n 2, 1) := by decide +kernel
theorem dX6_travels_73 : decode cX6_travels 73 = .ok (.ireturn, 1) := by decide +kernel
theorem dX6_rests_0 : decode cX6_rests 0 = .ok (.iconst 0, 1) := by decide +kernel
theorem dX6_rests_1 : decode cX6_rests 1 = .ok (.istore_n 1, 1) := by decide +kernel
theorem dX6_rests_2 : decode cX6_rests 2 = .ok (.iload_n 1, 1) := by decide +kernel
theorem dX6_rests_3 : decode cX6_rests 3 = .ok (.aload_n 0, 1) := by decide +kernel
theorem dX6_rests_4 : decode cX6_rests 4 = .ok (.bipush 6, 2) := by decide +kernel
theorem dX6_rests_6 : decode cX6_rests 6 = .ok (.iaload, 1) := by decide +kernel
theorem dX6_rests_7 : decode cX6_rests 7 = .ok (.if_icmp .ge 44, 3) := by decide +kernel
theorem dX6_rests_10 : decode cX6_rests 10 = .ok (.aload_n 0, 1) := by decide +kernel
theorem dX6_rests_11 : decode cX6_rests 11 = .ok (.iload_n 1, 1) := by decide +kernel
theorem dX6_rests_12 : decode cX6_rests 12 = .ok (.invokestatic 83, 3) := by decide +kernel
theorem dX6_rests_15 : decode cX6_rests 15 = .ok (.ifCond .ne 6, 3) := by decide +kernel
theorem dX6_rests_18 : decode cX6_rests 18 = .ok (.goto 27, 3) := by decide +kernel
theorem dX6_rests_21 : decode cX6_rests 21 = .ok (.aload_n 0, 1) := by decide +kernel
theorem dX6_rests_22 : decode cX6_rests 22 = .ok (.iload_n 1, 1) := by decide +kernel
theorem dX6_rests_23 : decode cX6_rests 23 = .ok (.invokestatic 103, 3) := by decide +kernel
theorem dX6_rests_26 : decode cX6_rests 26 = .ok (.aload_n 0, 1) := by decide +kernel
theorem dX6_rests_27 : decode cX6_rests 27 = .ok (.iload_n 1, 1) := by decide +kernel
theorem dX6_rests_28 : decode cX6_rests 28 = .ok (.invokestatic 121, 3) := by decide +kernel
theorem dX6_rests_31 : decode cX6_rests 31 = .ok (.aload_n 0, 1) := by decide +kernel
theorem dX6_rests_32 : decode cX6_rests 32 = .ok (.iload_n 1, 1) := by decide +kernel
theorem dX6_rests_33 : decode cX6_rests 33 = .ok (.aload_n 0, 1) := by decide +kernel
theorem dX6_rests_34 : decode cX6_rests 34 = .ok (.iload_n 1, 1) := by decide +kernel
theorem dX6_rests_35 : decode cX6_rests 35 = .ok (.invokestatic 124, 3) := by decide +kernel
theorem dX6_rests_38 : decode cX6_rests 38 = .ok (.iconst 1, 1) := by decide +kernel
theorem dX6_rests_39 : decode cX6_rests 39 = .ok (.iadd, 1) := by decide +kernel
theorem dX6_rests_40 : decode cX6_rests 40 = .ok (.iconst 2, 1) := by decide +kernel
theorem dX6_rests_41 : decode cX6_rests 41 = .ok (.idiv, 1) := by decide +kernel
theorem dX6_rests_42 : decode cX6_rests 42 = .ok (.invokestatic 127, 3) := by decide +kernel
theorem dX6_rests_45 : decode cX6_rests 45 = .ok (.iinc 1 1, 3) := by decide +kernel
theorem dX6_rests_48 : decode cX6_rests 48 = .ok (.goto (-46), 3) := by decide +kernel
theorem dX6_rests_51 : decode cX6_rests 51 = .ok (.aload_n 0, 1) := by decide +kernel
theorem dX6_rests_52 : decode cX6_rests 52 = .ok (.invokestatic 130, 3) := by decide +kernel
theorem dX6_rests_55 : decode cX6_rests 55 = .ok (.aload_n 0, 1) := by decide +kernel
theorem dX6_rests_56 : decode cX6_rests 56 = .ok (.invokestatic 134, 3) := by decide +kernel
theorem dX6_rests_59 : decode cX6_rests 59 = .ok (.ireturn, 1) := by decide +kernel
theorem dX6_canTravel_0 : decode cX6_canTravel 0 = .ok (.aload_n 0, 1) := by decide +kernel
theorem dX6_canTravel_1 : decode cX6_canTravel 1 = .ok (.invokestatic 137, 3) := by decide +kernel
theorem dX6_canTravel_4 : decode cX6_canTravel 4 = .ok (.ifCond .ne 23, 3) := by decide +kernel
theorem dX6_canTravel_7 : decode cX6_canTravel 7 = .ok (.aload_n 0, 1) := by decide +kernel
theorem dX6_canTravel_8 : decode cX6_canTravel 8 = .ok (.invokestatic 134, 3) := by decide +kernel
theorem dX6_canTravel_11 : decode cX6_canTravel 11 = .ok (.ifCond .le 16, 3) := by decide +kernel
theorem dX6_canTravel_14 : decode cX6_canTravel 14 = .ok (.aload_n 0, 1) := by decide +kernel
theorem dX6_canTravel_15 : decode cX6_canTravel 15 = .ok (.iconst 2, 1) := by decide +kernel
theorem dX6_canTravel_16 : decode cX6_canTravel 16 = .ok (.iaload, 1) := by decide +kernel
theorem dX6_canTravel_17 : decode cX6_canTravel 17 = .ok (.sipush 200, 3) := by decide +kernel
theorem dX6_canTravel_20 : decode cX6_canTravel 20 = .ok (.if_icmp .ge 7, 3) := by decide +kernel
theorem dX6_canTravel_23 : decode cX6_canTravel 23 = .ok (.iconst 1, 1) := by decide +kernel
theorem dX6_canTravel_24 : decode cX6_canTravel 24 = .ok (.goto 4, 3) := by decide +kernel
theorem dX6_canTravel_27 : decode cX6_canTravel 27 = .ok (.iconst 0, 1) := by decide +kernel
theorem dX6_canTravel_28 : decode cX6_canTravel 28 = .ok (.ireturn, 1) := by decide +kernel
theorem dX6_thirstiestOf_0 : decode cX6_thirstiestOf 0 = .ok (.iconst (-1), 1) := by decide +kernel
theorem dX6_thirstiestOf_1 : decode cX6_thirstiestOf 1 = .ok (.istore_n 1, 1) := by decide +kernel
theorem dX6_thirstiestOf_2 : decode cX6_thirstiestOf 2 = .ok (.iconst 0, 1) := by decide +kernel
theorem dX6_thirstiestOf_3 : decode cX6_thirstiestOf 3 = .ok (.istore_n 2, 1) := by decide +kernel
theorem dX6_thirstiestOf_4 : decode cX6_thirstiestOf 4 = .ok (.iload_n 2, 1) := by decide +kernel
theorem dX6_thirstiestOf_5 : decode cX6_thirstiestOf 5 = .ok (.aload_n 0, 1) := by decide +kernel
theorem dX6_thirstiestOf_6 : decode cX6_thirstiestOf 6 = .ok (.bipush 6, 2) := by decide +kernel
theorem dX6_thirstiestOf_8 : decode cX6_thirstiestOf 8 = .ok (.iaload, 1) := by decide +kernel
theorem dX6_thirstiestOf_9 : decode cX6_thirstiestOf 9 = .ok (.if_icmp .ge 43, 3) := by decide +kernel
theorem dX6_thirstiestOf_12 : decode cX6_thirstiestOf 12 = .ok (.aload_n 0, 1) := by decide +kernel
theorem dX6_thirstiestOf_13 : decode cX6_thirstiestOf 13 = .ok (.iload_n 2, 1) := by decide +kernel
theorem dX6_thirstiestOf_14 : decode cX6_thirstiestOf 14 = .ok (.invokestatic 83, 3) := by decide +kernel
theorem dX6_thirstiestOf_17 : decode cX6_thirstiestOf 17 = .ok (.ifCond .ne 6, 3) := by decide +kernel
theorem dX6_thirstiestOf_20 : decode cX6_thirstiestOf 20 = .ok (.goto 26, 3) := by decide +kernel
theorem dX6_thirstiestOf_23 : decode cX6_thirstiestOf 23 = .ok (.iload_n 1, 1) := by decide +kernel
theorem dX6_thirstiestOf_24 : decode cX6_thirstiestOf 24 = .ok (.ifCond .lt 20, 3) := by decide +kernel
theorem dX6_thirstiestOf_27 : decode cX6_thirstiestOf 27 = .ok (.aload_n 0, 1) := by decide +kernel
theorem dX6_thirstiestOf_28 : decode cX6_thirstiestOf 28 = .ok (.iload_n 2, 1) := by decide +kernel
theorem dX6_thirstiestOf_29 : decode cX6_thirstiestOf 29 = .ok (.iconst 3, 1) := by decide +kernel
theorem dX6_thirstiestOf_30 : decode cX6_thirstiestOf 30 = .ok (.invokestatic 71, 3) := by decide +kernel
theorem dX6_thirstiestOf_33 : decode cX6_thirstiestOf 33 = .ok (.iaload, 1) := by decide +kernel
theorem dX6_thirstiestOf_34 : decode cX6_thirstiestOf 34 = .ok (.aload_n 0, 1) := by decide +kernel
theorem dX6_thirstiestOf_35 : decode cX6_thirstiestOf 35 = .ok (.iload_n 1, 1) := by decide +kernel
theorem dX6_thirstiestOf_36 : decode cX6_thirstiestOf 36 = .ok (.iconst 3, 1) := by decide +kernel
theorem dX6_thirstiestOf_37 : decode cX6_thirstiestOf 37 = .ok (.invokestatic 71, 3) := by decide +kernel
theorem dX6_thirstiestOf_40 : decode cX6_thirstiestOf 40 = .ok (.iaload, 1) := by decide +kernel
theorem dX6_thirstiestOf_41 : decode cX6_thirstiestOf 41 = .ok (.if_icmp .ge 5, 3) := by decide +kernel
theorem dX6_thirstiestOf_44 : decode cX6_thirstiestOf 44 = .ok (.iload_n 2, 1) := by decide +kernel
theorem dX6_thirstiestOf_45 : decode cX6_thirstiestOf 45 = .ok (.istore_n 1, 1) := by decide +kernel
theorem dX6_thirstiestOf_46 : decode cX6_thirstiestOf 46 = .ok (.iinc 2 1, 3) := by decide +kernel
theorem dX6_thirstiestOf_49 : decode cX6_thirstiestOf 49 = .ok (.goto (-45), 3) := by decide +kernel
theorem dX6_thirstiestOf_52 : decode cX6_thirstiestOf 52 = .ok (.iload_n 1, 1) := by decide +kernel
theorem dX6_thirstiestOf_53 : decode cX6_thirstiestOf 53 = .ok (.ireturn, 1) := by decide +kernel
theorem dX6_nextToDrink_0 : decode cX6_nextToDrink 0 = .ok (.iconst (-1), 1) := by decide +kernel
theorem dX6_nextToDrink_1 : decode cX6_nextToDrink 1 = .ok (.istore_n 2, 1) := by decide +kernel
theorem dX6_nextToDrink_2 : decode cX6_nextToDrink 2 = .ok (.iconst 0, 1) := by decide +kernel
theorem dX6_nextToDrink_3 : decode cX6_nextToDrink 3 = .ok (.istore_n 3, 1) := by decide +kernel
theorem dX6_nextToDrink_4 : decode cX6_nextToDrink 4 = .ok (.iload_n 3, 1) := by decide +kernel
theorem dX6_nextToDrink_5 : decode cX6_nextToDrink 5 = .ok (.aload_n 1, 1) := by decide +kernel
theorem dX6_nextToDrink_6 : decode cX6_nextToDrink 6 = .ok (.bipush 6, 2) := by decide +kernel
theorem dX6_nextToDrink_8 : decode cX6_nextToDrink 8 = .ok (.iaload, 1) := by decide +kernel
theorem dX6_nextToDrink_9 : decode cX6_nextToDrink 9 = .ok (.if_icmp .ge 52, 3) := by decide +kernel
theorem dX6_nextToDrink_12 : decode cX6_nextToDrink 12 = .ok (.aload_n 1, 1) := by decide +kernel
theorem dX6_nextToDrink_13 : decode cX6_nextToDrink 13 = .ok (.iload_n 3, 1) := by decide +kernel
theorem dX6_nextToDrink_14 : decode cX6_nextToDrink 14 = .ok (.invokestatic 83, 3) := by decide +kernel
theorem dX6_nextToDrink_17 : decode cX6_nextToDrink 17 = .ok (.ifCond .eq 38, 3) := by decide +kernel
theorem dX6_nextToDrink_20 : decode cX6_nextToDrink 20 = .ok (.aload_n 0, 1) := by decide +kernel
theorem dX6_nextToDrink_21 : decode cX6_nextToDrink 21 = .ok (.getfield 36, 3) := by decide +kernel
theorem dX6_nextToDrink_24 : decode cX6_nextToDrink 24 = .ok (.iload_n 3, 1) := by decide +kernel
theorem dX6_nextToDrink_25 : decode cX6_nextToDrink 25 = .ok (.iaload, 1) := by decide +kernel
theorem dX6_nextToDrink_26 : decode cX6_nextToDrink 26 = .ok (.ifCond .lt 6, 3) := by decide +kernel
theorem dX6_nextToDrink_29 : decode cX6_nextToDrink 29 = .ok (.goto 26, 3) := by decide +kernel
theorem dX6_nextToDrink_32 : decode cX6_nextToDrink 32 = .ok (.iload_n 2, 1) := by decide +kernel
theorem dX6_nextToDrink_33 : decode cX6_nextToDrink 33 = .ok (.ifCond .lt 20, 3) := by decide +kernel
theorem dX6_nextToDrink_36 : decode cX6_nextToDrink 36 = .ok (.aload_n 1, 1) := by decide +kernel
theorem dX6_nextToDrink_37 : decode cX6_nextToDrink 37 = .ok (.iload_n 3, 1) := by decide +kernel
theorem dX6_nextToDrink_38 : decode cX6_nextToDrink 38 = .ok (.iconst 3, 1) := by decide +kernel
theorem dX6_nextToDrink_39 : decode cX6_nextToDrink 39 = .ok (.invokestatic 71, 3) := by decide +kernel
theorem dX6_nextToDrink_42 : decode cX6_nextToDrink 42 = .ok (.iaload, 1) := by decide +kernel
theorem dX6_nextToDrink_43 : decode cX6_nextToDrink 43 = .ok (.aload_n 1, 1) := by decide +kernel
theorem dX6_nextToDrink_44 : decode cX6_nextToDrink 44 = .ok (.iload_n 2, 1) := by decide +kernel
theorem dX6_nextToDrink_45 : decode cX6_nextToDrink 45 = .ok (.iconst 3, 1) := by decide +kernel
theorem dX6_nextToDrink_46 : decode cX6_nextToDrink 46 = .ok (.invokestatic 71, 3) := by decide +kernel
theorem dX6_nextToDrink_49 : decode cX6_nextToDrink 49 = .ok (.iaload, 1) := by decide +kernel
theorem dX6_nextToDrink_50 : decode cX6_nextToDrink 50 = .ok (.if_icmp .ge 5, 3) := by decide +kernel
theorem dX6_nextToDrink_53 : decode cX6_nextToDrink 53 = .ok (.iload_n 3, 1) := by decide +kernel
theorem dX6_nextToDrink_54 : decode cX6_nextToDrink 54 = .ok (.istore_n 2, 1) := by decide +kernel
theorem dX6_nextToDrink_55 : decode cX6_nextToDrink 55 = .ok (.iinc 3 1, 3) := by decide +kernel
theorem dX6_nextToDrink_58 : decode cX6_nextToDrink 58 = .ok (.goto (-54), 3) := by decide +kernel
theorem dX6_nextToDrink_61 : decode cX6_nextToDrink 61 = .ok (.iload_n 2, 1) := by decide +kernel
theorem dX6_nextToDrink_62 : decode cX6_nextToDrink 62 = .ok (.ireturn, 1) := by decide +kernel
theorem dX6_reckonsDrinks_0 : decode cX6_reckonsDrinks 0 = .ok (.aload_n 1, 1) := by decide +kernel
theorem dX6_reckonsDrinks_1 : decode cX6_reckonsDrinks 1 = .ok (.iload_n 2, 1) := by decide +kernel
theorem dX6_reckonsDrinks_2 : decode cX6_reckonsDrinks 2 = .ok (.iconst 3, 1) := by decide +kernel
theorem dX6_reckonsDrinks_3 : decode cX6_reckonsDrinks 3 = .ok (.invokestatic 74, 3) := by decide +kernel
theorem dX6_reckonsDrinks_6 : decode cX6_reckonsDrinks 6 = .ok (.iaload, 1) := by decide +kernel
theorem dX6_reckonsDrinks_7 : decode cX6_reckonsDrinks 7 = .ok (.istore_n 3, 1) := by decide +kernel
theorem dX6_reckonsDrinks_8 : decode cX6_reckonsDrinks 8 = .ok (.iload_n 3, 1) := by decide +kernel
theorem dX6_reckonsDrinks_9 : decode cX6_reckonsDrinks 9 = .ok (.istore 4, 2) := by decide +kernel
theorem dX6_reckonsDrinks_11 : decode cX6_reckonsDrinks 11 = .ok (.iconst 0, 1) := by decide +kernel
theorem dX6_reckonsDrinks_12 : decode cX6_reckonsDrinks 12 = .ok (.istore 5, 2) := by decide +kernel
theorem dX6_reckonsDrinks_14 : decode cX6_reckonsDrinks 14 = .ok (.iload 5, 2) := by decide +kernel
theorem dX6_reckonsDrinks_16 : decode cX6_reckonsDrinks 16 = .ok (.bipush 10, 2) := by decide +kernel
theorem dX6_reckonsDrinks_18 : decode cX6_reckonsDrinks 18 = .ok (.if_icmp .ge 17, 3) := by decide +kernel
theorem dX6_reckonsDrinks_21 : decode cX6_reckonsDrinks 21 = .ok (.aload_n 0, 1) := by decide +kernel
theorem dX6_reckonsDrinks_22 : decode cX6_reckonsDrinks 22 = .ok (.getfield 36, 3) := by decide +kernel
theorem dX6_reckonsDrinks_25 : decode cX6_reckonsDrinks 25 = .ok (.iload 5, 2) := by decide +kernel
theorem dX6_reckonsDrinks_27 : decode cX6_reckonsDrinks 27 = .ok (.iconst (-1), 1) := by decide +kernel
theorem dX6_reckonsDrinks_28 : decode cX6_reckonsDrinks 28 = .ok (.iastore, 1) := by decide +kernel
theorem dX6_reckonsDrinks_29 : decode cX6_reckonsDrinks 29 = .ok (.iinc 5 1, 3) := by decide +kernel
theorem dX6_reckonsDrinks_32 : decode cX6_reckonsDrinks 32 = .ok (.goto (-18), 3) := by decide +kernel
theorem dX6_reckonsDrinks_35 : decode cX6_reckonsDrinks 35 = .ok (.aload_n 0, 1) := by decide +kernel
theorem dX6_reckonsDrinks_36 : decode cX6_reckonsDrinks 36 = .ok (.aload_n 1, 1) := by decide +kernel
theorem dX6_reckonsDrinks_37 : decode cX6_reckonsDrinks 37 = .ok (.invokevirtual 141, 3) := by decide +kernel
theorem dX6_reckonsDrinks_40 : decode cX6_reckonsDrinks 40 = .ok (.istore 5, 2) := by decide +kernel
theorem dX6_reckonsDrinks_42 : decode cX6_reckonsDrinks 42 = .ok (.iload 5, 2) := by decide +kernel
theorem dX6_reckonsDrinks_44 : decode cX6_reckonsDrinks 44 = .ok (.ifCond .lt 51, 3) := by decide +kernel
theorem dX6_reckonsDrinks_47 : decode cX6_reckonsDrinks 47 = .ok (.aload_n 0, 1) := by decide +kernel
theorem dX6_reckonsDrinks_48 : decode cX6_reckonsDrinks 48 = .ok (.getfield 36, 3) := by decide +kernel
theorem dX6_reckonsDrinks_51 : decode cX6_reckonsDrinks 51 = .ok (.iload 5, 2) := by decide +kernel
theorem dX6_reckonsDrinks_53 : decode cX6_reckonsDrinks 53 = .ok (.iload_n 3, 1) := by decide +kernel
theorem dX6_reckonsDrinks_54 : decode cX6_reckonsDrinks 54 = .ok (.aload_n 1, 1) := by decide +kernel
theorem dX6_reckonsDrinks_55 : decode cX6_reckonsDrinks 55 = .ok (.iload 5, 2) := by decide +kernel
theorem dX6_reckonsDrinks_57 : decode cX6_reckonsDrinks 57 = .ok (.iconst 2, 1) := by decide +kernel
theorem dX6_reckonsDrinks_58 : decode cX6_reckonsDrinks 58 = .ok (.invokestatic 71, 3) := by decide +kernel
theorem dX6_reckonsDrinks_61 : decode cX6_reckonsDrinks 61 = .ok (.iaload, 1) := by decide +kernel
theorem dX6_reckonsDrinks_62 : decode cX6_reckonsDrinks 62 = .ok (.aload_n 1, 1) := by decide +kernel
theorem dX6_reckonsDrinks_63 : decode cX6_reckonsDrinks 63 = .ok (.iload 5, 2) := by decide +kernel
theorem dX6_reckonsDrinks_65 : decode cX6_reckonsDrinks 65 = .ok (.iconst 3, 1) := by decide +kernel
theorem dX6_reckonsDrinks_66 : decode cX6_reckonsDrinks 66 = .ok (.invokestatic 71, 3) := by decide +kernel
theorem dX6_reckonsDrinks_69 : decode cX6_reckonsDrinks 69 = .ok (.iaload, 1) := by decide +kernel
theorem dX6_reckonsDrinks_70 : decode cX6_reckonsDrinks 70 = .ok (.isub, 1) := by decide +kernel
theorem dX6_reckonsDrinks_71 : decode cX6_reckonsDrinks 71 = .ok (.invokestatic 97, 3) := by decide +kernel
theorem dX6_reckonsDrinks_74 : decode cX6_reckonsDrinks 74 = .ok (.iastore, 1) := by decide +kernel
theorem dX6_reckonsDrinks_75 : decode cX6_reckonsDrinks 75 = .ok (.iload_n 3, 1) := by decide +kernel
theorem dX6_reckonsDrinks_76 : decode cX6_reckonsDrinks 76 = .ok (.aload_n 0, 1) := by decide +kernel
theorem dX6_reckonsDrinks_77 : decode cX6_reckonsDrinks 77 = .ok (.getfield 36, 3) := by decide +kernel
theorem dX6_reckonsDrinks_80 : decode cX6_reckonsDrinks 80 = .ok (.iload 5, 2) := by decide +kernel
theorem dX6_reckonsDrinks_82 : decode cX6_reckonsDrinks 82 = .ok (.iaload, 1) := by decide +kernel
theorem dX6_reckonsDrinks_83 : decode cX6_reckonsDrinks 83 = .ok (.isub, 1) := by decide +kernel
theorem dX6_reckonsDrinks_84 : decode cX6_reckonsDrinks 84 = .ok (.istore_n 3, 1) := by decide +kernel
theorem dX6_reckonsDrinks_85 : decode cX6_reckonsDrinks 85 = .ok (.aload_n 0, 1) := by decide +kernel
theorem dX6_reckonsDrinks_86 : decode cX6_reckonsDrinks 86 = .ok (.aload_n 1, 1) := by decide +kernel
theorem dX6_reckonsDrinks_87 : decode cX6_reckonsDrinks 87 = .ok (.invokevirtual 141, 3) := by decide +kernel
theorem dX6_reckonsDrinks_90 : decode cX6_reckonsDrinks 90 = .ok (.istore 5, 2) := by decide +kernel
theorem dX6_reckonsDrinks_92 : decode cX6_reckonsDrinks 92 = .ok (.goto (-50), 3) := by decide +kernel
theorem dX6_reckonsDrinks_95 : decode cX6_reckonsDrinks 95 = .ok (.iload 4, 2) := by decide +kernel
theorem dX6_reckonsDrinks_97 : decode cX6_reckonsDrinks 97 = .ok (.iload_n 3, 1) := by decide +kernel
theorem dX6_reckonsDrinks_98 : decode cX6_reckonsDrinks 98 = .ok (.isub, 1) := by decide +kernel
theorem dX6_reckonsDrinks_99 : decode cX6_reckonsDrinks 99 = .ok (.ireturn, 1) := by decide +kernel
theorem dX6_append_0 : decode cX6_append 0 = .ok (.aload_n 0, 1) := by decide +kernel
theorem dX6_append_1 : decode cX6_append 1 = .ok (.iconst 0, 1) := by decide +kernel
theorem dX6_append_2 : decode cX6_append 2 = .ok (.putfield 60, 3) := by decide +kernel
theorem dX6_append_5 : decode cX6_append 5 = .ok (.aload_n 0, 1) := by decide +kernel
theorem dX6_append_6 : decode cX6_append 6 = .ok (.getfield 144, 3) := by decide +kernel
theorem dX6_append_9 : decode cX6_append 9 = .ok (.bipush 20, 2) := by decide +kernel
theorem dX6_append_11 : decode cX6_append 11 = .ok (.iadd, 1) := by decide +kernel
theorem dX6_append_12 : decode cX6_append 12 = .ok (.sipush 700, 3) := by decide +kernel
theorem dX6_append_15 : decode cX6_append 15 = .ok (.if_icmp .le 9, 3) := by decide +kernel
theorem dX6_append_18 : decode cX6_append 18 = .ok (.aload_n 0, 1) := by decide +kernel
theorem dX6_append_19 : decode cX6_append 19 = .ok (.iconst 1, 1) := by decide +kernel
theorem dX6_append_20 : decode cX6_append 20 = .ok (.invokevirtual 147, 3) := by decide +kernel
theorem dX6_append_23 : decode cX6_append 23 = .ok (.ireturn, 1) := by decide +kernel
theorem dX6_append_24 : decode cX6_append 24 = .ok (.iconst 0, 1) := by decide +kernel
theorem dX6_append_25 : decode cX6_append 25 = .ok (.istore 6, 2) := by decide +kernel
theorem dX6_append_27 : decode cX6_append 27 = .ok (.iload 6, 2) := by decide +kernel
theorem dX6_append_29 : decode cX6_append 29 = .ok (.bipush 20, 2) := by decide +kernel
theorem dX6_append_31 : decode cX6_append 31 = .ok (.if_icmp .ge 93, 3) := by decide +kernel
theorem dX6_append_34 : decode cX6_append 34 = .ok (.iload 6, 2) := by decide +kernel
theorem dX6_append_36 : decode cX6_append 36 = .ok (.iconst 4, 1) := by decide +kernel
theorem dX6_append_37 : decode cX6_append 37 = .ok (.if_icmp .ge 7, 3) := by decide +kernel
theorem dX6_append_40 : decode cX6_append 40 = .ok (.iload_n 1, 1) := by decide +kernel
theorem dX6_append_41 : decode cX6_append 41 = .ok (.goto 39, 3) := by decide +kernel
theorem dX6_append_44 : decode cX6_append 44 = .ok (.iload 6, 2) := by decide +kernel
theorem dX6_append_46 : decode cX6_append 46 = .ok (.bipush 8, 2) := by decide +kernel
theorem dX6_append_48 : decode cX6_append 48 = .ok (.if_icmp .ge 7, 3) := by decide +kernel
theorem dX6_append_51 : decode cX6_append 51 = .ok (.iload_n 2, 1) := by decide +kernel
theorem dX6_append_52 : decode cX6_append 52 = .ok (.goto 28, 3) := by decide +kernel
theorem dX6_append_55 : decode cX6_append 55 = .ok (.iload 6, 2) := by decide +kernel
theorem dX6_append_57 : decode cX6_append 57 = .ok (.bipush 12, 2) := by decide +kernel
theorem dX6_append_59 : decode cX6_append 59 = .ok (.if_icmp .ge 7, 3) := by decide +kernel
theorem dX6_append_62 : decode cX6_append 62 = .ok (.iload_n 3, 1) := by decide +kernel
theorem dX6_append_63 : decode cX6_append 63 = .ok (.goto 17, 3) := by decide +kernel
theorem dX6_append_66 : decode cX6_append 66 = .ok (.iload 6, 2) := by decide +kernel
theorem dX6_append_68 : decode cX6_append 68 = .ok (.bipush 16, 2) := by decide +kernel
theorem dX6_append_70 : decode cX6_append 70 = .ok (.if_icmp .ge 8, 3) := by decide +kernel
theorem dX6_append_73 : decode cX6_append 73 = .ok (.iload 4, 2) := by decide +kernel
theorem dX6_append_75 : decode cX6_append 75 = .ok (.goto 5, 3) := by decide +kernel
theorem dX6_append_78 : decode cX6_append 78 = .ok (.iload 5, 2) := by decide +kernel
theorem dX6_append_80 : decode cX6_append 80 = .ok (.istore 7, 2) := by decide +kernel
theorem dX6_append_82 : decode cX6_append 82 = .ok (.aload_n 0, 1) := by decide +kernel
theorem dX6_append_83 : decode cX6_append 83 = .ok (.getfield 29, 3) := by decide +kernel
theorem dX6_append_86 : decode cX6_append 86 = .ok (.aload_n 0, 1) := by decide +kernel
theorem dX6_append_87 : decode cX6_append 87 = .ok (.getfield 144, 3) := by decide +kernel
theorem dX6_append_90 : decode cX6_append 90 = .ok (.iload 7, 2) := by decide +kernel
theorem dX6_append_92 : decode cX6_append 92 = .ok (.bipush 24, 2) := by decide +kernel
theorem dX6_append_94 : decode cX6_append 94 = .ok (.bipush 8, 2) := by decide +kernel
theorem dX6_append_96 : decode cX6_append 96 = .ok (.iload 6, 2) := by decide +kernel
theorem dX6_append_98 : decode cX6_append 98 = .ok (.iconst 4, 1) := by decide +kernel
theorem dX6_append_99 : decode cX6_append 99 = .ok (.irem, 1) := by decide +kernel
theorem dX6_append_100 : decode cX6_append 100 = .ok (.imul, 1) := by decide +kernel
theorem dX6_append_101 : decode cX6_append 101 = .ok (.isub, 1) := by decide +kernel
theorem dX6_append_102 : decode cX6_append 102 = .ok (.ishr, 1) := by decide +kernel
theorem dX6_append_103 : decode cX6_append 103 = .ok (.sipush 255, 3) := by decide +kernel
theorem dX6_append_106 : decode cX6_append 106 = .ok (.iand, 1) := by decide +kernel
theorem dX6_append_107 : decode cX6_append 107 = .ok (.iastore, 1) := by decide +kernel
theorem dX6_append_108 : decode cX6_append 108 = .ok (.aload_n 0, 1) := by decide +kernel
theorem dX6_append_109 : decode cX6_append 109 = .ok (.dup, 1) := by decide +kernel
theorem dX6_append_110 : decode cX6_append 110 = .ok (.getfield 144, 3) := by decide +kernel
theorem dX6_append_113 : decode cX6_append 113 = .ok (.iconst 1, 1) := by decide +kernel
theorem dX6_append_114 : decode cX6_append 114 = .ok (.iadd, 1) := by decide +kernel
theorem dX6_append_115 : decode cX6_append 115 = .ok (.putfield 144, 3) := by decide +kernel
theorem dX6_append_118 : decode cX6_append 118 = .ok (.iinc 6 1, 3) := by decide +kernel
theorem dX6_append_121 : decode cX6_append 121 = .ok (.goto (-94), 3) := by decide +kernel
theorem dX6_append_124 : decode cX6_append 124 = .ok (.aload_n 0, 1) := by decide +kernel
theorem dX6_append_125 : decode cX6_append 125 = .ok (.getfield 144, 3) := by decide +kernel
theorem dX6_append_128 : decode cX6_append 128 = .ok (.ireturn, 1) := by decide +kernel
theorem dX6_shorten_0 : decode cX6_shorten 0 = .ok (.aload_n 0, 1) := by decide +kernel
theorem dX6_shorten_1 : decode cX6_shorten 1 = .ok (.iconst 0, 1) := by decide +kernel
theorem dX6_shorten_2 : decode cX6_shorten 2 = .ok (.putfield 60, 3) := by decide +kernel
theorem dX6_shorten_5 : decode cX6_shorten 5 = .ok (.iload_n 1, 1) := by decide +kernel
theorem dX6_shorten_6 : decode cX6_shorten 6 = .ok (.iconst 0, 1) := by decide +kernel
theorem dX6_shorten_7 : decode cX6_shorten 7 = .ok (.aload_n 0, 1) := by decide +kernel
theorem dX6_shorten_8 : decode cX6_shorten 8 = .ok (.getfield 144, 3) := by decide +kernel
theorem dX6_shorten_11 : decode cX6_shorten 11 = .ok (.invokestatic 67, 3) := by decide +kernel
theorem dX6_shorten_14 : decode cX6_shorten 14 = .ok (.ifCond .ne 9, 3) := by decide +kernel
theorem dX6_shorten_17 : decode cX6_shorten 17 = .ok (.aload_n 0, 1) := by decide +kernel
theorem dX6_shorten_18 : decode cX6_shorten 18 = .ok (.iconst 1, 1) := by decide +kernel
theorem dX6_shorten_19 : decode cX6_shorten 19 = .ok (.invokevirtual 147, 3) := by decide +kernel
theorem dX6_shorten_22 : decode cX6_shorten 22 = .ok (.ireturn, 1) := by decide +kernel
theorem dX6_shorten_23 : decode cX6_shorten 23 = .ok (.aload_n 0, 1) := by decide +kernel
theorem dX6_shorten_24 : decode cX6_shorten 24 = .ok (.iload_n 1, 1) := by decide +kernel
theorem dX6_shorten_25 : decode cX6_shorten 25 = .ok (.putfield 144, 3) := by decide +kernel
theorem dX6_shorten_28 : decode cX6_shorten 28 = .ok (.aload_n 0, 1) := by decide +kernel
theorem dX6_shorten_29 : decode cX6_shorten 29 = .ok (.getfield 144, 3) := by decide +kernel
theorem dX6_shorten_32 : decode cX6_shorten 32 = .ok (.ireturn, 1) := by decide +kernel
theorem dX6_isSmall_0 : decode cX6_isSmall 0 = .ok (.iload_n 1, 1) := by decide +kernel
theorem dX6_isSmall_1 : decode cX6_isSmall 1 = .ok (.aload_n 0, 1) := by decide +kernel
theorem dX6_isSmall_2 : decode cX6_isSmall 2 = .ok (.getfield 144, 3) := by decide +kernel
theorem dX6_isSmall_5 : decode cX6_isSmall 5 = .ok (.if_icmp .ge 29, 3) := by decide +kernel
theorem dX6_isSmall_8 : decode cX6_isSmall 8 = .ok (.aload_n 0, 1) := by decide +kernel
theorem dX6_isSmall_9 : decode cX6_isSmall 9 = .ok (.getfield 29, 3) := by decide +kernel
theorem dX6_isSmall_12 : decode cX6_isSmall 12 = .ok (.iload_n 1, 1) := by decide +kernel
theorem dX6_isSmall_13 : decode cX6_isSmall 13 = .ok (.iaload, 1) := by decide +kernel
theorem dX6_isSmall_14 : decode cX6_isSmall 14 = .ok (.bipush 97, 2) := by decide +kernel
theorem dX6_isSmall_16 : decode cX6_isSmall 16 = .ok (.if_icmp .lt 18, 3) := by decide +kernel
theorem dX6_isSmall_19 : decode cX6_isSmall 19 = .ok (.aload_n 0, 1) := by decide +kernel
theorem dX6_isSmall_20 : decode cX6_isSmall 20 = .ok (.getfield 29, 3) := by decide +kernel
theorem dX6_isSmall_23 : decode cX6_isSmall 23 = .ok (.iload_n 1, 1) := by decide +kernel
theorem dX6_isSmall_24 : decode cX6_isSmall 24 = .ok (.iaload, 1) := by decide +kernel
theorem dX6_isSmall_25 : decode cX6_isSmall 25 = .ok (.bipush 122, 2) := by decide +kernel
theorem dX6_isSmall_27 : decode cX6_isSmall 27 = .ok (.if_icmp .gt 7, 3) := by decide +kernel
theorem dX6_isSmall_30 : decode cX6_isSmall 30 = .ok (.iconst 1, 1) := by decide +kernel
theorem dX6_isSmall_31 : decode cX6_isSmall 31 = .ok (.goto 4, 3) := by decide +kernel
theorem dX6_isSmall_34 : decode cX6_isSmall 34 = .ok (.iconst 0, 1) := by decide +kernel
theorem dX6_isSmall_35 : decode cX6_isSmall 35 = .ok (.ireturn, 1) := by decide +kernel
theorem dX6_isDigit_0 : decode cX6_isDigit 0 = .ok (.iload_n 1, 1) := by decide +kernel
theorem dX6_isDigit_1 : decode cX6_isDigit 1 = .ok (.aload_n 0, 1) := by decide +kernel
theorem dX6_isDigit_2 : decode cX6_isDigit 2 = .ok (.getfield 144, 3) := by decide +kernel
theorem dX6_isDigit_5 : decode cX6_isDigit 5 = .ok (.if_icmp .ge 29, 3) := by decide +kernel
theorem dX6_isDigit_8 : decode cX6_isDigit 8 = .ok (.aload_n 0, 1) := by decide +kernel
theorem dX6_isDigit_9 : decode cX6_isDigit 9 = .ok (.getfield 29, 3) := by decide +kernel
theorem dX6_isDigit_12 : decode cX6_isDigit 12 = .ok (.iload_n 1, 1) := by decide +kernel
theorem dX6_isDigit_13 : decode cX6_isDigit 13 = .ok (.iaload, 1) := by decide +kernel
theorem dX6_isDigit_14 : decode cX6_isDigit 14 = .ok (.bipush 48, 2) := by decide +kernel
theorem dX6_isDigit_16 : decode cX6_isDigit 16 = .ok (.if_icmp .lt 18, 3) := by decide +kernel
theorem dX6_isDigit_19 : decode cX6_isDigit 19 = .ok (.aload_n 0, 1) := by decide +kernel
theorem dX6_isDigit_20 : decode cX6_isDigit 20 = .ok (.getfield 29, 3) := by decide +kernel
theorem dX6_isDigit_23 : decode cX6_isDigit 23 = .ok (.iload_n 1, 1) := by decide +kernel
theorem dX6_isDigit_24 : decode cX6_isDigit 24 = .ok (.iaload, 1) := by decide +kernel
theorem dX6_isDigit_25 : decode cX6_isDigit 25 = .ok (.bipush 57, 2) := by decide +kernel
theorem dX6_isDigit_27 : decode cX6_isDigit 27 = .ok (.if_icmp .gt 7, 3) := by decide +kernel
theorem dX6_isDigit_30 : decode cX6_isDigit 30 = .ok (.iconst 1, 1) := by decide +kernel
theorem dX6_isDigit_31 : decode cX6_isDigit 31 = .ok (.goto 4, 3) := by decide +kernel
theorem dX6_isDigit_34 : decode cX6_isDigit 34 = .ok (.iconst 0, 1) := by decide +kernel
theorem dX6_isDigit_35 : decode cX6_isDigit 35 = .ok (.ireturn, 1) := by decide +kernel
theorem dX6_next_0 : decode cX6_next 0 = .ok (.aload_n 0, 1) := by decide +kernel
theorem dX6_next_1 : decode cX6_next 1 = .ok (.getfield 151, 3) := by decide +kernel
theorem dX6_next_4 : decode cX6_next 4 = .ok (.aload_n 0, 1) := by decide +kernel
theorem dX6_next_5 : decode cX6_next 5 = .ok (.getfield 144, 3) := by decide +kernel
theorem dX6_next_8 : decode cX6_next 8 = .ok (.if_icmp .ge 44, 3) := by decide +kernel
theorem dX6_next_11 : decode cX6_next 11 = .ok (.aload_n 0, 1) := by decide +kernel
theorem dX6_next_12 : decode cX6_next 12 = .ok (.getfield 29, 3) := by decide +kernel
theorem dX6_next_15 : decode cX6_next 15 = .ok (.aload_n 0, 1) := by decide +kernel
theorem dX6_next_16 : decode cX6_next 16 = .ok (.getfield 151, 3) := by decide +kernel
theorem dX6_next_19 : decode cX6_next 19 = .ok (.iaload, 1) := by decide +kernel
theorem dX6_next_20 : decode cX6_next 20 = .ok (.bipush 32, 2) := by decide +kernel
theorem dX6_next_22 : decode cX6_next 22 = .ok (.if_icmp .eq 17, 3) := by decide +kernel
theorem dX6_next_25 : decode cX6_next 25 = .ok (.aload_n 0, 1) := by decide +kernel
theorem dX6_next_26 : decode cX6_next 26 = .ok (.getfield 29, 3) := by decide +kernel
theorem dX6_next_29 : decode cX6_next 29 = .ok (.aload_n 0, 1) := by decide +kernel
theorem dX6_next_30 : decode cX6_next 30 = .ok (.getfield 151, 3) := by decide +kernel
theorem dX6_next_33 : decode cX6_next 33 = .ok (.iaload, 1) := by decide +kernel
theorem dX6_next_34 : decode cX6_next 34 = .ok (.bipush 10, 2) := by decide +kernel
theorem dX6_next_36 : decode cX6_next 36 = .ok (.if_icmp .ne 16, 3) := by decide +kernel
theorem dX6_next_39 : decode cX6_next 39 = .ok (.aload_n 0, 1) := by decide +kernel
theorem dX6_next_40 : decode cX6_next 40 = .ok (.dup, 1) := by decide +kernel
theorem dX6_next_41 : decode cX6_next 41 = .ok (.getfield 151, 3) := by decide +kernel
theorem dX6_next_44 : decode cX6_next 44 = .ok (.iconst 1, 1) := by decide +kernel
theorem dX6_next_45 : decode cX6_next 45 = .ok (.iadd, 1) := by decide +kernel
theorem dX6_next_46 : decode cX6_next 46 = .ok (.putfield 151, 3) := by decide +kernel
theorem dX6_next_49 : decode cX6_next 49 = .ok (.goto (-49), 3) := by decide +kernel
theorem dX6_next_52 : decode cX6_next 52 = .ok (.aload_n 0, 1) := by decide +kernel
theorem dX6_next_53 : decode cX6_next 53 = .ok (.aload_n 0, 1) := by decide +kernel
theorem dX6_next_54 : decode cX6_next 54 = .ok (.getfield 151, 3) := by decide +kernel
theorem dX6_next_57 : decode cX6_next 57 = .ok (.putfield 154, 3) := by decide +kernel
theorem dX6_next_60 : decode cX6_next 60 = .ok (.aload_n 0, 1) := by decide +kernel
theorem dX6_next_61 : decode cX6_next 61 = .ok (.iconst 0, 1) := by decide +kernel
theorem dX6_next_62 : decode cX6_next 62 = .ok (.putfield 157, 3) := by decide +kernel
theorem dX6_next_65 : decode cX6_next 65 = .ok (.aload_n 0, 1) := by decide +kernel
theorem dX6_next_66 : decode cX6_next 66 = .ok (.lconst 0, 1) := by decide +kernel
theorem dX6_next_67 : decode cX6_next 67 = .ok (.putfield 160, 3) := by decide +kernel
theorem dX6_next_70 : decode cX6_next 70 = .ok (.aload_n 0, 1) := by decide +kernel
theorem dX6_next_71 : decode cX6_next 71 = .ok (.getfield 151, 3) := by decide +kernel
theorem dX6_next_74 : decode cX6_next 74 = .ok (.aload_n 0, 1) := by decide +kernel
theorem dX6_next_75 : decode cX6_next 75 = .ok (.getfield 144, 3) := by decide +kernel
theorem dX6_next_78 : decode cX6_next 78 = .ok (.if_icmp .ne 11, 3) := by decide +kernel
theorem dX6_next_81 : decode cX6_next 81 = .ok (.aload_n 0, 1) := by decide +kernel
theorem dX6_next_82 : decode cX6_next 82 = .ok (.iconst 0, 1) := by decide +kernel
theorem dX6_next_83 : decode cX6_next 83 = .ok (.putfield 164, 3) := by decide +kernel
theorem dX6_next_86 : decode cX6_next 86 = .ok (.goto 73, 3) := by decide +kernel
theorem dX6_next_89 : decode cX6_next 89 = .ok (.aload_n 0, 1) := by decide +kernel
theorem dX6_next_90 : decode cX6_next 90 = .ok (.aload_n 0, 1) := by decide +kernel
theorem dX6_next_91 : decode cX6_next 91 = .ok (.getfield 151, 3) := by decide +kernel
theorem dX6_next_94 : decode cX6_next 94 = .ok (.invokevirtual 167, 3) := by decide +kernel
theorem dX6_next_97 : decode cX6_next 97 = .ok (.ifCond .eq 10, 3) := by decide +kernel
theorem dX6_next_100 : decode cX6_next 100 = .ok (.aload_n 0, 1) := by decide +kernel
theorem dX6_next_101 : decode cX6_next 101 = .ok (.invokevirtual 171, 3) := by decide +kernel
theorem dX6_next_104 : decode cX6_next 104 = .ok (.goto 55, 3) := by decide +kernel
theorem dX6_next_107 : decode cX6_next 107 = .ok (.aload_n 0, 1) := by decide +kernel
theorem dX6_next_108 : decode cX6_next 108 = .ok (.aload_n 0, 1) := by decide +kernel
theorem dX6_next_109 : decode cX6_next 109 = .ok (.getfield 151, 3) := by decide +kernel
theorem dX6_next_112 : decode cX6_next 112 = .ok (.invokevirtual 174, 3) := by decide +kernel
theorem dX6_next_115 : decode cX6_next 115 = .ok (.ifCond .eq 10, 3) := by decide +kernel
theorem dX6_next_118 : decode cX6_next 118 = .ok (.aload_n 0, 1) := by decide +kernel
theorem dX6_next_119 : decode cX6_next 119 = .ok (.invokevirtual 177, 3) := by decide +kernel
theorem dX6_next_122 : decode cX6_next 122 = .ok (.goto 37, 3) := by decide +kernel
theorem dX6_next_125 : decode cX6_next 125 = .ok (.aload_n 0, 1) := by decide +kernel
theorem dX6_next_126 : decode cX6_next 126 = .ok (.iconst 4, 1) := by decide +kernel
theorem dX6_next_127 : decode cX6_next 127 = .ok (.putfield 164, 3) := by decide +kernel
theorem dX6_next_130 : decode cX6_next 130 = .ok (.aload_n 0, 1) := by decide +kernel
theorem dX6_next_131 : decode cX6_next 131 = .ok (.getfield 29, 3) := by decide +kernel
theorem dX6_next_134 : decode cX6_next 134 = .ok (.aload_n 0, 1) := by decide +kernel
theorem dX6_next_135 : decode cX6_next 135 = .ok (.getfield 151, 3) := by decide +kernel
theorem dX6_next_138 : decode cX6_next 138 = .ok (.iaload, 1) := by decide +kernel
theorem dX6_next_139 : decode cX6_next 139 = .ok (.bipush 59, 2) := by decide +kernel
theorem dX6_next_141 : decode cX6_next 141 = .ok (.if_icmp .ne 8, 3) := by decide +kernel
theorem dX6_next_144 : decode cX6_next 144 = .ok (.aload_n 0, 1) := by decide +kernel
theorem dX6_next_145 : decode cX6_next 145 = .ok (.iconst 3, 1) := by decide +kernel
theorem dX6_next_146 : decode cX6_next 146 = .ok (.putfield 164, 3) := by decide +kernel
theorem dX6_next_149 : decode cX6_next 149 = .ok (.aload_n 0, 1) := by decide +kernel
theorem dX6_next_150 : decode cX6_next 150 = .ok (.dup, 1) := by decide +kernel
theorem dX6_next_151 : decode cX6_next 151 = .ok (.getfield 151, 3) := by decide +kernel
theorem dX6_next_154 : decode cX6_next 154 = .ok (.iconst 1, 1) := by decide +kernel
theorem dX6_next_155 : decode cX6_next 155 = .ok (.iadd, 1) := by decide +kernel
theorem dX6_next_156 : decode cX6_next 156 = .ok (.putfield 151, 3) := by decide +kernel
theorem dX6_next_159 : decode cX6_next 159 = .ok (.return_, 1) := by decide +kernel
theorem dX6_nextWord_0 : decode cX6_nextWord 0 = .ok (.aload_n 0, 1) := by decide +kernel
theorem dX6_nextWord_1 : decode cX6_nextWord 1 = .ok (.aload_n 0, 1) := by decide +kernel
theorem dX6_nextWord_2 : decode cX6_nextWord 2 = .ok (.getfield 151, 3) := by decide +kernel
theorem dX6_nextWord_5 : decode cX6_nextWord 5 = .ok (.invokevirtual 167, 3) := by decide +kernel
theorem dX6_nextWord_8 : decode cX6_nextWord 8 = .ok (.ifCond .eq 57, 3) := by decide +kernel
theorem dX6_nextWord_11 : decode cX6_nextWord 11 = .ok (.aload_n 0, 1) := by decide +kernel
theorem dX6_nextWord_12 : decode cX6_nextWord 12 = .ok (.getfield 151, 3) := by decide +kernel
theorem dX6_nextWord_15 : decode cX6_nextWord 15 = .ok (.aload_n 0, 1) := by decide +kernel
theorem dX6_nextWord_16 : decode cX6_nextWord 16 = .ok (.getfield 154, 3) := by decide +kernel
theorem dX6_nextWord_19 : decode cX6_nextWord 19 = .ok (.isub, 1) := by decide +kernel
theorem dX6_nextWord_20 : decode cX6_nextWord 20 = .ok (.bipush 8, 2) := by decide +kernel
theorem dX6_nextWord_22 : decode cX6_nextWord 22 = .ok (.if_icmp .ge 30, 3) := by decide +kernel
theorem dX6_nextWord_25 : decode cX6_nextWord 25 = .ok (.aload_n 0, 1) := by decide +kernel
theorem dX6_nextWord_26 : decode cX6_nextWord 26 = .ok (.ldc2_w 180, 3) := by decide +kernel
theorem dX6_nextWord_29 : decode cX6_nextWord 29 = .ok (.aload_n 0, 1) := by decide +kernel
theorem dX6_nextWord_30 : decode cX6_nextWord 30 = .ok (.getfield 160, 3) := by decide +kernel
theorem dX6_nextWord_33 : decode cX6_nextWord 33 = .ok (.lmul, 1) := by decide +kernel
theorem dX6_nextWord_34 : decode cX6_nextWord 34 = .ok (.aload_n 0, 1) := by decide +kernel
theorem dX6_nextWord_35 : decode cX6_nextWord 35 = .ok (.getfield 29, 3) := by decide +kernel
theorem dX6_nextWord_38 : decode cX6_nextWord 38 = .ok (.aload_n 0, 1) := by decide +kernel
