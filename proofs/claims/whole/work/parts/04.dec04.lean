theorem dX6_nextWord_39 : decode cX6_nextWord 39 = .ok (.getfield 151, 3) := by decide +kernel
theorem dX6_nextWord_42 : decode cX6_nextWord 42 = .ok (.iaload, 1) := by decide +kernel
theorem dX6_nextWord_43 : decode cX6_nextWord 43 = .ok (.i2l, 1) := by decide +kernel
theorem dX6_nextWord_44 : decode cX6_nextWord 44 = .ok (.ladd, 1) := by decide +kernel
theorem dX6_nextWord_45 : decode cX6_nextWord 45 = .ok (.ldc2_w 182, 3) := by decide +kernel
theorem dX6_nextWord_48 : decode cX6_nextWord 48 = .ok (.lsub, 1) := by decide +kernel
theorem dX6_nextWord_49 : decode cX6_nextWord 49 = .ok (.putfield 160, 3) := by decide +kernel
theorem dX6_nextWord_52 : decode cX6_nextWord 52 = .ok (.aload_n 0, 1) := by decide +kernel
theorem dX6_nextWord_53 : decode cX6_nextWord 53 = .ok (.dup, 1) := by decide +kernel
theorem dX6_nextWord_54 : decode cX6_nextWord 54 = .ok (.getfield 151, 3) := by decide +kernel
theorem dX6_nextWord_57 : decode cX6_nextWord 57 = .ok (.iconst 1, 1) := by decide +kernel
theorem dX6_nextWord_58 : decode cX6_nextWord 58 = .ok (.iadd, 1) := by decide +kernel
theorem dX6_nextWord_59 : decode cX6_nextWord 59 = .ok (.putfield 151, 3) := by decide +kernel
theorem dX6_nextWord_62 : decode cX6_nextWord 62 = .ok (.goto (-62), 3) := by decide +kernel
theorem dX6_nextWord_65 : decode cX6_nextWord 65 = .ok (.aload_n 0, 1) := by decide +kernel
theorem dX6_nextWord_66 : decode cX6_nextWord 66 = .ok (.iconst 1, 1) := by decide +kernel
theorem dX6_nextWord_67 : decode cX6_nextWord 67 = .ok (.putfield 164, 3) := by decide +kernel
theorem dX6_nextWord_70 : decode cX6_nextWord 70 = .ok (.return_, 1) := by decide +kernel
theorem dX6_nextNumber_0 : decode cX6_nextNumber 0 = .ok (.aload_n 0, 1) := by decide +kernel
theorem dX6_nextNumber_1 : decode cX6_nextNumber 1 = .ok (.aload_n 0, 1) := by decide +kernel
theorem dX6_nextNumber_2 : decode cX6_nextNumber 2 = .ok (.getfield 151, 3) := by decide +kernel
theorem dX6_nextNumber_5 : decode cX6_nextNumber 5 = .ok (.invokevirtual 174, 3) := by decide +kernel
theorem dX6_nextNumber_8 : decode cX6_nextNumber 8 = .ok (.ifCond .eq 53, 3) := by decide +kernel
theorem dX6_nextNumber_11 : decode cX6_nextNumber 11 = .ok (.aload_n 0, 1) := by decide +kernel
theorem dX6_nextNumber_12 : decode cX6_nextNumber 12 = .ok (.getfield 151, 3) := by decide +kernel
theorem dX6_nextNumber_15 : decode cX6_nextNumber 15 = .ok (.aload_n 0, 1) := by decide +kernel
theorem dX6_nextNumber_16 : decode cX6_nextNumber 16 = .ok (.getfield 154, 3) := by decide +kernel
theorem dX6_nextNumber_19 : decode cX6_nextNumber 19 = .ok (.isub, 1) := by decide +kernel
theorem dX6_nextNumber_20 : decode cX6_nextNumber 20 = .ok (.iconst 3, 1) := by decide +kernel
theorem dX6_nextNumber_21 : decode cX6_nextNumber 21 = .ok (.if_icmp .ge 27, 3) := by decide +kernel
theorem dX6_nextNumber_24 : decode cX6_nextNumber 24 = .ok (.aload_n 0, 1) := by decide +kernel
theorem dX6_nextNumber_25 : decode cX6_nextNumber 25 = .ok (.bipush 10, 2) := by decide +kernel
theorem dX6_nextNumber_27 : decode cX6_nextNumber 27 = .ok (.aload_n 0, 1) := by decide +kernel
theorem dX6_nextNumber_28 : decode cX6_nextNumber 28 = .ok (.getfield 157, 3) := by decide +kernel
theorem dX6_nextNumber_31 : decode cX6_nextNumber 31 = .ok (.imul, 1) := by decide +kernel
theorem dX6_nextNumber_32 : decode cX6_nextNumber 32 = .ok (.aload_n 0, 1) := by decide +kernel
theorem dX6_nextNumber_33 : decode cX6_nextNumber 33 = .ok (.getfield 29, 3) := by decide +kernel
theorem dX6_nextNumber_36 : decode cX6_nextNumber 36 = .ok (.aload_n 0, 1) := by decide +kernel
theorem dX6_nextNumber_37 : decode cX6_nextNumber 37 = .ok (.getfield 151, 3) := by decide +kernel
theorem dX6_nextNumber_40 : decode cX6_nextNumber 40 = .ok (.iaload, 1) := by decide +kernel
theorem dX6_nextNumber_41 : decode cX6_nextNumber 41 = .ok (.iadd, 1) := by decide +kernel
theorem dX6_nextNumber_42 : decode cX6_nextNumber 42 = .ok (.bipush 48, 2) := by decide +kernel
theorem dX6_nextNumber_44 : decode cX6_nextNumber 44 = .ok (.isub, 1) := by decide +kernel
theorem dX6_nextNumber_45 : decode cX6_nextNumber 45 = .ok (.putfield 157, 3) := by decide +kernel
theorem dX6_nextNumber_48 : decode cX6_nextNumber 48 = .ok (.aload_n 0, 1) := by decide +kernel
theorem dX6_nextNumber_49 : decode cX6_nextNumber 49 = .ok (.dup, 1) := by decide +kernel
theorem dX6_nextNumber_50 : decode cX6_nextNumber 50 = .ok (.getfield 151, 3) := by decide +kernel
theorem dX6_nextNumber_53 : decode cX6_nextNumber 53 = .ok (.iconst 1, 1) := by decide +kernel
theorem dX6_nextNumber_54 : decode cX6_nextNumber 54 = .ok (.iadd, 1) := by decide +kernel
theorem dX6_nextNumber_55 : decode cX6_nextNumber 55 = .ok (.putfield 151, 3) := by decide +kernel
theorem dX6_nextNumber_58 : decode cX6_nextNumber 58 = .ok (.goto (-58), 3) := by decide +kernel
theorem dX6_nextNumber_61 : decode cX6_nextNumber 61 = .ok (.aload_n 0, 1) := by decide +kernel
theorem dX6_nextNumber_62 : decode cX6_nextNumber 62 = .ok (.iconst 2, 1) := by decide +kernel
theorem dX6_nextNumber_63 : decode cX6_nextNumber 63 = .ok (.putfield 164, 3) := by decide +kernel
theorem dX6_nextNumber_66 : decode cX6_nextNumber 66 = .ok (.aload_n 0, 1) := by decide +kernel
theorem dX6_nextNumber_67 : decode cX6_nextNumber 67 = .ok (.getfield 151, 3) := by decide +kernel
theorem dX6_nextNumber_70 : decode cX6_nextNumber 70 = .ok (.aload_n 0, 1) := by decide +kernel
theorem dX6_nextNumber_71 : decode cX6_nextNumber 71 = .ok (.getfield 154, 3) := by decide +kernel
theorem dX6_nextNumber_74 : decode cX6_nextNumber 74 = .ok (.isub, 1) := by decide +kernel
theorem dX6_nextNumber_75 : decode cX6_nextNumber 75 = .ok (.iconst 3, 1) := by decide +kernel
theorem dX6_nextNumber_76 : decode cX6_nextNumber 76 = .ok (.if_icmp .le 8, 3) := by decide +kernel
theorem dX6_nextNumber_79 : decode cX6_nextNumber 79 = .ok (.aload_n 0, 1) := by decide +kernel
theorem dX6_nextNumber_80 : decode cX6_nextNumber 80 = .ok (.iconst 4, 1) := by decide +kernel
theorem dX6_nextNumber_81 : decode cX6_nextNumber 81 = .ok (.putfield 164, 3) := by decide +kernel
theorem dX6_nextNumber_84 : decode cX6_nextNumber 84 = .ok (.return_, 1) := by decide +kernel
theorem dX6_isWord_0 : decode cX6_isWord 0 = .ok (.aload_n 0, 1) := by decide +kernel
theorem dX6_isWord_1 : decode cX6_isWord 1 = .ok (.getfield 164, 3) := by decide +kernel
theorem dX6_isWord_4 : decode cX6_isWord 4 = .ok (.iconst 1, 1) := by decide +kernel
theorem dX6_isWord_5 : decode cX6_isWord 5 = .ok (.if_icmp .ne 16, 3) := by decide +kernel
theorem dX6_isWord_8 : decode cX6_isWord 8 = .ok (.aload_n 0, 1) := by decide +kernel
theorem dX6_isWord_9 : decode cX6_isWord 9 = .ok (.getfield 160, 3) := by decide +kernel
theorem dX6_isWord_12 : decode cX6_isWord 12 = .ok (.lload_n 1, 1) := by decide +kernel
theorem dX6_isWord_13 : decode cX6_isWord 13 = .ok (.lcmp, 1) := by decide +kernel
theorem dX6_isWord_14 : decode cX6_isWord 14 = .ok (.ifCond .ne 7, 3) := by decide +kernel
theorem dX6_isWord_17 : decode cX6_isWord 17 = .ok (.iconst 1, 1) := by decide +kernel
theorem dX6_isWord_18 : decode cX6_isWord 18 = .ok (.goto 4, 3) := by decide +kernel
theorem dX6_isWord_21 : decode cX6_isWord 21 = .ok (.iconst 0, 1) := by decide +kernel
theorem dX6_isWord_22 : decode cX6_isWord 22 = .ok (.ireturn, 1) := by decide +kernel
theorem dX6_takes_0 : decode cX6_takes 0 = .ok (.aload_n 0, 1) := by decide +kernel
theorem dX6_takes_1 : decode cX6_takes 1 = .ok (.getfield 184, 3) := by decide +kernel
theorem dX6_takes_4 : decode cX6_takes 4 = .ok (.ifCond .eq 5, 3) := by decide +kernel
theorem dX6_takes_7 : decode cX6_takes 7 = .ok (.iconst 0, 1) := by decide +kernel
theorem dX6_takes_8 : decode cX6_takes 8 = .ok (.ireturn, 1) := by decide +kernel
theorem dX6_takes_9 : decode cX6_takes 9 = .ok (.iload_n 1, 1) := by decide +kernel
theorem dX6_takes_10 : decode cX6_takes 10 = .ok (.ifCond .ne 18, 3) := by decide +kernel
theorem dX6_takes_13 : decode cX6_takes 13 = .ok (.aload_n 0, 1) := by decide +kernel
theorem dX6_takes_14 : decode cX6_takes 14 = .ok (.iconst 1, 1) := by decide +kernel
theorem dX6_takes_15 : decode cX6_takes 15 = .ok (.putfield 184, 3) := by decide +kernel
theorem dX6_takes_18 : decode cX6_takes 18 = .ok (.aload_n 0, 1) := by decide +kernel
theorem dX6_takes_19 : decode cX6_takes 19 = .ok (.aload_n 0, 1) := by decide +kernel
theorem dX6_takes_20 : decode cX6_takes 20 = .ok (.getfield 154, 3) := by decide +kernel
theorem dX6_takes_23 : decode cX6_takes 23 = .ok (.putfield 32, 3) := by decide +kernel
theorem dX6_takes_26 : decode cX6_takes 26 = .ok (.iconst 0, 1) := by decide +kernel
theorem dX6_takes_27 : decode cX6_takes 27 = .ok (.ireturn, 1) := by decide +kernel
theorem dX6_takes_28 : decode cX6_takes 28 = .ok (.aload_n 0, 1) := by decide +kernel
theorem dX6_takes_29 : decode cX6_takes 29 = .ok (.invokevirtual 188, 3) := by decide +kernel
theorem dX6_takes_32 : decode cX6_takes 32 = .ok (.iconst 1, 1) := by decide +kernel
theorem dX6_takes_33 : decode cX6_takes 33 = .ok (.ireturn, 1) := by decide +kernel
theorem dX6_takesNumber_0 : decode cX6_takesNumber 0 = .ok (.aload_n 0, 1) := by decide +kernel
theorem dX6_takesNumber_1 : decode cX6_takesNumber 1 = .ok (.getfield 157, 3) := by decide +kernel
theorem dX6_takesNumber_4 : decode cX6_takesNumber 4 = .ok (.istore_n 3, 1) := by decide +kernel
theorem dX6_takesNumber_5 : decode cX6_takesNumber 5 = .ok (.aload_n 0, 1) := by decide +kernel
theorem dX6_takesNumber_6 : decode cX6_takesNumber 6 = .ok (.aload_n 0, 1) := by decide +kernel
theorem dX6_takesNumber_7 : decode cX6_takesNumber 7 = .ok (.getfield 164, 3) := by decide +kernel
theorem dX6_takesNumber_10 : decode cX6_takesNumber 10 = .ok (.iconst 2, 1) := by decide +kernel
theorem dX6_takesNumber_11 : decode cX6_takesNumber 11 = .ok (.if_icmp .ne 16, 3) := by decide +kernel
theorem dX6_takesNumber_14 : decode cX6_takesNumber 14 = .ok (.iload_n 3, 1) := by decide +kernel
theorem dX6_takesNumber_15 : decode cX6_takesNumber 15 = .ok (.iload_n 1, 1) := by decide +kernel
theorem dX6_takesNumber_16 : decode cX6_takesNumber 16 = .ok (.iload_n 2, 1) := by decide +kernel
theorem dX6_takesNumber_17 : decode cX6_takesNumber 17 = .ok (.invokestatic 67, 3) := by decide +kernel
theorem dX6_takesNumber_20 : decode cX6_takesNumber 20 = .ok (.ifCond .eq 7, 3) := by decide +kernel
theorem dX6_takesNumber_23 : decode cX6_takesNumber 23 = .ok (.iconst 1, 1) := by decide +kernel
theorem dX6_takesNumber_24 : decode cX6_takesNumber 24 = .ok (.goto 4, 3) := by decide +kernel
theorem dX6_takesNumber_27 : decode cX6_takesNumber 27 = .ok (.iconst 0, 1) := by decide +kernel
theorem dX6_takesNumber_28 : decode cX6_takesNumber 28 = .ok (.invokevirtual 191, 3) := by decide +kernel
theorem dX6_takesNumber_31 : decode cX6_takesNumber 31 = .ok (.ifCond .eq 5, 3) := by decide +kernel
theorem dX6_takesNumber_34 : decode cX6_takesNumber 34 = .ok (.iload_n 3, 1) := by decide +kernel
theorem dX6_takesNumber_35 : decode cX6_takesNumber 35 = .ok (.ireturn, 1) := by decide +kernel
theorem dX6_takesNumber_36 : decode cX6_takesNumber 36 = .ok (.iload_n 1, 1) := by decide +kernel
theorem dX6_takesNumber_37 : decode cX6_takesNumber 37 = .ok (.ireturn, 1) := by decide +kernel
theorem dX6_readCamel_0 : decode cX6_readCamel 0 = .ok (.aload_n 0, 1) := by decide +kernel
theorem dX6_readCamel_1 : decode cX6_readCamel 1 = .ok (.aload_n 0, 1) := by decide +kernel
theorem dX6_readCamel_2 : decode cX6_readCamel 2 = .ok (.ldc2_w 195, 3) := by decide +kernel
theorem dX6_readCamel_5 : decode cX6_readCamel 5 = .ok (.invokevirtual 197, 3) := by decide +kernel
theorem dX6_readCamel_8 : decode cX6_readCamel 8 = .ok (.ifCond .eq 19, 3) := by decide +kernel
theorem dX6_readCamel_11 : decode cX6_readCamel 11 = .ok (.aload_n 0, 1) := by decide +kernel
theorem dX6_readCamel_12 : decode cX6_readCamel 12 = .ok (.getfield 13, 3) := by decide +kernel
theorem dX6_readCamel_15 : decode cX6_readCamel 15 = .ok (.bipush 6, 2) := by decide +kernel
theorem dX6_readCamel_17 : decode cX6_readCamel 17 = .ok (.iaload, 1) := by decide +kernel
theorem dX6_readCamel_18 : decode cX6_readCamel 18 = .ok (.bipush 10, 2) := by decide +kernel
theorem dX6_readCamel_20 : decode cX6_readCamel 20 = .ok (.if_icmp .ge 7, 3) := by decide +kernel
theorem dX6_readCamel_23 : decode cX6_readCamel 23 = .ok (.iconst 1, 1) := by decide +kernel
theorem dX6_readCamel_24 : decode cX6_readCamel 24 = .ok (.goto 4, 3) := by decide +kernel
theorem dX6_readCamel_27 : decode cX6_readCamel 27 = .ok (.iconst 0, 1) := by decide +kernel
theorem dX6_readCamel_28 : decode cX6_readCamel 28 = .ok (.invokevirtual 191, 3) := by decide +kernel
theorem dX6_readCamel_31 : decode cX6_readCamel 31 = .ok (.pop, 1) := by decide +kernel
theorem dX6_readCamel_32 : decode cX6_readCamel 32 = .ok (.aload_n 0, 1) := by decide +kernel
theorem dX6_readCamel_33 : decode cX6_readCamel 33 = .ok (.bipush 10, 2) := by decide +kernel
theorem dX6_readCamel_35 : decode cX6_readCamel 35 = .ok (.bipush 60, 2) := by decide +kernel
theorem dX6_readCamel_37 : decode cX6_readCamel 37 = .ok (.invokevirtual 201, 3) := by decide +kernel
theorem dX6_readCamel_40 : decode cX6_readCamel 40 = .ok (.istore_n 1, 1) := by decide +kernel
theorem dX6_readCamel_41 : decode cX6_readCamel 41 = .ok (.aload_n 0, 1) := by decide +kernel
theorem dX6_readCamel_42 : decode cX6_readCamel 42 = .ok (.iconst 1, 1) := by decide +kernel
theorem dX6_readCamel_43 : decode cX6_readCamel 43 = .ok (.bipush 9, 2) := by decide +kernel
theorem dX6_readCamel_45 : decode cX6_readCamel 45 = .ok (.invokevirtual 201, 3) := by decide +kernel
theorem dX6_readCamel_48 : decode cX6_readCamel 48 = .ok (.istore_n 2, 1) := by decide +kernel
theorem dX6_readCamel_49 : decode cX6_readCamel 49 = .ok (.aload_n 0, 1) := by decide +kernel
theorem dX6_readCamel_50 : decode cX6_readCamel 50 = .ok (.bipush 10, 2) := by decide +kernel
theorem dX6_readCamel_52 : decode cX6_readCamel 52 = .ok (.bipush 90, 2) := by decide +kernel
theorem dX6_readCamel_54 : decode cX6_readCamel 54 = .ok (.invokevirtual 201, 3) := by decide +kernel
theorem dX6_readCamel_57 : decode cX6_readCamel 57 = .ok (.istore_n 3, 1) := by decide +kernel
theorem dX6_readCamel_58 : decode cX6_readCamel 58 = .ok (.aload_n 0, 1) := by decide +kernel
theorem dX6_readCamel_59 : decode cX6_readCamel 59 = .ok (.aload_n 0, 1) := by decide +kernel
theorem dX6_readCamel_60 : decode cX6_readCamel 60 = .ok (.getfield 164, 3) := by decide +kernel
theorem dX6_readCamel_63 : decode cX6_readCamel 63 = .ok (.iconst 3, 1) := by decide +kernel
theorem dX6_readCamel_64 : decode cX6_readCamel 64 = .ok (.if_icmp .ne 7, 3) := by decide +kernel
theorem dX6_readCamel_67 : decode cX6_readCamel 67 = .ok (.iconst 1, 1) := by decide +kernel
theorem dX6_readCamel_68 : decode cX6_readCamel 68 = .ok (.goto 4, 3) := by decide +kernel
theorem dX6_readCamel_71 : decode cX6_readCamel 71 = .ok (.iconst 0, 1) := by decide +kernel
theorem dX6_readCamel_72 : decode cX6_readCamel 72 = .ok (.invokevirtual 191, 3) := by decide +kernel
theorem dX6_readCamel_75 : decode cX6_readCamel 75 = .ok (.ifCond .eq 13, 3) := by decide +kernel
theorem dX6_readCamel_78 : decode cX6_readCamel 78 = .ok (.aload_n 0, 1) := by decide +kernel
theorem dX6_readCamel_79 : decode cX6_readCamel 79 = .ok (.getfield 13, 3) := by decide +kernel
theorem dX6_readCamel_82 : decode cX6_readCamel 82 = .ok (.iload_n 1, 1) := by decide +kernel
theorem dX6_readCamel_83 : decode cX6_readCamel 83 = .ok (.iload_n 2, 1) := by decide +kernel
theorem dX6_readCamel_84 : decode cX6_readCamel 84 = .ok (.iload_n 3, 1) := by decide +kernel
theorem dX6_readCamel_85 : decode cX6_readCamel 85 = .ok (.invokestatic 42, 3) := by decide +kernel
theorem dX6_readCamel_88 : decode cX6_readCamel 88 = .ok (.return_, 1) := by decide +kernel
theorem dX6_readWell_0 : decode cX6_readWell 0 = .ok (.aload_n 0, 1) := by decide +kernel
theorem dX6_readWell_1 : decode cX6_readWell 1 = .ok (.aload_n 0, 1) := by decide +kernel
theorem dX6_readWell_2 : decode cX6_readWell 2 = .ok (.getfield 13, 3) := by decide +kernel
theorem dX6_readWell_5 : decode cX6_readWell 5 = .ok (.bipush 7, 2) := by decide +kernel
theorem dX6_readWell_7 : decode cX6_readWell 7 = .ok (.iaload, 1) := by decide +kernel
theorem dX6_readWell_8 : decode cX6_readWell 8 = .ok (.bipush 8, 2) := by decide +kernel
theorem dX6_readWell_10 : decode cX6_readWell 10 = .ok (.if_icmp .ge 7, 3) := by decide +kernel
theorem dX6_readWell_13 : decode cX6_readWell 13 = .ok (.iconst 1, 1) := by decide +kernel
theorem dX6_readWell_14 : decode cX6_readWell 14 = .ok (.goto 4, 3) := by decide +kernel
theorem dX6_readWell_17 : decode cX6_readWell 17 = .ok (.iconst 0, 1) := by decide +kernel
theorem dX6_readWell_18 : decode cX6_readWell 18 = .ok (.invokevirtual 191, 3) := by decide +kernel
theorem dX6_readWell_21 : decode cX6_readWell 21 = .ok (.pop, 1) := by decide +kernel
theorem dX6_readWell_22 : decode cX6_readWell 22 = .ok (.aload_n 0, 1) := by decide +kernel
theorem dX6_readWell_23 : decode cX6_readWell 23 = .ok (.getfield 157, 3) := by decide +kernel
theorem dX6_readWell_26 : decode cX6_readWell 26 = .ok (.istore_n 1, 1) := by decide +kernel
theorem dX6_readWell_27 : decode cX6_readWell 27 = .ok (.aload_n 0, 1) := by decide +kernel
theorem dX6_readWell_28 : decode cX6_readWell 28 = .ok (.aload_n 0, 1) := by decide +kernel
theorem dX6_readWell_29 : decode cX6_readWell 29 = .ok (.getfield 164, 3) := by decide +kernel
theorem dX6_readWell_32 : decode cX6_readWell 32 = .ok (.iconst 2, 1) := by decide +kernel
theorem dX6_readWell_33 : decode cX6_readWell 33 = .ok (.if_icmp .ne 28, 3) := by decide +kernel
theorem dX6_readWell_36 : decode cX6_readWell 36 = .ok (.iload_n 1, 1) := by decide +kernel
theorem dX6_readWell_37 : decode cX6_readWell 37 = .ok (.aload_n 0, 1) := by decide +kernel
theorem dX6_readWell_38 : decode cX6_readWell 38 = .ok (.getfield 13, 3) := by decide +kernel
theorem dX6_readWell_41 : decode cX6_readWell 41 = .ok (.iconst 0, 1) := by decide +kernel
theorem dX6_readWell_42 : decode cX6_readWell 42 = .ok (.iaload, 1) := by decide +kernel
theorem dX6_readWell_43 : decode cX6_readWell 43 = .ok (.if_icmp .gt 18, 3) := by decide +kernel
theorem dX6_readWell_46 : decode cX6_readWell 46 = .ok (.aload_n 0, 1) := by decide +kernel
theorem dX6_readWell_47 : decode cX6_readWell 47 = .ok (.getfield 13, 3) := by decide +kernel
theorem dX6_readWell_50 : decode cX6_readWell 50 = .ok (.iload_n 1, 1) := by decide +kernel
theorem dX6_readWell_51 : decode cX6_readWell 51 = .ok (.invokestatic 204, 3) := by decide +kernel
theorem dX6_readWell_54 : decode cX6_readWell 54 = .ok (.ifCond .ge 7, 3) := by decide +kernel
theorem dX6_readWell_57 : decode cX6_readWell 57 = .ok (.iconst 1, 1) := by decide +kernel
theorem dX6_readWell_58 : decode cX6_readWell 58 = .ok (.goto 4, 3) := by decide +kernel
theorem dX6_readWell_61 : decode cX6_readWell 61 = .ok (.iconst 0, 1) := by decide +kernel
theorem dX6_readWell_62 : decode cX6_readWell 62 = .ok (.invokevirtual 191, 3) := by decide +kernel
theorem dX6_readWell_65 : decode cX6_readWell 65 = .ok (.pop, 1) := by decide +kernel
theorem dX6_readWell_66 : decode cX6_readWell 66 = .ok (.aload_n 0, 1) := by decide +kernel
theorem dX6_readWell_67 : decode cX6_readWell 67 = .ok (.iconst 1, 1) := by decide +kernel
theorem dX6_readWell_68 : decode cX6_readWell 68 = .ok (.sipush 999, 3) := by decide +kernel
theorem dX6_readWell_71 : decode cX6_readWell 71 = .ok (.invokevirtual 201, 3) := by decide +kernel
theorem dX6_readWell_74 : decode cX6_readWell 74 = .ok (.istore_n 2, 1) := by decide +kernel
theorem dX6_readWell_75 : decode cX6_readWell 75 = .ok (.aload_n 0, 1) := by decide +kernel
theorem dX6_readWell_76 : decode cX6_readWell 76 = .ok (.iconst 0, 1) := by decide +kernel
theorem dX6_readWell_77 : decode cX6_readWell 77 = .ok (.bipush 99, 2) := by decide +kernel
theorem dX6_readWell_79 : decode cX6_readWell 79 = .ok (.invokevirtual 201, 3) := by decide +kernel
theorem dX6_readWell_82 : decode cX6_readWell 82 = .ok (.istore_n 3, 1) := by decide +kernel
theorem dX6_readWell_83 : decode cX6_readWell 83 = .ok (.aload_n 0, 1) := by decide +kernel
theorem dX6_readWell_84 : decode cX6_readWell 84 = .ok (.aload_n 0, 1) := by decide +kernel
theorem dX6_readWell_85 : decode cX6_readWell 85 = .ok (.getfield 164, 3) := by decide +kernel
theorem dX6_readWell_88 : decode cX6_readWell 88 = .ok (.iconst 3, 1) := by decide +kernel
theorem dX6_readWell_89 : decode cX6_readWell 89 = .ok (.if_icmp .ne 7, 3) := by decide +kernel
theorem dX6_readWell_92 : decode cX6_readWell 92 = .ok (.iconst 1, 1) := by decide +kernel
theorem dX6_readWell_93 : decode cX6_readWell 93 = .ok (.goto 4, 3) := by decide +kernel
theorem dX6_readWell_96 : decode cX6_readWell 96 = .ok (.iconst 0, 1) := by decide +kernel
theorem dX6_readWell_97 : decode cX6_readWell 97 = .ok (.invokevirtual 191, 3) := by decide +kernel
theorem dX6_readWell_100 : decode cX6_readWell 100 = .ok (.ifCond .eq 13, 3) := by decide +kernel
theorem dX6_readWell_103 : decode cX6_readWell 103 = .ok (.aload_n 0, 1) := by decide +kernel
theorem dX6_readWell_104 : decode cX6_readWell 104 = .ok (.getfield 13, 3) := by decide +kernel
theorem dX6_readWell_107 : decode cX6_readWell 107 = .ok (.iload_n 1, 1) := by decide +kernel
theorem dX6_readWell_108 : decode cX6_readWell 108 = .ok (.iload_n 2, 1) := by decide +kernel
theorem dX6_readWell_109 : decode cX6_readWell 109 = .ok (.iload_n 3, 1) := by decide +kernel
theorem dX6_readWell_110 : decode cX6_readWell 110 = .ok (.invokestatic 46, 3) := by decide +kernel
theorem dX6_readWell_113 : decode cX6_readWell 113 = .ok (.return_, 1) := by decide +kernel
theorem dX6_readStorm_0 : decode cX6_readStorm 0 = .ok (.aload_n 0, 1) := by decide +kernel
theorem dX6_readStorm_1 : decode cX6_readStorm 1 = .ok (.aload_n 0, 1) := by decide +kernel
theorem dX6_readStorm_2 : decode cX6_readStorm 2 = .ok (.getfield 13, 3) := by decide +kernel
theorem dX6_readStorm_5 : decode cX6_readStorm 5 = .ok (.bipush 8, 2) := by decide +kernel
theorem dX6_readStorm_7 : decode cX6_readStorm 7 = .ok (.iaload, 1) := by decide +kernel
theorem dX6_readStorm_8 : decode cX6_readStorm 8 = .ok (.bipush 6, 2) := by decide +kernel
theorem dX6_readStorm_10 : decode cX6_readStorm 10 = .ok (.if_icmp .ge 7, 3) := by decide +kernel
theorem dX6_readStorm_13 : decode cX6_readStorm 13 = .ok (.iconst 1, 1) := by decide +kernel
theorem dX6_readStorm_14 : decode cX6_readStorm 14 = .ok (.goto 4, 3) := by decide +kernel
theorem dX6_readStorm_17 : decode cX6_readStorm 17 = .ok (.iconst 0, 1) := by decide +kernel
theorem dX6_readStorm_18 : decode cX6_readStorm 18 = .ok (.invokevirtual 191, 3) := by decide +kernel
theorem dX6_readStorm_21 : decode cX6_readStorm 21 = .ok (.pop, 1) := by decide +kernel
theorem dX6_readStorm_22 : decode cX6_readStorm 22 = .ok (.aload_n 0, 1) := by decide +kernel
theorem dX6_readStorm_23 : decode cX6_readStorm 23 = .ok (.iconst 0, 1) := by decide +kernel
theorem dX6_readStorm_24 : decode cX6_readStorm 24 = .ok (.sipush 200, 3) := by decide +kernel
theorem dX6_readStorm_27 : decode cX6_readStorm 27 = .ok (.invokevirtual 201, 3) := by decide +kernel
theorem dX6_readStorm_30 : decode cX6_readStorm 30 = .ok (.istore_n 1, 1) := by decide +kernel
theorem dX6_readStorm_31 : decode cX6_readStorm 31 = .ok (.aload_n 0, 1) := by decide +kernel
theorem dX6_readStorm_32 : decode cX6_readStorm 32 = .ok (.iload_n 1, 1) := by decide +kernel
theorem dX6_readStorm_33 : decode cX6_readStorm 33 = .ok (.sipush 200, 3) := by decide +kernel
theorem dX6_readStorm_36 : decode cX6_readStorm 36 = .ok (.invokevirtual 201, 3) := by decide +kernel
theorem dX6_readStorm_39 : decode cX6_readStorm 39 = .ok (.istore_n 2, 1) := by decide +kernel
theorem dX6_readStorm_40 : decode cX6_readStorm 40 = .ok (.aload_n 0, 1) := by decide +kernel
theorem dX6_readStorm_41 : decode cX6_readStorm 41 = .ok (.iconst 1, 1) := by decide +kernel
theorem dX6_readStorm_42 : decode cX6_readStorm 42 = .ok (.bipush 9, 2) := by decide +kernel
theorem dX6_readStorm_44 : decode cX6_readStorm 44 = .ok (.invokevirtual 201, 3) := by decide +kernel
theorem dX6_readStorm_47 : decode cX6_readStorm 47 = .ok (.istore_n 3, 1) := by decide +kernel
theorem dX6_readStorm_48 : decode cX6_readStorm 48 = .ok (.aload_n 0, 1) := by decide +kernel
theorem dX6_readStorm_49 : decode cX6_readStorm 49 = .ok (.aload_n 0, 1) := by decide +kernel
theorem dX6_readStorm_50 : decode cX6_readStorm 50 = .ok (.getfield 164, 3) := by decide +kernel
theorem dX6_readStorm_53 : decode cX6_readStorm 53 = .ok (.iconst 3, 1) := by decide +kernel
theorem dX6_readStorm_54 : decode cX6_readStorm 54 = .ok (.if_icmp .ne 7, 3) := by decide +kernel
theorem dX6_readStorm_57 : decode cX6_readStorm 57 = .ok (.iconst 1, 1) := by decide +kernel
theorem dX6_readStorm_58 : decode cX6_readStorm 58 = .ok (.goto 4, 3) := by decide +kernel
theorem dX6_readStorm_61 : decode cX6_readStorm 61 = .ok (.iconst 0, 1) := by decide +kernel
theorem dX6_readStorm_62 : decode cX6_readStorm 62 = .ok (.invokevirtual 191, 3) := by decide +kernel
theorem dX6_readStorm_65 : decode cX6_readStorm 65 = .ok (.ifCond .eq 13, 3) := by decide +kernel
theorem dX6_readStorm_68 : decode cX6_readStorm 68 = .ok (.aload_n 0, 1) := by decide +kernel
theorem dX6_readStorm_69 : decode cX6_readStorm 69 = .ok (.getfield 13, 3) := by decide +kernel
theorem dX6_readStorm_72 : decode cX6_readStorm 72 = .ok (.iload_n 1, 1) := by decide +kernel
theorem dX6_readStorm_73 : decode cX6_readStorm 73 = .ok (.iload_n 2, 1) := by decide +kernel
theorem dX6_readStorm_74 : decode cX6_readStorm 74 = .ok (.iload_n 3, 1) := by decide +kernel
theorem dX6_readStorm_75 : decode cX6_readStorm 75 = .ok (.invokestatic 49, 3) := by decide +kernel
theorem dX6_readStorm_78 : decode cX6_readStorm 78 = .ok (.return_, 1) := by decide +kernel
theorem dX6_readLoad_0 : decode cX6_readLoad 0 = .ok (.aload_n 0, 1) := by decide +kernel
theorem dX6_readLoad_1 : decode cX6_readLoad 1 = .ok (.aload_n 0, 1) := by decide +kernel
theorem dX6_readLoad_2 : decode cX6_readLoad 2 = .ok (.getfield 13, 3) := by decide +kernel
theorem dX6_readLoad_5 : decode cX6_readLoad 5 = .ok (.bipush 9, 2) := by decide +kernel
theorem dX6_readLoad_7 : decode cX6_readLoad 7 = .ok (.iaload, 1) := by decide +kernel
theorem dX6_readLoad_8 : decode cX6_readLoad 8 = .ok (.bipush 20, 2) := by decide +kernel
theorem dX6_readLoad_10 : decode cX6_readLoad 10 = .ok (.if_icmp .ge 7, 3) := by decide +kernel
theorem dX6_readLoad_13 : decode cX6_readLoad 13 = .ok (.iconst 1, 1) := by decide +kernel
theorem dX6_readLoad_14 : decode cX6_readLoad 14 = .ok (.goto 4, 3) := by decide +kernel
theorem dX6_readLoad_17 : decode cX6_readLoad 17 = .ok (.iconst 0, 1) := by decide +kernel
theorem dX6_readLoad_18 : decode cX6_readLoad 18 = .ok (.invokevirtual 191, 3) := by decide +kernel
theorem dX6_readLoad_21 : decode cX6_readLoad 21 = .ok (.pop, 1) := by decide +kernel
theorem dX6_readLoad_22 : decode cX6_readLoad 22 = .ok (.aload_n 0, 1) := by decide +kernel
theorem dX6_readLoad_23 : decode cX6_readLoad 23 = .ok (.iconst 1, 1) := by decide +kernel
theorem dX6_readLoad_24 : decode cX6_readLoad 24 = .ok (.bipush 99, 2) := by decide +kernel
theorem dX6_readLoad_26 : decode cX6_readLoad 26 = .ok (.invokevirtual 201, 3) := by decide +kernel
theorem dX6_readLoad_29 : decode cX6_readLoad 29 = .ok (.istore_n 1, 1) := by decide +kernel
theorem dX6_readLoad_30 : decode cX6_readLoad 30 = .ok (.aload_n 0, 1) := by decide +kernel
theorem dX6_readLoad_31 : decode cX6_readLoad 31 = .ok (.iconst 1, 1) := by decide +kernel
theorem dX6_readLoad_32 : decode cX6_readLoad 32 = .ok (.bipush 99, 2) := by decide +kernel
theorem dX6_readLoad_34 : decode cX6_readLoad 34 = .ok (.invokevirtual 201, 3) := by decide +kernel
theorem dX6_readLoad_37 : decode cX6_readLoad 37 = .ok (.istore_n 2, 1) := by decide +kernel
theorem dX6_readLoad_38 : decode cX6_readLoad 38 = .ok (.iconst (-1), 1) := by decide +kernel
theorem dX6_readLoad_39 : decode cX6_readLoad 39 = .ok (.istore_n 3, 1) := by decide +kernel
theorem dX6_readLoad_40 : decode cX6_readLoad 40 = .ok (.aload_n 0, 1) := by decide +kernel
theorem dX6_readLoad_41 : decode cX6_readLoad 41 = .ok (.getfield 184, 3) := by decide +kernel
theorem dX6_readLoad_44 : decode cX6_readLoad 44 = .ok (.ifCond .ne 79, 3) := by decide +kernel
theorem dX6_readLoad_47 : decode cX6_readLoad 47 = .ok (.aload_n 0, 1) := by decide +kernel
theorem dX6_readLoad_48 : decode cX6_readLoad 48 = .ok (.ldc2_w 207, 3) := by decide +kernel
theorem dX6_readLoad_51 : decode cX6_readLoad 51 = .ok (.invokevirtual 197, 3) := by decide +kernel
theorem dX6_readLoad_54 : decode cX6_readLoad 54 = .ok (.ifCond .eq 69, 3) := by decide +kernel
theorem dX6_readLoad_57 : decode cX6_readLoad 57 = .ok (.aload_n 0, 1) := by decide +kernel
theorem dX6_readLoad_58 : decode cX6_readLoad 58 = .ok (.invokevirtual 188, 3) := by decide +kernel
theorem dX6_readLoad_61 : decode cX6_readLoad 61 = .ok (.aload_n 0, 1) := by decide +kernel
theorem dX6_readLoad_62 : decode cX6_readLoad 62 = .ok (.getfield 157, 3) := by decide +kernel
theorem dX6_readLoad_65 : decode cX6_readLoad 65 = .ok (.istore_n 3, 1) := by decide +kernel
theorem dX6_readLoad_66 : decode cX6_readLoad 66 = .ok (.aload_n 0, 1) := by decide +kernel
theorem dX6_readLoad_67 : decode cX6_readLoad 67 = .ok (.getfield 164, 3) := by decide +kernel
theorem dX6_readLoad_70 : decode cX6_readLoad 70 = .ok (.iconst 2, 1) := by decide +kernel
theorem dX6_readLoad_71 : decode cX6_readLoad 71 = .ok (.if_icmp .ne 18, 3) := by decide +kernel
theorem dX6_readLoad_74 : decode cX6_readLoad 74 = .ok (.iload_n 3, 1) := by decide +kernel
theorem dX6_readLoad_75 : decode cX6_readLoad 75 = .ok (.aload_n 0, 1) := by decide +kernel
theorem dX6_readLoad_76 : decode cX6_readLoad 76 = .ok (.getfield 13, 3) := by decide +kernel
theorem dX6_readLoad_79 : decode cX6_readLoad 79 = .ok (.bipush 6, 2) := by decide +kernel
theorem dX6_readLoad_81 : decode cX6_readLoad 81 = .ok (.iaload, 1) := by decide +kernel
theorem dX6_readLoad_82 : decode cX6_readLoad 82 = .ok (.if_icmp .ge 7, 3) := by decide +kernel
theorem dX6_readLoad_85 : decode cX6_readLoad 85 = .ok (.iconst 1, 1) := by decide +kernel
theorem dX6_readLoad_86 : decode cX6_readLoad 86 = .ok (.goto 4, 3) := by decide +kernel
theorem dX6_readLoad_89 : decode cX6_readLoad 89 = .ok (.iconst 0, 1) := by decide +kernel
theorem dX6_readLoad_90 : decode cX6_readLoad 90 = .ok (.istore 4, 2) := by decide +kernel
theorem dX6_readLoad_92 : decode cX6_readLoad 92 = .ok (.iload 4, 2) := by decide +kernel
theorem dX6_readLoad_94 : decode cX6_readLoad 94 = .ok (.ifCond .eq 22, 3) := by decide +kernel
theorem dX6_readLoad_97 : decode cX6_readLoad 97 = .ok (.iload_n 1, 1) := by decide +kernel
theorem dX6_readLoad_98 : decode cX6_readLoad 98 = .ok (.aload_n 0, 1) := by decide +kernel
theorem dX6_readLoad_99 : decode cX6_readLoad 99 = .ok (.getfield 13, 3) := by decide +kernel
theorem dX6_readLoad_102 : decode cX6_readLoad 102 = .ok (.iload_n 3, 1) := by decide +kernel
theorem dX6_readLoad_103 : decode cX6_readLoad 103 = .ok (.invokestatic 209, 3) := by decide +kernel
theorem dX6_readLoad_106 : decode cX6_readLoad 106 = .ok (.if_icmp .gt 7, 3) := by decide +kernel
theorem dX6_readLoad_109 : decode cX6_readLoad 109 = .ok (.iconst 1, 1) := by decide +kernel
theorem dX6_readLoad_110 : decode cX6_readLoad 110 = .ok (.goto 4, 3) := by decide +kernel
theorem dX6_readLoad_113 : decode cX6_readLoad 113 = .ok (.iconst 0, 1) := by decide +kernel
theorem dX6_readLoad_114 : decode cX6_readLoad 114 = .ok (.istore 4, 2) := by decide +kernel
theorem dX6_readLoad_116 : decode cX6_readLoad 116 = .ok (.aload_n 0, 1) := by decide +kernel
theorem dX6_readLoad_117 : decode cX6_readLoad 117 = .ok (.iload 4, 2) := by decide +kernel
theorem dX6_readLoad_119 : decode cX6_readLoad 119 = .ok (.invokevirtual 191, 3) := by decide +kernel
theorem dX6_readLoad_122 : decode cX6_readLoad 122 = .ok (.pop, 1) := by decide +kernel
theorem dX6_readLoad_123 : decode cX6_readLoad 123 = .ok (.aload_n 0, 1) := by decide +kernel
theorem dX6_readLoad_124 : decode cX6_readLoad 124 = .ok (.aload_n 0, 1) := by decide +kernel
theorem dX6_readLoad_125 : decode cX6_readLoad 125 = .ok (.getfield 164, 3) := by decide +kernel
theorem dX6_readLoad_128 : decode cX6_readLoad 128 = .ok (.iconst 3, 1) := by decide +kernel
theorem dX6_readLoad_129 : decode cX6_readLoad 129 = .ok (.if_icmp .ne 7, 3) := by decide +kernel
theorem dX6_readLoad_132 : decode cX6_readLoad 132 = .ok (.iconst 1, 1) := by decide +kernel
theorem dX6_readLoad_133 : decode cX6_readLoad 133 = .ok (.goto 4, 3) := by decide +kernel
theorem dX6_readLoad_136 : decode cX6_readLoad 136 = .ok (.iconst 0, 1) := by decide +kernel
theorem dX6_readLoad_137 : decode cX6_readLoad 137 = .ok (.invokevirtual 191, 3) := by decide +kernel
theorem dX6_readLoad_140 : decode cX6_readLoad 140 = .ok (.ifCond .eq 26, 3) := by decide +kernel
theorem dX6_readLoad_143 : decode cX6_readLoad 143 = .ok (.aload_n 0, 1) := by decide +kernel
theorem dX6_readLoad_144 : decode cX6_readLoad 144 = .ok (.getfield 13, 3) := by decide +kernel
theorem dX6_readLoad_147 : decode cX6_readLoad 147 = .ok (.iload_n 1, 1) := by decide +kernel
theorem dX6_readLoad_148 : decode cX6_readLoad 148 = .ok (.iload_n 2, 1) := by decide +kernel
theorem dX6_readLoad_149 : decode cX6_readLoad 149 = .ok (.invokestatic 52, 3) := by decide +kernel
theorem dX6_readLoad_152 : decode cX6_readLoad 152 = .ok (.istore 4, 2) := by decide +kernel
theorem dX6_readLoad_154 : decode cX6_readLoad 154 = .ok (.aload_n 0, 1) := by decide +kernel
theorem dX6_readLoad_155 : decode cX6_readLoad 155 = .ok (.getfield 13, 3) := by decide +kernel
theorem dX6_readLoad_158 : decode cX6_readLoad 158 = .ok (.iload 4, 2) := by decide +kernel
theorem dX6_readLoad_160 : decode cX6_readLoad 160 = .ok (.iconst 2, 1) := by decide +kernel
theorem dX6_readLoad_161 : decode cX6_readLoad 161 = .ok (.invokestatic 56, 3) := by decide +kernel
theorem dX6_readLoad_164 : decode cX6_readLoad 164 = .ok (.iload_n 3, 1) := by decide +kernel
theorem dX6_readLoad_165 : decode cX6_readLoad 165 = .ok (.iastore, 1) := by decide +kernel
theorem dX6_readLoad_166 : decode cX6_readLoad 166 = .ok (.return_, 1) := by decide +kernel
theorem dX6_readText_0 : decode cX6_readText 0 = .ok (.aload_n 0, 1) := by decide +kernel
theorem dX6_readText_1 : decode cX6_readText 1 = .ok (.aload_n 0, 1) := by decide +kernel
theorem dX6_readText_2 : decode cX6_readText 2 = .ok (.ldc2_w 212, 3) := by decide +kernel
theorem dX6_readText_5 : decode cX6_readText 5 = .ok (.invokevirtual 197, 3) := by decide +kernel
theorem dX6_readText_8 : decode cX6_readText 8 = .ok (.invokevirtual 191, 3) := by decide +kernel
theorem dX6_readText_11 : decode cX6_readText 11 = .ok (.pop, 1) := by decide +kernel
theorem dX6_readText_12 : decode cX6_readText 12 = .ok (.aload_n 0, 1) := by decide +kernel
theorem dX6_readText_13 : decode cX6_readText 13 = .ok (.getfield 13, 3) := by decide +kernel
theorem dX6_readText_16 : decode cX6_readText 16 = .ok (.iconst 0, 1) := by decide +kernel
theorem dX6_readText_17 : decode cX6_readText 17 = .ok (.aload_n 0, 1) := by decide +kernel
theorem dX6_readText_18 : decode cX6_readText 18 = .ok (.bipush 10, 2) := by decide +kernel
theorem dX6_readText_20 : decode cX6_readText 20 = .ok (.sipush 999, 3) := by decide +kernel
theorem dX6_readText_23 : decode cX6_readText 23 = .ok (.invokevirtual 201, 3) := by decide +kernel
theorem dX6_readText_26 : decode cX6_readText 26 = .ok (.iastore, 1) := by decide +kernel
theorem dX6_readText_27 : decode cX6_readText 27 = .ok (.aload_n 0, 1) := by decide +kernel
theorem dX6_readText_28 : decode cX6_readText 28 = .ok (.aload_n 0, 1) := by decide +kernel
theorem dX6_readText_29 : decode cX6_readText 29 = .ok (.getfield 164, 3) := by decide +kernel
theorem dX6_readText_32 : decode cX6_readText 32 = .ok (.iconst 3, 1) := by decide +kernel
theorem dX6_readText_33 : decode cX6_readText 33 = .ok (.if_icmp .ne 7, 3) := by decide +kernel
theorem dX6_readText_36 : decode cX6_readText 36 = .ok (.iconst 1, 1) := by decide +kernel
theorem dX6_readText_37 : decode cX6_readText 37 = .ok (.goto 4, 3) := by decide +kernel
theorem dX6_readText_40 : decode cX6_readText 40 = .ok (.iconst 0, 1) := by decide +kernel
theorem dX6_readText_41 : decode cX6_readText 41 = .ok (.invokevirtual 191, 3) := by decide +kernel
theorem dX6_readText_44 : decode cX6_readText 44 = .ok (.pop, 1) := by decide +kernel
theorem dX6_readText_45 : decode cX6_readText 45 = .ok (.aload_n 0, 1) := by decide +kernel
theorem dX6_readText_46 : decode cX6_readText 46 = .ok (.invokevirtual 214, 3) := by decide +kernel
theorem dX6_readText_49 : decode cX6_readText 49 = .ok (.aload_n 0, 1) := by decide +kernel
theorem dX6_readText_50 : decode cX6_readText 50 = .ok (.getfield 184, 3) := by decide +kernel
theorem dX6_readText_53 : decode cX6_readText 53 = .ok (.ifCond .ne 20, 3) := by decide +kernel
theorem dX6_readText_56 : decode cX6_readText 56 = .ok (.aload_n 0, 1) := by decide +kernel
theorem dX6_readText_57 : decode cX6_readText 57 = .ok (.ldc2_w 195, 3) := by decide +kernel
theorem dX6_readText_60 : decode cX6_readText 60 = .ok (.invokevirtual 197, 3) := by decide +kernel
theorem dX6_readText_63 : decode cX6_readText 63 = .ok (.ifCond .eq 10, 3) := by decide +kernel
theorem dX6_readText_66 : decode cX6_readText 66 = .ok (.aload_n 0, 1) := by decide +kernel
theorem dX6_readText_67 : decode cX6_readText 67 = .ok (.invokevirtual 214, 3) := by decide +kernel
theorem dX6_readText_70 : decode cX6_readText 70 = .ok (.goto (-21), 3) := by decide +kernel
theorem dX6_readText_73 : decode cX6_readText 73 = .ok (.aload_n 0, 1) := by decide +kernel
theorem dX6_readText_74 : decode cX6_readText 74 = .ok (.getfield 184, 3) := by decide +kernel
theorem dX6_readText_77 : decode cX6_readText 77 = .ok (.ifCond .ne 20, 3) := by decide +kernel
theorem dX6_readText_80 : decode cX6_readText 80 = .ok (.aload_n 0, 1) := by decide +kernel
theorem dX6_readText_81 : decode cX6_readText 81 = .ok (.ldc2_w 217, 3) := by decide +kernel
theorem dX6_readText_84 : decode cX6_readText 84 = .ok (.invokevirtual 197, 3) := by decide +kernel
theorem dX6_readText_87 : decode cX6_readText 87 = .ok (.ifCond .eq 10, 3) := by decide +kernel
theorem dX6_readText_90 : decode cX6_readText 90 = .ok (.aload_n 0, 1) := by decide +kernel
theorem dX6_readText_91 : decode cX6_readText 91 = .ok (.invokevirtual 219, 3) := by decide +kernel
theorem dX6_readText_94 : decode cX6_readText 94 = .ok (.goto (-21), 3) := by decide +kernel
theorem dX6_readText_97 : decode cX6_readText 97 = .ok (.aload_n 0, 1) := by decide +kernel
theorem dX6_readText_98 : decode cX6_readText 98 = .ok (.getfield 184, 3) := by decide +kernel
theorem dX6_readText_101 : decode cX6_readText 101 = .ok (.ifCond .ne 20, 3) := by decide +kernel
theorem dX6_readText_104 : decode cX6_readText 104 = .ok (.aload_n 0, 1) := by decide +kernel
theorem dX6_readText_105 : decode cX6_readText 105 = .ok (.ldc2_w 222, 3) := by decide +kernel
theorem dX6_readText_108 : decode cX6_readText 108 = .ok (.invokevirtual 197, 3) := by decide +kernel
theorem dX6_readText_111 : decode cX6_readText 111 = .ok (.ifCond .eq 10, 3) := by decide +kernel
theorem dX6_readText_114 : decode cX6_readText 114 = .ok (.aload_n 0, 1) := by decide +kernel
theorem dX6_readText_115 : decode cX6_readText 115 = .ok (.invokevirtual 224, 3) := by decide +kernel
theorem dX6_readText_118 : decode cX6_readText 118 = .ok (.goto (-21), 3) := by decide +kernel
theorem dX6_readText_121 : decode cX6_readText 121 = .ok (.aload_n 0, 1) := by decide +kernel
theorem dX6_readText_122 : decode cX6_readText 122 = .ok (.getfield 184, 3) := by decide +kernel
theorem dX6_readText_125 : decode cX6_readText 125 = .ok (.ifCond .ne 20, 3) := by decide +kernel
theorem dX6_readText_128 : decode cX6_readText 128 = .ok (.aload_n 0, 1) := by decide +kernel
theorem dX6_readText_129 : decode cX6_readText 129 = .ok (.ldc2_w 227, 3) := by decide +kernel
theorem dX6_readText_132 : decode cX6_readText 132 = .ok (.invokevirtual 197, 3) := by decide +kernel
theorem dX6_readText_135 : decode cX6_readText 135 = .ok (.ifCond .eq 10, 3) := by decide +kernel
theorem dX6_readText_138 : decode cX6_readText 138 = .ok (.aload_n 0, 1) := by decide +kernel
theorem dX6_readText_139 : decode cX6_readText 139 = .ok (.invokevirtual 229, 3) := by decide +kernel
theorem dX6_readText_142 : decode cX6_readText 142 = .ok (.goto (-21), 3) := by decide +kernel
theorem dX6_readText_145 : decode cX6_readText 145 = .ok (.aload_n 0, 1) := by decide +kernel
theorem dX6_readText_146 : decode cX6_readText 146 = .ok (.getfield 184, 3) := by decide +kernel
theorem dX6_readText_149 : decode cX6_readText 149 = .ok (.ifCond .ne 16, 3) := by decide +kernel
theorem dX6_readText_152 : decode cX6_readText 152 = .ok (.aload_n 0, 1) := by decide +kernel
theorem dX6_readText_153 : decode cX6_readText 153 = .ok (.getfield 164, 3) := by decide +kernel
theorem dX6_readText_156 : decode cX6_readText 156 = .ok (.ifCond .eq 9, 3) := by decide +kernel
theorem dX6_readText_159 : decode cX6_readText 159 = .ok (.aload_n 0, 1) := by decide +kernel
theorem dX6_readText_160 : decode cX6_readText 160 = .ok (.iconst 0, 1) := by decide +kernel
theorem dX6_readText_161 : decode cX6_readText 161 = .ok (.invokevirtual 191, 3) := by decide +kernel
theorem dX6_readText_164 : decode cX6_readText 164 = .ok (.pop, 1) := by decide +kernel
theorem dX6_readText_165 : decode cX6_readText 165 = .ok (.return_, 1) := by decide +kernel
theorem dX6_load_0 : decode cX6_load 0 = .ok (.aload_n 0, 1) := by decide +kernel
theorem dX6_load_1 : decode cX6_load 1 = .ok (.iconst 0, 1) := by decide +kernel
theorem dX6_load_2 : decode cX6_load 2 = .ok (.putfield 60, 3) := by decide +kernel
theorem dX6_load_5 : decode cX6_load 5 = .ok (.iconst 0, 1) := by decide +kernel
theorem dX6_load_6 : decode cX6_load 6 = .ok (.istore_n 1, 1) := by decide +kernel
theorem dX6_load_7 : decode cX6_load 7 = .ok (.iload_n 1, 1) := by decide +kernel
theorem dX6_load_8 : decode cX6_load 8 = .ok (.sipush 220, 3) := by decide +kernel
theorem dX6_load_11 : decode cX6_load 11 = .ok (.if_icmp .ge 16, 3) := by decide +kernel
theorem dX6_load_14 : decode cX6_load 14 = .ok (.aload_n 0, 1) := by decide +kernel
theorem dX6_load_15 : decode cX6_load 15 = .ok (.getfield 13, 3) := by decide +kernel
theorem dX6_load_18 : decode cX6_load 18 = .ok (.iload_n 1, 1) := by decide +kernel
theorem dX6_load_19 : decode cX6_load 19 = .ok (.iconst 0, 1) := by decide +kernel
theorem dX6_load_20 : decode cX6_load 20 = .ok (.iastore, 1) := by decide +kernel
theorem dX6_load_21 : decode cX6_load 21 = .ok (.iinc 1 1, 3) := by decide +kernel
theorem dX6_load_24 : decode cX6_load 24 = .ok (.goto (-17), 3) := by decide +kernel
theorem dX6_load_27 : decode cX6_load 27 = .ok (.aload_n 0, 1) := by decide +kernel
theorem dX6_load_28 : decode cX6_load 28 = .ok (.iconst 0, 1) := by decide +kernel
theorem dX6_load_29 : decode cX6_load 29 = .ok (.putfield 151, 3) := by decide +kernel
theorem dX6_load_32 : decode cX6_load 32 = .ok (.aload_n 0, 1) := by decide +kernel
theorem dX6_load_33 : decode cX6_load 33 = .ok (.iconst 0, 1) := by decide +kernel
theorem dX6_load_34 : decode cX6_load 34 = .ok (.putfield 184, 3) := by decide +kernel
theorem dX6_load_37 : decode cX6_load 37 = .ok (.aload_n 0, 1) := by decide +kernel
theorem dX6_load_38 : decode cX6_load 38 = .ok (.iconst (-1), 1) := by decide +kernel
theorem dX6_load_39 : decode cX6_load 39 = .ok (.putfield 32, 3) := by decide +kernel
theorem dX6_load_42 : decode cX6_load 42 = .ok (.aload_n 0, 1) := by decide +kernel
theorem dX6_load_43 : decode cX6_load 43 = .ok (.invokevirtual 188, 3) := by decide +kernel
theorem dX6_load_46 : decode cX6_load 46 = .ok (.aload_n 0, 1) := by decide +kernel
theorem dX6_load_47 : decode cX6_load 47 = .ok (.invokevirtual 232, 3) := by decide +kernel
theorem dX6_load_50 : decode cX6_load 50 = .ok (.aload_n 0, 1) := by decide +kernel
theorem dX6_load_51 : decode cX6_load 51 = .ok (.iconst 0, 1) := by decide +kernel
theorem dX6_load_52 : decode cX6_load 52 = .ok (.putfield 144, 3) := by decide +kernel
theorem dX6_load_55 : decode cX6_load 55 = .ok (.aload_n 0, 1) := by decide +kernel
theorem dX6_load_56 : decode cX6_load 56 = .ok (.getfield 184, 3) := by decide +kernel
theorem dX6_load_59 : decode cX6_load 59 = .ok (.ifCond .eq 9, 3) := by decide +kernel
theorem dX6_load_62 : decode cX6_load 62 = .ok (.aload_n 0, 1) := by decide +kernel
theorem dX6_load_63 : decode cX6_load 63 = .ok (.iconst 1, 1) := by decide +kernel
theorem dX6_load_64 : decode cX6_load 64 = .ok (.invokevirtual 147, 3) := by decide +kernel
theorem dX6_load_67 : decode cX6_load 67 = .ok (.ireturn, 1) := by decide +kernel
theorem dX6_load_68 : decode cX6_load 68 = .ok (.aload_n 0, 1) := by decide +kernel
theorem dX6_load_69 : decode cX6_load 69 = .ok (.getfield 13, 3) := by decide +kernel
theorem dX6_load_72 : decode cX6_load 72 = .ok (.iconst 0, 1) := by decide +kernel
theorem dX6_load_73 : decode cX6_load 73 = .ok (.aload_n 0, 1) := by decide +kernel
theorem dX6_load_74 : decode cX6_load 74 = .ok (.getfield 7, 3) := by decide +kernel
theorem dX6_load_77 : decode cX6_load 77 = .ok (.iconst 0, 1) := by decide +kernel
theorem dX6_load_78 : decode cX6_load 78 = .ok (.invokestatic 63, 3) := by decide +kernel
theorem dX6_load_81 : decode cX6_load 81 = .ok (.aload_n 0, 1) := by decide +kernel
theorem dX6_load_82 : decode cX6_load 82 = .ok (.iconst 0, 1) := by decide +kernel
theorem dX6_load_83 : decode cX6_load 83 = .ok (.putfield 235, 3) := by decide +kernel
theorem dX6_load_86 : decode cX6_load 86 = .ok (.iconst 0, 1) := by decide +kernel
theorem dX6_load_87 : decode cX6_load 87 = .ok (.istore_n 1, 1) := by decide +kernel
theorem dX6_load_88 : decode cX6_load 88 = .ok (.iload_n 1, 1) := by decide +kernel
theorem dX6_load_89 : decode cX6_load 89 = .ok (.iconst 2, 1) := by decide +kernel
theorem dX6_load_90 : decode cX6_load 90 = .ok (.if_icmp .ge 16, 3) := by decide +kernel
theorem dX6_load_93 : decode cX6_load 93 = .ok (.aload_n 0, 1) := by decide +kernel
theorem dX6_load_94 : decode cX6_load 94 = .ok (.getfield 25, 3) := by decide +kernel
theorem dX6_load_97 : decode cX6_load 97 = .ok (.iload_n 1, 1) := by decide +kernel
theorem dX6_load_98 : decode cX6_load 98 = .ok (.iconst 0, 1) := by decide +kernel
theorem dX6_load_99 : decode cX6_load 99 = .ok (.bastore, 1) := by decide +kernel
theorem dX6_load_100 : decode cX6_load 100 = .ok (.iinc 1 1, 3) := by decide +kernel
theorem dX6_load_103 : decode cX6_load 103 = .ok (.goto (-15), 3) := by decide +kernel
theorem dX6_load_106 : decode cX6_load 106 = .ok (.aload_n 0, 1) := by decide +kernel
theorem dX6_load_107 : decode cX6_load 107 = .ok (.getfield 7, 3) := by decide +kernel
theorem dX6_load_110 : decode cX6_load 110 = .ok (.bipush 6, 2) := by decide +kernel
theorem dX6_load_112 : decode cX6_load 112 = .ok (.iaload, 1) := by decide +kernel
theorem dX6_load_113 : decode cX6_load 113 = .ok (.ireturn, 1) := by decide +kernel
theorem dX6_hasError_0 : decode cX6_hasError 0 = .ok (.aload_n 0, 1) := by decide +kernel
theorem dX6_hasError_1 : decode cX6_hasError 1 = .ok (.iconst 0, 1) := by decide +kernel
theorem dX6_hasError_2 : decode cX6_hasError 2 = .ok (.putfield 60, 3) := by decide +kernel
theorem dX6_hasError_5 : decode cX6_hasError 5 = .ok (.aload_n 0, 1) := by decide +kernel
theorem dX6_hasError_6 : decode cX6_hasError 6 = .ok (.getfield 32, 3) := by decide +kernel
theorem dX6_hasError_9 : decode cX6_hasError 9 = .ok (.ifCond .lt 7, 3) := by decide +kernel
theorem dX6_hasError_12 : decode cX6_hasError 12 = .ok (.iconst 1, 1) := by decide +kernel
theorem dX6_hasError_13 : decode cX6_hasError 13 = .ok (.goto 4, 3) := by decide +kernel
theorem dX6_hasError_16 : decode cX6_hasError 16 = .ok (.iconst 0, 1) := by decide +kernel
theorem dX6_hasError_17 : decode cX6_hasError 17 = .ok (.ireturn, 1) := by decide +kernel
theorem dX6_errorOffset_0 : decode cX6_errorOffset 0 = .ok (.aload_n 0, 1) := by decide +kernel
theorem dX6_errorOffset_1 : decode cX6_errorOffset 1 = .ok (.iconst 0, 1) := by decide +kernel
theorem dX6_errorOffset_2 : decode cX6_errorOffset 2 = .ok (.putfield 60, 3) := by decide +kernel
theorem dX6_errorOffset_5 : decode cX6_errorOffset 5 = .ok (.aload_n 0, 1) := by decide +kernel
theorem dX6_errorOffset_6 : decode cX6_errorOffset 6 = .ok (.getfield 32, 3) := by decide +kernel
theorem dX6_errorOffset_9 : decode cX6_errorOffset 9 = .ok (.ifCond .ge 9, 3) := by decide +kernel
theorem dX6_errorOffset_12 : decode cX6_errorOffset 12 = .ok (.aload_n 0, 1) := by decide +kernel
theorem dX6_errorOffset_13 : decode cX6_errorOffset 13 = .ok (.iconst 1, 1) := by decide +kernel
theorem dX6_errorOffset_14 : decode cX6_errorOffset 14 = .ok (.invokevirtual 147, 3) := by decide +kernel
theorem dX6_errorOffset_17 : decode cX6_errorOffset 17 = .ok (.ireturn, 1) := by decide +kernel
theorem dX6_errorOffset_18 : decode cX6_errorOffset 18 = .ok (.aload_n 0, 1) := by decide +kernel
theorem dX6_errorOffset_19 : decode cX6_errorOffset 19 = .ok (.getfield 32, 3) := by decide +kernel
theorem dX6_errorOffset_22 : decode cX6_errorOffset 22 = .ok (.ireturn, 1) := by decide +kernel
theorem dX6_length_0 : decode cX6_length 0 = .ok (.aload_n 0, 1) := by decide +kernel
theorem dX6_length_1 : decode cX6_length 1 = .ok (.iconst 0, 1) := by decide +kernel
theorem dX6_length_2 : decode cX6_length 2 = .ok (.putfield 60, 3) := by decide +kernel
theorem dX6_length_5 : decode cX6_length 5 = .ok (.aload_n 0, 1) := by decide +kernel
theorem dX6_length_6 : decode cX6_length 6 = .ok (.getfield 7, 3) := by decide +kernel
theorem dX6_length_9 : decode cX6_length 9 = .ok (.iconst 0, 1) := by decide +kernel
theorem dX6_length_10 : decode cX6_length 10 = .ok (.iaload, 1) := by decide +kernel
theorem dX6_length_11 : decode cX6_length 11 = .ok (.ireturn, 1) := by decide +kernel
theorem dX6_kilometre_0 : decode cX6_kilometre 0 = .ok (.aload_n 0, 1) := by decide +kernel
theorem dX6_kilometre_1 : decode cX6_kilometre 1 = .ok (.iconst 0, 1) := by decide +kernel
theorem dX6_kilometre_2 : decode cX6_kilometre 2 = .ok (.putfield 60, 3) := by decide +kernel
theorem dX6_kilometre_5 : decode cX6_kilometre 5 = .ok (.aload_n 0, 1) := by decide +kernel
theorem dX6_kilometre_6 : decode cX6_kilometre 6 = .ok (.getfield 7, 3) := by decide +kernel
theorem dX6_kilometre_9 : decode cX6_kilometre 9 = .ok (.iconst 1, 1) := by decide +kernel
theorem dX6_kilometre_10 : decode cX6_kilometre 10 = .ok (.iaload, 1) := by decide +kernel
theorem dX6_kilometre_11 : decode cX6_kilometre 11 = .ok (.ireturn, 1) := by decide +kernel
theorem dX6_hasArrived_0 : decode cX6_hasArrived 0 = .ok (.aload_n 0, 1) := by decide +kernel
theorem dX6_hasArrived_1 : decode cX6_hasArrived 1 = .ok (.iconst 0, 1) := by decide +kernel
theorem dX6_hasArrived_2 : decode cX6_hasArrived 2 = .ok (.putfield 60, 3) := by decide +kernel
theorem dX6_hasArrived_5 : decode cX6_hasArrived 5 = .ok (.aload_n 0, 1) := by decide +kernel
theorem dX6_hasArrived_6 : decode cX6_hasArrived 6 = .ok (.getfield 7, 3) := by decide +kernel
theorem dX6_hasArrived_9 : decode cX6_hasArrived 9 = .ok (.invokestatic 137, 3) := by decide +kernel
theorem dX6_hasArrived_12 : decode cX6_hasArrived 12 = .ok (.ireturn, 1) := by decide +kernel
theorem dX6_day_0 : decode cX6_day 0 = .ok (.aload_n 0, 1) := by decide +kernel
theorem dX6_day_1 : decode cX6_day 1 = .ok (.iconst 0, 1) := by decide +kernel
theorem dX6_day_2 : decode cX6_day 2 = .ok (.putfield 60, 3) := by decide +kernel
theorem dX6_day_5 : decode cX6_day 5 = .ok (.aload_n 0, 1) := by decide +kernel
theorem dX6_day_6 : decode cX6_day 6 = .ok (.getfield 7, 3) := by decide +kernel
theorem dX6_day_9 : decode cX6_day 9 = .ok (.iconst 2, 1) := by decide +kernel
theorem dX6_day_10 : decode cX6_day 10 = .ok (.iaload, 1) := by decide +kernel
theorem dX6_day_11 : decode cX6_day 11 = .ok (.ireturn, 1) := by decide +kernel
theorem dX6_stormOn_0 : decode cX6_stormOn 0 = .ok (.aload_n 0, 1) := by decide +kernel
theorem dX6_stormOn_1 : decode cX6_stormOn 1 = .ok (.iconst 0, 1) := by decide +kernel
theorem dX6_stormOn_2 : decode cX6_stormOn 2 = .ok (.putfield 60, 3) := by decide +kernel
theorem dX6_stormOn_5 : decode cX6_stormOn 5 = .ok (.iload_n 1, 1) := by decide +kernel
theorem dX6_stormOn_6 : decode cX6_stormOn 6 = .ok (.iconst 0, 1) := by decide +kernel
theorem dX6_stormOn_7 : decode cX6_stormOn 7 = .ok (.sipush 999, 3) := by decide +kernel
theorem dX6_stormOn_10 : decode cX6_stormOn 10 = .ok (.invokestatic 67, 3) := by decide +kernel
theorem dX6_stormOn_13 : decode cX6_stormOn 13 = .ok (.ifCond .eq 12, 3) := by decide +kernel
theorem dX6_stormOn_16 : decode cX6_stormOn 16 = .ok (.aload_n 0, 1) := by decide +kernel
theorem dX6_stormOn_17 : decode cX6_stormOn 17 = .ok (.getfield 7, 3) := by decide +kernel
theorem dX6_stormOn_20 : decode cX6_stormOn 20 = .ok (.iload_n 1, 1) := by decide +kernel
theorem dX6_stormOn_21 : decode cX6_stormOn 21 = .ok (.invokestatic 94, 3) := by decide +kernel
theorem dX6_stormOn_24 : decode cX6_stormOn 24 = .ok (.ireturn, 1) := by decide +kernel
theorem dX6_stormOn_25 : decode cX6_stormOn 25 = .ok (.aload_n 0, 1) := by decide +kernel
theorem dX6_stormOn_26 : decode cX6_stormOn 26 = .ok (.iconst 1, 1) := by decide +kernel
theorem dX6_stormOn_27 : decode cX6_stormOn 27 = .ok (.invokevirtual 147, 3) := by decide +kernel
theorem dX6_stormOn_30 : decode cX6_stormOn 30 = .ok (.ireturn, 1) := by decide +kernel
theorem dX6_isStopping_0 : decode cX6_isStopping 0 = .ok (.aload_n 0, 1) := by decide +kernel
theorem dX6_isStopping_1 : decode cX6_isStopping 1 = .ok (.iconst 0, 1) := by decide +kernel
theorem dX6_isStopping_2 : decode cX6_isStopping 2 = .ok (.putfield 60, 3) := by decide +kernel
theorem dX6_isStopping_5 : decode cX6_isStopping 5 = .ok (.aload_n 0, 1) := by decide +kernel
theorem dX6_isStopping_6 : decode cX6_isStopping 6 = .ok (.getfield 7, 3) := by decide +kernel
theorem dX6_isStopping_9 : decode cX6_isStopping 9 = .ok (.iconst 3, 1) := by decide +kernel
theorem dX6_isStopping_10 : decode cX6_isStopping 10 = .ok (.iaload, 1) := by decide +kernel
theorem dX6_isStopping_11 : decode cX6_isStopping 11 = .ok (.iconst 1, 1) := by decide +kernel
theorem dX6_isStopping_12 : decode cX6_isStopping 12 = .ok (.if_icmp .ne 7, 3) := by decide +kernel
theorem dX6_isStopping_15 : decode cX6_isStopping 15 = .ok (.iconst 1, 1) := by decide +kernel
theorem dX6_isStopping_16 : decode cX6_isStopping 16 = .ok (.goto 4, 3) := by decide +kernel
theorem dX6_isStopping_19 : decode cX6_isStopping 19 = .ok (.iconst 0, 1) := by decide +kernel
theorem dX6_isStopping_20 : decode cX6_isStopping 20 = .ok (.ireturn, 1) := by decide +kernel
theorem dX6_wellNumber_0 : decode cX6_wellNumber 0 = .ok (.aload_n 0, 1) := by decide +kernel
theorem dX6_wellNumber_1 : decode cX6_wellNumber 1 = .ok (.iload_n 1, 1) := by decide +kernel
theorem dX6_wellNumber_2 : decode cX6_wellNumber 2 = .ok (.invokevirtual 238, 3) := by decide +kernel
theorem dX6_wellNumber_5 : decode cX6_wellNumber 5 = .ok (.ifCond .eq 14, 3) := by decide +kernel
theorem dX6_wellNumber_8 : decode cX6_wellNumber 8 = .ok (.aload_n 0, 1) := by decide +kernel
theorem dX6_wellNumber_9 : decode cX6_wellNumber 9 = .ok (.getfield 7, 3) := by decide +kernel
theorem dX6_wellNumber_12 : decode cX6_wellNumber 12 = .ok (.iload_n 1, 1) := by decide +kernel
theorem dX6_wellNumber_13 : decode cX6_wellNumber 13 = .ok (.iload_n 2, 1) := by decide +kernel
theorem dX6_wellNumber_14 : decode cX6_wellNumber 14 = .ok (.invokestatic 74, 3) := by decide +kernel
theorem dX6_wellNumber_17 : decode cX6_wellNumber 17 = .ok (.iaload, 1) := by decide +kernel
theorem dX6_wellNumber_18 : decode cX6_wellNumber 18 = .ok (.ireturn, 1) := by decide +kernel
theorem dX6_wellNumber_19 : decode cX6_wellNumber 19 = .ok (.aload_n 0, 1) := by decide +kernel
theorem dX6_wellNumber_20 : decode cX6_wellNumber 20 = .ok (.iconst 1, 1) := by decide +kernel
theorem dX6_wellNumber_21 : decode cX6_wellNumber 21 = .ok (.invokevirtual 147, 3) := by decide +kernel
theorem dX6_wellNumber_24 : decode cX6_wellNumber 24 = .ok (.ireturn, 1) := by decide +kernel
theorem dX6_wellCount_0 : decode cX6_wellCount 0 = .ok (.aload_n 0, 1) := by decide +kernel
theorem dX6_wellCount_1 : decode cX6_wellCount 1 = .ok (.iconst 0, 1) := by decide +kernel
theorem dX6_wellCount_2 : decode cX6_wellCount 2 = .ok (.putfield 60, 3) := by decide +kernel
theorem dX6_wellCount_5 : decode cX6_wellCount 5 = .ok (.aload_n 0, 1) := by decide +kernel
theorem dX6_wellCount_6 : decode cX6_wellCount 6 = .ok (.getfield 7, 3) := by decide +kernel
theorem dX6_wellCount_9 : decode cX6_wellCount 9 = .ok (.bipush 7, 2) := by decide +kernel
theorem dX6_wellCount_11 : decode cX6_wellCount 11 = .ok (.iaload, 1) := by decide +kernel
theorem dX6_wellCount_12 : decode cX6_wellCount 12 = .ok (.ireturn, 1) := by decide +kernel
theorem dX6_wellKilometre_0 : decode cX6_wellKilometre 0 = .ok (.aload_n 0, 1) := by decide +kernel
theorem dX6_wellKilometre_1 : decode cX6_wellKilometre 1 = .ok (.iconst 0, 1) := by decide +kernel
theorem dX6_wellKilometre_2 : decode cX6_wellKilometre 2 = .ok (.putfield 60, 3) := by decide +kernel
theorem dX6_wellKilometre_5 : decode cX6_wellKilometre 5 = .ok (.aload_n 0, 1) := by decide +kernel
theorem dX6_wellKilometre_6 : decode cX6_wellKilometre 6 = .ok (.iload_n 1, 1) := by decide +kernel
theorem dX6_wellKilometre_7 : decode cX6_wellKilometre 7 = .ok (.iconst 0, 1) := by decide +kernel
theorem dX6_wellKilometre_8 : decode cX6_wellKilometre 8 = .ok (.invokevirtual 241, 3) := by decide +kernel
theorem dX6_wellKilometre_11 : decode cX6_wellKilometre 11 = .ok (.ireturn, 1) := by decide +kernel
theorem dX6_wellLevel_0 : decode cX6_wellLevel 0 = .ok (.aload_n 0, 1) := by decide +kernel
theorem dX6_wellLevel_1 : decode cX6_wellLevel 1 = .ok (.iconst 0, 1) := by decide +kernel
theorem dX6_wellLevel_2 : decode cX6_wellLevel 2 = .ok (.putfield 60, 3) := by decide +kernel
theorem dX6_wellLevel_5 : decode cX6_wellLevel 5 = .ok (.aload_n 0, 1) := by decide +kernel
theorem dX6_wellLevel_6 : decode cX6_wellLevel 6 = .ok (.iload_n 1, 1) := by decide +kernel
theorem dX6_wellLevel_7 : decode cX6_wellLevel 7 = .ok (.iconst 3, 1) := by decide +kernel
theorem dX6_wellLevel_8 : decode cX6_wellLevel 8 = .ok (.invokevirtual 241, 3) := by decide +kernel
theorem dX6_wellLevel_11 : decode cX6_wellLevel 11 = .ok (.ireturn, 1) := by decide +kernel
theorem dX6_wellCapacity_0 : decode cX6_wellCapacity 0 = .ok (.aload_n 0, 1) := by decide +kernel
theorem dX6_wellCapacity_1 : decode cX6_wellCapacity 1 = .ok (.iconst 0, 1) := by decide +kernel
theorem dX6_wellCapacity_2 : decode cX6_wellCapacity 2 = .ok (.putfield 60, 3) := by decide +kernel
theorem dX6_wellCapacity_5 : decode cX6_wellCapacity 5 = .ok (.aload_n 0, 1) := by decide +kernel
theorem dX6_wellCapacity_6 : decode cX6_wellCapacity 6 = .ok (.iload_n 1, 1) := by decide +kernel
theorem dX6_wellCapacity_7 : decode cX6_wellCapacity 7 = .ok (.iconst 1, 1) := by decide +kernel
theorem dX6_wellCapacity_8 : decode cX6_wellCapacity 8 = .ok (.invokevirtual 241, 3) := by decide +kernel
theorem dX6_wellCapacity_11 : decode cX6_wellCapacity 11 = .ok (.ireturn, 1) := by decide +kernel
theorem dX6_wellHere_0 : decode cX6_wellHere 0 = .ok (.aload_n 0, 1) := by decide +kernel
theorem dX6_wellHere_1 : decode cX6_wellHere 1 = .ok (.iconst 0, 1) := by decide +kernel
theorem dX6_wellHere_2 : decode cX6_wellHere 2 = .ok (.putfield 60, 3) := by decide +kernel
theorem dX6_wellHere_5 : decode cX6_wellHere 5 = .ok (.aload_n 0, 1) := by decide +kernel
theorem dX6_wellHere_6 : decode cX6_wellHere 6 = .ok (.getfield 7, 3) := by decide +kernel
theorem dX6_wellHere_9 : decode cX6_wellHere 9 = .ok (.aload_n 0, 1) := by decide +kernel
theorem dX6_wellHere_10 : decode cX6_wellHere 10 = .ok (.getfield 7, 3) := by decide +kernel
theorem dX6_wellHere_13 : decode cX6_wellHere 13 = .ok (.iconst 1, 1) := by decide +kernel
theorem dX6_wellHere_14 : decode cX6_wellHere 14 = .ok (.iaload, 1) := by decide +kernel
theorem dX6_wellHere_15 : decode cX6_wellHere 15 = .ok (.invokestatic 204, 3) := by decide +kernel
theorem dX6_wellHere_18 : decode cX6_wellHere 18 = .ok (.istore_n 1, 1) := by decide +kernel
theorem dX6_wellHere_19 : decode cX6_wellHere 19 = .ok (.iload_n 1, 1) := by decide +kernel
theorem dX6_wellHere_20 : decode cX6_wellHere 20 = .ok (.ifCond .ge 9, 3) := by decide +kernel
theorem dX6_wellHere_23 : decode cX6_wellHere 23 = .ok (.aload_n 0, 1) := by decide +kernel
theorem dX6_wellHere_24 : decode cX6_wellHere 24 = .ok (.iconst 1, 1) := by decide +kernel
theorem dX6_wellHere_25 : decode cX6_wellHere 25 = .ok (.invokevirtual 147, 3) := by decide +kernel
theorem dX6_wellHere_28 : decode cX6_wellHere 28 = .ok (.ireturn, 1) := by decide +kernel
theorem dX6_wellHere_29 : decode cX6_wellHere 29 = .ok (.iload_n 1, 1) := by decide +kernel
theorem dX6_wellHere_30 : decode cX6_wellHere 30 = .ok (.ireturn, 1) := by decide +kernel
theorem dX6_nextWell_0 : decode cX6_nextWell 0 = .ok (.aload_n 0, 1) := by decide +kernel
theorem dX6_nextWell_1 : decode cX6_nextWell 1 = .ok (.iconst 0, 1) := by decide +kernel
theorem dX6_nextWell_2 : decode cX6_nextWell 2 = .ok (.putfield 60, 3) := by decide +kernel
theorem dX6_nextWell_5 : decode cX6_nextWell 5 = .ok (.aload_n 0, 1) := by decide +kernel
theorem dX6_nextWell_6 : decode cX6_nextWell 6 = .ok (.getfield 7, 3) := by decide +kernel
theorem dX6_nextWell_9 : decode cX6_nextWell 9 = .ok (.aload_n 0, 1) := by decide +kernel
theorem dX6_nextWell_10 : decode cX6_nextWell 10 = .ok (.getfield 7, 3) := by decide +kernel
theorem dX6_nextWell_13 : decode cX6_nextWell 13 = .ok (.iconst 1, 1) := by decide +kernel
theorem dX6_nextWell_14 : decode cX6_nextWell 14 = .ok (.iaload, 1) := by decide +kernel
theorem dX6_nextWell_15 : decode cX6_nextWell 15 = .ok (.invokestatic 100, 3) := by decide +kernel
theorem dX6_nextWell_18 : decode cX6_nextWell 18 = .ok (.istore_n 1, 1) := by decide +kernel
theorem dX6_nextWell_19 : decode cX6_nextWell 19 = .ok (.iload_n 1, 1) := by decide +kernel
theorem dX6_nextWell_20 : decode cX6_nextWell 20 = .ok (.ifCond .ge 9, 3) := by decide +kernel
theorem dX6_nextWell_23 : decode cX6_nextWell 23 = .ok (.aload_n 0, 1) := by decide +kernel
theorem dX6_nextWell_24 : decode cX6_nextWell 24 = .ok (.iconst 1, 1) := by decide +kernel
theorem dX6_nextWell_25 : decode cX6_nextWell 25 = .ok (.invokevirtual 147, 3) := by decide +kernel
theorem dX6_nextWell_28 : decode cX6_nextWell 28 = .ok (.ireturn, 1) := by decide +kernel
theorem dX6_nextWell_29 : decode cX6_nextWell 29 = .ok (.iload_n 1, 1) := by decide +kernel
theorem dX6_nextWell_30 : decode cX6_nextWell 30 = .ok (.ireturn, 1) := by decide +kernel
theorem dX6_drunk_0 : decode cX6_drunk 0 = .ok (.aload_n 0, 1) := by decide +kernel
theorem dX6_drunk_1 : decode cX6_drunk 1 = .ok (.iconst 0, 1) := by decide +kernel
theorem dX6_drunk_2 : decode cX6_drunk 2 = .ok (.putfield 60, 3) := by decide +kernel
theorem dX6_drunk_5 : decode cX6_drunk 5 = .ok (.aload_n 0, 1) := by decide +kernel
theorem dX6_drunk_6 : decode cX6_drunk 6 = .ok (.getfield 7, 3) := by decide +kernel
theorem dX6_drunk_9 : decode cX6_drunk 9 = .ok (.iconst 5, 1) := by decide +kernel
theorem dX6_drunk_10 : decode cX6_drunk 10 = .ok (.iaload, 1) := by decide +kernel
theorem dX6_drunk_11 : decode cX6_drunk 11 = .ok (.ireturn, 1) := by decide +kernel
theorem dX6_camelNumber_0 : decode cX6_camelNumber 0 = .ok (.aload_n 0, 1) := by decide +kernel
theorem dX6_camelNumber_1 : decode cX6_camelNumber 1 = .ok (.iload_n 1, 1) := by decide +kernel
theorem dX6_camelNumber_2 : decode cX6_camelNumber 2 = .ok (.invokevirtual 244, 3) := by decide +kernel
theorem dX6_camelNumber_5 : decode cX6_camelNumber 5 = .ok (.ifCond .eq 14, 3) := by decide +kernel
theorem dX6_camelNumber_8 : decode cX6_camelNumber 8 = .ok (.aload_n 0, 1) := by decide +kernel
theorem dX6_camelNumber_9 : decode cX6_camelNumber 9 = .ok (.getfield 7, 3) := by decide +kernel
theorem dX6_camelNumber_12 : decode cX6_camelNumber 12 = .ok (.iload_n 1, 1) := by decide +kernel
theorem dX6_camelNumber_13 : decode cX6_camelNumber 13 = .ok (.iload_n 2, 1) := by decide +kernel
theorem dX6_camelNumber_14 : decode cX6_camelNumber 14 = .ok (.invokestatic 71, 3) := by decide +kernel
theorem dX6_camelNumber_17 : decode cX6_camelNumber 17 = .ok (.iaload, 1) := by decide +kernel
theorem dX6_camelNumber_18 : decode cX6_camelNumber 18 = .ok (.ireturn, 1) := by decide +kernel
theorem dX6_camelNumber_19 : decode cX6_camelNumber 19 = .ok (.aload_n 0, 1) := by decide +kernel
theorem dX6_camelNumber_20 : decode cX6_camelNumber 20 = .ok (.iconst 1, 1) := by decide +kernel
theorem dX6_camelNumber_21 : decode cX6_camelNumber 21 = .ok (.invokevirtual 147, 3) := by decide +kernel
theorem dX6_camelNumber_24 : decode cX6_camelNumber 24 = .ok (.ireturn, 1) := by decide +kernel
theorem dX6_camelCount_0 : decode cX6_camelCount 0 = .ok (.aload_n 0, 1) := by decide +kernel
theorem dX6_camelCount_1 : decode cX6_camelCount 1 = .ok (.iconst 0, 1) := by decide +kernel
theorem dX6_camelCount_2 : decode cX6_camelCount 2 = .ok (.putfield 60, 3) := by decide +kernel
theorem dX6_camelCount_5 : decode cX6_camelCount 5 = .ok (.aload_n 0, 1) := by decide +kernel
theorem dX6_camelCount_6 : decode cX6_camelCount 6 = .ok (.getfield 7, 3) := by decide +kernel
theorem dX6_camelCount_9 : decode cX6_camelCount 9 = .ok (.bipush 6, 2) := by decide +kernel
theorem dX6_camelCount_11 : decode cX6_camelCount 11 = .ok (.iaload, 1) := by decide +kernel
theorem dX6_camelCount_12 : decode cX6_camelCount 12 = .ok (.ireturn, 1) := by decide +kernel
theorem dX6_livingCamels_0 : decode cX6_livingCamels 0 = .ok (.aload_n 0, 1) := by decide +kernel
theorem dX6_livingCamels_1 : decode cX6_livingCamels 1 = .ok (.iconst 0, 1) := by decide +kernel
theorem dX6_livingCamels_2 : decode cX6_livingCamels 2 = .ok (.putfield 60, 3) := by decide +kernel
theorem dX6_livingCamels_5 : decode cX6_livingCamels 5 = .ok (.aload_n 0, 1) := by decide +kernel
theorem dX6_livingCamels_6 : decode cX6_livingCamels 6 = .ok (.getfield 7, 3) := by decide +kernel
theorem dX6_livingCamels_9 : decode cX6_livingCamels 9 = .ok (.invokestatic 134, 3) := by decide +kernel
theorem dX6_livingCamels_12 : decode cX6_livingCamels 12 = .ok (.ireturn, 1) := by decide +kernel
theorem dX6_leader_0 : decode cX6_leader 0 = .ok (.aload_n 0, 1) := by decide +kernel
theorem dX6_leader_1 : decode cX6_leader 1 = .ok (.iconst 0, 1) := by decide +kernel
theorem dX6_leader_2 : decode cX6_leader 2 = .ok (.putfield 60, 3) := by decide +kernel
theorem dX6_leader_5 : decode cX6_leader 5 = .ok (.aload_n 0, 1) := by decide +kernel
theorem dX6_leader_6 : decode cX6_leader 6 = .ok (.getfield 7, 3) := by decide +kernel
theorem dX6_leader_9 : decode cX6_leader 9 = .ok (.iconst 4, 1) := by decide +kernel
theorem dX6_leader_10 : decode cX6_leader 10 = .ok (.iaload, 1) := by decide +kernel
theorem dX6_leader_11 : decode cX6_leader 11 = .ok (.ireturn, 1) := by decide +kernel
theorem dX6_isDead_0 : decode cX6_isDead 0 = .ok (.aload_n 0, 1) := by decide +kernel
theorem dX6_isDead_1 : decode cX6_isDead 1 = .ok (.iconst 0, 1) := by decide +kernel
theorem dX6_isDead_2 : decode cX6_isDead 2 = .ok (.putfield 60, 3) := by decide +kernel
theorem dX6_isDead_5 : decode cX6_isDead 5 = .ok (.aload_n 0, 1) := by decide +kernel
theorem dX6_isDead_6 : decode cX6_isDead 6 = .ok (.iload_n 1, 1) := by decide +kernel
theorem dX6_isDead_7 : decode cX6_isDead 7 = .ok (.bipush 7, 2) := by decide +kernel
theorem dX6_isDead_9 : decode cX6_isDead 9 = .ok (.invokevirtual 247, 3) := by decide +kernel
theorem dX6_isDead_12 : decode cX6_isDead 12 = .ok (.iconst 1, 1) := by decide +kernel
theorem dX6_isDead_13 : decode cX6_isDead 13 = .ok (.if_icmp .ne 7, 3) := by decide +kernel
theorem dX6_isDead_16 : decode cX6_isDead 16 = .ok (.iconst 1, 1) := by decide +kernel
theorem dX6_isDead_17 : decode cX6_isDead 17 = .ok (.goto 4, 3) := by decide +kernel
theorem dX6_isDead_20 : decode cX6_isDead 20 = .ok (.iconst 0, 1) := by decide +kernel
theorem dX6_isDead_21 : decode cX6_isDead 21 = .ok (.ireturn, 1) := by decide +kernel
theorem dX6_pace_0 : decode cX6_pace 0 = .ok (.aload_n 0, 1) := by decide +kernel
theorem dX6_pace_1 : decode cX6_pace 1 = .ok (.iconst 0, 1) := by decide +kernel
theorem dX6_pace_2 : decode cX6_pace 2 = .ok (.putfield 60, 3) := by decide +kernel
theorem dX6_pace_5 : decode cX6_pace 5 = .ok (.aload_n 0, 1) := by decide +kernel
theorem dX6_pace_6 : decode cX6_pace 6 = .ok (.iload_n 1, 1) := by decide +kernel
theorem dX6_pace_7 : decode cX6_pace 7 = .ok (.iconst 0, 1) := by decide +kernel
theorem dX6_pace_8 : decode cX6_pace 8 = .ok (.invokevirtual 247, 3) := by decide +kernel
theorem dX6_pace_11 : decode cX6_pace 11 = .ok (.ireturn, 1) := by decide +kernel
theorem dX6_speed_0 : decode cX6_speed 0 = .ok (.aload_n 0, 1) := by decide +kernel
theorem dX6_speed_1 : decode cX6_speed 1 = .ok (.iconst 0, 1) := by decide +kernel
theorem dX6_speed_2 : decode cX6_speed 2 = .ok (.putfield 60, 3) := by decide +kernel
theorem dX6_speed_5 : decode cX6_speed 5 = .ok (.aload_n 0, 1) := by decide +kernel
theorem dX6_speed_6 : decode cX6_speed 6 = .ok (.iload_n 1, 1) := by decide +kernel
theorem dX6_speed_7 : decode cX6_speed 7 = .ok (.invokevirtual 244, 3) := by decide +kernel
theorem dX6_speed_10 : decode cX6_speed 10 = .ok (.ifCond .eq 12, 3) := by decide +kernel
theorem dX6_speed_13 : decode cX6_speed 13 = .ok (.aload_n 0, 1) := by decide +kernel
theorem dX6_speed_14 : decode cX6_speed 14 = .ok (.getfield 7, 3) := by decide +kernel
theorem dX6_speed_17 : decode cX6_speed 17 = .ok (.iload_n 1, 1) := by decide +kernel
theorem dX6_speed_18 : decode cX6_speed 18 = .ok (.invokestatic 91, 3) := by decide +kernel
theorem dX6_speed_21 : decode cX6_speed 21 = .ok (.ireturn, 1) := by decide +kernel
theorem dX6_speed_22 : decode cX6_speed 22 = .ok (.aload_n 0, 1) := by decide +kernel
theorem dX6_speed_23 : decode cX6_speed 23 = .ok (.iconst 1, 1) := by decide +kernel
theorem dX6_speed_24 : decode cX6_speed 24 = .ok (.invokevirtual 147, 3) := by decide +kernel
theorem dX6_speed_27 : decode cX6_speed 27 = .ok (.ireturn, 1) := by decide +kernel
theorem dX6_water_0 : decode cX6_water 0 = .ok (.aload_n 0, 1) := by decide +kernel
theorem dX6_water_1 : decode cX6_water 1 = .ok (.iconst 0, 1) := by decide +kernel
theorem dX6_water_2 : decode cX6_water 2 = .ok (.putfield 60, 3) := by decide +kernel
theorem dX6_water_5 : decode cX6_water 5 = .ok (.aload_n 0, 1) := by decide +kernel
theorem dX6_water_6 : decode cX6_water 6 = .ok (.iload_n 1, 1) := by decide +kernel
theorem dX6_water_7 : decode cX6_water 7 = .ok (.iconst 3, 1) := by decide +kernel
theorem dX6_water_8 : decode cX6_water 8 = .ok (.invokevirtual 247, 3) := by decide +kernel
theorem dX6_water_11 : decode cX6_water 11 = .ok (.ireturn, 1) := by decide +kernel
theorem dX6_tank_0 : decode cX6_tank 0 = .ok (.aload_n 0, 1) := by decide +kernel
theorem dX6_tank_1 : decode cX6_tank 1 = .ok (.iconst 0, 1) := by decide +kernel
theorem dX6_tank_2 : decode cX6_tank 2 = .ok (.putfield 60, 3) := by decide +kernel
theorem dX6_tank_5 : decode cX6_tank 5 = .ok (.aload_n 0, 1) := by decide +kernel
theorem dX6_tank_6 : decode cX6_tank 6 = .ok (.iload_n 1, 1) := by decide +kernel
theorem dX6_tank_7 : decode cX6_tank 7 = .ok (.iconst 2, 1) := by decide +kernel
theorem dX6_tank_8 : decode cX6_tank 8 = .ok (.invokevirtual 247, 3) := by decide +kernel
theorem dX6_tank_11 : decode cX6_tank 11 = .ok (.ireturn, 1) := by decide +kernel
theorem dX6_strain_0 : decode cX6_strain 0 = .ok (.aload_n 0, 1) := by decide +kernel
theorem dX6_strain_1 : decode cX6_strain 1 = .ok (.iconst 0, 1) := by decide +kernel
theorem dX6_strain_2 : decode cX6_strain 2 = .ok (.putfield 60, 3) := by decide +kernel
theorem dX6_strain_5 : decode cX6_strain 5 = .ok (.aload_n 0, 1) := by decide +kernel
theorem dX6_strain_6 : decode cX6_strain 6 = .ok (.iload_n 1, 1) := by decide +kernel
theorem dX6_strain_7 : decode cX6_strain 7 = .ok (.iconst 4, 1) := by decide +kernel
theorem dX6_strain_8 : decode cX6_strain 8 = .ok (.invokevirtual 247, 3) := by decide +kernel
theorem dX6_strain_11 : decode cX6_strain 11 = .ok (.ireturn, 1) := by decide +kernel
theorem dX6_lameDays_0 : decode cX6_lameDays 0 = .ok (.aload_n 0, 1) := by decide +kernel
theorem dX6_lameDays_1 : decode cX6_lameDays 1 = .ok (.iconst 0, 1) := by decide +kernel
theorem dX6_lameDays_2 : decode cX6_lameDays 2 = .ok (.putfield 60, 3) := by decide +kernel
theorem dX6_lameDays_5 : decode cX6_lameDays 5 = .ok (.aload_n 0, 1) := by decide +kernel
theorem dX6_lameDays_6 : decode cX6_lameDays 6 = .ok (.iload_n 1, 1) := by decide +kernel
theorem dX6_lameDays_7 : decode cX6_lameDays 7 = .ok (.iconst 5, 1) := by decide +kernel
theorem dX6_lameDays_8 : decode cX6_lameDays 8 = .ok (.invokevirtual 247, 3) := by decide +kernel
theorem dX6_lameDays_11 : decode cX6_lameDays 11 = .ok (.ireturn, 1) := by decide +kernel
theorem dX6_dryDays_0 : decode cX6_dryDays 0 = .ok (.aload_n 0, 1) := by decide +kernel
theorem dX6_dryDays_1 : decode cX6_dryDays 1 = .ok (.iconst 0, 1) := by decide +kernel
theorem dX6_dryDays_2 : decode cX6_dryDays 2 = .ok (.putfield 60, 3) := by decide +kernel
theorem dX6_dryDays_5 : decode cX6_dryDays 5 = .ok (.aload_n 0, 1) := by decide +kernel
theorem dX6_dryDays_6 : decode cX6_dryDays 6 = .ok (.iload_n 1, 1) := by decide +kernel
theorem dX6_dryDays_7 : decode cX6_dryDays 7 = .ok (.bipush 6, 2) := by decide +kernel
theorem dX6_dryDays_9 : decode cX6_dryDays 9 = .ok (.invokevirtual 247, 3) := by decide +kernel
theorem dX6_dryDays_12 : decode cX6_dryDays 12 = .ok (.ireturn, 1) := by decide +kernel
theorem dX6_carried_0 : decode cX6_carried 0 = .ok (.aload_n 0, 1) := by decide +kernel
theorem dX6_carried_1 : decode cX6_carried 1 = .ok (.iconst 0, 1) := by decide +kernel
theorem dX6_carried_2 : decode cX6_carried 2 = .ok (.putfield 60, 3) := by decide +kernel
theorem dX6_carried_5 : decode cX6_carried 5 = .ok (.aload_n 0, 1) := by decide +kernel
theorem dX6_carried_6 : decode cX6_carried 6 = .ok (.iload_n 1, 1) := by decide +kernel
theorem dX6_carried_7 : decode cX6_carried 7 = .ok (.invokevirtual 244, 3) := by decide +kernel
theorem dX6_carried_10 : decode cX6_carried 10 = .ok (.ifCond .eq 12, 3) := by decide +kernel
theorem dX6_carried_13 : decode cX6_carried 13 = .ok (.aload_n 0, 1) := by decide +kernel
theorem dX6_carried_14 : decode cX6_carried 14 = .ok (.getfield 7, 3) := by decide +kernel
theorem dX6_carried_17 : decode cX6_carried 17 = .ok (.iload_n 1, 1) := by decide +kernel
theorem dX6_carried_18 : decode cX6_carried 18 = .ok (.invokestatic 87, 3) := by decide +kernel
theorem dX6_carried_21 : decode cX6_carried 21 = .ok (.ireturn, 1) := by decide +kernel
theorem dX6_carried_22 : decode cX6_carried 22 = .ok (.aload_n 0, 1) := by decide +kernel
theorem dX6_carried_23 : decode cX6_carried 23 = .ok (.iconst 1, 1) := by decide +kernel
theorem dX6_carried_24 : decode cX6_carried 24 = .ok (.invokevirtual 147, 3) := by decide +kernel
theorem dX6_carried_27 : decode cX6_carried 27 = .ok (.ireturn, 1) := by decide +kernel
theorem dX6_freeWeight_0 : decode cX6_freeWeight 0 = .ok (.aload_n 0, 1) := by decide +kernel
theorem dX6_freeWeight_1 : decode cX6_freeWeight 1 = .ok (.iconst 0, 1) := by decide +kernel
theorem dX6_freeWeight_2 : decode cX6_freeWeight 2 = .ok (.putfield 60, 3) := by decide +kernel
theorem dX6_freeWeight_5 : decode cX6_freeWeight 5 = .ok (.aload_n 0, 1) := by decide +kernel
theorem dX6_freeWeight_6 : decode cX6_freeWeight 6 = .ok (.iload_n 1, 1) := by decide +kernel
theorem dX6_freeWeight_7 : decode cX6_freeWeight 7 = .ok (.invokevirtual 244, 3) := by decide +kernel
theorem dX6_freeWeight_10 : decode cX6_freeWeight 10 = .ok (.ifCond .eq 12, 3) := by decide +kernel
theorem dX6_freeWeight_13 : decode cX6_freeWeight 13 = .ok (.aload_n 0, 1) := by decide +kernel
theorem dX6_freeWeight_14 : decode cX6_freeWeight 14 = .ok (.getfield 7, 3) := by decide +kernel
theorem dX6_freeWeight_17 : decode cX6_freeWeight 17 = .ok (.iload_n 1, 1) := by decide +kernel
theorem dX6_freeWeight_18 : decode cX6_freeWeight 18 = .ok (.invokestatic 209, 3) := by decide +kernel
theorem dX6_freeWeight_21 : decode cX6_freeWeight 21 = .ok (.ireturn, 1) := by decide +kernel
theorem dX6_freeWeight_22 : decode cX6_freeWeight 22 = .ok (.aload_n 0, 1) := by decide +kernel
theorem dX6_freeWeight_23 : decode cX6_freeWeight 23 = .ok (.iconst 1, 1) := by decide +kernel
theorem dX6_freeWeight_24 : decode cX6_freeWeight 24 = .ok (.invokevirtual 147, 3) := by decide +kernel
theorem dX6_freeWeight_27 : decode cX6_freeWeight 27 = .ok (.ireturn, 1) := by decide +kernel
theorem dX6_thirstiest_0 : decode cX6_thirstiest 0 = .ok (.aload_n 0, 1) := by decide +kernel
theorem dX6_thirstiest_1 : decode cX6_thirstiest 1 = .ok (.iconst 0, 1) := by decide +kernel
theorem dX6_thirstiest_2 : decode cX6_thirstiest 2 = .ok (.putfield 60, 3) := by decide +kernel
theorem dX6_thirstiest_5 : decode cX6_thirstiest 5 = .ok (.aload_n 0, 1) := by decide +kernel
theorem dX6_thirstiest_6 : decode cX6_thirstiest 6 = .ok (.getfield 7, 3) := by decide +kernel
theorem dX6_thirstiest_9 : decode cX6_thirstiest 9 = .ok (.invokestatic 250, 3) := by decide +kernel
theorem dX6_thirstiest_12 : decode cX6_thirstiest 12 = .ok (.istore_n 1, 1) := by decide +kernel
theorem dX6_thirstiest_13 : decode cX6_thirstiest 13 = .ok (.iload_n 1, 1) := by decide +kernel
theorem dX6_thirstiest_14 : decode cX6_thirstiest 14 = .ok (.ifCond .ge 9, 3) := by decide +kernel
theorem dX6_thirstiest_17 : decode cX6_thirstiest 17 = .ok (.aload_n 0, 1) := by decide +kernel
theorem dX6_thirstiest_18 : decode cX6_thirstiest 18 = .ok (.iconst 1, 1) := by decide +kernel
theorem dX6_thirstiest_19 : decode cX6_thirstiest 19 = .ok (.invokevirtual 147, 3) := by decide +kernel
theorem dX6_thirstiest_22 : decode cX6_thirstiest 22 = .ok (.ireturn, 1) := by decide +kernel
theorem dX6_thirstiest_23 : decode cX6_thirstiest 23 = .ok (.iload_n 1, 1) := by decide +kernel
theorem dX6_thirstiest_24 : decode cX6_thirstiest 24 = .ok (.ireturn, 1) := by decide +kernel
theorem dX6_fastest_0 : decode cX6_fastest 0 = .ok (.aload_n 0, 1) := by decide +kernel
theorem dX6_fastest_1 : decode cX6_fastest 1 = .ok (.iconst 0, 1) := by decide +kernel
theorem dX6_fastest_2 : decode cX6_fastest 2 = .ok (.putfield 60, 3) := by decide +kernel
theorem dX6_fastest_5 : decode cX6_fastest 5 = .ok (.aload_n 0, 1) := by decide +kernel
theorem dX6_fastest_6 : decode cX6_fastest 6 = .ok (.getfield 7, 3) := by decide +kernel
theorem dX6_fastest_9 : decode cX6_fastest 9 = .ok (.invokestatic 110, 3) := by decide +kernel
theorem dX6_fastest_12 : decode cX6_fastest 12 = .ok (.istore_n 1, 1) := by decide +kernel
theorem dX6_fastest_13 : decode cX6_fastest 13 = .ok (.iload_n 1, 1) := by decide +kernel
theorem dX6_fastest_14 : decode cX6_fastest 14 = .ok (.ifCond .ge 9, 3) := by decide +kernel
theorem dX6_fastest_17 : decode cX6_fastest 17 = .ok (.aload_n 0, 1) := by decide +kernel
theorem dX6_fastest_18 : decode cX6_fastest 18 = .ok (.iconst 1, 1) := by decide +kernel
theorem dX6_fastest_19 : decode cX6_fastest 19 = .ok (.invokevirtual 147, 3) := by decide +kernel
theorem dX6_fastest_22 : decode cX6_fastest 22 = .ok (.ireturn, 1) := by decide +kernel
theorem dX6_fastest_23 : decode cX6_fastest 23 = .ok (.iload_n 1, 1) := by decide +kernel
theorem dX6_fastest_24 : decode cX6_fastest 24 = .ok (.ireturn, 1) := by decide +kernel
theorem dX6_loadNumber_0 : decode cX6_loadNumber 0 = .ok (.aload_n 0, 1) := by decide +kernel
theorem dX6_loadNumber_1 : decode cX6_loadNumber 1 = .ok (.iload_n 1, 1) := by decide +kernel
theorem dX6_loadNumber_2 : decode cX6_loadNumber 2 = .ok (.invokevirtual 253, 3) := by decide +kernel
theorem dX6_loadNumber_5 : decode cX6_loadNumber 5 = .ok (.ifCond .eq 14, 3) := by decide +kernel
theorem dX6_loadNumber_8 : decode cX6_loadNumber 8 = .ok (.aload_n 0, 1) := by decide +kernel
theorem dX6_loadNumber_9 : decode cX6_loadNumber 9 = .ok (.getfield 7, 3) := by decide +kernel
theorem dX6_loadNumber_12 : decode cX6_loadNumber 12 = .ok (.iload_n 1, 1) := by decide +kernel
theorem dX6_loadNumber_13 : decode cX6_loadNumber 13 = .ok (.iload_n 2, 1) := by decide +kernel
theorem dX6_loadNumber_14 : decode cX6_loadNumber 14 = .ok (.invokestatic 56, 3) := by decide +kernel
theorem dX6_loadNumber_17 : decode cX6_loadNumber 17 = .ok (.iaload, 1) := by decide +kernel
theorem dX6_loadNumber_18 : decode cX6_loadNumber 18 = .ok (.ireturn, 1) := by decide +kernel
theorem dX6_loadNumber_19 : decode cX6_loadNumber 19 = .ok (.aload_n 0, 1) := by decide +kernel
theorem dX6_loadNumber_20 : decode cX6_loadNumber 20 = .ok (.iconst 1, 1) := by decide +kernel
theorem dX6_loadNumber_21 : decode cX6_loadNumber 21 = .ok (.invokevirtual 147, 3) := by decide +kernel
theorem dX6_loadNumber_24 : decode cX6_loadNumber 24 = .ok (.ireturn, 1) := by decide +kernel
theorem dX6_loadCount_0 : decode cX6_loadCount 0 = .ok (.aload_n 0, 1) := by decide +kernel
theorem dX6_loadCount_1 : decode cX6_loadCount 1 = .ok (.iconst 0, 1) := by decide +kernel
theorem dX6_loadCount_2 : decode cX6_loadCount 2 = .ok (.putfield 60, 3) := by decide +kernel
theorem dX6_loadCount_5 : decode cX6_loadCount 5 = .ok (.aload_n 0, 1) := by decide +kernel
theorem dX6_loadCount_6 : decode cX6_loadCount 6 = .ok (.getfield 7, 3) := by decide +kernel
theorem dX6_loadCount_9 : decode cX6_loadCount 9 = .ok (.bipush 9, 2) := by decide +kernel
theorem dX6_loadCount_11 : decode cX6_loadCount 11 = .ok (.iaload, 1) := by decide +kernel
theorem dX6_loadCount_12 : decode cX6_loadCount 12 = .ok (.ireturn, 1) := by decide +kernel
theorem dX6_weightOf_0 : decode cX6_weightOf 0 = .ok (.aload_n 0, 1) := by decide +kernel
theorem dX6_weightOf_1 : decode cX6_weightOf 1 = .ok (.iconst 0, 1) := by decide +kernel
theorem dX6_weightOf_2 : decode cX6_weightOf 2 = .ok (.putfield 60, 3) := by decide +kernel
theorem dX6_weightOf_5 : decode cX6_weightOf 5 = .ok (.aload_n 0, 1) := by decide +kernel
theorem dX6_weightOf_6 : decode cX6_weightOf 6 = .ok (.iload_n 1, 1) := by decide +kernel
theorem dX6_weightOf_7 : decode cX6_weightOf 7 = .ok (.iconst 0, 1) := by decide +kernel
theorem dX6_weightOf_8 : decode cX6_weightOf 8 = .ok (.invokevirtual 256, 3) := by decide +kernel
theorem dX6_weightOf_11 : decode cX6_weightOf 11 = .ok (.ireturn, 1) := by decide +kernel
theorem dX6_valueOf_0 : decode cX6_valueOf 0 = .ok (.aload_n 0, 1) := by decide +kernel
theorem dX6_valueOf_1 : decode cX6_valueOf 1 = .ok (.iconst 0, 1) := by decide +kernel
theorem dX6_valueOf_2 : decode cX6_valueOf 2 = .ok (.putfield 60, 3) := by decide +kernel
theorem dX6_valueOf_5 : decode cX6_valueOf 5 = .ok (.aload_n 0, 1) := by decide +kernel
theorem dX6_valueOf_6 : decode cX6_valueOf 6 = .ok (.iload_n 1, 1) := by decide +kernel
theorem dX6_valueOf_7 : decode cX6_valueOf 7 = .ok (.iconst 1, 1) := by decide +kernel
theorem dX6_valueOf_8 : decode cX6_valueOf 8 = .ok (.invokevirtual 256, 3) := by decide +kernel
theorem dX6_valueOf_11 : decode cX6_valueOf 11 = .ok (.ireturn, 1) := by decide +kernel
theorem dX6_isCarried_0 : decode cX6_isCarried 0 = .ok (.aload_n 0, 1) := by decide +kernel
theorem dX6_isCarried_1 : decode cX6_isCarried 1 = .ok (.iconst 0, 1) := by decide +kernel
theorem dX6_isCarried_2 : decode cX6_isCarried 2 = .ok (.putfield 60, 3) := by decide +kernel
theorem dX6_isCarried_5 : decode cX6_isCarried 5 = .ok (.aload_n 0, 1) := by decide +kernel
theorem dX6_isCarried_6 : decode cX6_isCarried 6 = .ok (.iload_n 1, 1) := by decide +kernel
theorem dX6_isCarried_7 : decode cX6_isCarried 7 = .ok (.invokevirtual 253, 3) := by decide +kernel
theorem dX6_isCarried_10 : decode cX6_isCarried 10 = .ok (.ifCond .eq 22, 3) := by decide +kernel
theorem dX6_isCarried_13 : decode cX6_isCarried 13 = .ok (.aload_n 0, 1) := by decide +kernel
theorem dX6_isCarried_14 : decode cX6_isCarried 14 = .ok (.getfield 7, 3) := by decide +kernel
theorem dX6_isCarried_17 : decode cX6_isCarried 17 = .ok (.iload_n 1, 1) := by decide +kernel
theorem dX6_isCarried_18 : decode cX6_isCarried 18 = .ok (.iconst 2, 1) := by decide +kernel
theorem dX6_isCarried_19 : decode cX6_isCarried 19 = .ok (.invokestatic 56, 3) := by decide +kernel
theorem dX6_isCarried_22 : decode cX6_isCarried 22 = .ok (.iaload, 1) := by decide +kernel
theorem dX6_isCarried_23 : decode cX6_isCarried 23 = .ok (.ifCond .lt 7, 3) := by decide +kernel
theorem dX6_isCarried_26 : decode cX6_isCarried 26 = .ok (.iconst 1, 1) := by decide +kernel
theorem dX6_isCarried_27 : decode cX6_isCarried 27 = .ok (.goto 4, 3) := by decide +kernel
theorem dX6_isCarried_30 : decode cX6_isCarried 30 = .ok (.iconst 0, 1) := by decide +kernel
theorem dX6_isCarried_31 : decode cX6_isCarried 31 = .ok (.ireturn, 1) := by decide +kernel
theorem dX6_isCarried_32 : decode cX6_isCarried 32 = .ok (.aload_n 0, 1) := by decide +kernel
theorem dX6_isCarried_33 : decode cX6_isCarried 33 = .ok (.iconst 1, 1) := by decide +kernel
theorem dX6_isCarried_34 : decode cX6_isCarried 34 = .ok (.invokevirtual 259, 3) := by decide +kernel
theorem dX6_isCarried_37 : decode cX6_isCarried 37 = .ok (.ireturn, 1) := by decide +kernel
theorem dX6_carrierOf_0 : decode cX6_carrierOf 0 = .ok (.aload_n 0, 1) := by decide +kernel
theorem dX6_carrierOf_1 : decode cX6_carrierOf 1 = .ok (.iconst 0, 1) := by decide +kernel
theorem dX6_carrierOf_2 : decode cX6_carrierOf 2 = .ok (.putfield 60, 3) := by decide +kernel
theorem dX6_carrierOf_5 : decode cX6_carrierOf 5 = .ok (.aload_n 0, 1) := by decide +kernel
theorem dX6_carrierOf_6 : decode cX6_carrierOf 6 = .ok (.iload_n 1, 1) := by decide +kernel
theorem dX6_carrierOf_7 : decode cX6_carrierOf 7 = .ok (.invokevirtual 253, 3) := by decide +kernel
theorem dX6_carrierOf_10 : decode cX6_carrierOf 10 = .ok (.ifCond .ne 9, 3) := by decide +kernel
theorem dX6_carrierOf_13 : decode cX6_carrierOf 13 = .ok (.aload_n 0, 1) := by decide +kernel
theorem dX6_carrierOf_14 : decode cX6_carrierOf 14 = .ok (.iconst 1, 1) := by decide +kernel
theorem dX6_carrierOf_15 : decode cX6_carrierOf 15 = .ok (.invokevirtual 147, 3) := by decide +kernel
theorem dX6_carrierOf_18 : decode cX6_carrierOf 18 = .ok (.ireturn, 1) := by decide +kernel
theorem dX6_carrierOf_19 : decode cX6_carrierOf 19 = .ok (.aload_n 0, 1) := by decide +kernel
theorem dX6_carrierOf_20 : decode cX6_carrierOf 20 = .ok (.getfield 7, 3) := by decide +kernel
theorem dX6_carrierOf_23 : decode cX6_carrierOf 23 = .ok (.iload_n 1, 1) := by decide +kernel
theorem dX6_carrierOf_24 : decode cX6_carrierOf 24 = .ok (.iconst 2, 1) := by decide +kernel
theorem dX6_carrierOf_25 : decode cX6_carrierOf 25 = .ok (.invokestatic 56, 3) := by decide +kernel
theorem dX6_carrierOf_28 : decode cX6_carrierOf 28 = .ok (.iaload, 1) := by decide +kernel
theorem dX6_carrierOf_29 : decode cX6_carrierOf 29 = .ok (.istore_n 2, 1) := by decide +kernel
theorem dX6_carrierOf_30 : decode cX6_carrierOf 30 = .ok (.iload_n 2, 1) := by decide +kernel
theorem dX6_carrierOf_31 : decode cX6_carrierOf 31 = .ok (.ifCond .ge 9, 3) := by decide +kernel
theorem dX6_carrierOf_34 : decode cX6_carrierOf 34 = .ok (.aload_n 0, 1) := by decide +kernel
theorem dX6_carrierOf_35 : decode cX6_carrierOf 35 = .ok (.iconst 2, 1) := by decide +kernel
theorem dX6_carrierOf_36 : decode cX6_carrierOf 36 = .ok (.invokevirtual 147, 3) := by decide +kernel
theorem dX6_carrierOf_39 : decode cX6_carrierOf 39 = .ok (.ireturn, 1) := by decide +kernel
theorem dX6_carrierOf_40 : decode cX6_carrierOf 40 = .ok (.iload_n 2, 1) := by decide +kernel
theorem dX6_carrierOf_41 : decode cX6_carrierOf 41 = .ok (.ireturn, 1) := by decide +kernel
theorem dX6_placeOf_0 : decode cX6_placeOf 0 = .ok (.aload_n 0, 1) := by decide +kernel
theorem dX6_placeOf_1 : decode cX6_placeOf 1 = .ok (.iconst 0, 1) := by decide +kernel
theorem dX6_placeOf_2 : decode cX6_placeOf 2 = .ok (.putfield 60, 3) := by decide +kernel
theorem dX6_placeOf_5 : decode cX6_placeOf 5 = .ok (.aload_n 0, 1) := by decide +kernel
theorem dX6_placeOf_6 : decode cX6_placeOf 6 = .ok (.iload_n 1, 1) := by decide +kernel
theorem dX6_placeOf_7 : decode cX6_placeOf 7 = .ok (.invokevirtual 253, 3) := by decide +kernel
theorem dX6_placeOf_10 : decode cX6_placeOf 10 = .ok (.ifCond .ne 9, 3) := by decide +kernel
theorem dX6_placeOf_13 : decode cX6_placeOf 13 = .ok (.aload_n 0, 1) := by decide +kernel
theorem dX6_placeOf_14 : decode cX6_placeOf 14 = .ok (.iconst 1, 1) := by decide +kernel
theorem dX6_placeOf_15 : decode cX6_placeOf 15 = .ok (.invokevirtual 147, 3) := by decide +kernel
theorem dX6_placeOf_18 : decode cX6_placeOf 18 = .ok (.ireturn, 1) := by decide +kernel
theorem dX6_placeOf_19 : decode cX6_placeOf 19 = .ok (.aload_n 0, 1) := by decide +kernel
theorem dX6_placeOf_20 : decode cX6_placeOf 20 = .ok (.getfield 7, 3) := by decide +kernel
theorem dX6_placeOf_23 : decode cX6_placeOf 23 = .ok (.iload_n 1, 1) := by decide +kernel
theorem dX6_placeOf_24 : decode cX6_placeOf 24 = .ok (.iconst 2, 1) := by decide +kernel
theorem dX6_placeOf_25 : decode cX6_placeOf 25 = .ok (.invokestatic 56, 3) := by decide +kernel
theorem dX6_placeOf_28 : decode cX6_placeOf 28 = .ok (.iaload, 1) := by decide +kernel
theorem dX6_placeOf_29 : decode cX6_placeOf 29 = .ok (.ifCond .ge 14, 3) := by decide +kernel
theorem dX6_placeOf_32 : decode cX6_placeOf 32 = .ok (.aload_n 0, 1) := by decide +kernel
theorem dX6_placeOf_33 : decode cX6_placeOf 33 = .ok (.getfield 7, 3) := by decide +kernel
theorem dX6_placeOf_36 : decode cX6_placeOf 36 = .ok (.iload_n 1, 1) := by decide +kernel
theorem dX6_placeOf_37 : decode cX6_placeOf 37 = .ok (.iconst 3, 1) := by decide +kernel
theorem dX6_placeOf_38 : decode cX6_placeOf 38 = .ok (.invokestatic 56, 3) := by decide +kernel
theorem dX6_placeOf_41 : decode cX6_placeOf 41 = .ok (.iaload, 1) := by decide +kernel
theorem dX6_placeOf_42 : decode cX6_placeOf 42 = .ok (.ireturn, 1) := by decide +kernel
theorem dX6_placeOf_43 : decode cX6_placeOf 43 = .ok (.aload_n 0, 1) := by decide +kernel
theorem dX6_placeOf_44 : decode cX6_placeOf 44 = .ok (.getfield 7, 3) := by decide +kernel
theorem dX6_placeOf_47 : decode cX6_placeOf 47 = .ok (.iconst 1, 1) := by decide +kernel
theorem dX6_placeOf_48 : decode cX6_placeOf 48 = .ok (.iaload, 1) := by decide +kernel
theorem dX6_placeOf_49 : decode cX6_placeOf 49 = .ok (.ireturn, 1) := by decide +kernel
theorem dX6_carriedValue_0 : decode cX6_carriedValue 0 = .ok (.aload_n 0, 1) := by decide +kernel
theorem dX6_carriedValue_1 : decode cX6_carriedValue 1 = .ok (.iconst 0, 1) := by decide +kernel
theorem dX6_carriedValue_2 : decode cX6_carriedValue 2 = .ok (.putfield 60, 3) := by decide +kernel
theorem dX6_carriedValue_5 : decode cX6_carriedValue 5 = .ok (.iconst 0, 1) := by decide +kernel
theorem dX6_carriedValue_6 : decode cX6_carriedValue 6 = .ok (.istore_n 1, 1) := by decide +kernel
theorem dX6_carriedValue_7 : decode cX6_carriedValue 7 = .ok (.iconst 0, 1) := by decide +kernel
theorem dX6_carriedValue_8 : decode cX6_carriedValue 8 = .ok (.istore_n 2, 1) := by decide +kernel
theorem dX6_carriedValue_9 : decode cX6_carriedValue 9 = .ok (.iload_n 2, 1) := by decide +kernel
theorem dX6_carriedValue_10 : decode cX6_carriedValue 10 = .ok (.aload_n 0, 1) := by decide +kernel
theorem dX6_carriedValue_11 : decode cX6_carriedValue 11 = .ok (.getfield 7, 3) := by decide +kernel
theorem dX6_carriedValue_14 : decode cX6_carriedValue 14 = .ok (.bipush 9, 2) := by decide +kernel
theorem dX6_carriedValue_16 : decode cX6_carriedValue 16 = .ok (.iaload, 1) := by decide +kernel
theorem dX6_carriedValue_17 : decode cX6_carriedValue 17 = .ok (.if_icmp .ge 35, 3) := by decide +kernel
theorem dX6_carriedValue_20 : decode cX6_carriedValue 20 = .ok (.aload_n 0, 1) := by decide +kernel
theorem dX6_carriedValue_21 : decode cX6_carriedValue 21 = .ok (.getfield 7, 3) := by decide +kernel
theorem dX6_carriedValue_24 : decode cX6_carriedValue 24 = .ok (.iload_n 2, 1) := by decide +kernel
theorem dX6_carriedValue_25 : decode cX6_carriedValue 25 = .ok (.iconst 2, 1) := by decide +kernel
theorem dX6_carriedValue_26 : decode cX6_carriedValue 26 = .ok (.invokestatic 56, 3) := by decide +kernel
theorem dX6_carriedValue_29 : decode cX6_carriedValue 29 = .ok (.iaload, 1) := by decide +kernel
theorem dX6_carriedValue_30 : decode cX6_carriedValue 30 = .ok (.ifCond .lt 16, 3) := by decide +kernel
theorem dX6_carriedValue_33 : decode cX6_carriedValue 33 = .ok (.iload_n 1, 1) := by decide +kernel
theorem dX6_carriedValue_34 : decode cX6_carriedValue 34 = .ok (.aload_n 0, 1) := by decide +kernel
theorem dX6_carriedValue_35 : decode cX6_carriedValue 35 = .ok (.getfield 7, 3) := by decide +kernel
theorem dX6_carriedValue_38 : decode cX6_carriedValue 38 = .ok (.iload_n 2, 1) := by decide +kernel
theorem dX6_carriedValue_39 : decode cX6_carriedValue 39 = .ok (.iconst 1, 1) := by decide +kernel
theorem dX6_carriedValue_40 : decode cX6_carriedValue 40 = .ok (.invokestatic 56, 3) := by decide +kernel
theorem dX6_carriedValue_43 : decode cX6_carriedValue 43 = .ok (.iaload, 1) := by decide +kernel
theorem dX6_carriedValue_44 : decode cX6_carriedValue 44 = .ok (.iadd, 1) := by decide +kernel
theorem dX6_carriedValue_45 : decode cX6_carriedValue 45 = .ok (.istore_n 1, 1) := by decide +kernel
theorem dX6_carriedValue_46 : decode cX6_carriedValue 46 = .ok (.iinc 2 1, 3) := by decide +kernel
theorem dX6_carriedValue_49 : decode cX6_carriedValue 49 = .ok (.goto (-40), 3) := by decide +kernel
theorem dX6_carriedValue_52 : decode cX6_carriedValue 52 = .ok (.iload_n 1, 1) := by decide +kernel
theorem dX6_carriedValue_53 : decode cX6_carriedValue 53 = .ok (.ireturn, 1) := by decide +kernel
theorem dX6_meanWater_0 : decode cX6_meanWater 0 = .ok (.aload_n 0, 1) := by decide +kernel
theorem dX6_meanWater_1 : decode cX6_meanWater 1 = .ok (.iconst 0, 1) := by decide +kernel
theorem dX6_meanWater_2 : decode cX6_meanWater 2 = .ok (.putfield 60, 3) := by decide +kernel
theorem dX6_meanWater_5 : decode cX6_meanWater 5 = .ok (.iconst 0, 1) := by decide +kernel
theorem dX6_meanWater_6 : decode cX6_meanWater 6 = .ok (.istore_n 1, 1) := by decide +kernel
theorem dX6_meanWater_7 : decode cX6_meanWater 7 = .ok (.aload_n 0, 1) := by decide +kernel
theorem dX6_meanWater_8 : decode cX6_meanWater 8 = .ok (.getfield 7, 3) := by decide +kernel
theorem dX6_meanWater_11 : decode cX6_meanWater 11 = .ok (.invokestatic 134, 3) := by decide +kernel
theorem dX6_meanWater_14 : decode cX6_meanWater 14 = .ok (.istore_n 2, 1) := by decide +kernel
theorem dX6_meanWater_15 : decode cX6_meanWater 15 = .ok (.iconst 0, 1) := by decide +kernel
theorem dX6_meanWater_16 : decode cX6_meanWater 16 = .ok (.istore_n 3, 1) := by decide +kernel
theorem dX6_meanWater_17 : decode cX6_meanWater 17 = .ok (.iload_n 3, 1) := by decide +kernel
theorem dX6_meanWater_18 : decode cX6_meanWater 18 = .ok (.aload_n 0, 1) := by decide +kernel
theorem dX6_meanWater_19 : decode cX6_meanWater 19 = .ok (.getfield 7, 3) := by decide +kernel
theorem dX6_meanWater_22 : decode cX6_meanWater 22 = .ok (.bipush 6, 2) := by decide +kernel
theorem dX6_meanWater_24 : decode cX6_meanWater 24 = .ok (.iaload, 1) := by decide +kernel
theorem dX6_meanWater_25 : decode cX6_meanWater 25 = .ok (.if_icmp .ge 33, 3) := by decide +kernel
theorem dX6_meanWater_28 : decode cX6_meanWater 28 = .ok (.aload_n 0, 1) := by decide +kernel
theorem dX6_meanWater_29 : decode cX6_meanWater 29 = .ok (.getfield 7, 3) := by decide +kernel
theorem dX6_meanWater_32 : decode cX6_meanWater 32 = .ok (.iload_n 3, 1) := by decide +kernel
theorem dX6_meanWater_33 : decode cX6_meanWater 33 = .ok (.invokestatic 83, 3) := by decide +kernel
theorem dX6_meanWater_36 : decode cX6_meanWater 36 = .ok (.ifCond .eq 16, 3) := by decide +kernel
theorem dX6_meanWater_39 : decode cX6_meanWater 39 = .ok (.iload_n 1, 1) := by decide +kernel
theorem dX6_meanWater_40 : decode cX6_meanWater 40 = .ok (.aload_n 0, 1) := by decide +kernel
theorem dX6_meanWater_41 : decode cX6_meanWater 41 = .ok (.getfield 7, 3) := by decide +kernel
theorem dX6_meanWater_44 : decode cX6_meanWater 44 = .ok (.iload_n 3, 1) := by decide +kernel
theorem dX6_meanWater_45 : decode cX6_meanWater 45 = .ok (.iconst 3, 1) := by decide +kernel
theorem dX6_meanWater_46 : decode cX6_meanWater 46 = .ok (.invokestatic 71, 3) := by decide +kernel
theorem dX6_meanWater_49 : decode cX6_meanWater 49 = .ok (.iaload, 1) := by decide +kernel
theorem dX6_meanWater_50 : decode cX6_meanWater 50 = .ok (.iadd, 1) := by decide +kernel
theorem dX6_meanWater_51 : decode cX6_meanWater 51 = .ok (.istore_n 1, 1) := by decide +kernel
theorem dX6_meanWater_52 : decode cX6_meanWater 52 = .ok (.iinc 3 1, 3) := by decide +kernel
theorem dX6_meanWater_55 : decode cX6_meanWater 55 = .ok (.goto (-38), 3) := by decide +kernel
theorem dX6_meanWater_58 : decode cX6_meanWater 58 = .ok (.iload_n 2, 1) := by decide +kernel
theorem dX6_meanWater_59 : decode cX6_meanWater 59 = .ok (.ifCond .ne 5, 3) := by decide +kernel
theorem dX6_meanWater_62 : decode cX6_meanWater 62 = .ok (.dconst 0, 1) := by decide +kernel
theorem dX6_meanWater_63 : decode cX6_meanWater 63 = .ok (.dreturn, 1) := by decide +kernel
theorem dX6_meanWater_64 : decode cX6_meanWater 64 = .ok (.iload_n 1, 1) := by decide +kernel
theorem dX6_meanWater_65 : decode cX6_meanWater 65 = .ok (.i2d, 1) := by decide +kernel
theorem dX6_meanWater_66 : decode cX6_meanWater 66 = .ok (.iload_n 2, 1) := by decide +kernel
theorem dX6_meanWater_67 : decode cX6_meanWater 67 = .ok (.i2d, 1) := by decide +kernel
theorem dX6_meanWater_68 : decode cX6_meanWater 68 = .ok (.ddiv, 1) := by decide +kernel
theorem dX6_meanWater_69 : decode cX6_meanWater 69 = .ok (.dreturn, 1) := by decide +kernel
theorem dX6_progress_0 : decode cX6_progress 0 = .ok (.aload_n 0, 1) := by decide +kernel
theorem dX6_progress_1 : decode cX6_progress 1 = .ok (.iconst 0, 1) := by decide +kernel
theorem dX6_progress_2 : decode cX6_progress 2 = .ok (.putfield 60, 3) := by decide +kernel
theorem dX6_progress_5 : decode cX6_progress 5 = .ok (.aload_n 0, 1) := by decide +kernel
theorem dX6_progress_6 : decode cX6_progress 6 = .ok (.getfield 7, 3) := by decide +kernel
theorem dX6_progress_9 : decode cX6_progress 9 = .ok (.iconst 1, 1) := by decide +kernel
theorem dX6_progress_10 : decode cX6_progress 10 = .ok (.iaload, 1) := by decide +kernel
theorem dX6_progress_11 : decode cX6_progress 11 = .ok (.i2f, 1) := by decide +kernel
theorem dX6_progress_12 : decode cX6_progress 12 = .ok (.aload_n 0, 1) := by decide +kernel
theorem dX6_progress_13 : decode cX6_progress 13 = .ok (.getfield 7, 3) := by decide +kernel
theorem dX6_progress_16 : decode cX6_progress 16 = .ok (.iconst 0, 1) := by decide +kernel
theorem dX6_progress_17 : decode cX6_progress 17 = .ok (.iaload, 1) := by decide +kernel
theorem dX6_progress_18 : decode cX6_progress 18 = .ok (.i2f, 1) := by decide +kernel
theorem dX6_progress_19 : decode cX6_progress 19 = .ok (.fdiv, 1) := by decide +kernel
theorem dX6_progress_20 : decode cX6_progress 20 = .ok (.freturn, 1) := by decide +kernel
theorem dX6_distanceToday_0 : decode cX6_distanceToday 0 = .ok (.aload_n 0, 1) := by decide +kernel
theorem dX6_distanceToday_1 : decode cX6_distanceToday 1 = .ok (.iconst 0, 1) := by decide +kernel
theorem dX6_distanceToday_2 : decode cX6_distanceToday 2 = .ok (.putfield 60, 3) := by decide +kernel
theorem dX6_distanceToday_5 : decode cX6_distanceToday 5 = .ok (.aload_n 0, 1) := by decide +kernel
theorem dX6_distanceToday_6 : decode cX6_distanceToday 6 = .ok (.getfield 7, 3) := by decide +kernel
theorem dX6_distanceToday_9 : decode cX6_distanceToday 9 = .ok (.invokestatic 137, 3) := by decide +kernel
theorem dX6_distanceToday_12 : decode cX6_distanceToday 12 = .ok (.ifCond .eq 5, 3) := by decide +kernel
theorem dX6_distanceToday_15 : decode cX6_distanceToday 15 = .ok (.iconst 0, 1) := by decide +kernel
theorem dX6_distanceToday_16 : decode cX6_distanceToday 16 = .ok (.ireturn, 1) := by decide +kernel
theorem dX6_distanceToday_17 : decode cX6_distanceToday 17 = .ok (.aload_n 0, 1) := by decide +kernel
theorem dX6_distanceToday_18 : decode cX6_distanceToday 18 = .ok (.getfield 7, 3) := by decide +kernel
theorem dX6_distanceToday_21 : decode cX6_distanceToday 21 = .ok (.invokestatic 134, 3) := by decide +kernel
theorem dX6_distanceToday_24 : decode cX6_distanceToday 24 = .ok (.ifCond .ne 5, 3) := by decide +kernel
theorem dX6_distanceToday_27 : decode cX6_distanceToday 27 = .ok (.iconst 0, 1) := by decide +kernel
theorem dX6_distanceToday_28 : decode cX6_distanceToday 28 = .ok (.ireturn, 1) := by decide +kernel
theorem dX6_distanceToday_29 : decode cX6_distanceToday 29 = .ok (.aload_n 0, 1) := by decide +kernel
theorem dX6_distanceToday_30 : decode cX6_distanceToday 30 = .ok (.getfield 7, 3) := by decide +kernel
theorem dX6_distanceToday_33 : decode cX6_distanceToday 33 = .ok (.invokestatic 114, 3) := by decide +kernel
theorem dX6_distanceToday_36 : decode cX6_distanceToday 36 = .ok (.ireturn, 1) := by decide +kernel
theorem dX6_needToday_0 : decode cX6_needToday 0 = .ok (.aload_n 0, 1) := by decide +kernel
theorem dX6_needToday_1 : decode cX6_needToday 1 = .ok (.iconst 0, 1) := by decide +kernel
theorem dX6_needToday_2 : decode cX6_needToday 2 = .ok (.putfield 60, 3) := by decide +kernel
theorem dX6_needToday_5 : decode cX6_needToday 5 = .ok (.aload_n 0, 1) := by decide +kernel
theorem dX6_needToday_6 : decode cX6_needToday 6 = .ok (.iload_n 1, 1) := by decide +kernel
theorem dX6_needToday_7 : decode cX6_needToday 7 = .ok (.invokevirtual 244, 3) := by decide +kernel
theorem dX6_needToday_10 : decode cX6_needToday 10 = .ok (.ifCond .ne 9, 3) := by decide +kernel
theorem dX6_needToday_13 : decode cX6_needToday 13 = .ok (.aload_n 0, 1) := by decide +kernel
theorem dX6_needToday_14 : decode cX6_needToday 14 = .ok (.iconst 1, 1) := by decide +kernel
theorem dX6_needToday_15 : decode cX6_needToday 15 = .ok (.invokevirtual 147, 3) := by decide +kernel
theorem dX6_needToday_18 : decode cX6_needToday 18 = .ok (.ireturn, 1) := by decide +kernel
theorem dX6_needToday_19 : decode cX6_needToday 19 = .ok (.aload_n 0, 1) := by decide +kernel
theorem dX6_needToday_20 : decode cX6_needToday 20 = .ok (.getfield 7, 3) := by decide +kernel
theorem dX6_needToday_23 : decode cX6_needToday 23 = .ok (.iload_n 1, 1) := by decide +kernel
theorem dX6_needToday_24 : decode cX6_needToday 24 = .ok (.invokestatic 83, 3) := by decide +kernel
theorem dX6_needToday_27 : decode cX6_needToday 27 = .ok (.ifCond .eq 12, 3) := by decide +kernel
theorem dX6_needToday_30 : decode cX6_needToday 30 = .ok (.aload_n 0, 1) := by decide +kernel
theorem dX6_needToday_31 : decode cX6_needToday 31 = .ok (.getfield 7, 3) := by decide +kernel
theorem dX6_needToday_34 : decode cX6_needToday 34 = .ok (.iload_n 1, 1) := by decide +kernel
theorem dX6_needToday_35 : decode cX6_needToday 35 = .ok (.invokestatic 124, 3) := by decide +kernel
theorem dX6_needToday_38 : decode cX6_needToday 38 = .ok (.ireturn, 1) := by decide +kernel
theorem dX6_needToday_39 : decode cX6_needToday 39 = .ok (.iconst 0, 1) := by decide +kernel
theorem dX6_needToday_40 : decode cX6_needToday 40 = .ok (.ireturn, 1) := by decide +kernel
theorem dX6_livingAfter_0 : decode cX6_livingAfter 0 = .ok (.aload_n 0, 1) := by decide +kernel
theorem dX6_livingAfter_1 : decode cX6_livingAfter 1 = .ok (.iconst 0, 1) := by decide +kernel
theorem dX6_livingAfter_2 : decode cX6_livingAfter 2 = .ok (.putfield 60, 3) := by decide +kernel
theorem dX6_livingAfter_5 : decode cX6_livingAfter 5 = .ok (.iload_n 1, 1) := by decide +kernel
theorem dX6_livingAfter_6 : decode cX6_livingAfter 6 = .ok (.iconst 0, 1) := by decide +kernel
theorem dX6_livingAfter_7 : decode cX6_livingAfter 7 = .ok (.bipush 50, 2) := by decide +kernel
theorem dX6_livingAfter_9 : decode cX6_livingAfter 9 = .ok (.invokestatic 67, 3) := by decide +kernel
theorem dX6_livingAfter_12 : decode cX6_livingAfter 12 = .ok (.ifCond .ne 9, 3) := by decide +kernel
theorem dX6_livingAfter_15 : decode cX6_livingAfter 15 = .ok (.aload_n 0, 1) := by decide +kernel
theorem dX6_livingAfter_16 : decode cX6_livingAfter 16 = .ok (.iconst 1, 1) := by decide +kernel
theorem dX6_livingAfter_17 : decode cX6_livingAfter 17 = .ok (.invokevirtual 147, 3) := by decide +kernel
theorem dX6_livingAfter_20 : decode cX6_livingAfter 20 = .ok (.ireturn, 1) := by decide +kernel
theorem dX6_livingAfter_21 : decode cX6_livingAfter 21 = .ok (.aload_n 0, 1) := by decide +kernel
theorem dX6_livingAfter_22 : decode cX6_livingAfter 22 = .ok (.invokevirtual 262, 3) := by decide +kernel
theorem dX6_livingAfter_25 : decode cX6_livingAfter 25 = .ok (.iconst 0, 1) := by decide +kernel
theorem dX6_livingAfter_26 : decode cX6_livingAfter 26 = .ok (.istore_n 2, 1) := by decide +kernel
theorem dX6_livingAfter_27 : decode cX6_livingAfter 27 = .ok (.iload_n 2, 1) := by decide +kernel
theorem dX6_livingAfter_28 : decode cX6_livingAfter 28 = .ok (.iload_n 1, 1) := by decide +kernel
theorem dX6_livingAfter_29 : decode cX6_livingAfter 29 = .ok (.if_icmp .ge 27, 3) := by decide +kernel
theorem dX6_livingAfter_32 : decode cX6_livingAfter 32 = .ok (.aload_n 0, 1) := by decide +kernel
theorem dX6_livingAfter_33 : decode cX6_livingAfter 33 = .ok (.getfield 16, 3) := by decide +kernel
theorem dX6_livingAfter_36 : decode cX6_livingAfter 36 = .ok (.invokestatic 265, 3) := by decide +kernel
theorem dX6_livingAfter_39 : decode cX6_livingAfter 39 = .ok (.ifCond .eq 17, 3) := by decide +kernel
theorem dX6_livingAfter_42 : decode cX6_livingAfter 42 = .ok (.aload_n 0, 1) := by decide +kernel
theorem dX6_livingAfter_43 : decode cX6_livingAfter 43 = .ok (.getfield 16, 3) := by decide +kernel
theorem dX6_livingAfter_46 : decode cX6_livingAfter 46 = .ok (.invokestatic 268, 3) := by decide +kernel
theorem dX6_livingAfter_49 : decode cX6_livingAfter 49 = .ok (.pop, 1) := by decide +kernel
theorem dX6_livingAfter_50 : decode cX6_livingAfter 50 = .ok (.iinc 2 1, 3) := by decide +kernel
theorem dX6_livingAfter_53 : decode cX6_livingAfter 53 = .ok (.goto (-26), 3) := by decide +kernel
theorem dX6_livingAfter_56 : decode cX6_livingAfter 56 = .ok (.aload_n 0, 1) := by decide +kernel
theorem dX6_livingAfter_57 : decode cX6_livingAfter 57 = .ok (.getfield 16, 3) := by decide +kernel
theorem dX6_livingAfter_60 : decode cX6_livingAfter 60 = .ok (.invokestatic 134, 3) := by decide +kernel
theorem dX6_livingAfter_63 : decode cX6_livingAfter 63 = .ok (.ireturn, 1) := by decide +kernel
theorem dX6_daysToArrival_0 : decode cX6_daysToArrival 0 = .ok (.aload_n 0, 1) := by decide +kernel
theorem dX6_daysToArrival_1 : decode cX6_daysToArrival 1 = .ok (.iconst 0, 1) := by decide +kernel
theorem dX6_daysToArrival_2 : decode cX6_daysToArrival 2 = .ok (.putfield 60, 3) := by decide +kernel
theorem dX6_daysToArrival_5 : decode cX6_daysToArrival 5 = .ok (.aload_n 0, 1) := by decide +kernel
theorem dX6_daysToArrival_6 : decode cX6_daysToArrival 6 = .ok (.invokevirtual 262, 3) := by decide +kernel
theorem dX6_daysToArrival_9 : decode cX6_daysToArrival 9 = .ok (.iconst 0, 1) := by decide +kernel
theorem dX6_daysToArrival_10 : decode cX6_daysToArrival 10 = .ok (.istore_n 1, 1) := by decide +kernel
theorem dX6_daysToArrival_11 : decode cX6_daysToArrival 11 = .ok (.aload_n 0, 1) := by decide +kernel
theorem dX6_daysToArrival_12 : decode cX6_daysToArrival 12 = .ok (.getfield 16, 3) := by decide +kernel
theorem dX6_daysToArrival_15 : decode cX6_daysToArrival 15 = .ok (.invokestatic 265, 3) := by decide +kernel
theorem dX6_daysToArrival_18 : decode cX6_daysToArrival 18 = .ok (.ifCond .eq 17, 3) := by decide +kernel
theorem dX6_daysToArrival_21 : decode cX6_daysToArrival 21 = .ok (.aload_n 0, 1) := by decide +kernel
theorem dX6_daysToArrival_22 : decode cX6_daysToArrival 22 = .ok (.getfield 16, 3) := by decide +kernel
theorem dX6_daysToArrival_25 : decode cX6_daysToArrival 25 = .ok (.invokestatic 268, 3) := by decide +kernel
theorem dX6_daysToArrival_28 : decode cX6_daysToArrival 28 = .ok (.pop, 1) := by decide +kernel
theorem dX6_daysToArrival_29 : decode cX6_daysToArrival 29 = .ok (.iinc 1 1, 3) := by decide +kernel
theorem dX6_daysToArrival_32 : decode cX6_daysToArrival 32 = .ok (.goto (-21), 3) := by decide +kernel
theorem dX6_daysToArrival_35 : decode cX6_daysToArrival 35 = .ok (.aload_n 0, 1) := by decide +kernel
theorem dX6_daysToArrival_36 : decode cX6_daysToArrival 36 = .ok (.getfield 16, 3) := by decide +kernel
theorem dX6_daysToArrival_39 : decode cX6_daysToArrival 39 = .ok (.invokestatic 137, 3) := by decide +kernel
theorem dX6_daysToArrival_42 : decode cX6_daysToArrival 42 = .ok (.ifCond .eq 5, 3) := by decide +kernel
theorem dX6_daysToArrival_45 : decode cX6_daysToArrival 45 = .ok (.iload_n 1, 1) := by decide +kernel
theorem dX6_daysToArrival_46 : decode cX6_daysToArrival 46 = .ok (.ireturn, 1) := by decide +kernel
theorem dX6_daysToArrival_47 : decode cX6_daysToArrival 47 = .ok (.aload_n 0, 1) := by decide +kernel
theorem dX6_daysToArrival_48 : decode cX6_daysToArrival 48 = .ok (.iconst 1, 1) := by decide +kernel
theorem dX6_daysToArrival_49 : decode cX6_daysToArrival 49 = .ok (.invokevirtual 147, 3) := by decide +kernel
theorem dX6_daysToArrival_52 : decode cX6_daysToArrival 52 = .ok (.ireturn, 1) := by decide +kernel
theorem dX6_wouldDrink_0 : decode cX6_wouldDrink 0 = .ok (.aload_n 0, 1) := by decide +kernel
theorem dX6_wouldDrink_1 : decode cX6_wouldDrink 1 = .ok (.iconst 0, 1) := by decide +kernel
theorem dX6_wouldDrink_2 : decode cX6_wouldDrink 2 = .ok (.putfield 60, 3) := by decide +kernel
theorem dX6_wouldDrink_5 : decode cX6_wouldDrink 5 = .ok (.aload_n 0, 1) := by decide +kernel
theorem dX6_wouldDrink_6 : decode cX6_wouldDrink 6 = .ok (.iload_n 1, 1) := by decide +kernel
theorem dX6_wouldDrink_7 : decode cX6_wouldDrink 7 = .ok (.invokevirtual 244, 3) := by decide +kernel
theorem dX6_wouldDrink_10 : decode cX6_wouldDrink 10 = .ok (.ifCond .ne 9, 3) := by decide +kernel
theorem dX6_wouldDrink_13 : decode cX6_wouldDrink 13 = .ok (.aload_n 0, 1) := by decide +kernel
theorem dX6_wouldDrink_14 : decode cX6_wouldDrink 14 = .ok (.iconst 1, 1) := by decide +kernel
theorem dX6_wouldDrink_15 : decode cX6_wouldDrink 15 = .ok (.invokevirtual 147, 3) := by decide +kernel
theorem dX6_wouldDrink_18 : decode cX6_wouldDrink 18 = .ok (.ireturn, 1) := by decide +kernel
theorem dX6_wouldDrink_19 : decode cX6_wouldDrink 19 = .ok (.aload_n 0, 1) := by decide +kernel
theorem dX6_wouldDrink_20 : decode cX6_wouldDrink 20 = .ok (.getfield 7, 3) := by decide +kernel
theorem dX6_wouldDrink_23 : decode cX6_wouldDrink 23 = .ok (.aload_n 0, 1) := by decide +kernel
theorem dX6_wouldDrink_24 : decode cX6_wouldDrink 24 = .ok (.getfield 7, 3) := by decide +kernel
theorem dX6_wouldDrink_27 : decode cX6_wouldDrink 27 = .ok (.iconst 1, 1) := by decide +kernel
theorem dX6_wouldDrink_28 : decode cX6_wouldDrink 28 = .ok (.iaload, 1) := by decide +kernel
theorem dX6_wouldDrink_29 : decode cX6_wouldDrink 29 = .ok (.invokestatic 204, 3) := by decide +kernel
theorem dX6_wouldDrink_32 : decode cX6_wouldDrink 32 = .ok (.istore_n 2, 1) := by decide +kernel
theorem dX6_wouldDrink_33 : decode cX6_wouldDrink 33 = .ok (.iload_n 2, 1) := by decide +kernel
theorem dX6_wouldDrink_34 : decode cX6_wouldDrink 34 = .ok (.ifCond .ge 9, 3) := by decide +kernel
theorem dX6_wouldDrink_37 : decode cX6_wouldDrink 37 = .ok (.aload_n 0, 1) := by decide +kernel
theorem dX6_wouldDrink_38 : decode cX6_wouldDrink 38 = .ok (.iconst 2, 1) := by decide +kernel
theorem dX6_wouldDrink_39 : decode cX6_wouldDrink 39 = .ok (.invokevirtual 147, 3) := by decide +kernel
theorem dX6_wouldDrink_42 : decode cX6_wouldDrink 42 = .ok (.ireturn, 1) := by decide +kernel
theorem dX6_wouldDrink_43 : decode cX6_wouldDrink 43 = .ok (.aload_n 0, 1) := by decide +kernel
theorem dX6_wouldDrink_44 : decode cX6_wouldDrink 44 = .ok (.aload_n 0, 1) := by decide +kernel
theorem dX6_wouldDrink_45 : decode cX6_wouldDrink 45 = .ok (.getfield 7, 3) := by decide +kernel
theorem dX6_wouldDrink_48 : decode cX6_wouldDrink 48 = .ok (.iload_n 2, 1) := by decide +kernel
