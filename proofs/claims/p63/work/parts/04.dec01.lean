theorem dX0_shareOut_17 : decode cX0_shareOut 17 = .ok (.iinc 3 1, 3) := by decide +kernel
theorem dX0_shareOut_20 : decode cX0_shareOut 20 = .ok (.goto (-18), 3) := by decide +kernel
theorem dX0_shareOut_23 : decode cX0_shareOut 23 = .ok (.aload_n 0, 1) := by decide +kernel
theorem dX0_shareOut_24 : decode cX0_shareOut 24 = .ok (.getfield 27, 3) := by decide +kernel
theorem dX0_shareOut_27 : decode cX0_shareOut 27 = .ok (.iload_n 1, 1) := by decide +kernel
theorem dX0_shareOut_28 : decode cX0_shareOut 28 = .ok (.iaload, 1) := by decide +kernel
theorem dX0_shareOut_29 : decode cX0_shareOut 29 = .ok (.istore_n 3, 1) := by decide +kernel
theorem dX0_shareOut_30 : decode cX0_shareOut 30 = .ok (.iconst 0, 1) := by decide +kernel
theorem dX0_shareOut_31 : decode cX0_shareOut 31 = .ok (.istore 4, 2) := by decide +kernel
theorem dX0_shareOut_33 : decode cX0_shareOut 33 = .ok (.iload 4, 2) := by decide +kernel
theorem dX0_shareOut_35 : decode cX0_shareOut 35 = .ok (.aload_n 0, 1) := by decide +kernel
theorem dX0_shareOut_36 : decode cX0_shareOut 36 = .ok (.getfield 42, 3) := by decide +kernel
theorem dX0_shareOut_39 : decode cX0_shareOut 39 = .ok (.getfield 72, 3) := by decide +kernel
theorem dX0_shareOut_42 : decode cX0_shareOut 42 = .ok (.if_icmp .ge 56, 3) := by decide +kernel
theorem dX0_shareOut_45 : decode cX0_shareOut 45 = .ok (.aload_n 0, 1) := by decide +kernel
theorem dX0_shareOut_46 : decode cX0_shareOut 46 = .ok (.aload_n 2, 1) := by decide +kernel
theorem dX0_shareOut_47 : decode cX0_shareOut 47 = .ok (.invokevirtual 167, 3) := by decide +kernel
theorem dX0_shareOut_50 : decode cX0_shareOut 50 = .ok (.istore 5, 2) := by decide +kernel
theorem dX0_shareOut_52 : decode cX0_shareOut 52 = .ok (.iload 5, 2) := by decide +kernel
theorem dX0_shareOut_54 : decode cX0_shareOut 54 = .ok (.iconst (-1), 1) := by decide +kernel
theorem dX0_shareOut_55 : decode cX0_shareOut 55 = .ok (.if_icmp .ne 4, 3) := by decide +kernel
theorem dX0_shareOut_58 : decode cX0_shareOut 58 = .ok (.return_, 1) := by decide +kernel
theorem dX0_shareOut_59 : decode cX0_shareOut 59 = .ok (.aload_n 2, 1) := by decide +kernel
theorem dX0_shareOut_60 : decode cX0_shareOut 60 = .ok (.iload 5, 2) := by decide +kernel
theorem dX0_shareOut_62 : decode cX0_shareOut 62 = .ok (.iload_n 3, 1) := by decide +kernel
theorem dX0_shareOut_63 : decode cX0_shareOut 63 = .ok (.aload_n 0, 1) := by decide +kernel
theorem dX0_shareOut_64 : decode cX0_shareOut 64 = .ok (.getfield 42, 3) := by decide +kernel
theorem dX0_shareOut_67 : decode cX0_shareOut 67 = .ok (.getfield 77, 3) := by decide +kernel
theorem dX0_shareOut_70 : decode cX0_shareOut 70 = .ok (.iload 5, 2) := by decide +kernel
theorem dX0_shareOut_72 : decode cX0_shareOut 72 = .ok (.iaload, 1) := by decide +kernel
theorem dX0_shareOut_73 : decode cX0_shareOut 73 = .ok (.aload_n 0, 1) := by decide +kernel
theorem dX0_shareOut_74 : decode cX0_shareOut 74 = .ok (.getfield 9, 3) := by decide +kernel
theorem dX0_shareOut_77 : decode cX0_shareOut 77 = .ok (.iload 5, 2) := by decide +kernel
theorem dX0_shareOut_79 : decode cX0_shareOut 79 = .ok (.iaload, 1) := by decide +kernel
theorem dX0_shareOut_80 : decode cX0_shareOut 80 = .ok (.isub, 1) := by decide +kernel
theorem dX0_shareOut_81 : decode cX0_shareOut 81 = .ok (.invokestatic 129, 3) := by decide +kernel
theorem dX0_shareOut_84 : decode cX0_shareOut 84 = .ok (.iastore, 1) := by decide +kernel
theorem dX0_shareOut_85 : decode cX0_shareOut 85 = .ok (.iload_n 3, 1) := by decide +kernel
theorem dX0_shareOut_86 : decode cX0_shareOut 86 = .ok (.aload_n 2, 1) := by decide +kernel
theorem dX0_shareOut_87 : decode cX0_shareOut 87 = .ok (.iload 5, 2) := by decide +kernel
theorem dX0_shareOut_89 : decode cX0_shareOut 89 = .ok (.iaload, 1) := by decide +kernel
theorem dX0_shareOut_90 : decode cX0_shareOut 90 = .ok (.isub, 1) := by decide +kernel
theorem dX0_shareOut_91 : decode cX0_shareOut 91 = .ok (.istore_n 3, 1) := by decide +kernel
theorem dX0_shareOut_92 : decode cX0_shareOut 92 = .ok (.iinc 4 1, 3) := by decide +kernel
theorem dX0_shareOut_95 : decode cX0_shareOut 95 = .ok (.goto (-62), 3) := by decide +kernel
theorem dX0_shareOut_98 : decode cX0_shareOut 98 = .ok (.return_, 1) := by decide +kernel
theorem dX0_nextToDrink_0 : decode cX0_nextToDrink 0 = .ok (.iconst (-1), 1) := by decide +kernel
theorem dX0_nextToDrink_1 : decode cX0_nextToDrink 1 = .ok (.istore_n 2, 1) := by decide +kernel
theorem dX0_nextToDrink_2 : decode cX0_nextToDrink 2 = .ok (.iconst 0, 1) := by decide +kernel
theorem dX0_nextToDrink_3 : decode cX0_nextToDrink 3 = .ok (.istore_n 3, 1) := by decide +kernel
theorem dX0_nextToDrink_4 : decode cX0_nextToDrink 4 = .ok (.iload_n 3, 1) := by decide +kernel
theorem dX0_nextToDrink_5 : decode cX0_nextToDrink 5 = .ok (.aload_n 0, 1) := by decide +kernel
theorem dX0_nextToDrink_6 : decode cX0_nextToDrink 6 = .ok (.getfield 42, 3) := by decide +kernel
theorem dX0_nextToDrink_9 : decode cX0_nextToDrink 9 = .ok (.getfield 72, 3) := by decide +kernel
theorem dX0_nextToDrink_12 : decode cX0_nextToDrink 12 = .ok (.if_icmp .ge 58, 3) := by decide +kernel
theorem dX0_nextToDrink_15 : decode cX0_nextToDrink 15 = .ok (.aload_n 0, 1) := by decide +kernel
theorem dX0_nextToDrink_16 : decode cX0_nextToDrink 16 = .ok (.iload_n 3, 1) := by decide +kernel
theorem dX0_nextToDrink_17 : decode cX0_nextToDrink 17 = .ok (.invokevirtual 104, 3) := by decide +kernel
theorem dX0_nextToDrink_20 : decode cX0_nextToDrink 20 = .ok (.ifCond .eq 14, 3) := by decide +kernel
theorem dX0_nextToDrink_23 : decode cX0_nextToDrink 23 = .ok (.aload_n 1, 1) := by decide +kernel
theorem dX0_nextToDrink_24 : decode cX0_nextToDrink 24 = .ok (.iload_n 3, 1) := by decide +kernel
theorem dX0_nextToDrink_25 : decode cX0_nextToDrink 25 = .ok (.iaload, 1) := by decide +kernel
theorem dX0_nextToDrink_26 : decode cX0_nextToDrink 26 = .ok (.iconst (-1), 1) := by decide +kernel
theorem dX0_nextToDrink_27 : decode cX0_nextToDrink 27 = .ok (.if_icmp .ne 7, 3) := by decide +kernel
theorem dX0_nextToDrink_30 : decode cX0_nextToDrink 30 = .ok (.iconst 1, 1) := by decide +kernel
theorem dX0_nextToDrink_31 : decode cX0_nextToDrink 31 = .ok (.goto 4, 3) := by decide +kernel
theorem dX0_nextToDrink_34 : decode cX0_nextToDrink 34 = .ok (.iconst 0, 1) := by decide +kernel
theorem dX0_nextToDrink_35 : decode cX0_nextToDrink 35 = .ok (.istore 4, 2) := by decide +kernel
theorem dX0_nextToDrink_37 : decode cX0_nextToDrink 37 = .ok (.iload 4, 2) := by decide +kernel
theorem dX0_nextToDrink_39 : decode cX0_nextToDrink 39 = .ok (.ifCond .eq 25, 3) := by decide +kernel
theorem dX0_nextToDrink_42 : decode cX0_nextToDrink 42 = .ok (.iload_n 2, 1) := by decide +kernel
theorem dX0_nextToDrink_43 : decode cX0_nextToDrink 43 = .ok (.iconst (-1), 1) := by decide +kernel
theorem dX0_nextToDrink_44 : decode cX0_nextToDrink 44 = .ok (.if_icmp .eq 18, 3) := by decide +kernel
theorem dX0_nextToDrink_47 : decode cX0_nextToDrink 47 = .ok (.aload_n 0, 1) := by decide +kernel
theorem dX0_nextToDrink_48 : decode cX0_nextToDrink 48 = .ok (.getfield 9, 3) := by decide +kernel
theorem dX0_nextToDrink_51 : decode cX0_nextToDrink 51 = .ok (.iload_n 3, 1) := by decide +kernel
theorem dX0_nextToDrink_52 : decode cX0_nextToDrink 52 = .ok (.iaload, 1) := by decide +kernel
theorem dX0_nextToDrink_53 : decode cX0_nextToDrink 53 = .ok (.aload_n 0, 1) := by decide +kernel
theorem dX0_nextToDrink_54 : decode cX0_nextToDrink 54 = .ok (.getfield 9, 3) := by decide +kernel
theorem dX0_nextToDrink_57 : decode cX0_nextToDrink 57 = .ok (.iload_n 2, 1) := by decide +kernel
theorem dX0_nextToDrink_58 : decode cX0_nextToDrink 58 = .ok (.iaload, 1) := by decide +kernel
theorem dX0_nextToDrink_59 : decode cX0_nextToDrink 59 = .ok (.if_icmp .ge 5, 3) := by decide +kernel
theorem dX0_nextToDrink_62 : decode cX0_nextToDrink 62 = .ok (.iload_n 3, 1) := by decide +kernel
theorem dX0_nextToDrink_63 : decode cX0_nextToDrink 63 = .ok (.istore_n 2, 1) := by decide +kernel
theorem dX0_nextToDrink_64 : decode cX0_nextToDrink 64 = .ok (.iinc 3 1, 3) := by decide +kernel
theorem dX0_nextToDrink_67 : decode cX0_nextToDrink 67 = .ok (.goto (-63), 3) := by decide +kernel
theorem dX0_nextToDrink_70 : decode cX0_nextToDrink 70 = .ok (.iload_n 2, 1) := by decide +kernel
theorem dX0_nextToDrink_71 : decode cX0_nextToDrink 71 = .ok (.ireturn, 1) := by decide +kernel
theorem dX0_takeShares_0 : decode cX0_takeShares 0 = .ok (.iconst 0, 1) := by decide +kernel
theorem dX0_takeShares_1 : decode cX0_takeShares 1 = .ok (.istore_n 3, 1) := by decide +kernel
theorem dX0_takeShares_2 : decode cX0_takeShares 2 = .ok (.iconst 0, 1) := by decide +kernel
theorem dX0_takeShares_3 : decode cX0_takeShares 3 = .ok (.istore 4, 2) := by decide +kernel
theorem dX0_takeShares_5 : decode cX0_takeShares 5 = .ok (.iload 4, 2) := by decide +kernel
theorem dX0_takeShares_7 : decode cX0_takeShares 7 = .ok (.aload_n 0, 1) := by decide +kernel
theorem dX0_takeShares_8 : decode cX0_takeShares 8 = .ok (.getfield 42, 3) := by decide +kernel
theorem dX0_takeShares_11 : decode cX0_takeShares 11 = .ok (.getfield 72, 3) := by decide +kernel
theorem dX0_takeShares_14 : decode cX0_takeShares 14 = .ok (.if_icmp .ge 38, 3) := by decide +kernel
theorem dX0_takeShares_17 : decode cX0_takeShares 17 = .ok (.aload_n 2, 1) := by decide +kernel
theorem dX0_takeShares_18 : decode cX0_takeShares 18 = .ok (.iload 4, 2) := by decide +kernel
theorem dX0_takeShares_20 : decode cX0_takeShares 20 = .ok (.iaload, 1) := by decide +kernel
theorem dX0_takeShares_21 : decode cX0_takeShares 21 = .ok (.iconst (-1), 1) := by decide +kernel
theorem dX0_takeShares_22 : decode cX0_takeShares 22 = .ok (.if_icmp .eq 24, 3) := by decide +kernel
theorem dX0_takeShares_25 : decode cX0_takeShares 25 = .ok (.aload_n 0, 1) := by decide +kernel
theorem dX0_takeShares_26 : decode cX0_takeShares 26 = .ok (.getfield 9, 3) := by decide +kernel
theorem dX0_takeShares_29 : decode cX0_takeShares 29 = .ok (.iload 4, 2) := by decide +kernel
theorem dX0_takeShares_31 : decode cX0_takeShares 31 = .ok (.dup2, 1) := by decide +kernel
theorem dX0_takeShares_32 : decode cX0_takeShares 32 = .ok (.iaload, 1) := by decide +kernel
theorem dX0_takeShares_33 : decode cX0_takeShares 33 = .ok (.aload_n 2, 1) := by decide +kernel
theorem dX0_takeShares_34 : decode cX0_takeShares 34 = .ok (.iload 4, 2) := by decide +kernel
theorem dX0_takeShares_36 : decode cX0_takeShares 36 = .ok (.iaload, 1) := by decide +kernel
theorem dX0_takeShares_37 : decode cX0_takeShares 37 = .ok (.iadd, 1) := by decide +kernel
theorem dX0_takeShares_38 : decode cX0_takeShares 38 = .ok (.iastore, 1) := by decide +kernel
theorem dX0_takeShares_39 : decode cX0_takeShares 39 = .ok (.iload_n 3, 1) := by decide +kernel
theorem dX0_takeShares_40 : decode cX0_takeShares 40 = .ok (.aload_n 2, 1) := by decide +kernel
theorem dX0_takeShares_41 : decode cX0_takeShares 41 = .ok (.iload 4, 2) := by decide +kernel
theorem dX0_takeShares_43 : decode cX0_takeShares 43 = .ok (.iaload, 1) := by decide +kernel
theorem dX0_takeShares_44 : decode cX0_takeShares 44 = .ok (.iadd, 1) := by decide +kernel
theorem dX0_takeShares_45 : decode cX0_takeShares 45 = .ok (.istore_n 3, 1) := by decide +kernel
theorem dX0_takeShares_46 : decode cX0_takeShares 46 = .ok (.iinc 4 1, 3) := by decide +kernel
theorem dX0_takeShares_49 : decode cX0_takeShares 49 = .ok (.goto (-44), 3) := by decide +kernel
theorem dX0_takeShares_52 : decode cX0_takeShares 52 = .ok (.aload_n 0, 1) := by decide +kernel
theorem dX0_takeShares_53 : decode cX0_takeShares 53 = .ok (.getfield 27, 3) := by decide +kernel
theorem dX0_takeShares_56 : decode cX0_takeShares 56 = .ok (.iload_n 1, 1) := by decide +kernel
theorem dX0_takeShares_57 : decode cX0_takeShares 57 = .ok (.dup2, 1) := by decide +kernel
theorem dX0_takeShares_58 : decode cX0_takeShares 58 = .ok (.iaload, 1) := by decide +kernel
theorem dX0_takeShares_59 : decode cX0_takeShares 59 = .ok (.iload_n 3, 1) := by decide +kernel
theorem dX0_takeShares_60 : decode cX0_takeShares 60 = .ok (.isub, 1) := by decide +kernel
theorem dX0_takeShares_61 : decode cX0_takeShares 61 = .ok (.iastore, 1) := by decide +kernel
theorem dX0_takeShares_62 : decode cX0_takeShares 62 = .ok (.aload_n 0, 1) := by decide +kernel
theorem dX0_takeShares_63 : decode cX0_takeShares 63 = .ok (.dup, 1) := by decide +kernel
theorem dX0_takeShares_64 : decode cX0_takeShares 64 = .ok (.getfield 60, 3) := by decide +kernel
theorem dX0_takeShares_67 : decode cX0_takeShares 67 = .ok (.iload_n 3, 1) := by decide +kernel
theorem dX0_takeShares_68 : decode cX0_takeShares 68 = .ok (.iadd, 1) := by decide +kernel
theorem dX0_takeShares_69 : decode cX0_takeShares 69 = .ok (.putfield 60, 3) := by decide +kernel
theorem dX0_takeShares_72 : decode cX0_takeShares 72 = .ok (.iload_n 3, 1) := by decide +kernel
theorem dX0_takeShares_73 : decode cX0_takeShares 73 = .ok (.ireturn, 1) := by decide +kernel
theorem dX1_init_0 : decode cX1_init 0 = .ok (.aload_n 0, 1) := by decide +kernel
theorem dX1_init_1 : decode cX1_init 1 = .ok (.invokespecial 3, 3) := by decide +kernel
theorem dX1_init_4 : decode cX1_init 4 = .ok (.aload_n 0, 1) := by decide +kernel
theorem dX1_init_5 : decode cX1_init 5 = .ok (.bipush 8, 2) := by decide +kernel
theorem dX1_init_7 : decode cX1_init 7 = .ok (.anewarray 9, 3) := by decide +kernel
theorem dX1_init_10 : decode cX1_init 10 = .ok (.putfield 11, 3) := by decide +kernel
theorem dX1_init_13 : decode cX1_init 13 = .ok (.iconst 0, 1) := by decide +kernel
theorem dX1_init_14 : decode cX1_init 14 = .ok (.istore_n 2, 1) := by decide +kernel
theorem dX1_init_15 : decode cX1_init 15 = .ok (.iload_n 2, 1) := by decide +kernel
theorem dX1_init_16 : decode cX1_init 16 = .ok (.bipush 8, 2) := by decide +kernel
theorem dX1_init_18 : decode cX1_init 18 = .ok (.if_icmp .ge 23, 3) := by decide +kernel
theorem dX1_init_21 : decode cX1_init 21 = .ok (.aload_n 0, 1) := by decide +kernel
theorem dX1_init_22 : decode cX1_init 22 = .ok (.getfield 11, 3) := by decide +kernel
theorem dX1_init_25 : decode cX1_init 25 = .ok (.iload_n 2, 1) := by decide +kernel
theorem dX1_init_26 : decode cX1_init 26 = .ok (.new 9, 3) := by decide +kernel
theorem dX1_init_29 : decode cX1_init 29 = .ok (.dup, 1) := by decide +kernel
theorem dX1_init_30 : decode cX1_init 30 = .ok (.aload_n 1, 1) := by decide +kernel
theorem dX1_init_31 : decode cX1_init 31 = .ok (.invokespecial 17, 3) := by decide +kernel
theorem dX1_init_34 : decode cX1_init 34 = .ok (.aastore, 1) := by decide +kernel
theorem dX1_init_35 : decode cX1_init 35 = .ok (.iinc 2 1, 3) := by decide +kernel
theorem dX1_init_38 : decode cX1_init 38 = .ok (.goto (-23), 3) := by decide +kernel
theorem dX1_init_41 : decode cX1_init 41 = .ok (.return_, 1) := by decide +kernel
theorem dX1_forget_0 : decode cX1_forget 0 = .ok (.aload_n 0, 1) := by decide +kernel
theorem dX1_forget_1 : decode cX1_forget 1 = .ok (.iconst 0, 1) := by decide +kernel
theorem dX1_forget_2 : decode cX1_forget 2 = .ok (.putfield 20, 3) := by decide +kernel
theorem dX1_forget_5 : decode cX1_forget 5 = .ok (.return_, 1) := by decide +kernel
theorem dX1_remember_0 : decode cX1_remember 0 = .ok (.aload_n 0, 1) := by decide +kernel
theorem dX1_remember_1 : decode cX1_remember 1 = .ok (.getfield 11, 3) := by decide +kernel
theorem dX1_remember_4 : decode cX1_remember 4 = .ok (.aload_n 0, 1) := by decide +kernel
theorem dX1_remember_5 : decode cX1_remember 5 = .ok (.getfield 24, 3) := by decide +kernel
theorem dX1_remember_8 : decode cX1_remember 8 = .ok (.aaload, 1) := by decide +kernel
theorem dX1_remember_9 : decode cX1_remember 9 = .ok (.aload_n 1, 1) := by decide +kernel
theorem dX1_remember_10 : decode cX1_remember 10 = .ok (.invokevirtual 27, 3) := by decide +kernel
theorem dX1_remember_13 : decode cX1_remember 13 = .ok (.aload_n 0, 1) := by decide +kernel
theorem dX1_remember_14 : decode cX1_remember 14 = .ok (.aload_n 0, 1) := by decide +kernel
theorem dX1_remember_15 : decode cX1_remember 15 = .ok (.getfield 24, 3) := by decide +kernel
theorem dX1_remember_18 : decode cX1_remember 18 = .ok (.iconst 1, 1) := by decide +kernel
theorem dX1_remember_19 : decode cX1_remember 19 = .ok (.iadd, 1) := by decide +kernel
theorem dX1_remember_20 : decode cX1_remember 20 = .ok (.bipush 8, 2) := by decide +kernel
theorem dX1_remember_22 : decode cX1_remember 22 = .ok (.if_icmp .ge 12, 3) := by decide +kernel
theorem dX1_remember_25 : decode cX1_remember 25 = .ok (.aload_n 0, 1) := by decide +kernel
theorem dX1_remember_26 : decode cX1_remember 26 = .ok (.getfield 24, 3) := by decide +kernel
theorem dX1_remember_29 : decode cX1_remember 29 = .ok (.iconst 1, 1) := by decide +kernel
theorem dX1_remember_30 : decode cX1_remember 30 = .ok (.iadd, 1) := by decide +kernel
theorem dX1_remember_31 : decode cX1_remember 31 = .ok (.goto 4, 3) := by decide +kernel
theorem dX1_remember_34 : decode cX1_remember 34 = .ok (.iconst 0, 1) := by decide +kernel
theorem dX1_remember_35 : decode cX1_remember 35 = .ok (.putfield 24, 3) := by decide +kernel
theorem dX1_remember_38 : decode cX1_remember 38 = .ok (.aload_n 0, 1) := by decide +kernel
theorem dX1_remember_39 : decode cX1_remember 39 = .ok (.bipush 8, 2) := by decide +kernel
theorem dX1_remember_41 : decode cX1_remember 41 = .ok (.aload_n 0, 1) := by decide +kernel
theorem dX1_remember_42 : decode cX1_remember 42 = .ok (.getfield 20, 3) := by decide +kernel
theorem dX1_remember_45 : decode cX1_remember 45 = .ok (.iconst 1, 1) := by decide +kernel
theorem dX1_remember_46 : decode cX1_remember 46 = .ok (.iadd, 1) := by decide +kernel
theorem dX1_remember_47 : decode cX1_remember 47 = .ok (.invokestatic 31, 3) := by decide +kernel
theorem dX1_remember_50 : decode cX1_remember 50 = .ok (.putfield 20, 3) := by decide +kernel
theorem dX1_remember_53 : decode cX1_remember 53 = .ok (.return_, 1) := by decide +kernel
theorem dX1_takeBack_0 : decode cX1_takeBack 0 = .ok (.aload_n 0, 1) := by decide +kernel
theorem dX1_takeBack_1 : decode cX1_takeBack 1 = .ok (.getfield 20, 3) := by decide +kernel
theorem dX1_takeBack_4 : decode cX1_takeBack 4 = .ok (.ifCond .le 48, 3) := by decide +kernel
theorem dX1_takeBack_7 : decode cX1_takeBack 7 = .ok (.aload_n 0, 1) := by decide +kernel
theorem dX1_takeBack_8 : decode cX1_takeBack 8 = .ok (.aload_n 0, 1) := by decide +kernel
theorem dX1_takeBack_9 : decode cX1_takeBack 9 = .ok (.getfield 24, 3) := by decide +kernel
theorem dX1_takeBack_12 : decode cX1_takeBack 12 = .ok (.ifCond .le 12, 3) := by decide +kernel
theorem dX1_takeBack_15 : decode cX1_takeBack 15 = .ok (.aload_n 0, 1) := by decide +kernel
theorem dX1_takeBack_16 : decode cX1_takeBack 16 = .ok (.getfield 24, 3) := by decide +kernel
theorem dX1_takeBack_19 : decode cX1_takeBack 19 = .ok (.iconst 1, 1) := by decide +kernel
theorem dX1_takeBack_20 : decode cX1_takeBack 20 = .ok (.isub, 1) := by decide +kernel
theorem dX1_takeBack_21 : decode cX1_takeBack 21 = .ok (.goto 5, 3) := by decide +kernel
theorem dX1_takeBack_24 : decode cX1_takeBack 24 = .ok (.bipush 7, 2) := by decide +kernel
theorem dX1_takeBack_26 : decode cX1_takeBack 26 = .ok (.putfield 24, 3) := by decide +kernel
theorem dX1_takeBack_29 : decode cX1_takeBack 29 = .ok (.aload_n 0, 1) := by decide +kernel
theorem dX1_takeBack_30 : decode cX1_takeBack 30 = .ok (.dup, 1) := by decide +kernel
theorem dX1_takeBack_31 : decode cX1_takeBack 31 = .ok (.getfield 20, 3) := by decide +kernel
theorem dX1_takeBack_34 : decode cX1_takeBack 34 = .ok (.iconst 1, 1) := by decide +kernel
theorem dX1_takeBack_35 : decode cX1_takeBack 35 = .ok (.isub, 1) := by decide +kernel
theorem dX1_takeBack_36 : decode cX1_takeBack 36 = .ok (.putfield 20, 3) := by decide +kernel
theorem dX1_takeBack_39 : decode cX1_takeBack 39 = .ok (.aload_n 1, 1) := by decide +kernel
theorem dX1_takeBack_40 : decode cX1_takeBack 40 = .ok (.aload_n 0, 1) := by decide +kernel
theorem dX1_takeBack_41 : decode cX1_takeBack 41 = .ok (.getfield 11, 3) := by decide +kernel
theorem dX1_takeBack_44 : decode cX1_takeBack 44 = .ok (.aload_n 0, 1) := by decide +kernel
theorem dX1_takeBack_45 : decode cX1_takeBack 45 = .ok (.getfield 24, 3) := by decide +kernel
theorem dX1_takeBack_48 : decode cX1_takeBack 48 = .ok (.aaload, 1) := by decide +kernel
theorem dX1_takeBack_49 : decode cX1_takeBack 49 = .ok (.invokevirtual 27, 3) := by decide +kernel
theorem dX1_takeBack_52 : decode cX1_takeBack 52 = .ok (.return_, 1) := by decide +kernel
theorem dX2_init_0 : decode cX2_init 0 = .ok (.aload_n 0, 1) := by decide +kernel
theorem dX2_init_1 : decode cX2_init 1 = .ok (.invokespecial 3, 3) := by decide +kernel
theorem dX2_init_4 : decode cX2_init 4 = .ok (.aload_n 0, 1) := by decide +kernel
theorem dX2_init_5 : decode cX2_init 5 = .ok (.sipush 700, 3) := by decide +kernel
theorem dX2_init_8 : decode cX2_init 8 = .ok (.newarray .byte, 2) := by decide +kernel
theorem dX2_init_10 : decode cX2_init 10 = .ok (.putfield 9, 3) := by decide +kernel
theorem dX2_init_13 : decode cX2_init 13 = .ok (.aload_n 0, 1) := by decide +kernel
theorem dX2_init_14 : decode cX2_init 14 = .ok (.new 15, 3) := by decide +kernel
theorem dX2_init_17 : decode cX2_init 17 = .ok (.dup, 1) := by decide +kernel
theorem dX2_init_18 : decode cX2_init 18 = .ok (.new 17, 3) := by decide +kernel
theorem dX2_init_21 : decode cX2_init 21 = .ok (.dup, 1) := by decide +kernel
theorem dX2_init_22 : decode cX2_init 22 = .ok (.invokespecial 19, 3) := by decide +kernel
theorem dX2_init_25 : decode cX2_init 25 = .ok (.invokespecial 20, 3) := by decide +kernel
theorem dX2_init_28 : decode cX2_init 28 = .ok (.putfield 23, 3) := by decide +kernel
theorem dX2_init_31 : decode cX2_init 31 = .ok (.return_, 1) := by decide +kernel
theorem dX2_takeFour_0 : decode cX2_takeFour 0 = .ok (.bipush 24, 2) := by decide +kernel
theorem dX2_takeFour_2 : decode cX2_takeFour 2 = .ok (.istore_n 2, 1) := by decide +kernel
theorem dX2_takeFour_3 : decode cX2_takeFour 3 = .ok (.iload_n 2, 1) := by decide +kernel
theorem dX2_takeFour_4 : decode cX2_takeFour 4 = .ok (.ifCond .lt 16, 3) := by decide +kernel
theorem dX2_takeFour_7 : decode cX2_takeFour 7 = .ok (.aload_n 0, 1) := by decide +kernel
theorem dX2_takeFour_8 : decode cX2_takeFour 8 = .ok (.iload_n 1, 1) := by decide +kernel
theorem dX2_takeFour_9 : decode cX2_takeFour 9 = .ok (.iload_n 2, 1) := by decide +kernel
theorem dX2_takeFour_10 : decode cX2_takeFour 10 = .ok (.iushr, 1) := by decide +kernel
theorem dX2_takeFour_11 : decode cX2_takeFour 11 = .ok (.invokevirtual 27, 3) := by decide +kernel
theorem dX2_takeFour_14 : decode cX2_takeFour 14 = .ok (.iinc 2 (-8), 3) := by decide +kernel
theorem dX2_takeFour_17 : decode cX2_takeFour 17 = .ok (.goto (-14), 3) := by decide +kernel
theorem dX2_takeFour_20 : decode cX2_takeFour 20 = .ok (.return_, 1) := by decide +kernel
theorem dX2_takeText_0 : decode cX2_takeText 0 = .ok (.iconst 0, 1) := by decide +kernel
theorem dX2_takeText_1 : decode cX2_takeText 1 = .ok (.istore_n 2, 1) := by decide +kernel
theorem dX2_takeText_2 : decode cX2_takeText 2 = .ok (.iload_n 2, 1) := by decide +kernel
theorem dX2_takeText_3 : decode cX2_takeText 3 = .ok (.aload_n 1, 1) := by decide +kernel
theorem dX2_takeText_4 : decode cX2_takeText 4 = .ok (.invokevirtual 31, 3) := by decide +kernel
theorem dX2_takeText_7 : decode cX2_takeText 7 = .ok (.if_icmp .ge 18, 3) := by decide +kernel
theorem dX2_takeText_10 : decode cX2_takeText 10 = .ok (.aload_n 0, 1) := by decide +kernel
theorem dX2_takeText_11 : decode cX2_takeText 11 = .ok (.aload_n 1, 1) := by decide +kernel
theorem dX2_takeText_12 : decode cX2_takeText 12 = .ok (.iload_n 2, 1) := by decide +kernel
theorem dX2_takeText_13 : decode cX2_takeText 13 = .ok (.invokevirtual 37, 3) := by decide +kernel
theorem dX2_takeText_16 : decode cX2_takeText 16 = .ok (.invokevirtual 27, 3) := by decide +kernel
theorem dX2_takeText_19 : decode cX2_takeText 19 = .ok (.iinc 2 1, 3) := by decide +kernel
theorem dX2_takeText_22 : decode cX2_takeText 22 = .ok (.goto (-20), 3) := by decide +kernel
theorem dX2_takeText_25 : decode cX2_takeText 25 = .ok (.return_, 1) := by decide +kernel
theorem dX2_takeByte_0 : decode cX2_takeByte 0 = .ok (.aload_n 0, 1) := by decide +kernel
theorem dX2_takeByte_1 : decode cX2_takeByte 1 = .ok (.getfield 41, 3) := by decide +kernel
theorem dX2_takeByte_4 : decode cX2_takeByte 4 = .ok (.sipush 700, 3) := by decide +kernel
theorem dX2_takeByte_7 : decode cX2_takeByte 7 = .ok (.if_icmp .ge 24, 3) := by decide +kernel
theorem dX2_takeByte_10 : decode cX2_takeByte 10 = .ok (.aload_n 0, 1) := by decide +kernel
theorem dX2_takeByte_11 : decode cX2_takeByte 11 = .ok (.getfield 9, 3) := by decide +kernel
theorem dX2_takeByte_14 : decode cX2_takeByte 14 = .ok (.aload_n 0, 1) := by decide +kernel
theorem dX2_takeByte_15 : decode cX2_takeByte 15 = .ok (.getfield 41, 3) := by decide +kernel
theorem dX2_takeByte_18 : decode cX2_takeByte 18 = .ok (.iload_n 1, 1) := by decide +kernel
theorem dX2_takeByte_19 : decode cX2_takeByte 19 = .ok (.i2b, 1) := by decide +kernel
theorem dX2_takeByte_20 : decode cX2_takeByte 20 = .ok (.bastore, 1) := by decide +kernel
theorem dX2_takeByte_21 : decode cX2_takeByte 21 = .ok (.aload_n 0, 1) := by decide +kernel
theorem dX2_takeByte_22 : decode cX2_takeByte 22 = .ok (.dup, 1) := by decide +kernel
theorem dX2_takeByte_23 : decode cX2_takeByte 23 = .ok (.getfield 41, 3) := by decide +kernel
theorem dX2_takeByte_26 : decode cX2_takeByte 26 = .ok (.iconst 1, 1) := by decide +kernel
theorem dX2_takeByte_27 : decode cX2_takeByte 27 = .ok (.iadd, 1) := by decide +kernel
theorem dX2_takeByte_28 : decode cX2_takeByte 28 = .ok (.putfield 41, 3) := by decide +kernel
theorem dX2_takeByte_31 : decode cX2_takeByte 31 = .ok (.return_, 1) := by decide +kernel
theorem dX2_findError_0 : decode cX2_findError 0 = .ok (.aload_n 0, 1) := by decide +kernel
theorem dX2_findError_1 : decode cX2_findError 1 = .ok (.iconst 0, 1) := by decide +kernel
theorem dX2_findError_2 : decode cX2_findError 2 = .ok (.putfield 44, 3) := by decide +kernel
theorem dX2_findError_5 : decode cX2_findError 5 = .ok (.aload_n 0, 1) := by decide +kernel
theorem dX2_findError_6 : decode cX2_findError 6 = .ok (.invokevirtual 47, 3) := by decide +kernel
theorem dX2_findError_9 : decode cX2_findError 9 = .ok (.aload_n 0, 1) := by decide +kernel
theorem dX2_findError_10 : decode cX2_findError 10 = .ok (.invokevirtual 50, 3) := by decide +kernel
theorem dX2_findError_13 : decode cX2_findError 13 = .ok (.ifCond .eq 28, 3) := by decide +kernel
theorem dX2_findError_16 : decode cX2_findError 16 = .ok (.aload_n 0, 1) := by decide +kernel
theorem dX2_findError_17 : decode cX2_findError 17 = .ok (.invokevirtual 54, 3) := by decide +kernel
theorem dX2_findError_20 : decode cX2_findError 20 = .ok (.ifCond .eq 21, 3) := by decide +kernel
theorem dX2_findError_23 : decode cX2_findError 23 = .ok (.aload_n 0, 1) := by decide +kernel
theorem dX2_findError_24 : decode cX2_findError 24 = .ok (.invokevirtual 57, 3) := by decide +kernel
theorem dX2_findError_27 : decode cX2_findError 27 = .ok (.ifCond .eq 14, 3) := by decide +kernel
theorem dX2_findError_30 : decode cX2_findError 30 = .ok (.aload_n 0, 1) := by decide +kernel
theorem dX2_findError_31 : decode cX2_findError 31 = .ok (.invokevirtual 60, 3) := by decide +kernel
theorem dX2_findError_34 : decode cX2_findError 34 = .ok (.ifCond .eq 7, 3) := by decide +kernel
theorem dX2_findError_37 : decode cX2_findError 37 = .ok (.iconst 1, 1) := by decide +kernel
theorem dX2_findError_38 : decode cX2_findError 38 = .ok (.goto 4, 3) := by decide +kernel
theorem dX2_findError_41 : decode cX2_findError 41 = .ok (.iconst 0, 1) := by decide +kernel
theorem dX2_findError_42 : decode cX2_findError 42 = .ok (.istore_n 1, 1) := by decide +kernel
theorem dX2_findError_43 : decode cX2_findError 43 = .ok (.iload_n 1, 1) := by decide +kernel
theorem dX2_findError_44 : decode cX2_findError 44 = .ok (.ifCond .eq 30, 3) := by decide +kernel
theorem dX2_findError_47 : decode cX2_findError 47 = .ok (.aload_n 0, 1) := by decide +kernel
theorem dX2_findError_48 : decode cX2_findError 48 = .ok (.getfield 23, 3) := by decide +kernel
theorem dX2_findError_51 : decode cX2_findError 51 = .ok (.invokevirtual 63, 3) := by decide +kernel
theorem dX2_findError_54 : decode cX2_findError 54 = .ok (.aload_n 0, 1) := by decide +kernel
theorem dX2_findError_55 : decode cX2_findError 55 = .ok (.invokevirtual 66, 3) := by decide +kernel
theorem dX2_findError_58 : decode cX2_findError 58 = .ok (.ifCond .eq 14, 3) := by decide +kernel
theorem dX2_findError_61 : decode cX2_findError 61 = .ok (.aload_n 0, 1) := by decide +kernel
theorem dX2_findError_62 : decode cX2_findError 62 = .ok (.getfield 69, 3) := by decide +kernel
theorem dX2_findError_65 : decode cX2_findError 65 = .ok (.ifCond .ne 7, 3) := by decide +kernel
theorem dX2_findError_68 : decode cX2_findError 68 = .ok (.iconst 1, 1) := by decide +kernel
theorem dX2_findError_69 : decode cX2_findError 69 = .ok (.goto 4, 3) := by decide +kernel
theorem dX2_findError_72 : decode cX2_findError 72 = .ok (.iconst 0, 1) := by decide +kernel
theorem dX2_findError_73 : decode cX2_findError 73 = .ok (.istore_n 1, 1) := by decide +kernel
theorem dX2_findError_74 : decode cX2_findError 74 = .ok (.aload_n 0, 1) := by decide +kernel
theorem dX2_findError_75 : decode cX2_findError 75 = .ok (.iconst 0, 1) := by decide +kernel
theorem dX2_findError_76 : decode cX2_findError 76 = .ok (.putfield 41, 3) := by decide +kernel
theorem dX2_findError_79 : decode cX2_findError 79 = .ok (.iload_n 1, 1) := by decide +kernel
theorem dX2_findError_80 : decode cX2_findError 80 = .ok (.ifCond .eq 7, 3) := by decide +kernel
theorem dX2_findError_83 : decode cX2_findError 83 = .ok (.iconst (-1), 1) := by decide +kernel
theorem dX2_findError_84 : decode cX2_findError 84 = .ok (.goto 7, 3) := by decide +kernel
theorem dX2_findError_87 : decode cX2_findError 87 = .ok (.aload_n 0, 1) := by decide +kernel
theorem dX2_findError_88 : decode cX2_findError 88 = .ok (.getfield 72, 3) := by decide +kernel
theorem dX2_findError_91 : decode cX2_findError 91 = .ok (.ireturn, 1) := by decide +kernel
theorem dX2_readRoute_0 : decode cX2_readRoute 0 = .ok (.aload_n 0, 1) := by decide +kernel
theorem dX2_readRoute_1 : decode cX2_readRoute 1 = .ok (.ldc 75, 2) := by decide +kernel
theorem dX2_readRoute_3 : decode cX2_readRoute 3 = .ok (.invokevirtual 77, 3) := by decide +kernel
theorem dX2_readRoute_6 : decode cX2_readRoute 6 = .ok (.ifCond .ne 5, 3) := by decide +kernel
theorem dX2_readRoute_9 : decode cX2_readRoute 9 = .ok (.iconst 0, 1) := by decide +kernel
theorem dX2_readRoute_10 : decode cX2_readRoute 10 = .ok (.ireturn, 1) := by decide +kernel
theorem dX2_readRoute_11 : decode cX2_readRoute 11 = .ok (.aload_n 0, 1) := by decide +kernel
theorem dX2_readRoute_12 : decode cX2_readRoute 12 = .ok (.invokevirtual 47, 3) := by decide +kernel
theorem dX2_readRoute_15 : decode cX2_readRoute 15 = .ok (.aload_n 0, 1) := by decide +kernel
theorem dX2_readRoute_16 : decode cX2_readRoute 16 = .ok (.bipush 10, 2) := by decide +kernel
theorem dX2_readRoute_18 : decode cX2_readRoute 18 = .ok (.sipush 999, 3) := by decide +kernel
theorem dX2_readRoute_21 : decode cX2_readRoute 21 = .ok (.invokevirtual 81, 3) := by decide +kernel
theorem dX2_readRoute_24 : decode cX2_readRoute 24 = .ok (.ifCond .ne 5, 3) := by decide +kernel
theorem dX2_readRoute_27 : decode cX2_readRoute 27 = .ok (.iconst 0, 1) := by decide +kernel
theorem dX2_readRoute_28 : decode cX2_readRoute 28 = .ok (.ireturn, 1) := by decide +kernel
theorem dX2_readRoute_29 : decode cX2_readRoute 29 = .ok (.aload_n 0, 1) := by decide +kernel
theorem dX2_readRoute_30 : decode cX2_readRoute 30 = .ok (.getfield 23, 3) := by decide +kernel
theorem dX2_readRoute_33 : decode cX2_readRoute 33 = .ok (.getfield 85, 3) := by decide +kernel
theorem dX2_readRoute_36 : decode cX2_readRoute 36 = .ok (.aload_n 0, 1) := by decide +kernel
theorem dX2_readRoute_37 : decode cX2_readRoute 37 = .ok (.getfield 89, 3) := by decide +kernel
theorem dX2_readRoute_40 : decode cX2_readRoute 40 = .ok (.invokevirtual 92, 3) := by decide +kernel
theorem dX2_readRoute_43 : decode cX2_readRoute 43 = .ok (.aload_n 0, 1) := by decide +kernel
theorem dX2_readRoute_44 : decode cX2_readRoute 44 = .ok (.invokevirtual 95, 3) := by decide +kernel
theorem dX2_readRoute_47 : decode cX2_readRoute 47 = .ok (.ireturn, 1) := by decide +kernel
theorem dX2_readCamels_0 : decode cX2_readCamels 0 = .ok (.aload_n 0, 1) := by decide +kernel
theorem dX2_readCamels_1 : decode cX2_readCamels 1 = .ok (.ldc 98, 2) := by decide +kernel
theorem dX2_readCamels_3 : decode cX2_readCamels 3 = .ok (.invokevirtual 77, 3) := by decide +kernel
theorem dX2_readCamels_6 : decode cX2_readCamels 6 = .ok (.istore_n 1, 1) := by decide +kernel
theorem dX2_readCamels_7 : decode cX2_readCamels 7 = .ok (.iconst 0, 1) := by decide +kernel
theorem dX2_readCamels_8 : decode cX2_readCamels 8 = .ok (.istore_n 2, 1) := by decide +kernel
theorem dX2_readCamels_9 : decode cX2_readCamels 9 = .ok (.iload_n 2, 1) := by decide +kernel
theorem dX2_readCamels_10 : decode cX2_readCamels 10 = .ok (.bipush 10, 2) := by decide +kernel
theorem dX2_readCamels_12 : decode cX2_readCamels 12 = .ok (.if_icmp .ge 27, 3) := by decide +kernel
theorem dX2_readCamels_15 : decode cX2_readCamels 15 = .ok (.iload_n 1, 1) := by decide +kernel
theorem dX2_readCamels_16 : decode cX2_readCamels 16 = .ok (.ifCond .eq 23, 3) := by decide +kernel
theorem dX2_readCamels_19 : decode cX2_readCamels 19 = .ok (.aload_n 0, 1) := by decide +kernel
theorem dX2_readCamels_20 : decode cX2_readCamels 20 = .ok (.ldc 98, 2) := by decide +kernel
theorem dX2_readCamels_22 : decode cX2_readCamels 22 = .ok (.invokevirtual 77, 3) := by decide +kernel
theorem dX2_readCamels_25 : decode cX2_readCamels 25 = .ok (.ifCond .eq 14, 3) := by decide +kernel
theorem dX2_readCamels_28 : decode cX2_readCamels 28 = .ok (.aload_n 0, 1) := by decide +kernel
theorem dX2_readCamels_29 : decode cX2_readCamels 29 = .ok (.invokevirtual 100, 3) := by decide +kernel
theorem dX2_readCamels_32 : decode cX2_readCamels 32 = .ok (.istore_n 1, 1) := by decide +kernel
theorem dX2_readCamels_33 : decode cX2_readCamels 33 = .ok (.iinc 2 1, 3) := by decide +kernel
theorem dX2_readCamels_36 : decode cX2_readCamels 36 = .ok (.goto (-27), 3) := by decide +kernel
theorem dX2_readCamels_39 : decode cX2_readCamels 39 = .ok (.iload_n 1, 1) := by decide +kernel
theorem dX2_readCamels_40 : decode cX2_readCamels 40 = .ok (.ireturn, 1) := by decide +kernel
theorem dX2_readCamel_0 : decode cX2_readCamel 0 = .ok (.aload_n 0, 1) := by decide +kernel
theorem dX2_readCamel_1 : decode cX2_readCamel 1 = .ok (.invokevirtual 47, 3) := by decide +kernel
theorem dX2_readCamel_4 : decode cX2_readCamel 4 = .ok (.aload_n 0, 1) := by decide +kernel
theorem dX2_readCamel_5 : decode cX2_readCamel 5 = .ok (.bipush 10, 2) := by decide +kernel
theorem dX2_readCamel_7 : decode cX2_readCamel 7 = .ok (.bipush 60, 2) := by decide +kernel
theorem dX2_readCamel_9 : decode cX2_readCamel 9 = .ok (.invokevirtual 81, 3) := by decide +kernel
theorem dX2_readCamel_12 : decode cX2_readCamel 12 = .ok (.ifCond .ne 5, 3) := by decide +kernel
theorem dX2_readCamel_15 : decode cX2_readCamel 15 = .ok (.iconst 0, 1) := by decide +kernel
theorem dX2_readCamel_16 : decode cX2_readCamel 16 = .ok (.ireturn, 1) := by decide +kernel
theorem dX2_readCamel_17 : decode cX2_readCamel 17 = .ok (.aload_n 0, 1) := by decide +kernel
theorem dX2_readCamel_18 : decode cX2_readCamel 18 = .ok (.getfield 89, 3) := by decide +kernel
theorem dX2_readCamel_21 : decode cX2_readCamel 21 = .ok (.istore_n 1, 1) := by decide +kernel
theorem dX2_readCamel_22 : decode cX2_readCamel 22 = .ok (.aload_n 0, 1) := by decide +kernel
theorem dX2_readCamel_23 : decode cX2_readCamel 23 = .ok (.iconst 1, 1) := by decide +kernel
theorem dX2_readCamel_24 : decode cX2_readCamel 24 = .ok (.bipush 9, 2) := by decide +kernel
theorem dX2_readCamel_26 : decode cX2_readCamel 26 = .ok (.invokevirtual 81, 3) := by decide +kernel
theorem dX2_readCamel_29 : decode cX2_readCamel 29 = .ok (.ifCond .ne 5, 3) := by decide +kernel
theorem dX2_readCamel_32 : decode cX2_readCamel 32 = .ok (.iconst 0, 1) := by decide +kernel
theorem dX2_readCamel_33 : decode cX2_readCamel 33 = .ok (.ireturn, 1) := by decide +kernel
theorem dX2_readCamel_34 : decode cX2_readCamel 34 = .ok (.aload_n 0, 1) := by decide +kernel
theorem dX2_readCamel_35 : decode cX2_readCamel 35 = .ok (.getfield 89, 3) := by decide +kernel
theorem dX2_readCamel_38 : decode cX2_readCamel 38 = .ok (.istore_n 2, 1) := by decide +kernel
theorem dX2_readCamel_39 : decode cX2_readCamel 39 = .ok (.aload_n 0, 1) := by decide +kernel
theorem dX2_readCamel_40 : decode cX2_readCamel 40 = .ok (.bipush 10, 2) := by decide +kernel
theorem dX2_readCamel_42 : decode cX2_readCamel 42 = .ok (.bipush 90, 2) := by decide +kernel
theorem dX2_readCamel_44 : decode cX2_readCamel 44 = .ok (.invokevirtual 81, 3) := by decide +kernel
theorem dX2_readCamel_47 : decode cX2_readCamel 47 = .ok (.ifCond .ne 5, 3) := by decide +kernel
theorem dX2_readCamel_50 : decode cX2_readCamel 50 = .ok (.iconst 0, 1) := by decide +kernel
theorem dX2_readCamel_51 : decode cX2_readCamel 51 = .ok (.ireturn, 1) := by decide +kernel
theorem dX2_readCamel_52 : decode cX2_readCamel 52 = .ok (.aload_n 0, 1) := by decide +kernel
theorem dX2_readCamel_53 : decode cX2_readCamel 53 = .ok (.getfield 23, 3) := by decide +kernel
theorem dX2_readCamel_56 : decode cX2_readCamel 56 = .ok (.getfield 85, 3) := by decide +kernel
theorem dX2_readCamel_59 : decode cX2_readCamel 59 = .ok (.iload_n 1, 1) := by decide +kernel
theorem dX2_readCamel_60 : decode cX2_readCamel 60 = .ok (.iload_n 2, 1) := by decide +kernel
theorem dX2_readCamel_61 : decode cX2_readCamel 61 = .ok (.aload_n 0, 1) := by decide +kernel
theorem dX2_readCamel_62 : decode cX2_readCamel 62 = .ok (.getfield 89, 3) := by decide +kernel
theorem dX2_readCamel_65 : decode cX2_readCamel 65 = .ok (.invokevirtual 103, 3) := by decide +kernel
theorem dX2_readCamel_68 : decode cX2_readCamel 68 = .ok (.aload_n 0, 1) := by decide +kernel
theorem dX2_readCamel_69 : decode cX2_readCamel 69 = .ok (.invokevirtual 95, 3) := by decide +kernel
theorem dX2_readCamel_72 : decode cX2_readCamel 72 = .ok (.ireturn, 1) := by decide +kernel
theorem dX2_readWells_0 : decode cX2_readWells 0 = .ok (.iconst 1, 1) := by decide +kernel
theorem dX2_readWells_1 : decode cX2_readWells 1 = .ok (.istore_n 1, 1) := by decide +kernel
theorem dX2_readWells_2 : decode cX2_readWells 2 = .ok (.iconst 0, 1) := by decide +kernel
theorem dX2_readWells_3 : decode cX2_readWells 3 = .ok (.istore_n 2, 1) := by decide +kernel
theorem dX2_readWells_4 : decode cX2_readWells 4 = .ok (.iload_n 2, 1) := by decide +kernel
theorem dX2_readWells_5 : decode cX2_readWells 5 = .ok (.bipush 8, 2) := by decide +kernel
theorem dX2_readWells_7 : decode cX2_readWells 7 = .ok (.if_icmp .ge 27, 3) := by decide +kernel
theorem dX2_readWells_10 : decode cX2_readWells 10 = .ok (.iload_n 1, 1) := by decide +kernel
theorem dX2_readWells_11 : decode cX2_readWells 11 = .ok (.ifCond .eq 23, 3) := by decide +kernel
theorem dX2_readWells_14 : decode cX2_readWells 14 = .ok (.aload_n 0, 1) := by decide +kernel
theorem dX2_readWells_15 : decode cX2_readWells 15 = .ok (.ldc 107, 2) := by decide +kernel
theorem dX2_readWells_17 : decode cX2_readWells 17 = .ok (.invokevirtual 77, 3) := by decide +kernel
theorem dX2_readWells_20 : decode cX2_readWells 20 = .ok (.ifCond .eq 14, 3) := by decide +kernel
theorem dX2_readWells_23 : decode cX2_readWells 23 = .ok (.aload_n 0, 1) := by decide +kernel
theorem dX2_readWells_24 : decode cX2_readWells 24 = .ok (.invokevirtual 109, 3) := by decide +kernel
theorem dX2_readWells_27 : decode cX2_readWells 27 = .ok (.istore_n 1, 1) := by decide +kernel
theorem dX2_readWells_28 : decode cX2_readWells 28 = .ok (.iinc 2 1, 3) := by decide +kernel
theorem dX2_readWells_31 : decode cX2_readWells 31 = .ok (.goto (-27), 3) := by decide +kernel
theorem dX2_readWells_34 : decode cX2_readWells 34 = .ok (.iload_n 1, 1) := by decide +kernel
theorem dX2_readWells_35 : decode cX2_readWells 35 = .ok (.ireturn, 1) := by decide +kernel
theorem dX2_readWell_0 : decode cX2_readWell 0 = .ok (.aload_n 0, 1) := by decide +kernel
theorem dX2_readWell_1 : decode cX2_readWell 1 = .ok (.invokevirtual 47, 3) := by decide +kernel
theorem dX2_readWell_4 : decode cX2_readWell 4 = .ok (.aload_n 0, 1) := by decide +kernel
theorem dX2_readWell_5 : decode cX2_readWell 5 = .ok (.getfield 69, 3) := by decide +kernel
theorem dX2_readWell_8 : decode cX2_readWell 8 = .ok (.iconst 2, 1) := by decide +kernel
theorem dX2_readWell_9 : decode cX2_readWell 9 = .ok (.if_icmp .ne 23, 3) := by decide +kernel
theorem dX2_readWell_12 : decode cX2_readWell 12 = .ok (.aload_n 0, 1) := by decide +kernel
theorem dX2_readWell_13 : decode cX2_readWell 13 = .ok (.getfield 23, 3) := by decide +kernel
theorem dX2_readWell_16 : decode cX2_readWell 16 = .ok (.getfield 85, 3) := by decide +kernel
theorem dX2_readWell_19 : decode cX2_readWell 19 = .ok (.aload_n 0, 1) := by decide +kernel
theorem dX2_readWell_20 : decode cX2_readWell 20 = .ok (.getfield 112, 3) := by decide +kernel
theorem dX2_readWell_23 : decode cX2_readWell 23 = .ok (.invokevirtual 115, 3) := by decide +kernel
theorem dX2_readWell_26 : decode cX2_readWell 26 = .ok (.iconst (-1), 1) := by decide +kernel
theorem dX2_readWell_27 : decode cX2_readWell 27 = .ok (.if_icmp .eq 5, 3) := by decide +kernel
theorem dX2_readWell_30 : decode cX2_readWell 30 = .ok (.iconst 0, 1) := by decide +kernel
theorem dX2_readWell_31 : decode cX2_readWell 31 = .ok (.ireturn, 1) := by decide +kernel
theorem dX2_readWell_32 : decode cX2_readWell 32 = .ok (.aload_n 0, 1) := by decide +kernel
theorem dX2_readWell_33 : decode cX2_readWell 33 = .ok (.iconst 0, 1) := by decide +kernel
theorem dX2_readWell_34 : decode cX2_readWell 34 = .ok (.aload_n 0, 1) := by decide +kernel
theorem dX2_readWell_35 : decode cX2_readWell 35 = .ok (.getfield 23, 3) := by decide +kernel
theorem dX2_readWell_38 : decode cX2_readWell 38 = .ok (.getfield 85, 3) := by decide +kernel
theorem dX2_readWell_41 : decode cX2_readWell 41 = .ok (.getfield 119, 3) := by decide +kernel
theorem dX2_readWell_44 : decode cX2_readWell 44 = .ok (.invokevirtual 81, 3) := by decide +kernel
theorem dX2_readWell_47 : decode cX2_readWell 47 = .ok (.ifCond .ne 5, 3) := by decide +kernel
theorem dX2_readWell_50 : decode cX2_readWell 50 = .ok (.iconst 0, 1) := by decide +kernel
theorem dX2_readWell_51 : decode cX2_readWell 51 = .ok (.ireturn, 1) := by decide +kernel
theorem dX2_readWell_52 : decode cX2_readWell 52 = .ok (.aload_n 0, 1) := by decide +kernel
theorem dX2_readWell_53 : decode cX2_readWell 53 = .ok (.getfield 89, 3) := by decide +kernel
theorem dX2_readWell_56 : decode cX2_readWell 56 = .ok (.istore_n 1, 1) := by decide +kernel
theorem dX2_readWell_57 : decode cX2_readWell 57 = .ok (.aload_n 0, 1) := by decide +kernel
theorem dX2_readWell_58 : decode cX2_readWell 58 = .ok (.iconst 1, 1) := by decide +kernel
theorem dX2_readWell_59 : decode cX2_readWell 59 = .ok (.sipush 999, 3) := by decide +kernel
theorem dX2_readWell_62 : decode cX2_readWell 62 = .ok (.invokevirtual 81, 3) := by decide +kernel
theorem dX2_readWell_65 : decode cX2_readWell 65 = .ok (.ifCond .ne 5, 3) := by decide +kernel
theorem dX2_readWell_68 : decode cX2_readWell 68 = .ok (.iconst 0, 1) := by decide +kernel
theorem dX2_readWell_69 : decode cX2_readWell 69 = .ok (.ireturn, 1) := by decide +kernel
theorem dX2_readWell_70 : decode cX2_readWell 70 = .ok (.aload_n 0, 1) := by decide +kernel
theorem dX2_readWell_71 : decode cX2_readWell 71 = .ok (.getfield 89, 3) := by decide +kernel
theorem dX2_readWell_74 : decode cX2_readWell 74 = .ok (.istore_n 2, 1) := by decide +kernel
theorem dX2_readWell_75 : decode cX2_readWell 75 = .ok (.aload_n 0, 1) := by decide +kernel
theorem dX2_readWell_76 : decode cX2_readWell 76 = .ok (.iconst 0, 1) := by decide +kernel
theorem dX2_readWell_77 : decode cX2_readWell 77 = .ok (.bipush 99, 2) := by decide +kernel
theorem dX2_readWell_79 : decode cX2_readWell 79 = .ok (.invokevirtual 81, 3) := by decide +kernel
theorem dX2_readWell_82 : decode cX2_readWell 82 = .ok (.ifCond .ne 5, 3) := by decide +kernel
theorem dX2_readWell_85 : decode cX2_readWell 85 = .ok (.iconst 0, 1) := by decide +kernel
theorem dX2_readWell_86 : decode cX2_readWell 86 = .ok (.ireturn, 1) := by decide +kernel
theorem dX2_readWell_87 : decode cX2_readWell 87 = .ok (.aload_n 0, 1) := by decide +kernel
theorem dX2_readWell_88 : decode cX2_readWell 88 = .ok (.getfield 23, 3) := by decide +kernel
theorem dX2_readWell_91 : decode cX2_readWell 91 = .ok (.getfield 85, 3) := by decide +kernel
theorem dX2_readWell_94 : decode cX2_readWell 94 = .ok (.iload_n 1, 1) := by decide +kernel
theorem dX2_readWell_95 : decode cX2_readWell 95 = .ok (.iload_n 2, 1) := by decide +kernel
theorem dX2_readWell_96 : decode cX2_readWell 96 = .ok (.aload_n 0, 1) := by decide +kernel
theorem dX2_readWell_97 : decode cX2_readWell 97 = .ok (.getfield 89, 3) := by decide +kernel
theorem dX2_readWell_100 : decode cX2_readWell 100 = .ok (.invokevirtual 120, 3) := by decide +kernel
theorem dX2_readWell_103 : decode cX2_readWell 103 = .ok (.aload_n 0, 1) := by decide +kernel
theorem dX2_readWell_104 : decode cX2_readWell 104 = .ok (.invokevirtual 95, 3) := by decide +kernel
theorem dX2_readWell_107 : decode cX2_readWell 107 = .ok (.ireturn, 1) := by decide +kernel
theorem dX2_readStorms_0 : decode cX2_readStorms 0 = .ok (.iconst 1, 1) := by decide +kernel
theorem dX2_readStorms_1 : decode cX2_readStorms 1 = .ok (.istore_n 1, 1) := by decide +kernel
theorem dX2_readStorms_2 : decode cX2_readStorms 2 = .ok (.iconst 0, 1) := by decide +kernel
theorem dX2_readStorms_3 : decode cX2_readStorms 3 = .ok (.istore_n 2, 1) := by decide +kernel
theorem dX2_readStorms_4 : decode cX2_readStorms 4 = .ok (.iload_n 2, 1) := by decide +kernel
theorem dX2_readStorms_5 : decode cX2_readStorms 5 = .ok (.bipush 6, 2) := by decide +kernel
theorem dX2_readStorms_7 : decode cX2_readStorms 7 = .ok (.if_icmp .ge 27, 3) := by decide +kernel
theorem dX2_readStorms_10 : decode cX2_readStorms 10 = .ok (.iload_n 1, 1) := by decide +kernel
theorem dX2_readStorms_11 : decode cX2_readStorms 11 = .ok (.ifCond .eq 23, 3) := by decide +kernel
theorem dX2_readStorms_14 : decode cX2_readStorms 14 = .ok (.aload_n 0, 1) := by decide +kernel
theorem dX2_readStorms_15 : decode cX2_readStorms 15 = .ok (.ldc 123, 2) := by decide +kernel
theorem dX2_readStorms_17 : decode cX2_readStorms 17 = .ok (.invokevirtual 77, 3) := by decide +kernel
theorem dX2_readStorms_20 : decode cX2_readStorms 20 = .ok (.ifCond .eq 14, 3) := by decide +kernel
theorem dX2_readStorms_23 : decode cX2_readStorms 23 = .ok (.aload_n 0, 1) := by decide +kernel
theorem dX2_readStorms_24 : decode cX2_readStorms 24 = .ok (.invokevirtual 125, 3) := by decide +kernel
theorem dX2_readStorms_27 : decode cX2_readStorms 27 = .ok (.istore_n 1, 1) := by decide +kernel
theorem dX2_readStorms_28 : decode cX2_readStorms 28 = .ok (.iinc 2 1, 3) := by decide +kernel
theorem dX2_readStorms_31 : decode cX2_readStorms 31 = .ok (.goto (-27), 3) := by decide +kernel
theorem dX2_readStorms_34 : decode cX2_readStorms 34 = .ok (.iload_n 1, 1) := by decide +kernel
theorem dX2_readStorms_35 : decode cX2_readStorms 35 = .ok (.ireturn, 1) := by decide +kernel
theorem dX2_readStorm_0 : decode cX2_readStorm 0 = .ok (.aload_n 0, 1) := by decide +kernel
theorem dX2_readStorm_1 : decode cX2_readStorm 1 = .ok (.invokevirtual 47, 3) := by decide +kernel
theorem dX2_readStorm_4 : decode cX2_readStorm 4 = .ok (.aload_n 0, 1) := by decide +kernel
theorem dX2_readStorm_5 : decode cX2_readStorm 5 = .ok (.iconst 0, 1) := by decide +kernel
theorem dX2_readStorm_6 : decode cX2_readStorm 6 = .ok (.sipush 200, 3) := by decide +kernel
theorem dX2_readStorm_9 : decode cX2_readStorm 9 = .ok (.invokevirtual 81, 3) := by decide +kernel
theorem dX2_readStorm_12 : decode cX2_readStorm 12 = .ok (.ifCond .ne 5, 3) := by decide +kernel
theorem dX2_readStorm_15 : decode cX2_readStorm 15 = .ok (.iconst 0, 1) := by decide +kernel
theorem dX2_readStorm_16 : decode cX2_readStorm 16 = .ok (.ireturn, 1) := by decide +kernel
theorem dX2_readStorm_17 : decode cX2_readStorm 17 = .ok (.aload_n 0, 1) := by decide +kernel
theorem dX2_readStorm_18 : decode cX2_readStorm 18 = .ok (.getfield 89, 3) := by decide +kernel
theorem dX2_readStorm_21 : decode cX2_readStorm 21 = .ok (.istore_n 1, 1) := by decide +kernel
theorem dX2_readStorm_22 : decode cX2_readStorm 22 = .ok (.aload_n 0, 1) := by decide +kernel
theorem dX2_readStorm_23 : decode cX2_readStorm 23 = .ok (.iload_n 1, 1) := by decide +kernel
theorem dX2_readStorm_24 : decode cX2_readStorm 24 = .ok (.sipush 200, 3) := by decide +kernel
theorem dX2_readStorm_27 : decode cX2_readStorm 27 = .ok (.invokevirtual 81, 3) := by decide +kernel
theorem dX2_readStorm_30 : decode cX2_readStorm 30 = .ok (.ifCond .ne 5, 3) := by decide +kernel
theorem dX2_readStorm_33 : decode cX2_readStorm 33 = .ok (.iconst 0, 1) := by decide +kernel
theorem dX2_readStorm_34 : decode cX2_readStorm 34 = .ok (.ireturn, 1) := by decide +kernel
theorem dX2_readStorm_35 : decode cX2_readStorm 35 = .ok (.aload_n 0, 1) := by decide +kernel
theorem dX2_readStorm_36 : decode cX2_readStorm 36 = .ok (.getfield 89, 3) := by decide +kernel
theorem dX2_readStorm_39 : decode cX2_readStorm 39 = .ok (.istore_n 2, 1) := by decide +kernel
theorem dX2_readStorm_40 : decode cX2_readStorm 40 = .ok (.aload_n 0, 1) := by decide +kernel
theorem dX2_readStorm_41 : decode cX2_readStorm 41 = .ok (.iconst 1, 1) := by decide +kernel
theorem dX2_readStorm_42 : decode cX2_readStorm 42 = .ok (.bipush 9, 2) := by decide +kernel
theorem dX2_readStorm_44 : decode cX2_readStorm 44 = .ok (.invokevirtual 81, 3) := by decide +kernel
theorem dX2_readStorm_47 : decode cX2_readStorm 47 = .ok (.ifCond .ne 5, 3) := by decide +kernel
theorem dX2_readStorm_50 : decode cX2_readStorm 50 = .ok (.iconst 0, 1) := by decide +kernel
theorem dX2_readStorm_51 : decode cX2_readStorm 51 = .ok (.ireturn, 1) := by decide +kernel
theorem dX2_readStorm_52 : decode cX2_readStorm 52 = .ok (.aload_n 0, 1) := by decide +kernel
theorem dX2_readStorm_53 : decode cX2_readStorm 53 = .ok (.getfield 23, 3) := by decide +kernel
theorem dX2_readStorm_56 : decode cX2_readStorm 56 = .ok (.getfield 85, 3) := by decide +kernel
theorem dX2_readStorm_59 : decode cX2_readStorm 59 = .ok (.iload_n 1, 1) := by decide +kernel
theorem dX2_readStorm_60 : decode cX2_readStorm 60 = .ok (.iload_n 2, 1) := by decide +kernel
theorem dX2_readStorm_61 : decode cX2_readStorm 61 = .ok (.aload_n 0, 1) := by decide +kernel
theorem dX2_readStorm_62 : decode cX2_readStorm 62 = .ok (.getfield 89, 3) := by decide +kernel
theorem dX2_readStorm_65 : decode cX2_readStorm 65 = .ok (.invokevirtual 128, 3) := by decide +kernel
theorem dX2_readStorm_68 : decode cX2_readStorm 68 = .ok (.aload_n 0, 1) := by decide +kernel
theorem dX2_readStorm_69 : decode cX2_readStorm 69 = .ok (.invokevirtual 95, 3) := by decide +kernel
theorem dX2_readStorm_72 : decode cX2_readStorm 72 = .ok (.ireturn, 1) := by decide +kernel
theorem dX2_readLoads_0 : decode cX2_readLoads 0 = .ok (.iconst 1, 1) := by decide +kernel
theorem dX2_readLoads_1 : decode cX2_readLoads 1 = .ok (.istore_n 1, 1) := by decide +kernel
theorem dX2_readLoads_2 : decode cX2_readLoads 2 = .ok (.iconst 0, 1) := by decide +kernel
theorem dX2_readLoads_3 : decode cX2_readLoads 3 = .ok (.istore_n 2, 1) := by decide +kernel
theorem dX2_readLoads_4 : decode cX2_readLoads 4 = .ok (.iload_n 2, 1) := by decide +kernel
theorem dX2_readLoads_5 : decode cX2_readLoads 5 = .ok (.bipush 20, 2) := by decide +kernel
theorem dX2_readLoads_7 : decode cX2_readLoads 7 = .ok (.if_icmp .ge 27, 3) := by decide +kernel
theorem dX2_readLoads_10 : decode cX2_readLoads 10 = .ok (.iload_n 1, 1) := by decide +kernel
theorem dX2_readLoads_11 : decode cX2_readLoads 11 = .ok (.ifCond .eq 23, 3) := by decide +kernel
theorem dX2_readLoads_14 : decode cX2_readLoads 14 = .ok (.aload_n 0, 1) := by decide +kernel
theorem dX2_readLoads_15 : decode cX2_readLoads 15 = .ok (.ldc 131, 2) := by decide +kernel
theorem dX2_readLoads_17 : decode cX2_readLoads 17 = .ok (.invokevirtual 77, 3) := by decide +kernel
theorem dX2_readLoads_20 : decode cX2_readLoads 20 = .ok (.ifCond .eq 14, 3) := by decide +kernel
theorem dX2_readLoads_23 : decode cX2_readLoads 23 = .ok (.aload_n 0, 1) := by decide +kernel
theorem dX2_readLoads_24 : decode cX2_readLoads 24 = .ok (.invokevirtual 133, 3) := by decide +kernel
theorem dX2_readLoads_27 : decode cX2_readLoads 27 = .ok (.istore_n 1, 1) := by decide +kernel
theorem dX2_readLoads_28 : decode cX2_readLoads 28 = .ok (.iinc 2 1, 3) := by decide +kernel
theorem dX2_readLoads_31 : decode cX2_readLoads 31 = .ok (.goto (-27), 3) := by decide +kernel
theorem dX2_readLoads_34 : decode cX2_readLoads 34 = .ok (.iload_n 1, 1) := by decide +kernel
theorem dX2_readLoads_35 : decode cX2_readLoads 35 = .ok (.ireturn, 1) := by decide +kernel
theorem dX2_readLoad_0 : decode cX2_readLoad 0 = .ok (.aload_n 0, 1) := by decide +kernel
theorem dX2_readLoad_1 : decode cX2_readLoad 1 = .ok (.invokevirtual 47, 3) := by decide +kernel
theorem dX2_readLoad_4 : decode cX2_readLoad 4 = .ok (.aload_n 0, 1) := by decide +kernel
theorem dX2_readLoad_5 : decode cX2_readLoad 5 = .ok (.iconst 1, 1) := by decide +kernel
theorem dX2_readLoad_6 : decode cX2_readLoad 6 = .ok (.bipush 99, 2) := by decide +kernel
theorem dX2_readLoad_8 : decode cX2_readLoad 8 = .ok (.invokevirtual 81, 3) := by decide +kernel
theorem dX2_readLoad_11 : decode cX2_readLoad 11 = .ok (.ifCond .ne 5, 3) := by decide +kernel
theorem dX2_readLoad_14 : decode cX2_readLoad 14 = .ok (.iconst 0, 1) := by decide +kernel
theorem dX2_readLoad_15 : decode cX2_readLoad 15 = .ok (.ireturn, 1) := by decide +kernel
theorem dX2_readLoad_16 : decode cX2_readLoad 16 = .ok (.aload_n 0, 1) := by decide +kernel
theorem dX2_readLoad_17 : decode cX2_readLoad 17 = .ok (.getfield 89, 3) := by decide +kernel
theorem dX2_readLoad_20 : decode cX2_readLoad 20 = .ok (.istore_n 1, 1) := by decide +kernel
theorem dX2_readLoad_21 : decode cX2_readLoad 21 = .ok (.aload_n 0, 1) := by decide +kernel
theorem dX2_readLoad_22 : decode cX2_readLoad 22 = .ok (.iconst 1, 1) := by decide +kernel
theorem dX2_readLoad_23 : decode cX2_readLoad 23 = .ok (.bipush 99, 2) := by decide +kernel
theorem dX2_readLoad_25 : decode cX2_readLoad 25 = .ok (.invokevirtual 81, 3) := by decide +kernel
theorem dX2_readLoad_28 : decode cX2_readLoad 28 = .ok (.ifCond .ne 5, 3) := by decide +kernel
theorem dX2_readLoad_31 : decode cX2_readLoad 31 = .ok (.iconst 0, 1) := by decide +kernel
theorem dX2_readLoad_32 : decode cX2_readLoad 32 = .ok (.ireturn, 1) := by decide +kernel
theorem dX2_readLoad_33 : decode cX2_readLoad 33 = .ok (.aload_n 0, 1) := by decide +kernel
theorem dX2_readLoad_34 : decode cX2_readLoad 34 = .ok (.getfield 23, 3) := by decide +kernel
theorem dX2_readLoad_37 : decode cX2_readLoad 37 = .ok (.iload_n 1, 1) := by decide +kernel
theorem dX2_readLoad_38 : decode cX2_readLoad 38 = .ok (.aload_n 0, 1) := by decide +kernel
theorem dX2_readLoad_39 : decode cX2_readLoad 39 = .ok (.getfield 89, 3) := by decide +kernel
theorem dX2_readLoad_42 : decode cX2_readLoad 42 = .ok (.invokevirtual 136, 3) := by decide +kernel
theorem dX2_readLoad_45 : decode cX2_readLoad 45 = .ok (.istore_n 2, 1) := by decide +kernel
theorem dX2_readLoad_46 : decode cX2_readLoad 46 = .ok (.aload_n 0, 1) := by decide +kernel
theorem dX2_readLoad_47 : decode cX2_readLoad 47 = .ok (.ldc 140, 2) := by decide +kernel
theorem dX2_readLoad_49 : decode cX2_readLoad 49 = .ok (.invokevirtual 77, 3) := by decide +kernel
theorem dX2_readLoad_52 : decode cX2_readLoad 52 = .ok (.ifCond .eq 48, 3) := by decide +kernel
theorem dX2_readLoad_55 : decode cX2_readLoad 55 = .ok (.aload_n 0, 1) := by decide +kernel
theorem dX2_readLoad_56 : decode cX2_readLoad 56 = .ok (.invokevirtual 47, 3) := by decide +kernel
theorem dX2_readLoad_59 : decode cX2_readLoad 59 = .ok (.aload_n 0, 1) := by decide +kernel
theorem dX2_readLoad_60 : decode cX2_readLoad 60 = .ok (.getfield 69, 3) := by decide +kernel
theorem dX2_readLoad_63 : decode cX2_readLoad 63 = .ok (.iconst 2, 1) := by decide +kernel
theorem dX2_readLoad_64 : decode cX2_readLoad 64 = .ok (.if_icmp .ne 18, 3) := by decide +kernel
theorem dX2_readLoad_67 : decode cX2_readLoad 67 = .ok (.aload_n 0, 1) := by decide +kernel
theorem dX2_readLoad_68 : decode cX2_readLoad 68 = .ok (.getfield 23, 3) := by decide +kernel
theorem dX2_readLoad_71 : decode cX2_readLoad 71 = .ok (.aload_n 0, 1) := by decide +kernel
theorem dX2_readLoad_72 : decode cX2_readLoad 72 = .ok (.getfield 112, 3) := by decide +kernel
theorem dX2_readLoad_75 : decode cX2_readLoad 75 = .ok (.invokevirtual 142, 3) := by decide +kernel
theorem dX2_readLoad_78 : decode cX2_readLoad 78 = .ok (.iload_n 1, 1) := by decide +kernel
theorem dX2_readLoad_79 : decode cX2_readLoad 79 = .ok (.if_icmp .ge 5, 3) := by decide +kernel
theorem dX2_readLoad_82 : decode cX2_readLoad 82 = .ok (.iconst 0, 1) := by decide +kernel
theorem dX2_readLoad_83 : decode cX2_readLoad 83 = .ok (.ireturn, 1) := by decide +kernel
theorem dX2_readLoad_84 : decode cX2_readLoad 84 = .ok (.aload_n 0, 1) := by decide +kernel
theorem dX2_readLoad_85 : decode cX2_readLoad 85 = .ok (.getfield 23, 3) := by decide +kernel
theorem dX2_readLoad_88 : decode cX2_readLoad 88 = .ok (.iload_n 2, 1) := by decide +kernel
theorem dX2_readLoad_89 : decode cX2_readLoad 89 = .ok (.aload_n 0, 1) := by decide +kernel
theorem dX2_readLoad_90 : decode cX2_readLoad 90 = .ok (.getfield 112, 3) := by decide +kernel
theorem dX2_readLoad_93 : decode cX2_readLoad 93 = .ok (.invokevirtual 145, 3) := by decide +kernel
theorem dX2_readLoad_96 : decode cX2_readLoad 96 = .ok (.aload_n 0, 1) := by decide +kernel
theorem dX2_readLoad_97 : decode cX2_readLoad 97 = .ok (.invokevirtual 47, 3) := by decide +kernel
theorem dX2_readLoad_100 : decode cX2_readLoad 100 = .ok (.aload_n 0, 1) := by decide +kernel
theorem dX2_readLoad_101 : decode cX2_readLoad 101 = .ok (.invokevirtual 95, 3) := by decide +kernel
theorem dX2_readLoad_104 : decode cX2_readLoad 104 = .ok (.ireturn, 1) := by decide +kernel
theorem dX2_takeNumber_0 : decode cX2_takeNumber 0 = .ok (.aload_n 0, 1) := by decide +kernel
theorem dX2_takeNumber_1 : decode cX2_takeNumber 1 = .ok (.getfield 69, 3) := by decide +kernel
theorem dX2_takeNumber_4 : decode cX2_takeNumber 4 = .ok (.iconst 2, 1) := by decide +kernel
theorem dX2_takeNumber_5 : decode cX2_takeNumber 5 = .ok (.if_icmp .ne 19, 3) := by decide +kernel
theorem dX2_takeNumber_8 : decode cX2_takeNumber 8 = .ok (.aload_n 0, 1) := by decide +kernel
theorem dX2_takeNumber_9 : decode cX2_takeNumber 9 = .ok (.getfield 112, 3) := by decide +kernel
theorem dX2_takeNumber_12 : decode cX2_takeNumber 12 = .ok (.iload_n 1, 1) := by decide +kernel
theorem dX2_takeNumber_13 : decode cX2_takeNumber 13 = .ok (.if_icmp .lt 11, 3) := by decide +kernel
theorem dX2_takeNumber_16 : decode cX2_takeNumber 16 = .ok (.aload_n 0, 1) := by decide +kernel
theorem dX2_takeNumber_17 : decode cX2_takeNumber 17 = .ok (.getfield 112, 3) := by decide +kernel
theorem dX2_takeNumber_20 : decode cX2_takeNumber 20 = .ok (.iload_n 2, 1) := by decide +kernel
theorem dX2_takeNumber_21 : decode cX2_takeNumber 21 = .ok (.if_icmp .le 5, 3) := by decide +kernel
theorem dX2_takeNumber_24 : decode cX2_takeNumber 24 = .ok (.iconst 0, 1) := by decide +kernel
theorem dX2_takeNumber_25 : decode cX2_takeNumber 25 = .ok (.ireturn, 1) := by decide +kernel
theorem dX2_takeNumber_26 : decode cX2_takeNumber 26 = .ok (.aload_n 0, 1) := by decide +kernel
theorem dX2_takeNumber_27 : decode cX2_takeNumber 27 = .ok (.aload_n 0, 1) := by decide +kernel
theorem dX2_takeNumber_28 : decode cX2_takeNumber 28 = .ok (.getfield 112, 3) := by decide +kernel
theorem dX2_takeNumber_31 : decode cX2_takeNumber 31 = .ok (.putfield 89, 3) := by decide +kernel
theorem dX2_takeNumber_34 : decode cX2_takeNumber 34 = .ok (.aload_n 0, 1) := by decide +kernel
theorem dX2_takeNumber_35 : decode cX2_takeNumber 35 = .ok (.invokevirtual 47, 3) := by decide +kernel
theorem dX2_takeNumber_38 : decode cX2_takeNumber 38 = .ok (.iconst 1, 1) := by decide +kernel
theorem dX2_takeNumber_39 : decode cX2_takeNumber 39 = .ok (.ireturn, 1) := by decide +kernel
theorem dX2_takeSemicolon_0 : decode cX2_takeSemicolon 0 = .ok (.aload_n 0, 1) := by decide +kernel
theorem dX2_takeSemicolon_1 : decode cX2_takeSemicolon 1 = .ok (.getfield 69, 3) := by decide +kernel
theorem dX2_takeSemicolon_4 : decode cX2_takeSemicolon 4 = .ok (.iconst 3, 1) := by decide +kernel
theorem dX2_takeSemicolon_5 : decode cX2_takeSemicolon 5 = .ok (.if_icmp .eq 5, 3) := by decide +kernel
theorem dX2_takeSemicolon_8 : decode cX2_takeSemicolon 8 = .ok (.iconst 0, 1) := by decide +kernel
theorem dX2_takeSemicolon_9 : decode cX2_takeSemicolon 9 = .ok (.ireturn, 1) := by decide +kernel
theorem dX2_takeSemicolon_10 : decode cX2_takeSemicolon 10 = .ok (.aload_n 0, 1) := by decide +kernel
theorem dX2_takeSemicolon_11 : decode cX2_takeSemicolon 11 = .ok (.invokevirtual 47, 3) := by decide +kernel
theorem dX2_takeSemicolon_14 : decode cX2_takeSemicolon 14 = .ok (.iconst 1, 1) := by decide +kernel
theorem dX2_takeSemicolon_15 : decode cX2_takeSemicolon 15 = .ok (.ireturn, 1) := by decide +kernel
theorem dX2_isWord_0 : decode cX2_isWord 0 = .ok (.aload_n 0, 1) := by decide +kernel
theorem dX2_isWord_1 : decode cX2_isWord 1 = .ok (.getfield 69, 3) := by decide +kernel
theorem dX2_isWord_4 : decode cX2_isWord 4 = .ok (.iconst 1, 1) := by decide +kernel
theorem dX2_isWord_5 : decode cX2_isWord 5 = .ok (.if_icmp .ne 19, 3) := by decide +kernel
theorem dX2_isWord_8 : decode cX2_isWord 8 = .ok (.aload_n 0, 1) := by decide +kernel
theorem dX2_isWord_9 : decode cX2_isWord 9 = .ok (.getfield 44, 3) := by decide +kernel
theorem dX2_isWord_12 : decode cX2_isWord 12 = .ok (.aload_n 0, 1) := by decide +kernel
theorem dX2_isWord_13 : decode cX2_isWord 13 = .ok (.getfield 72, 3) := by decide +kernel
theorem dX2_isWord_16 : decode cX2_isWord 16 = .ok (.isub, 1) := by decide +kernel
theorem dX2_isWord_17 : decode cX2_isWord 17 = .ok (.aload_n 1, 1) := by decide +kernel
theorem dX2_isWord_18 : decode cX2_isWord 18 = .ok (.invokevirtual 31, 3) := by decide +kernel
theorem dX2_isWord_21 : decode cX2_isWord 21 = .ok (.if_icmp .eq 5, 3) := by decide +kernel
theorem dX2_isWord_24 : decode cX2_isWord 24 = .ok (.iconst 0, 1) := by decide +kernel
theorem dX2_isWord_25 : decode cX2_isWord 25 = .ok (.ireturn, 1) := by decide +kernel
theorem dX2_isWord_26 : decode cX2_isWord 26 = .ok (.iconst 0, 1) := by decide +kernel
theorem dX2_isWord_27 : decode cX2_isWord 27 = .ok (.istore_n 2, 1) := by decide +kernel
theorem dX2_isWord_28 : decode cX2_isWord 28 = .ok (.iload_n 2, 1) := by decide +kernel
theorem dX2_isWord_29 : decode cX2_isWord 29 = .ok (.aload_n 1, 1) := by decide +kernel
theorem dX2_isWord_30 : decode cX2_isWord 30 = .ok (.invokevirtual 31, 3) := by decide +kernel
theorem dX2_isWord_33 : decode cX2_isWord 33 = .ok (.if_icmp .ge 30, 3) := by decide +kernel
theorem dX2_isWord_36 : decode cX2_isWord 36 = .ok (.aload_n 0, 1) := by decide +kernel
theorem dX2_isWord_37 : decode cX2_isWord 37 = .ok (.getfield 9, 3) := by decide +kernel
theorem dX2_isWord_40 : decode cX2_isWord 40 = .ok (.aload_n 0, 1) := by decide +kernel
theorem dX2_isWord_41 : decode cX2_isWord 41 = .ok (.getfield 72, 3) := by decide +kernel
theorem dX2_isWord_44 : decode cX2_isWord 44 = .ok (.iload_n 2, 1) := by decide +kernel
theorem dX2_isWord_45 : decode cX2_isWord 45 = .ok (.iadd, 1) := by decide +kernel
theorem dX2_isWord_46 : decode cX2_isWord 46 = .ok (.baload, 1) := by decide +kernel
theorem dX2_isWord_47 : decode cX2_isWord 47 = .ok (.aload_n 1, 1) := by decide +kernel
theorem dX2_isWord_48 : decode cX2_isWord 48 = .ok (.iload_n 2, 1) := by decide +kernel
theorem dX2_isWord_49 : decode cX2_isWord 49 = .ok (.invokevirtual 37, 3) := by decide +kernel
theorem dX2_isWord_52 : decode cX2_isWord 52 = .ok (.if_icmp .eq 5, 3) := by decide +kernel
theorem dX2_isWord_55 : decode cX2_isWord 55 = .ok (.iconst 0, 1) := by decide +kernel
theorem dX2_isWord_56 : decode cX2_isWord 56 = .ok (.ireturn, 1) := by decide +kernel
theorem dX2_isWord_57 : decode cX2_isWord 57 = .ok (.iinc 2 1, 3) := by decide +kernel
theorem dX2_isWord_60 : decode cX2_isWord 60 = .ok (.goto (-32), 3) := by decide +kernel
theorem dX2_isWord_63 : decode cX2_isWord 63 = .ok (.iconst 1, 1) := by decide +kernel
theorem dX2_isWord_64 : decode cX2_isWord 64 = .ok (.ireturn, 1) := by decide +kernel
theorem dX2_step_0 : decode cX2_step 0 = .ok (.aload_n 0, 1) := by decide +kernel
theorem dX2_step_1 : decode cX2_step 1 = .ok (.aload_n 0, 1) := by decide +kernel
theorem dX2_step_2 : decode cX2_step 2 = .ok (.getfield 44, 3) := by decide +kernel
theorem dX2_step_5 : decode cX2_step 5 = .ok (.putfield 72, 3) := by decide +kernel
theorem dX2_step_8 : decode cX2_step 8 = .ok (.aload_n 0, 1) := by decide +kernel
theorem dX2_step_9 : decode cX2_step 9 = .ok (.getfield 72, 3) := by decide +kernel
theorem dX2_step_12 : decode cX2_step 12 = .ok (.aload_n 0, 1) := by decide +kernel
theorem dX2_step_13 : decode cX2_step 13 = .ok (.getfield 41, 3) := by decide +kernel
theorem dX2_step_16 : decode cX2_step 16 = .ok (.if_icmp .ge 44, 3) := by decide +kernel
theorem dX2_step_19 : decode cX2_step 19 = .ok (.aload_n 0, 1) := by decide +kernel
theorem dX2_step_20 : decode cX2_step 20 = .ok (.getfield 9, 3) := by decide +kernel
theorem dX2_step_23 : decode cX2_step 23 = .ok (.aload_n 0, 1) := by decide +kernel
theorem dX2_step_24 : decode cX2_step 24 = .ok (.getfield 72, 3) := by decide +kernel
theorem dX2_step_27 : decode cX2_step 27 = .ok (.baload, 1) := by decide +kernel
theorem dX2_step_28 : decode cX2_step 28 = .ok (.bipush 32, 2) := by decide +kernel
theorem dX2_step_30 : decode cX2_step 30 = .ok (.if_icmp .eq 17, 3) := by decide +kernel
theorem dX2_step_33 : decode cX2_step 33 = .ok (.aload_n 0, 1) := by decide +kernel
theorem dX2_step_34 : decode cX2_step 34 = .ok (.getfield 9, 3) := by decide +kernel
theorem dX2_step_37 : decode cX2_step 37 = .ok (.aload_n 0, 1) := by decide +kernel
theorem dX2_step_38 : decode cX2_step 38 = .ok (.getfield 72, 3) := by decide +kernel
theorem dX2_step_41 : decode cX2_step 41 = .ok (.baload, 1) := by decide +kernel
theorem dX2_step_42 : decode cX2_step 42 = .ok (.bipush 10, 2) := by decide +kernel
theorem dX2_step_44 : decode cX2_step 44 = .ok (.if_icmp .ne 16, 3) := by decide +kernel
theorem dX2_step_47 : decode cX2_step 47 = .ok (.aload_n 0, 1) := by decide +kernel
theorem dX2_step_48 : decode cX2_step 48 = .ok (.dup, 1) := by decide +kernel
theorem dX2_step_49 : decode cX2_step 49 = .ok (.getfield 72, 3) := by decide +kernel
theorem dX2_step_52 : decode cX2_step 52 = .ok (.iconst 1, 1) := by decide +kernel
theorem dX2_step_53 : decode cX2_step 53 = .ok (.iadd, 1) := by decide +kernel
theorem dX2_step_54 : decode cX2_step 54 = .ok (.putfield 72, 3) := by decide +kernel
theorem dX2_step_57 : decode cX2_step 57 = .ok (.goto (-49), 3) := by decide +kernel
theorem dX2_step_60 : decode cX2_step 60 = .ok (.aload_n 0, 1) := by decide +kernel
theorem dX2_step_61 : decode cX2_step 61 = .ok (.aload_n 0, 1) := by decide +kernel
theorem dX2_step_62 : decode cX2_step 62 = .ok (.getfield 72, 3) := by decide +kernel
theorem dX2_step_65 : decode cX2_step 65 = .ok (.putfield 44, 3) := by decide +kernel
theorem dX2_step_68 : decode cX2_step 68 = .ok (.aload_n 0, 1) := by decide +kernel
theorem dX2_step_69 : decode cX2_step 69 = .ok (.getfield 72, 3) := by decide +kernel
theorem dX2_step_72 : decode cX2_step 72 = .ok (.aload_n 0, 1) := by decide +kernel
theorem dX2_step_73 : decode cX2_step 73 = .ok (.getfield 41, 3) := by decide +kernel
theorem dX2_step_76 : decode cX2_step 76 = .ok (.if_icmp .lt 11, 3) := by decide +kernel
theorem dX2_step_79 : decode cX2_step 79 = .ok (.aload_n 0, 1) := by decide +kernel
theorem dX2_step_80 : decode cX2_step 80 = .ok (.iconst 0, 1) := by decide +kernel
theorem dX2_step_81 : decode cX2_step 81 = .ok (.putfield 69, 3) := by decide +kernel
theorem dX2_step_84 : decode cX2_step 84 = .ok (.goto 106, 3) := by decide +kernel
theorem dX2_step_87 : decode cX2_step 87 = .ok (.aload_n 0, 1) := by decide +kernel
theorem dX2_step_88 : decode cX2_step 88 = .ok (.getfield 9, 3) := by decide +kernel
theorem dX2_step_91 : decode cX2_step 91 = .ok (.aload_n 0, 1) := by decide +kernel
theorem dX2_step_92 : decode cX2_step 92 = .ok (.getfield 72, 3) := by decide +kernel
theorem dX2_step_95 : decode cX2_step 95 = .ok (.baload, 1) := by decide +kernel
theorem dX2_step_96 : decode cX2_step 96 = .ok (.bipush 97, 2) := by decide +kernel
theorem dX2_step_98 : decode cX2_step 98 = .ok (.if_icmp .lt 24, 3) := by decide +kernel
theorem dX2_step_101 : decode cX2_step 101 = .ok (.aload_n 0, 1) := by decide +kernel
theorem dX2_step_102 : decode cX2_step 102 = .ok (.getfield 9, 3) := by decide +kernel
theorem dX2_step_105 : decode cX2_step 105 = .ok (.aload_n 0, 1) := by decide +kernel
theorem dX2_step_106 : decode cX2_step 106 = .ok (.getfield 72, 3) := by decide +kernel
theorem dX2_step_109 : decode cX2_step 109 = .ok (.baload, 1) := by decide +kernel
theorem dX2_step_110 : decode cX2_step 110 = .ok (.bipush 122, 2) := by decide +kernel
theorem dX2_step_112 : decode cX2_step 112 = .ok (.if_icmp .gt 10, 3) := by decide +kernel
theorem dX2_step_115 : decode cX2_step 115 = .ok (.aload_n 0, 1) := by decide +kernel
theorem dX2_step_116 : decode cX2_step 116 = .ok (.invokevirtual 149, 3) := by decide +kernel
theorem dX2_step_119 : decode cX2_step 119 = .ok (.goto 71, 3) := by decide +kernel
theorem dX2_step_122 : decode cX2_step 122 = .ok (.aload_n 0, 1) := by decide +kernel
theorem dX2_step_123 : decode cX2_step 123 = .ok (.getfield 9, 3) := by decide +kernel
theorem dX2_step_126 : decode cX2_step 126 = .ok (.aload_n 0, 1) := by decide +kernel
theorem dX2_step_127 : decode cX2_step 127 = .ok (.getfield 72, 3) := by decide +kernel
theorem dX2_step_130 : decode cX2_step 130 = .ok (.baload, 1) := by decide +kernel
theorem dX2_step_131 : decode cX2_step 131 = .ok (.bipush 48, 2) := by decide +kernel
theorem dX2_step_133 : decode cX2_step 133 = .ok (.if_icmp .lt 24, 3) := by decide +kernel
theorem dX2_step_136 : decode cX2_step 136 = .ok (.aload_n 0, 1) := by decide +kernel
theorem dX2_step_137 : decode cX2_step 137 = .ok (.getfield 9, 3) := by decide +kernel
theorem dX2_step_140 : decode cX2_step 140 = .ok (.aload_n 0, 1) := by decide +kernel
theorem dX2_step_141 : decode cX2_step 141 = .ok (.getfield 72, 3) := by decide +kernel
theorem dX2_step_144 : decode cX2_step 144 = .ok (.baload, 1) := by decide +kernel
theorem dX2_step_145 : decode cX2_step 145 = .ok (.bipush 57, 2) := by decide +kernel
theorem dX2_step_147 : decode cX2_step 147 = .ok (.if_icmp .gt 10, 3) := by decide +kernel
theorem dX2_step_150 : decode cX2_step 150 = .ok (.aload_n 0, 1) := by decide +kernel
theorem dX2_step_151 : decode cX2_step 151 = .ok (.invokevirtual 152, 3) := by decide +kernel
theorem dX2_step_154 : decode cX2_step 154 = .ok (.goto 36, 3) := by decide +kernel
theorem dX2_step_157 : decode cX2_step 157 = .ok (.aload_n 0, 1) := by decide +kernel
theorem dX2_step_158 : decode cX2_step 158 = .ok (.aload_n 0, 1) := by decide +kernel
theorem dX2_step_159 : decode cX2_step 159 = .ok (.getfield 9, 3) := by decide +kernel
theorem dX2_step_162 : decode cX2_step 162 = .ok (.aload_n 0, 1) := by decide +kernel
theorem dX2_step_163 : decode cX2_step 163 = .ok (.getfield 72, 3) := by decide +kernel
theorem dX2_step_166 : decode cX2_step 166 = .ok (.baload, 1) := by decide +kernel
theorem dX2_step_167 : decode cX2_step 167 = .ok (.bipush 59, 2) := by decide +kernel
theorem dX2_step_169 : decode cX2_step 169 = .ok (.if_icmp .ne 7, 3) := by decide +kernel
theorem dX2_step_172 : decode cX2_step 172 = .ok (.iconst 3, 1) := by decide +kernel
theorem dX2_step_173 : decode cX2_step 173 = .ok (.goto 4, 3) := by decide +kernel
theorem dX2_step_176 : decode cX2_step 176 = .ok (.iconst 4, 1) := by decide +kernel
theorem dX2_step_177 : decode cX2_step 177 = .ok (.putfield 69, 3) := by decide +kernel
theorem dX2_step_180 : decode cX2_step 180 = .ok (.aload_n 0, 1) := by decide +kernel
theorem dX2_step_181 : decode cX2_step 181 = .ok (.dup, 1) := by decide +kernel
theorem dX2_step_182 : decode cX2_step 182 = .ok (.getfield 44, 3) := by decide +kernel
theorem dX2_step_185 : decode cX2_step 185 = .ok (.iconst 1, 1) := by decide +kernel
theorem dX2_step_186 : decode cX2_step 186 = .ok (.iadd, 1) := by decide +kernel
theorem dX2_step_187 : decode cX2_step 187 = .ok (.putfield 44, 3) := by decide +kernel
theorem dX2_step_190 : decode cX2_step 190 = .ok (.return_, 1) := by decide +kernel
theorem dX2_stepOverWord_0 : decode cX2_stepOverWord 0 = .ok (.aload_n 0, 1) := by decide +kernel
theorem dX2_stepOverWord_1 : decode cX2_stepOverWord 1 = .ok (.getfield 44, 3) := by decide +kernel
theorem dX2_stepOverWord_4 : decode cX2_stepOverWord 4 = .ok (.aload_n 0, 1) := by decide +kernel
theorem dX2_stepOverWord_5 : decode cX2_stepOverWord 5 = .ok (.getfield 41, 3) := by decide +kernel
theorem dX2_stepOverWord_8 : decode cX2_stepOverWord 8 = .ok (.if_icmp .ge 44, 3) := by decide +kernel
theorem dX2_stepOverWord_11 : decode cX2_stepOverWord 11 = .ok (.aload_n 0, 1) := by decide +kernel
theorem dX2_stepOverWord_12 : decode cX2_stepOverWord 12 = .ok (.getfield 9, 3) := by decide +kernel
theorem dX2_stepOverWord_15 : decode cX2_stepOverWord 15 = .ok (.aload_n 0, 1) := by decide +kernel
theorem dX2_stepOverWord_16 : decode cX2_stepOverWord 16 = .ok (.getfield 44, 3) := by decide +kernel
theorem dX2_stepOverWord_19 : decode cX2_stepOverWord 19 = .ok (.baload, 1) := by decide +kernel
theorem dX2_stepOverWord_20 : decode cX2_stepOverWord 20 = .ok (.bipush 97, 2) := by decide +kernel
theorem dX2_stepOverWord_22 : decode cX2_stepOverWord 22 = .ok (.if_icmp .lt 30, 3) := by decide +kernel
theorem dX2_stepOverWord_25 : decode cX2_stepOverWord 25 = .ok (.aload_n 0, 1) := by decide +kernel
theorem dX2_stepOverWord_26 : decode cX2_stepOverWord 26 = .ok (.getfield 9, 3) := by decide +kernel
theorem dX2_stepOverWord_29 : decode cX2_stepOverWord 29 = .ok (.aload_n 0, 1) := by decide +kernel
theorem dX2_stepOverWord_30 : decode cX2_stepOverWord 30 = .ok (.getfield 44, 3) := by decide +kernel
theorem dX2_stepOverWord_33 : decode cX2_stepOverWord 33 = .ok (.baload, 1) := by decide +kernel
theorem dX2_stepOverWord_34 : decode cX2_stepOverWord 34 = .ok (.bipush 122, 2) := by decide +kernel
theorem dX2_stepOverWord_36 : decode cX2_stepOverWord 36 = .ok (.if_icmp .gt 16, 3) := by decide +kernel
theorem dX2_stepOverWord_39 : decode cX2_stepOverWord 39 = .ok (.aload_n 0, 1) := by decide +kernel
theorem dX2_stepOverWord_40 : decode cX2_stepOverWord 40 = .ok (.dup, 1) := by decide +kernel
theorem dX2_stepOverWord_41 : decode cX2_stepOverWord 41 = .ok (.getfield 44, 3) := by decide +kernel
theorem dX2_stepOverWord_44 : decode cX2_stepOverWord 44 = .ok (.iconst 1, 1) := by decide +kernel
theorem dX2_stepOverWord_45 : decode cX2_stepOverWord 45 = .ok (.iadd, 1) := by decide +kernel
theorem dX2_stepOverWord_46 : decode cX2_stepOverWord 46 = .ok (.putfield 44, 3) := by decide +kernel
theorem dX2_stepOverWord_49 : decode cX2_stepOverWord 49 = .ok (.goto (-49), 3) := by decide +kernel
theorem dX2_stepOverWord_52 : decode cX2_stepOverWord 52 = .ok (.aload_n 0, 1) := by decide +kernel
theorem dX2_stepOverWord_53 : decode cX2_stepOverWord 53 = .ok (.iconst 1, 1) := by decide +kernel
theorem dX2_stepOverWord_54 : decode cX2_stepOverWord 54 = .ok (.putfield 69, 3) := by decide +kernel
theorem dX2_stepOverWord_57 : decode cX2_stepOverWord 57 = .ok (.return_, 1) := by decide +kernel
theorem dX2_stepOverNumber_0 : decode cX2_stepOverNumber 0 = .ok (.iconst 0, 1) := by decide +kernel
theorem dX2_stepOverNumber_1 : decode cX2_stepOverNumber 1 = .ok (.istore_n 1, 1) := by decide +kernel
theorem dX2_stepOverNumber_2 : decode cX2_stepOverNumber 2 = .ok (.aload_n 0, 1) := by decide +kernel
theorem dX2_stepOverNumber_3 : decode cX2_stepOverNumber 3 = .ok (.getfield 44, 3) := by decide +kernel
theorem dX2_stepOverNumber_6 : decode cX2_stepOverNumber 6 = .ok (.aload_n 0, 1) := by decide +kernel
theorem dX2_stepOverNumber_7 : decode cX2_stepOverNumber 7 = .ok (.getfield 41, 3) := by decide +kernel
theorem dX2_stepOverNumber_10 : decode cX2_stepOverNumber 10 = .ok (.if_icmp .ge 79, 3) := by decide +kernel
theorem dX2_stepOverNumber_13 : decode cX2_stepOverNumber 13 = .ok (.aload_n 0, 1) := by decide +kernel
theorem dX2_stepOverNumber_14 : decode cX2_stepOverNumber 14 = .ok (.getfield 9, 3) := by decide +kernel
theorem dX2_stepOverNumber_17 : decode cX2_stepOverNumber 17 = .ok (.aload_n 0, 1) := by decide +kernel
theorem dX2_stepOverNumber_18 : decode cX2_stepOverNumber 18 = .ok (.getfield 44, 3) := by decide +kernel
theorem dX2_stepOverNumber_21 : decode cX2_stepOverNumber 21 = .ok (.baload, 1) := by decide +kernel
theorem dX2_stepOverNumber_22 : decode cX2_stepOverNumber 22 = .ok (.bipush 48, 2) := by decide +kernel
theorem dX2_stepOverNumber_24 : decode cX2_stepOverNumber 24 = .ok (.if_icmp .lt 65, 3) := by decide +kernel
theorem dX2_stepOverNumber_27 : decode cX2_stepOverNumber 27 = .ok (.aload_n 0, 1) := by decide +kernel
theorem dX2_stepOverNumber_28 : decode cX2_stepOverNumber 28 = .ok (.getfield 9, 3) := by decide +kernel
theorem dX2_stepOverNumber_31 : decode cX2_stepOverNumber 31 = .ok (.aload_n 0, 1) := by decide +kernel
theorem dX2_stepOverNumber_32 : decode cX2_stepOverNumber 32 = .ok (.getfield 44, 3) := by decide +kernel
theorem dX2_stepOverNumber_35 : decode cX2_stepOverNumber 35 = .ok (.baload, 1) := by decide +kernel
theorem dX2_stepOverNumber_36 : decode cX2_stepOverNumber 36 = .ok (.bipush 57, 2) := by decide +kernel
theorem dX2_stepOverNumber_38 : decode cX2_stepOverNumber 38 = .ok (.if_icmp .gt 51, 3) := by decide +kernel
theorem dX2_stepOverNumber_41 : decode cX2_stepOverNumber 41 = .ok (.aload_n 0, 1) := by decide +kernel
theorem dX2_stepOverNumber_42 : decode cX2_stepOverNumber 42 = .ok (.getfield 44, 3) := by decide +kernel
theorem dX2_stepOverNumber_45 : decode cX2_stepOverNumber 45 = .ok (.aload_n 0, 1) := by decide +kernel
theorem dX2_stepOverNumber_46 : decode cX2_stepOverNumber 46 = .ok (.getfield 72, 3) := by decide +kernel
theorem dX2_stepOverNumber_49 : decode cX2_stepOverNumber 49 = .ok (.isub, 1) := by decide +kernel
theorem dX2_stepOverNumber_50 : decode cX2_stepOverNumber 50 = .ok (.iconst 3, 1) := by decide +kernel
theorem dX2_stepOverNumber_51 : decode cX2_stepOverNumber 51 = .ok (.if_icmp .ge 23, 3) := by decide +kernel
theorem dX2_stepOverNumber_54 : decode cX2_stepOverNumber 54 = .ok (.iload_n 1, 1) := by decide +kernel
theorem dX2_stepOverNumber_55 : decode cX2_stepOverNumber 55 = .ok (.bipush 10, 2) := by decide +kernel
theorem dX2_stepOverNumber_57 : decode cX2_stepOverNumber 57 = .ok (.imul, 1) := by decide +kernel
theorem dX2_stepOverNumber_58 : decode cX2_stepOverNumber 58 = .ok (.aload_n 0, 1) := by decide +kernel
theorem dX2_stepOverNumber_59 : decode cX2_stepOverNumber 59 = .ok (.getfield 9, 3) := by decide +kernel
theorem dX2_stepOverNumber_62 : decode cX2_stepOverNumber 62 = .ok (.aload_n 0, 1) := by decide +kernel
theorem dX2_stepOverNumber_63 : decode cX2_stepOverNumber 63 = .ok (.getfield 44, 3) := by decide +kernel
theorem dX2_stepOverNumber_66 : decode cX2_stepOverNumber 66 = .ok (.baload, 1) := by decide +kernel
theorem dX2_stepOverNumber_67 : decode cX2_stepOverNumber 67 = .ok (.bipush 48, 2) := by decide +kernel
theorem dX2_stepOverNumber_69 : decode cX2_stepOverNumber 69 = .ok (.isub, 1) := by decide +kernel
theorem dX2_stepOverNumber_70 : decode cX2_stepOverNumber 70 = .ok (.iadd, 1) := by decide +kernel
theorem dX2_stepOverNumber_71 : decode cX2_stepOverNumber 71 = .ok (.goto 4, 3) := by decide +kernel
theorem dX2_stepOverNumber_74 : decode cX2_stepOverNumber 74 = .ok (.iload_n 1, 1) := by decide +kernel
theorem dX2_stepOverNumber_75 : decode cX2_stepOverNumber 75 = .ok (.istore_n 1, 1) := by decide +kernel
theorem dX2_stepOverNumber_76 : decode cX2_stepOverNumber 76 = .ok (.aload_n 0, 1) := by decide +kernel
theorem dX2_stepOverNumber_77 : decode cX2_stepOverNumber 77 = .ok (.dup, 1) := by decide +kernel
theorem dX2_stepOverNumber_78 : decode cX2_stepOverNumber 78 = .ok (.getfield 44, 3) := by decide +kernel
theorem dX2_stepOverNumber_81 : decode cX2_stepOverNumber 81 = .ok (.iconst 1, 1) := by decide +kernel
theorem dX2_stepOverNumber_82 : decode cX2_stepOverNumber 82 = .ok (.iadd, 1) := by decide +kernel
theorem dX2_stepOverNumber_83 : decode cX2_stepOverNumber 83 = .ok (.putfield 44, 3) := by decide +kernel
theorem dX2_stepOverNumber_86 : decode cX2_stepOverNumber 86 = .ok (.goto (-84), 3) := by decide +kernel
theorem dX2_stepOverNumber_89 : decode cX2_stepOverNumber 89 = .ok (.aload_n 0, 1) := by decide +kernel
theorem dX2_stepOverNumber_90 : decode cX2_stepOverNumber 90 = .ok (.aload_n 0, 1) := by decide +kernel
theorem dX2_stepOverNumber_91 : decode cX2_stepOverNumber 91 = .ok (.getfield 44, 3) := by decide +kernel
theorem dX2_stepOverNumber_94 : decode cX2_stepOverNumber 94 = .ok (.aload_n 0, 1) := by decide +kernel
theorem dX2_stepOverNumber_95 : decode cX2_stepOverNumber 95 = .ok (.getfield 72, 3) := by decide +kernel
theorem dX2_stepOverNumber_98 : decode cX2_stepOverNumber 98 = .ok (.isub, 1) := by decide +kernel
theorem dX2_stepOverNumber_99 : decode cX2_stepOverNumber 99 = .ok (.iconst 3, 1) := by decide +kernel
theorem dX2_stepOverNumber_100 : decode cX2_stepOverNumber 100 = .ok (.if_icmp .gt 7, 3) := by decide +kernel
theorem dX2_stepOverNumber_103 : decode cX2_stepOverNumber 103 = .ok (.iconst 2, 1) := by decide +kernel
theorem dX2_stepOverNumber_104 : decode cX2_stepOverNumber 104 = .ok (.goto 4, 3) := by decide +kernel
theorem dX2_stepOverNumber_107 : decode cX2_stepOverNumber 107 = .ok (.iconst 4, 1) := by decide +kernel
theorem dX2_stepOverNumber_108 : decode cX2_stepOverNumber 108 = .ok (.putfield 69, 3) := by decide +kernel
theorem dX2_stepOverNumber_111 : decode cX2_stepOverNumber 111 = .ok (.aload_n 0, 1) := by decide +kernel
theorem dX2_stepOverNumber_112 : decode cX2_stepOverNumber 112 = .ok (.iload_n 1, 1) := by decide +kernel
theorem dX2_stepOverNumber_113 : decode cX2_stepOverNumber 113 = .ok (.putfield 112, 3) := by decide +kernel
theorem dX2_stepOverNumber_116 : decode cX2_stepOverNumber 116 = .ok (.return_, 1) := by decide +kernel
theorem dX4_init_0 : decode cX4_init 0 = .ok (.aload_n 0, 1) := by decide +kernel
theorem dX4_init_1 : decode cX4_init 1 = .ok (.invokespecial 3, 3) := by decide +kernel
theorem dX4_init_4 : decode cX4_init 4 = .ok (.aload_n 0, 1) := by decide +kernel
theorem dX4_init_5 : decode cX4_init 5 = .ok (.sipush 140, 3) := by decide +kernel
theorem dX4_init_8 : decode cX4_init 8 = .ok (.newarray .byte, 2) := by decide +kernel
theorem dX4_init_10 : decode cX4_init 10 = .ok (.putfield 9, 3) := by decide +kernel
theorem dX4_init_13 : decode cX4_init 13 = .ok (.return_, 1) := by decide +kernel
theorem dX5_init_0 : decode cX5_init 0 = .ok (.aload_n 0, 1) := by decide +kernel
theorem dX5_init_1 : decode cX5_init 1 = .ok (.invokespecial 3, 3) := by decide +kernel
theorem dX5_init_4 : decode cX5_init 4 = .ok (.aload_n 0, 1) := by decide +kernel
theorem dX5_init_5 : decode cX5_init 5 = .ok (.new 9, 3) := by decide +kernel
theorem dX5_init_8 : decode cX5_init 8 = .ok (.dup, 1) := by decide +kernel
theorem dX5_init_9 : decode cX5_init 9 = .ok (.invokespecial 11, 3) := by decide +kernel
theorem dX5_init_12 : decode cX5_init 12 = .ok (.putfield 12, 3) := by decide +kernel
theorem dX5_init_15 : decode cX5_init 15 = .ok (.aload_n 0, 1) := by decide +kernel
theorem dX5_init_16 : decode cX5_init 16 = .ok (.getfield 12, 3) := by decide +kernel
theorem dX5_init_19 : decode cX5_init 19 = .ok (.ldc 16, 2) := by decide +kernel
theorem dX5_init_21 : decode cX5_init 21 = .ok (.invokevirtual 18, 3) := by decide +kernel
theorem dX5_init_24 : decode cX5_init 24 = .ok (.aload_n 0, 1) := by decide +kernel
theorem dX5_init_25 : decode cX5_init 25 = .ok (.aload_n 0, 1) := by decide +kernel
theorem dX5_init_26 : decode cX5_init 26 = .ok (.getfield 12, 3) := by decide +kernel
theorem dX5_init_29 : decode cX5_init 29 = .ok (.invokevirtual 22, 3) := by decide +kernel
theorem dX5_init_32 : decode cX5_init 32 = .ok (.putfield 26, 3) := by decide +kernel
theorem dX5_init_35 : decode cX5_init 35 = .ok (.new 30, 3) := by decide +kernel
theorem dX5_init_38 : decode cX5_init 38 = .ok (.dup, 1) := by decide +kernel
theorem dX5_init_39 : decode cX5_init 39 = .ok (.invokespecial 32, 3) := by decide +kernel
theorem dX5_init_42 : decode cX5_init 42 = .ok (.astore_n 1, 1) := by decide +kernel
theorem dX5_init_43 : decode cX5_init 43 = .ok (.aload_n 1, 1) := by decide +kernel
theorem dX5_init_44 : decode cX5_init 44 = .ok (.aload_n 0, 1) := by decide +kernel
theorem dX5_init_45 : decode cX5_init 45 = .ok (.getfield 12, 3) := by decide +kernel
theorem dX5_init_48 : decode cX5_init 48 = .ok (.getfield 33, 3) := by decide +kernel
theorem dX5_init_51 : decode cX5_init 51 = .ok (.getfield 37, 3) := by decide +kernel
theorem dX5_init_54 : decode cX5_init 54 = .ok (.invokevirtual 43, 3) := by decide +kernel
theorem dX5_init_57 : decode cX5_init 57 = .ok (.aload_n 0, 1) := by decide +kernel
theorem dX5_init_58 : decode cX5_init 58 = .ok (.new 38, 3) := by decide +kernel
theorem dX5_init_61 : decode cX5_init 61 = .ok (.dup, 1) := by decide +kernel
theorem dX5_init_62 : decode cX5_init 62 = .ok (.aload_n 1, 1) := by decide +kernel
theorem dX5_init_63 : decode cX5_init 63 = .ok (.invokespecial 47, 3) := by decide +kernel
theorem dX5_init_66 : decode cX5_init 66 = .ok (.putfield 49, 3) := by decide +kernel
theorem dX5_init_69 : decode cX5_init 69 = .ok (.aload_n 0, 1) := by decide +kernel
theorem dX5_init_70 : decode cX5_init 70 = .ok (.getfield 49, 3) := by decide +kernel
theorem dX5_init_73 : decode cX5_init 73 = .ok (.aload_n 0, 1) := by decide +kernel
theorem dX5_init_74 : decode cX5_init 74 = .ok (.getfield 12, 3) := by decide +kernel
theorem dX5_init_77 : decode cX5_init 77 = .ok (.getfield 33, 3) := by decide +kernel
theorem dX5_init_80 : decode cX5_init 80 = .ok (.invokevirtual 52, 3) := by decide +kernel
theorem dX5_init_83 : decode cX5_init 83 = .ok (.aload_n 0, 1) := by decide +kernel
theorem dX5_init_84 : decode cX5_init 84 = .ok (.new 38, 3) := by decide +kernel
theorem dX5_init_87 : decode cX5_init 87 = .ok (.dup, 1) := by decide +kernel
theorem dX5_init_88 : decode cX5_init 88 = .ok (.aload_n 1, 1) := by decide +kernel
theorem dX5_init_89 : decode cX5_init 89 = .ok (.invokespecial 47, 3) := by decide +kernel
theorem dX5_init_92 : decode cX5_init 92 = .ok (.putfield 55, 3) := by decide +kernel
theorem dX5_init_95 : decode cX5_init 95 = .ok (.aload_n 0, 1) := by decide +kernel
theorem dX5_init_96 : decode cX5_init 96 = .ok (.new 58, 3) := by decide +kernel
theorem dX5_init_99 : decode cX5_init 99 = .ok (.dup, 1) := by decide +kernel
theorem dX5_init_100 : decode cX5_init 100 = .ok (.aload_n 1, 1) := by decide +kernel
theorem dX5_init_101 : decode cX5_init 101 = .ok (.invokespecial 60, 3) := by decide +kernel
theorem dX5_init_104 : decode cX5_init 104 = .ok (.putfield 61, 3) := by decide +kernel
theorem dX5_init_107 : decode cX5_init 107 = .ok (.aload_n 0, 1) := by decide +kernel
theorem dX5_init_108 : decode cX5_init 108 = .ok (.iconst 2, 1) := by decide +kernel
theorem dX5_init_109 : decode cX5_init 109 = .ok (.anewarray 38, 3) := by decide +kernel
theorem dX5_init_112 : decode cX5_init 112 = .ok (.putfield 65, 3) := by decide +kernel
theorem dX5_init_115 : decode cX5_init 115 = .ok (.iconst 0, 1) := by decide +kernel
theorem dX5_init_116 : decode cX5_init 116 = .ok (.istore_n 2, 1) := by decide +kernel
theorem dX5_init_117 : decode cX5_init 117 = .ok (.iload_n 2, 1) := by decide +kernel
theorem dX5_init_118 : decode cX5_init 118 = .ok (.iconst 2, 1) := by decide +kernel
theorem dX5_init_119 : decode cX5_init 119 = .ok (.if_icmp .ge 23, 3) := by decide +kernel
theorem dX5_init_122 : decode cX5_init 122 = .ok (.aload_n 0, 1) := by decide +kernel
theorem dX5_init_123 : decode cX5_init 123 = .ok (.getfield 65, 3) := by decide +kernel
theorem dX5_init_126 : decode cX5_init 126 = .ok (.iload_n 2, 1) := by decide +kernel
theorem dX5_init_127 : decode cX5_init 127 = .ok (.new 38, 3) := by decide +kernel
theorem dX5_init_130 : decode cX5_init 130 = .ok (.dup, 1) := by decide +kernel
theorem dX5_init_131 : decode cX5_init 131 = .ok (.aload_n 1, 1) := by decide +kernel
theorem dX5_init_132 : decode cX5_init 132 = .ok (.invokespecial 47, 3) := by decide +kernel
theorem dX5_init_135 : decode cX5_init 135 = .ok (.aastore, 1) := by decide +kernel
theorem dX5_init_136 : decode cX5_init 136 = .ok (.iinc 2 1, 3) := by decide +kernel
theorem dX5_init_139 : decode cX5_init 139 = .ok (.goto (-22), 3) := by decide +kernel
theorem dX5_init_142 : decode cX5_init 142 = .ok (.aload_n 0, 1) := by decide +kernel
theorem dX5_init_143 : decode cX5_init 143 = .ok (.iconst 2, 1) := by decide +kernel
theorem dX5_init_144 : decode cX5_init 144 = .ok (.newarray .boolean, 2) := by decide +kernel
theorem dX5_init_146 : decode cX5_init 146 = .ok (.putfield 69, 3) := by decide +kernel
theorem dX5_init_149 : decode cX5_init 149 = .ok (.aload_n 0, 1) := by decide +kernel
theorem dX5_init_150 : decode cX5_init 150 = .ok (.bipush 10, 2) := by decide +kernel
theorem dX5_init_152 : decode cX5_init 152 = .ok (.newarray .int, 2) := by decide +kernel
theorem dX5_init_154 : decode cX5_init 154 = .ok (.putfield 73, 3) := by decide +kernel
theorem dX5_init_157 : decode cX5_init 157 = .ok (.aload_n 0, 1) := by decide +kernel
theorem dX5_init_158 : decode cX5_init 158 = .ok (.new 77, 3) := by decide +kernel
theorem dX5_init_161 : decode cX5_init 161 = .ok (.dup, 1) := by decide +kernel
theorem dX5_init_162 : decode cX5_init 162 = .ok (.invokespecial 79, 3) := by decide +kernel
theorem dX5_init_165 : decode cX5_init 165 = .ok (.putfield 80, 3) := by decide +kernel
theorem dX5_init_168 : decode cX5_init 168 = .ok (.return_, 1) := by decide +kernel
theorem dX5_append_0 : decode cX5_append 0 = .ok (.aload_n 0, 1) := by decide +kernel
theorem dX5_append_1 : decode cX5_append 1 = .ok (.getfield 12, 3) := by decide +kernel
theorem dX5_append_4 : decode cX5_append 4 = .ok (.getfield 84, 3) := by decide +kernel
theorem dX5_append_7 : decode cX5_append 7 = .ok (.bipush 20, 2) := by decide +kernel
theorem dX5_append_9 : decode cX5_append 9 = .ok (.iadd, 1) := by decide +kernel
theorem dX5_append_10 : decode cX5_append 10 = .ok (.sipush 700, 3) := by decide +kernel
theorem dX5_append_13 : decode cX5_append 13 = .ok (.if_icmp .le 13, 3) := by decide +kernel
theorem dX5_append_16 : decode cX5_append 16 = .ok (.new 87, 3) := by decide +kernel
theorem dX5_append_19 : decode cX5_append 19 = .ok (.dup, 1) := by decide +kernel
theorem dX5_append_20 : decode cX5_append 20 = .ok (.ldc 89, 2) := by decide +kernel
theorem dX5_append_22 : decode cX5_append 22 = .ok (.invokespecial 91, 3) := by decide +kernel
theorem dX5_append_25 : decode cX5_append 25 = .ok (.athrow, 1) := by decide +kernel
theorem dX5_append_26 : decode cX5_append 26 = .ok (.aload_n 0, 1) := by decide +kernel
theorem dX5_append_27 : decode cX5_append 27 = .ok (.getfield 12, 3) := by decide +kernel
theorem dX5_append_30 : decode cX5_append 30 = .ok (.iload_n 1, 1) := by decide +kernel
theorem dX5_append_31 : decode cX5_append 31 = .ok (.invokevirtual 93, 3) := by decide +kernel
theorem dX5_append_34 : decode cX5_append 34 = .ok (.aload_n 0, 1) := by decide +kernel
theorem dX5_append_35 : decode cX5_append 35 = .ok (.getfield 12, 3) := by decide +kernel
theorem dX5_append_38 : decode cX5_append 38 = .ok (.iload_n 2, 1) := by decide +kernel
theorem dX5_append_39 : decode cX5_append 39 = .ok (.invokevirtual 93, 3) := by decide +kernel
theorem dX5_append_42 : decode cX5_append 42 = .ok (.aload_n 0, 1) := by decide +kernel
theorem dX5_append_43 : decode cX5_append 43 = .ok (.getfield 12, 3) := by decide +kernel
theorem dX5_append_46 : decode cX5_append 46 = .ok (.iload_n 3, 1) := by decide +kernel
theorem dX5_append_47 : decode cX5_append 47 = .ok (.invokevirtual 93, 3) := by decide +kernel
theorem dX5_append_50 : decode cX5_append 50 = .ok (.aload_n 0, 1) := by decide +kernel
theorem dX5_append_51 : decode cX5_append 51 = .ok (.getfield 12, 3) := by decide +kernel
theorem dX5_append_54 : decode cX5_append 54 = .ok (.iload 4, 2) := by decide +kernel
theorem dX5_append_56 : decode cX5_append 56 = .ok (.invokevirtual 93, 3) := by decide +kernel
theorem dX5_append_59 : decode cX5_append 59 = .ok (.aload_n 0, 1) := by decide +kernel
theorem dX5_append_60 : decode cX5_append 60 = .ok (.getfield 12, 3) := by decide +kernel
theorem dX5_append_63 : decode cX5_append 63 = .ok (.iload 5, 2) := by decide +kernel
theorem dX5_append_65 : decode cX5_append 65 = .ok (.invokevirtual 93, 3) := by decide +kernel
theorem dX5_append_68 : decode cX5_append 68 = .ok (.aload_n 0, 1) := by decide +kernel
theorem dX5_append_69 : decode cX5_append 69 = .ok (.getfield 12, 3) := by decide +kernel
theorem dX5_append_72 : decode cX5_append 72 = .ok (.getfield 84, 3) := by decide +kernel
theorem dX5_append_75 : decode cX5_append 75 = .ok (.ireturn, 1) := by decide +kernel
theorem dX5_shorten_0 : decode cX5_shorten 0 = .ok (.iload_n 1, 1) := by decide +kernel
theorem dX5_shorten_1 : decode cX5_shorten 1 = .ok (.ifCond .lt 14, 3) := by decide +kernel
theorem dX5_shorten_4 : decode cX5_shorten 4 = .ok (.iload_n 1, 1) := by decide +kernel
theorem dX5_shorten_5 : decode cX5_shorten 5 = .ok (.aload_n 0, 1) := by decide +kernel
theorem dX5_shorten_6 : decode cX5_shorten 6 = .ok (.getfield 12, 3) := by decide +kernel
theorem dX5_shorten_9 : decode cX5_shorten 9 = .ok (.getfield 84, 3) := by decide +kernel
theorem dX5_shorten_12 : decode cX5_shorten 12 = .ok (.if_icmp .le 13, 3) := by decide +kernel
theorem dX5_shorten_15 : decode cX5_shorten 15 = .ok (.new 97, 3) := by decide +kernel
theorem dX5_shorten_18 : decode cX5_shorten 18 = .ok (.dup, 1) := by decide +kernel
theorem dX5_shorten_19 : decode cX5_shorten 19 = .ok (.ldc 99, 2) := by decide +kernel
theorem dX5_shorten_21 : decode cX5_shorten 21 = .ok (.invokespecial 101, 3) := by decide +kernel
theorem dX5_shorten_24 : decode cX5_shorten 24 = .ok (.athrow, 1) := by decide +kernel
theorem dX5_shorten_25 : decode cX5_shorten 25 = .ok (.aload_n 0, 1) := by decide +kernel
theorem dX5_shorten_26 : decode cX5_shorten 26 = .ok (.getfield 12, 3) := by decide +kernel
theorem dX5_shorten_29 : decode cX5_shorten 29 = .ok (.iload_n 1, 1) := by decide +kernel
theorem dX5_shorten_30 : decode cX5_shorten 30 = .ok (.putfield 84, 3) := by decide +kernel
theorem dX5_shorten_33 : decode cX5_shorten 33 = .ok (.iload_n 1, 1) := by decide +kernel
theorem dX5_shorten_34 : decode cX5_shorten 34 = .ok (.ireturn, 1) := by decide +kernel
theorem dX5_load_0 : decode cX5_load 0 = .ok (.aload_n 0, 1) := by decide +kernel
theorem dX5_load_1 : decode cX5_load 1 = .ok (.aload_n 0, 1) := by decide +kernel
theorem dX5_load_2 : decode cX5_load 2 = .ok (.getfield 12, 3) := by decide +kernel
theorem dX5_load_5 : decode cX5_load 5 = .ok (.invokevirtual 22, 3) := by decide +kernel
theorem dX5_load_8 : decode cX5_load 8 = .ok (.putfield 26, 3) := by decide +kernel
theorem dX5_load_11 : decode cX5_load 11 = .ok (.aload_n 0, 1) := by decide +kernel
theorem dX5_load_12 : decode cX5_load 12 = .ok (.getfield 26, 3) := by decide +kernel
theorem dX5_load_15 : decode cX5_load 15 = .ok (.iconst (-1), 1) := by decide +kernel
theorem dX5_load_16 : decode cX5_load 16 = .ok (.if_icmp .eq 13, 3) := by decide +kernel
theorem dX5_load_19 : decode cX5_load 19 = .ok (.new 97, 3) := by decide +kernel
theorem dX5_load_22 : decode cX5_load 22 = .ok (.dup, 1) := by decide +kernel
theorem dX5_load_23 : decode cX5_load 23 = .ok (.ldc 102, 2) := by decide +kernel
theorem dX5_load_25 : decode cX5_load 25 = .ok (.invokespecial 101, 3) := by decide +kernel
theorem dX5_load_28 : decode cX5_load 28 = .ok (.athrow, 1) := by decide +kernel
theorem dX5_load_29 : decode cX5_load 29 = .ok (.aload_n 0, 1) := by decide +kernel
theorem dX5_load_30 : decode cX5_load 30 = .ok (.getfield 49, 3) := by decide +kernel
theorem dX5_load_33 : decode cX5_load 33 = .ok (.getfield 37, 3) := by decide +kernel
theorem dX5_load_36 : decode cX5_load 36 = .ok (.aload_n 0, 1) := by decide +kernel
theorem dX5_load_37 : decode cX5_load 37 = .ok (.getfield 12, 3) := by decide +kernel
theorem dX5_load_40 : decode cX5_load 40 = .ok (.getfield 33, 3) := by decide +kernel
theorem dX5_load_43 : decode cX5_load 43 = .ok (.getfield 37, 3) := by decide +kernel
theorem dX5_load_46 : decode cX5_load 46 = .ok (.invokevirtual 43, 3) := by decide +kernel
theorem dX5_load_49 : decode cX5_load 49 = .ok (.aload_n 0, 1) := by decide +kernel
theorem dX5_load_50 : decode cX5_load 50 = .ok (.getfield 49, 3) := by decide +kernel
theorem dX5_load_53 : decode cX5_load 53 = .ok (.aload_n 0, 1) := by decide +kernel
theorem dX5_load_54 : decode cX5_load 54 = .ok (.getfield 12, 3) := by decide +kernel
theorem dX5_load_57 : decode cX5_load 57 = .ok (.getfield 33, 3) := by decide +kernel
theorem dX5_load_60 : decode cX5_load 60 = .ok (.invokevirtual 52, 3) := by decide +kernel
theorem dX5_load_63 : decode cX5_load 63 = .ok (.aload_n 0, 1) := by decide +kernel
theorem dX5_load_64 : decode cX5_load 64 = .ok (.getfield 61, 3) := by decide +kernel
theorem dX5_load_67 : decode cX5_load 67 = .ok (.invokevirtual 104, 3) := by decide +kernel
theorem dX5_load_70 : decode cX5_load 70 = .ok (.iconst 0, 1) := by decide +kernel
theorem dX5_load_71 : decode cX5_load 71 = .ok (.istore_n 1, 1) := by decide +kernel
theorem dX5_load_72 : decode cX5_load 72 = .ok (.iload_n 1, 1) := by decide +kernel
theorem dX5_load_73 : decode cX5_load 73 = .ok (.iconst 2, 1) := by decide +kernel
theorem dX5_load_74 : decode cX5_load 74 = .ok (.if_icmp .ge 16, 3) := by decide +kernel
theorem dX5_load_77 : decode cX5_load 77 = .ok (.aload_n 0, 1) := by decide +kernel
theorem dX5_load_78 : decode cX5_load 78 = .ok (.getfield 69, 3) := by decide +kernel
theorem dX5_load_81 : decode cX5_load 81 = .ok (.iload_n 1, 1) := by decide +kernel
theorem dX5_load_82 : decode cX5_load 82 = .ok (.iconst 0, 1) := by decide +kernel
theorem dX5_load_83 : decode cX5_load 83 = .ok (.bastore, 1) := by decide +kernel
theorem dX5_load_84 : decode cX5_load 84 = .ok (.iinc 1 1, 3) := by decide +kernel
theorem dX5_load_87 : decode cX5_load 87 = .ok (.goto (-15), 3) := by decide +kernel
theorem dX5_load_90 : decode cX5_load 90 = .ok (.aload_n 0, 1) := by decide +kernel
theorem dX5_load_91 : decode cX5_load 91 = .ok (.getfield 49, 3) := by decide +kernel
theorem dX5_load_94 : decode cX5_load 94 = .ok (.getfield 37, 3) := by decide +kernel
theorem dX5_load_97 : decode cX5_load 97 = .ok (.getfield 107, 3) := by decide +kernel
theorem dX5_load_100 : decode cX5_load 100 = .ok (.ireturn, 1) := by decide +kernel
theorem dX5_hasError_0 : decode cX5_hasError 0 = .ok (.aload_n 0, 1) := by decide +kernel
theorem dX5_hasError_1 : decode cX5_hasError 1 = .ok (.getfield 26, 3) := by decide +kernel
theorem dX5_hasError_4 : decode cX5_hasError 4 = .ok (.iconst (-1), 1) := by decide +kernel
theorem dX5_hasError_5 : decode cX5_hasError 5 = .ok (.if_icmp .eq 7, 3) := by decide +kernel
theorem dX5_hasError_8 : decode cX5_hasError 8 = .ok (.iconst 1, 1) := by decide +kernel
theorem dX5_hasError_9 : decode cX5_hasError 9 = .ok (.goto 4, 3) := by decide +kernel
theorem dX5_hasError_12 : decode cX5_hasError 12 = .ok (.iconst 0, 1) := by decide +kernel
theorem dX5_hasError_13 : decode cX5_hasError 13 = .ok (.ireturn, 1) := by decide +kernel
theorem dX5_errorOffset_0 : decode cX5_errorOffset 0 = .ok (.aload_n 0, 1) := by decide +kernel
theorem dX5_errorOffset_1 : decode cX5_errorOffset 1 = .ok (.getfield 26, 3) := by decide +kernel
theorem dX5_errorOffset_4 : decode cX5_errorOffset 4 = .ok (.iconst (-1), 1) := by decide +kernel
theorem dX5_errorOffset_5 : decode cX5_errorOffset 5 = .ok (.if_icmp .ne 13, 3) := by decide +kernel
theorem dX5_errorOffset_8 : decode cX5_errorOffset 8 = .ok (.new 110, 3) := by decide +kernel
theorem dX5_errorOffset_11 : decode cX5_errorOffset 11 = .ok (.dup, 1) := by decide +kernel
theorem dX5_errorOffset_12 : decode cX5_errorOffset 12 = .ok (.ldc 112, 2) := by decide +kernel
theorem dX5_errorOffset_14 : decode cX5_errorOffset 14 = .ok (.invokespecial 114, 3) := by decide +kernel
theorem dX5_errorOffset_17 : decode cX5_errorOffset 17 = .ok (.athrow, 1) := by decide +kernel
theorem dX5_errorOffset_18 : decode cX5_errorOffset 18 = .ok (.aload_n 0, 1) := by decide +kernel
theorem dX5_errorOffset_19 : decode cX5_errorOffset 19 = .ok (.getfield 26, 3) := by decide +kernel
theorem dX5_errorOffset_22 : decode cX5_errorOffset 22 = .ok (.ireturn, 1) := by decide +kernel
theorem dX5_length_0 : decode cX5_length 0 = .ok (.aload_n 0, 1) := by decide +kernel
theorem dX5_length_1 : decode cX5_length 1 = .ok (.getfield 49, 3) := by decide +kernel
theorem dX5_length_4 : decode cX5_length 4 = .ok (.getfield 37, 3) := by decide +kernel
theorem dX5_length_7 : decode cX5_length 7 = .ok (.getfield 115, 3) := by decide +kernel
theorem dX5_length_10 : decode cX5_length 10 = .ok (.ireturn, 1) := by decide +kernel
theorem dX5_kilometre_0 : decode cX5_kilometre 0 = .ok (.aload_n 0, 1) := by decide +kernel
theorem dX5_kilometre_1 : decode cX5_kilometre 1 = .ok (.getfield 49, 3) := by decide +kernel
theorem dX5_kilometre_4 : decode cX5_kilometre 4 = .ok (.getfield 116, 3) := by decide +kernel
theorem dX5_kilometre_7 : decode cX5_kilometre 7 = .ok (.ireturn, 1) := by decide +kernel
theorem dX5_hasArrived_0 : decode cX5_hasArrived 0 = .ok (.aload_n 0, 1) := by decide +kernel
theorem dX5_hasArrived_1 : decode cX5_hasArrived 1 = .ok (.getfield 49, 3) := by decide +kernel
theorem dX5_hasArrived_4 : decode cX5_hasArrived 4 = .ok (.invokevirtual 119, 3) := by decide +kernel
theorem dX5_hasArrived_7 : decode cX5_hasArrived 7 = .ok (.ireturn, 1) := by decide +kernel
theorem dX5_day_0 : decode cX5_day 0 = .ok (.aload_n 0, 1) := by decide +kernel
theorem dX5_day_1 : decode cX5_day 1 = .ok (.getfield 49, 3) := by decide +kernel
theorem dX5_day_4 : decode cX5_day 4 = .ok (.getfield 123, 3) := by decide +kernel
theorem dX5_day_7 : decode cX5_day 7 = .ok (.ireturn, 1) := by decide +kernel
theorem dX5_stormOn_0 : decode cX5_stormOn 0 = .ok (.iload_n 1, 1) := by decide +kernel
theorem dX5_stormOn_1 : decode cX5_stormOn 1 = .ok (.ifCond .lt 10, 3) := by decide +kernel
theorem dX5_stormOn_4 : decode cX5_stormOn 4 = .ok (.iload_n 1, 1) := by decide +kernel
theorem dX5_stormOn_5 : decode cX5_stormOn 5 = .ok (.sipush 999, 3) := by decide +kernel
theorem dX5_stormOn_8 : decode cX5_stormOn 8 = .ok (.if_icmp .le 13, 3) := by decide +kernel
theorem dX5_stormOn_11 : decode cX5_stormOn 11 = .ok (.new 97, 3) := by decide +kernel
theorem dX5_stormOn_14 : decode cX5_stormOn 14 = .ok (.dup, 1) := by decide +kernel
theorem dX5_stormOn_15 : decode cX5_stormOn 15 = .ok (.ldc 126, 2) := by decide +kernel
theorem dX5_stormOn_17 : decode cX5_stormOn 17 = .ok (.invokespecial 101, 3) := by decide +kernel
theorem dX5_stormOn_20 : decode cX5_stormOn 20 = .ok (.athrow, 1) := by decide +kernel
theorem dX5_stormOn_21 : decode cX5_stormOn 21 = .ok (.aload_n 0, 1) := by decide +kernel
theorem dX5_stormOn_22 : decode cX5_stormOn 22 = .ok (.getfield 49, 3) := by decide +kernel
theorem dX5_stormOn_25 : decode cX5_stormOn 25 = .ok (.getfield 37, 3) := by decide +kernel
theorem dX5_stormOn_28 : decode cX5_stormOn 28 = .ok (.iload_n 1, 1) := by decide +kernel
theorem dX5_stormOn_29 : decode cX5_stormOn 29 = .ok (.invokevirtual 128, 3) := by decide +kernel
theorem dX5_stormOn_32 : decode cX5_stormOn 32 = .ok (.ireturn, 1) := by decide +kernel
theorem dX5_isStopping_0 : decode cX5_isStopping 0 = .ok (.aload_n 0, 1) := by decide +kernel
theorem dX5_isStopping_1 : decode cX5_isStopping 1 = .ok (.getfield 49, 3) := by decide +kernel
theorem dX5_isStopping_4 : decode cX5_isStopping 4 = .ok (.getfield 132, 3) := by decide +kernel
theorem dX5_isStopping_7 : decode cX5_isStopping 7 = .ok (.ireturn, 1) := by decide +kernel
theorem dX5_wellCount_0 : decode cX5_wellCount 0 = .ok (.aload_n 0, 1) := by decide +kernel
theorem dX5_wellCount_1 : decode cX5_wellCount 1 = .ok (.getfield 49, 3) := by decide +kernel
theorem dX5_wellCount_4 : decode cX5_wellCount 4 = .ok (.getfield 37, 3) := by decide +kernel
theorem dX5_wellCount_7 : decode cX5_wellCount 7 = .ok (.getfield 136, 3) := by decide +kernel
theorem dX5_wellCount_10 : decode cX5_wellCount 10 = .ok (.ireturn, 1) := by decide +kernel
theorem dX5_wellKilometre_0 : decode cX5_wellKilometre 0 = .ok (.aload_n 0, 1) := by decide +kernel
theorem dX5_wellKilometre_1 : decode cX5_wellKilometre 1 = .ok (.iload_n 1, 1) := by decide +kernel
theorem dX5_wellKilometre_2 : decode cX5_wellKilometre 2 = .ok (.invokevirtual 139, 3) := by decide +kernel
theorem dX5_wellKilometre_5 : decode cX5_wellKilometre 5 = .ok (.aload_n 0, 1) := by decide +kernel
theorem dX5_wellKilometre_6 : decode cX5_wellKilometre 6 = .ok (.getfield 49, 3) := by decide +kernel
theorem dX5_wellKilometre_9 : decode cX5_wellKilometre 9 = .ok (.getfield 37, 3) := by decide +kernel
theorem dX5_wellKilometre_12 : decode cX5_wellKilometre 12 = .ok (.getfield 142, 3) := by decide +kernel
theorem dX5_wellKilometre_15 : decode cX5_wellKilometre 15 = .ok (.iload_n 1, 1) := by decide +kernel
theorem dX5_wellKilometre_16 : decode cX5_wellKilometre 16 = .ok (.iaload, 1) := by decide +kernel
theorem dX5_wellKilometre_17 : decode cX5_wellKilometre 17 = .ok (.ireturn, 1) := by decide +kernel
theorem dX5_wellLevel_0 : decode cX5_wellLevel 0 = .ok (.aload_n 0, 1) := by decide +kernel
theorem dX5_wellLevel_1 : decode cX5_wellLevel 1 = .ok (.iload_n 1, 1) := by decide +kernel
theorem dX5_wellLevel_2 : decode cX5_wellLevel 2 = .ok (.invokevirtual 139, 3) := by decide +kernel
theorem dX5_wellLevel_5 : decode cX5_wellLevel 5 = .ok (.aload_n 0, 1) := by decide +kernel
theorem dX5_wellLevel_6 : decode cX5_wellLevel 6 = .ok (.getfield 49, 3) := by decide +kernel
theorem dX5_wellLevel_9 : decode cX5_wellLevel 9 = .ok (.getfield 145, 3) := by decide +kernel
theorem dX5_wellLevel_12 : decode cX5_wellLevel 12 = .ok (.iload_n 1, 1) := by decide +kernel
theorem dX5_wellLevel_13 : decode cX5_wellLevel 13 = .ok (.iaload, 1) := by decide +kernel
theorem dX5_wellLevel_14 : decode cX5_wellLevel 14 = .ok (.ireturn, 1) := by decide +kernel
theorem dX5_wellCapacity_0 : decode cX5_wellCapacity 0 = .ok (.aload_n 0, 1) := by decide +kernel
theorem dX5_wellCapacity_1 : decode cX5_wellCapacity 1 = .ok (.iload_n 1, 1) := by decide +kernel
theorem dX5_wellCapacity_2 : decode cX5_wellCapacity 2 = .ok (.invokevirtual 139, 3) := by decide +kernel
theorem dX5_wellCapacity_5 : decode cX5_wellCapacity 5 = .ok (.aload_n 0, 1) := by decide +kernel
theorem dX5_wellCapacity_6 : decode cX5_wellCapacity 6 = .ok (.getfield 49, 3) := by decide +kernel
theorem dX5_wellCapacity_9 : decode cX5_wellCapacity 9 = .ok (.getfield 37, 3) := by decide +kernel
theorem dX5_wellCapacity_12 : decode cX5_wellCapacity 12 = .ok (.getfield 148, 3) := by decide +kernel
theorem dX5_wellCapacity_15 : decode cX5_wellCapacity 15 = .ok (.iload_n 1, 1) := by decide +kernel
theorem dX5_wellCapacity_16 : decode cX5_wellCapacity 16 = .ok (.iaload, 1) := by decide +kernel
theorem dX5_wellCapacity_17 : decode cX5_wellCapacity 17 = .ok (.ireturn, 1) := by decide +kernel
theorem dX5_requireWell_0 : decode cX5_requireWell 0 = .ok (.iload_n 1, 1) := by decide +kernel
theorem dX5_requireWell_1 : decode cX5_requireWell 1 = .ok (.ifCond .lt 17, 3) := by decide +kernel
theorem dX5_requireWell_4 : decode cX5_requireWell 4 = .ok (.iload_n 1, 1) := by decide +kernel
theorem dX5_requireWell_5 : decode cX5_requireWell 5 = .ok (.aload_n 0, 1) := by decide +kernel
theorem dX5_requireWell_6 : decode cX5_requireWell 6 = .ok (.getfield 49, 3) := by decide +kernel
theorem dX5_requireWell_9 : decode cX5_requireWell 9 = .ok (.getfield 37, 3) := by decide +kernel
theorem dX5_requireWell_12 : decode cX5_requireWell 12 = .ok (.getfield 136, 3) := by decide +kernel
theorem dX5_requireWell_15 : decode cX5_requireWell 15 = .ok (.if_icmp .lt 13, 3) := by decide +kernel
theorem dX5_requireWell_18 : decode cX5_requireWell 18 = .ok (.new 151, 3) := by decide +kernel
theorem dX5_requireWell_21 : decode cX5_requireWell 21 = .ok (.dup, 1) := by decide +kernel
theorem dX5_requireWell_22 : decode cX5_requireWell 22 = .ok (.ldc 153, 2) := by decide +kernel
theorem dX5_requireWell_24 : decode cX5_requireWell 24 = .ok (.invokespecial 155, 3) := by decide +kernel
theorem dX5_requireWell_27 : decode cX5_requireWell 27 = .ok (.athrow, 1) := by decide +kernel
theorem dX5_requireWell_28 : decode cX5_requireWell 28 = .ok (.return_, 1) := by decide +kernel
theorem dX5_wellHere_0 : decode cX5_wellHere 0 = .ok (.aload_n 0, 1) := by decide +kernel
theorem dX5_wellHere_1 : decode cX5_wellHere 1 = .ok (.getfield 49, 3) := by decide +kernel
theorem dX5_wellHere_4 : decode cX5_wellHere 4 = .ok (.getfield 37, 3) := by decide +kernel
theorem dX5_wellHere_7 : decode cX5_wellHere 7 = .ok (.aload_n 0, 1) := by decide +kernel
theorem dX5_wellHere_8 : decode cX5_wellHere 8 = .ok (.getfield 49, 3) := by decide +kernel
theorem dX5_wellHere_11 : decode cX5_wellHere 11 = .ok (.getfield 116, 3) := by decide +kernel
theorem dX5_wellHere_14 : decode cX5_wellHere 14 = .ok (.invokevirtual 156, 3) := by decide +kernel
theorem dX5_wellHere_17 : decode cX5_wellHere 17 = .ok (.istore_n 1, 1) := by decide +kernel
theorem dX5_wellHere_18 : decode cX5_wellHere 18 = .ok (.iload_n 1, 1) := by decide +kernel
theorem dX5_wellHere_19 : decode cX5_wellHere 19 = .ok (.iconst (-1), 1) := by decide +kernel
theorem dX5_wellHere_20 : decode cX5_wellHere 20 = .ok (.if_icmp .ne 13, 3) := by decide +kernel
theorem dX5_wellHere_23 : decode cX5_wellHere 23 = .ok (.new 110, 3) := by decide +kernel
theorem dX5_wellHere_26 : decode cX5_wellHere 26 = .ok (.dup, 1) := by decide +kernel
theorem dX5_wellHere_27 : decode cX5_wellHere 27 = .ok (.ldc 159, 2) := by decide +kernel
theorem dX5_wellHere_29 : decode cX5_wellHere 29 = .ok (.invokespecial 114, 3) := by decide +kernel
theorem dX5_wellHere_32 : decode cX5_wellHere 32 = .ok (.athrow, 1) := by decide +kernel
theorem dX5_wellHere_33 : decode cX5_wellHere 33 = .ok (.iload_n 1, 1) := by decide +kernel
theorem dX5_wellHere_34 : decode cX5_wellHere 34 = .ok (.ireturn, 1) := by decide +kernel
theorem dX5_nextWell_0 : decode cX5_nextWell 0 = .ok (.aload_n 0, 1) := by decide +kernel
