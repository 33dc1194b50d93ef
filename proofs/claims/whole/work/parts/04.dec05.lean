theorem dX6_wouldDrink_49 : decode cX6_wouldDrink 49 = .ok (.invokevirtual 271, 3) := by decide +kernel
theorem dX6_wouldDrink_52 : decode cX6_wouldDrink 52 = .ok (.pop, 1) := by decide +kernel
theorem dX6_wouldDrink_53 : decode cX6_wouldDrink 53 = .ok (.iconst 0, 1) := by decide +kernel
theorem dX6_wouldDrink_54 : decode cX6_wouldDrink 54 = .ok (.aload_n 0, 1) := by decide +kernel
theorem dX6_wouldDrink_55 : decode cX6_wouldDrink 55 = .ok (.getfield 36, 3) := by decide +kernel
theorem dX6_wouldDrink_58 : decode cX6_wouldDrink 58 = .ok (.iload_n 1, 1) := by decide +kernel
theorem dX6_wouldDrink_59 : decode cX6_wouldDrink 59 = .ok (.iaload, 1) := by decide +kernel
theorem dX6_wouldDrink_60 : decode cX6_wouldDrink 60 = .ok (.invokestatic 80, 3) := by decide +kernel
theorem dX6_wouldDrink_63 : decode cX6_wouldDrink 63 = .ok (.ireturn, 1) := by decide +kernel
theorem dX6_keepsForUndo_0 : decode cX6_keepsForUndo 0 = .ok (.aload_n 0, 1) := by decide +kernel
theorem dX6_keepsForUndo_1 : decode cX6_keepsForUndo 1 = .ok (.getfield 235, 3) := by decide +kernel
theorem dX6_keepsForUndo_4 : decode cX6_keepsForUndo 4 = .ok (.bipush 8, 2) := by decide +kernel
theorem dX6_keepsForUndo_6 : decode cX6_keepsForUndo 6 = .ok (.if_icmp .ne 50, 3) := by decide +kernel
theorem dX6_keepsForUndo_9 : decode cX6_keepsForUndo 9 = .ok (.iconst 1, 1) := by decide +kernel
theorem dX6_keepsForUndo_10 : decode cX6_keepsForUndo 10 = .ok (.istore_n 1, 1) := by decide +kernel
theorem dX6_keepsForUndo_11 : decode cX6_keepsForUndo 11 = .ok (.iload_n 1, 1) := by decide +kernel
theorem dX6_keepsForUndo_12 : decode cX6_keepsForUndo 12 = .ok (.bipush 8, 2) := by decide +kernel
theorem dX6_keepsForUndo_14 : decode cX6_keepsForUndo 14 = .ok (.if_icmp .ge 32, 3) := by decide +kernel
theorem dX6_keepsForUndo_17 : decode cX6_keepsForUndo 17 = .ok (.aload_n 0, 1) := by decide +kernel
theorem dX6_keepsForUndo_18 : decode cX6_keepsForUndo 18 = .ok (.getfield 19, 3) := by decide +kernel
theorem dX6_keepsForUndo_21 : decode cX6_keepsForUndo 21 = .ok (.sipush 220, 3) := by decide +kernel
theorem dX6_keepsForUndo_24 : decode cX6_keepsForUndo 24 = .ok (.iload_n 1, 1) := by decide +kernel
theorem dX6_keepsForUndo_25 : decode cX6_keepsForUndo 25 = .ok (.imul, 1) := by decide +kernel
theorem dX6_keepsForUndo_26 : decode cX6_keepsForUndo 26 = .ok (.aload_n 0, 1) := by decide +kernel
theorem dX6_keepsForUndo_27 : decode cX6_keepsForUndo 27 = .ok (.getfield 19, 3) := by decide +kernel
theorem dX6_keepsForUndo_30 : decode cX6_keepsForUndo 30 = .ok (.sipush 220, 3) := by decide +kernel
theorem dX6_keepsForUndo_33 : decode cX6_keepsForUndo 33 = .ok (.iload_n 1, 1) := by decide +kernel
theorem dX6_keepsForUndo_34 : decode cX6_keepsForUndo 34 = .ok (.iconst 1, 1) := by decide +kernel
theorem dX6_keepsForUndo_35 : decode cX6_keepsForUndo 35 = .ok (.isub, 1) := by decide +kernel
theorem dX6_keepsForUndo_36 : decode cX6_keepsForUndo 36 = .ok (.imul, 1) := by decide +kernel
theorem dX6_keepsForUndo_37 : decode cX6_keepsForUndo 37 = .ok (.invokestatic 63, 3) := by decide +kernel
theorem dX6_keepsForUndo_40 : decode cX6_keepsForUndo 40 = .ok (.iinc 1 1, 3) := by decide +kernel
theorem dX6_keepsForUndo_43 : decode cX6_keepsForUndo 43 = .ok (.goto (-32), 3) := by decide +kernel
theorem dX6_keepsForUndo_46 : decode cX6_keepsForUndo 46 = .ok (.aload_n 0, 1) := by decide +kernel
theorem dX6_keepsForUndo_47 : decode cX6_keepsForUndo 47 = .ok (.dup, 1) := by decide +kernel
theorem dX6_keepsForUndo_48 : decode cX6_keepsForUndo 48 = .ok (.getfield 235, 3) := by decide +kernel
theorem dX6_keepsForUndo_51 : decode cX6_keepsForUndo 51 = .ok (.iconst 1, 1) := by decide +kernel
theorem dX6_keepsForUndo_52 : decode cX6_keepsForUndo 52 = .ok (.isub, 1) := by decide +kernel
theorem dX6_keepsForUndo_53 : decode cX6_keepsForUndo 53 = .ok (.putfield 235, 3) := by decide +kernel
theorem dX6_keepsForUndo_56 : decode cX6_keepsForUndo 56 = .ok (.aload_n 0, 1) := by decide +kernel
theorem dX6_keepsForUndo_57 : decode cX6_keepsForUndo 57 = .ok (.getfield 7, 3) := by decide +kernel
theorem dX6_keepsForUndo_60 : decode cX6_keepsForUndo 60 = .ok (.iconst 0, 1) := by decide +kernel
theorem dX6_keepsForUndo_61 : decode cX6_keepsForUndo 61 = .ok (.aload_n 0, 1) := by decide +kernel
theorem dX6_keepsForUndo_62 : decode cX6_keepsForUndo 62 = .ok (.getfield 19, 3) := by decide +kernel
theorem dX6_keepsForUndo_65 : decode cX6_keepsForUndo 65 = .ok (.sipush 220, 3) := by decide +kernel
theorem dX6_keepsForUndo_68 : decode cX6_keepsForUndo 68 = .ok (.aload_n 0, 1) := by decide +kernel
theorem dX6_keepsForUndo_69 : decode cX6_keepsForUndo 69 = .ok (.getfield 235, 3) := by decide +kernel
theorem dX6_keepsForUndo_72 : decode cX6_keepsForUndo 72 = .ok (.imul, 1) := by decide +kernel
theorem dX6_keepsForUndo_73 : decode cX6_keepsForUndo 73 = .ok (.invokestatic 63, 3) := by decide +kernel
theorem dX6_keepsForUndo_76 : decode cX6_keepsForUndo 76 = .ok (.aload_n 0, 1) := by decide +kernel
theorem dX6_keepsForUndo_77 : decode cX6_keepsForUndo 77 = .ok (.dup, 1) := by decide +kernel
theorem dX6_keepsForUndo_78 : decode cX6_keepsForUndo 78 = .ok (.getfield 235, 3) := by decide +kernel
theorem dX6_keepsForUndo_81 : decode cX6_keepsForUndo 81 = .ok (.iconst 1, 1) := by decide +kernel
theorem dX6_keepsForUndo_82 : decode cX6_keepsForUndo 82 = .ok (.iadd, 1) := by decide +kernel
theorem dX6_keepsForUndo_83 : decode cX6_keepsForUndo 83 = .ok (.putfield 235, 3) := by decide +kernel
theorem dX6_keepsForUndo_86 : decode cX6_keepsForUndo 86 = .ok (.return_, 1) := by decide +kernel
theorem dX6_travel_0 : decode cX6_travel 0 = .ok (.aload_n 0, 1) := by decide +kernel
theorem dX6_travel_1 : decode cX6_travel 1 = .ok (.iconst 0, 1) := by decide +kernel
theorem dX6_travel_2 : decode cX6_travel 2 = .ok (.putfield 60, 3) := by decide +kernel
theorem dX6_travel_5 : decode cX6_travel 5 = .ok (.aload_n 0, 1) := by decide +kernel
theorem dX6_travel_6 : decode cX6_travel 6 = .ok (.getfield 7, 3) := by decide +kernel
theorem dX6_travel_9 : decode cX6_travel 9 = .ok (.invokestatic 265, 3) := by decide +kernel
theorem dX6_travel_12 : decode cX6_travel 12 = .ok (.ifCond .ne 9, 3) := by decide +kernel
theorem dX6_travel_15 : decode cX6_travel 15 = .ok (.aload_n 0, 1) := by decide +kernel
theorem dX6_travel_16 : decode cX6_travel 16 = .ok (.iconst 1, 1) := by decide +kernel
theorem dX6_travel_17 : decode cX6_travel 17 = .ok (.invokevirtual 147, 3) := by decide +kernel
theorem dX6_travel_20 : decode cX6_travel 20 = .ok (.ireturn, 1) := by decide +kernel
theorem dX6_travel_21 : decode cX6_travel 21 = .ok (.aload_n 0, 1) := by decide +kernel
theorem dX6_travel_22 : decode cX6_travel 22 = .ok (.invokevirtual 274, 3) := by decide +kernel
theorem dX6_travel_25 : decode cX6_travel 25 = .ok (.aload_n 0, 1) := by decide +kernel
theorem dX6_travel_26 : decode cX6_travel 26 = .ok (.getfield 7, 3) := by decide +kernel
theorem dX6_travel_29 : decode cX6_travel 29 = .ok (.invokestatic 268, 3) := by decide +kernel
theorem dX6_travel_32 : decode cX6_travel 32 = .ok (.ireturn, 1) := by decide +kernel
theorem dX6_rest_0 : decode cX6_rest 0 = .ok (.aload_n 0, 1) := by decide +kernel
theorem dX6_rest_1 : decode cX6_rest 1 = .ok (.iconst 0, 1) := by decide +kernel
theorem dX6_rest_2 : decode cX6_rest 2 = .ok (.putfield 60, 3) := by decide +kernel
theorem dX6_rest_5 : decode cX6_rest 5 = .ok (.aload_n 0, 1) := by decide +kernel
theorem dX6_rest_6 : decode cX6_rest 6 = .ok (.getfield 7, 3) := by decide +kernel
theorem dX6_rest_9 : decode cX6_rest 9 = .ok (.invokestatic 134, 3) := by decide +kernel
theorem dX6_rest_12 : decode cX6_rest 12 = .ok (.ifCond .ne 9, 3) := by decide +kernel
theorem dX6_rest_15 : decode cX6_rest 15 = .ok (.aload_n 0, 1) := by decide +kernel
theorem dX6_rest_16 : decode cX6_rest 16 = .ok (.iconst 1, 1) := by decide +kernel
theorem dX6_rest_17 : decode cX6_rest 17 = .ok (.invokevirtual 147, 3) := by decide +kernel
theorem dX6_rest_20 : decode cX6_rest 20 = .ok (.ireturn, 1) := by decide +kernel
theorem dX6_rest_21 : decode cX6_rest 21 = .ok (.aload_n 0, 1) := by decide +kernel
theorem dX6_rest_22 : decode cX6_rest 22 = .ok (.getfield 7, 3) := by decide +kernel
theorem dX6_rest_25 : decode cX6_rest 25 = .ok (.iconst 2, 1) := by decide +kernel
theorem dX6_rest_26 : decode cX6_rest 26 = .ok (.iaload, 1) := by decide +kernel
theorem dX6_rest_27 : decode cX6_rest 27 = .ok (.sipush 200, 3) := by decide +kernel
theorem dX6_rest_30 : decode cX6_rest 30 = .ok (.if_icmp .ne 9, 3) := by decide +kernel
theorem dX6_rest_33 : decode cX6_rest 33 = .ok (.aload_n 0, 1) := by decide +kernel
theorem dX6_rest_34 : decode cX6_rest 34 = .ok (.iconst 1, 1) := by decide +kernel
theorem dX6_rest_35 : decode cX6_rest 35 = .ok (.invokevirtual 147, 3) := by decide +kernel
theorem dX6_rest_38 : decode cX6_rest 38 = .ok (.ireturn, 1) := by decide +kernel
theorem dX6_rest_39 : decode cX6_rest 39 = .ok (.aload_n 0, 1) := by decide +kernel
theorem dX6_rest_40 : decode cX6_rest 40 = .ok (.invokevirtual 274, 3) := by decide +kernel
theorem dX6_rest_43 : decode cX6_rest 43 = .ok (.aload_n 0, 1) := by decide +kernel
theorem dX6_rest_44 : decode cX6_rest 44 = .ok (.getfield 7, 3) := by decide +kernel
theorem dX6_rest_47 : decode cX6_rest 47 = .ok (.invokestatic 277, 3) := by decide +kernel
theorem dX6_rest_50 : decode cX6_rest 50 = .ok (.ireturn, 1) := by decide +kernel
theorem dX6_drink_0 : decode cX6_drink 0 = .ok (.aload_n 0, 1) := by decide +kernel
theorem dX6_drink_1 : decode cX6_drink 1 = .ok (.iconst 0, 1) := by decide +kernel
theorem dX6_drink_2 : decode cX6_drink 2 = .ok (.putfield 60, 3) := by decide +kernel
theorem dX6_drink_5 : decode cX6_drink 5 = .ok (.aload_n 0, 1) := by decide +kernel
theorem dX6_drink_6 : decode cX6_drink 6 = .ok (.getfield 7, 3) := by decide +kernel
theorem dX6_drink_9 : decode cX6_drink 9 = .ok (.aload_n 0, 1) := by decide +kernel
theorem dX6_drink_10 : decode cX6_drink 10 = .ok (.getfield 7, 3) := by decide +kernel
theorem dX6_drink_13 : decode cX6_drink 13 = .ok (.iconst 1, 1) := by decide +kernel
theorem dX6_drink_14 : decode cX6_drink 14 = .ok (.iaload, 1) := by decide +kernel
theorem dX6_drink_15 : decode cX6_drink 15 = .ok (.invokestatic 204, 3) := by decide +kernel
theorem dX6_drink_18 : decode cX6_drink 18 = .ok (.istore_n 1, 1) := by decide +kernel
theorem dX6_drink_19 : decode cX6_drink 19 = .ok (.iload_n 1, 1) := by decide +kernel
theorem dX6_drink_20 : decode cX6_drink 20 = .ok (.ifCond .ge 9, 3) := by decide +kernel
theorem dX6_drink_23 : decode cX6_drink 23 = .ok (.aload_n 0, 1) := by decide +kernel
theorem dX6_drink_24 : decode cX6_drink 24 = .ok (.iconst 1, 1) := by decide +kernel
theorem dX6_drink_25 : decode cX6_drink 25 = .ok (.invokevirtual 147, 3) := by decide +kernel
theorem dX6_drink_28 : decode cX6_drink 28 = .ok (.ireturn, 1) := by decide +kernel
theorem dX6_drink_29 : decode cX6_drink 29 = .ok (.aload_n 0, 1) := by decide +kernel
theorem dX6_drink_30 : decode cX6_drink 30 = .ok (.invokevirtual 274, 3) := by decide +kernel
theorem dX6_drink_33 : decode cX6_drink 33 = .ok (.aload_n 0, 1) := by decide +kernel
theorem dX6_drink_34 : decode cX6_drink 34 = .ok (.aload_n 0, 1) := by decide +kernel
theorem dX6_drink_35 : decode cX6_drink 35 = .ok (.getfield 7, 3) := by decide +kernel
theorem dX6_drink_38 : decode cX6_drink 38 = .ok (.iload_n 1, 1) := by decide +kernel
theorem dX6_drink_39 : decode cX6_drink 39 = .ok (.invokevirtual 271, 3) := by decide +kernel
theorem dX6_drink_42 : decode cX6_drink 42 = .ok (.istore_n 2, 1) := by decide +kernel
theorem dX6_drink_43 : decode cX6_drink 43 = .ok (.iconst 0, 1) := by decide +kernel
theorem dX6_drink_44 : decode cX6_drink 44 = .ok (.istore_n 3, 1) := by decide +kernel
theorem dX6_drink_45 : decode cX6_drink 45 = .ok (.iload_n 3, 1) := by decide +kernel
theorem dX6_drink_46 : decode cX6_drink 46 = .ok (.aload_n 0, 1) := by decide +kernel
theorem dX6_drink_47 : decode cX6_drink 47 = .ok (.getfield 7, 3) := by decide +kernel
theorem dX6_drink_50 : decode cX6_drink 50 = .ok (.bipush 6, 2) := by decide +kernel
theorem dX6_drink_52 : decode cX6_drink 52 = .ok (.iaload, 1) := by decide +kernel
theorem dX6_drink_53 : decode cX6_drink 53 = .ok (.if_icmp .ge 32, 3) := by decide +kernel
theorem dX6_drink_56 : decode cX6_drink 56 = .ok (.aload_n 0, 1) := by decide +kernel
theorem dX6_drink_57 : decode cX6_drink 57 = .ok (.getfield 7, 3) := by decide +kernel
theorem dX6_drink_60 : decode cX6_drink 60 = .ok (.iload_n 3, 1) := by decide +kernel
theorem dX6_drink_61 : decode cX6_drink 61 = .ok (.iconst 3, 1) := by decide +kernel
theorem dX6_drink_62 : decode cX6_drink 62 = .ok (.invokestatic 71, 3) := by decide +kernel
theorem dX6_drink_65 : decode cX6_drink 65 = .ok (.dup2, 1) := by decide +kernel
theorem dX6_drink_66 : decode cX6_drink 66 = .ok (.iaload, 1) := by decide +kernel
theorem dX6_drink_67 : decode cX6_drink 67 = .ok (.iconst 0, 1) := by decide +kernel
theorem dX6_drink_68 : decode cX6_drink 68 = .ok (.aload_n 0, 1) := by decide +kernel
theorem dX6_drink_69 : decode cX6_drink 69 = .ok (.getfield 36, 3) := by decide +kernel
theorem dX6_drink_72 : decode cX6_drink 72 = .ok (.iload_n 3, 1) := by decide +kernel
theorem dX6_drink_73 : decode cX6_drink 73 = .ok (.iaload, 1) := by decide +kernel
theorem dX6_drink_74 : decode cX6_drink 74 = .ok (.invokestatic 80, 3) := by decide +kernel
theorem dX6_drink_77 : decode cX6_drink 77 = .ok (.iadd, 1) := by decide +kernel
theorem dX6_drink_78 : decode cX6_drink 78 = .ok (.iastore, 1) := by decide +kernel
theorem dX6_drink_79 : decode cX6_drink 79 = .ok (.iinc 3 1, 3) := by decide +kernel
theorem dX6_drink_82 : decode cX6_drink 82 = .ok (.goto (-37), 3) := by decide +kernel
theorem dX6_drink_85 : decode cX6_drink 85 = .ok (.aload_n 0, 1) := by decide +kernel
theorem dX6_drink_86 : decode cX6_drink 86 = .ok (.getfield 7, 3) := by decide +kernel
theorem dX6_drink_89 : decode cX6_drink 89 = .ok (.iload_n 1, 1) := by decide +kernel
theorem dX6_drink_90 : decode cX6_drink 90 = .ok (.iconst 3, 1) := by decide +kernel
theorem dX6_drink_91 : decode cX6_drink 91 = .ok (.invokestatic 74, 3) := by decide +kernel
theorem dX6_drink_94 : decode cX6_drink 94 = .ok (.dup2, 1) := by decide +kernel
theorem dX6_drink_95 : decode cX6_drink 95 = .ok (.iaload, 1) := by decide +kernel
theorem dX6_drink_96 : decode cX6_drink 96 = .ok (.iload_n 2, 1) := by decide +kernel
theorem dX6_drink_97 : decode cX6_drink 97 = .ok (.isub, 1) := by decide +kernel
theorem dX6_drink_98 : decode cX6_drink 98 = .ok (.iastore, 1) := by decide +kernel
theorem dX6_drink_99 : decode cX6_drink 99 = .ok (.aload_n 0, 1) := by decide +kernel
theorem dX6_drink_100 : decode cX6_drink 100 = .ok (.getfield 7, 3) := by decide +kernel
theorem dX6_drink_103 : decode cX6_drink 103 = .ok (.iconst 5, 1) := by decide +kernel
theorem dX6_drink_104 : decode cX6_drink 104 = .ok (.dup2, 1) := by decide +kernel
theorem dX6_drink_105 : decode cX6_drink 105 = .ok (.iaload, 1) := by decide +kernel
theorem dX6_drink_106 : decode cX6_drink 106 = .ok (.iload_n 2, 1) := by decide +kernel
theorem dX6_drink_107 : decode cX6_drink 107 = .ok (.iadd, 1) := by decide +kernel
theorem dX6_drink_108 : decode cX6_drink 108 = .ok (.iastore, 1) := by decide +kernel
theorem dX6_drink_109 : decode cX6_drink 109 = .ok (.iload_n 2, 1) := by decide +kernel
theorem dX6_drink_110 : decode cX6_drink 110 = .ok (.ireturn, 1) := by decide +kernel
theorem dX6_setLeader_0 : decode cX6_setLeader 0 = .ok (.aload_n 0, 1) := by decide +kernel
theorem dX6_setLeader_1 : decode cX6_setLeader 1 = .ok (.iconst 0, 1) := by decide +kernel
theorem dX6_setLeader_2 : decode cX6_setLeader 2 = .ok (.putfield 60, 3) := by decide +kernel
theorem dX6_setLeader_5 : decode cX6_setLeader 5 = .ok (.aload_n 0, 1) := by decide +kernel
theorem dX6_setLeader_6 : decode cX6_setLeader 6 = .ok (.iload_n 1, 1) := by decide +kernel
theorem dX6_setLeader_7 : decode cX6_setLeader 7 = .ok (.invokevirtual 244, 3) := by decide +kernel
theorem dX6_setLeader_10 : decode cX6_setLeader 10 = .ok (.ifCond .ne 9, 3) := by decide +kernel
theorem dX6_setLeader_13 : decode cX6_setLeader 13 = .ok (.aload_n 0, 1) := by decide +kernel
theorem dX6_setLeader_14 : decode cX6_setLeader 14 = .ok (.iconst 1, 1) := by decide +kernel
theorem dX6_setLeader_15 : decode cX6_setLeader 15 = .ok (.invokevirtual 147, 3) := by decide +kernel
theorem dX6_setLeader_18 : decode cX6_setLeader 18 = .ok (.ireturn, 1) := by decide +kernel
theorem dX6_setLeader_19 : decode cX6_setLeader 19 = .ok (.aload_n 0, 1) := by decide +kernel
theorem dX6_setLeader_20 : decode cX6_setLeader 20 = .ok (.getfield 7, 3) := by decide +kernel
theorem dX6_setLeader_23 : decode cX6_setLeader 23 = .ok (.iload_n 1, 1) := by decide +kernel
theorem dX6_setLeader_24 : decode cX6_setLeader 24 = .ok (.invokestatic 83, 3) := by decide +kernel
theorem dX6_setLeader_27 : decode cX6_setLeader 27 = .ok (.ifCond .ne 9, 3) := by decide +kernel
theorem dX6_setLeader_30 : decode cX6_setLeader 30 = .ok (.aload_n 0, 1) := by decide +kernel
theorem dX6_setLeader_31 : decode cX6_setLeader 31 = .ok (.iconst 2, 1) := by decide +kernel
theorem dX6_setLeader_32 : decode cX6_setLeader 32 = .ok (.invokevirtual 147, 3) := by decide +kernel
theorem dX6_setLeader_35 : decode cX6_setLeader 35 = .ok (.ireturn, 1) := by decide +kernel
theorem dX6_setLeader_36 : decode cX6_setLeader 36 = .ok (.aload_n 0, 1) := by decide +kernel
theorem dX6_setLeader_37 : decode cX6_setLeader 37 = .ok (.invokevirtual 274, 3) := by decide +kernel
theorem dX6_setLeader_40 : decode cX6_setLeader 40 = .ok (.aload_n 0, 1) := by decide +kernel
theorem dX6_setLeader_41 : decode cX6_setLeader 41 = .ok (.getfield 7, 3) := by decide +kernel
theorem dX6_setLeader_44 : decode cX6_setLeader 44 = .ok (.iconst 4, 1) := by decide +kernel
theorem dX6_setLeader_45 : decode cX6_setLeader 45 = .ok (.iaload, 1) := by decide +kernel
theorem dX6_setLeader_46 : decode cX6_setLeader 46 = .ok (.istore_n 2, 1) := by decide +kernel
theorem dX6_setLeader_47 : decode cX6_setLeader 47 = .ok (.aload_n 0, 1) := by decide +kernel
theorem dX6_setLeader_48 : decode cX6_setLeader 48 = .ok (.getfield 7, 3) := by decide +kernel
theorem dX6_setLeader_51 : decode cX6_setLeader 51 = .ok (.iconst 4, 1) := by decide +kernel
theorem dX6_setLeader_52 : decode cX6_setLeader 52 = .ok (.iload_n 1, 1) := by decide +kernel
theorem dX6_setLeader_53 : decode cX6_setLeader 53 = .ok (.iastore, 1) := by decide +kernel
theorem dX6_setLeader_54 : decode cX6_setLeader 54 = .ok (.iload_n 2, 1) := by decide +kernel
theorem dX6_setLeader_55 : decode cX6_setLeader 55 = .ok (.ireturn, 1) := by decide +kernel
theorem dX6_setStopping_0 : decode cX6_setStopping 0 = .ok (.aload_n 0, 1) := by decide +kernel
theorem dX6_setStopping_1 : decode cX6_setStopping 1 = .ok (.iconst 0, 1) := by decide +kernel
theorem dX6_setStopping_2 : decode cX6_setStopping 2 = .ok (.putfield 60, 3) := by decide +kernel
theorem dX6_setStopping_5 : decode cX6_setStopping 5 = .ok (.aload_n 0, 1) := by decide +kernel
theorem dX6_setStopping_6 : decode cX6_setStopping 6 = .ok (.invokevirtual 274, 3) := by decide +kernel
theorem dX6_setStopping_9 : decode cX6_setStopping 9 = .ok (.aload_n 0, 1) := by decide +kernel
theorem dX6_setStopping_10 : decode cX6_setStopping 10 = .ok (.getfield 7, 3) := by decide +kernel
theorem dX6_setStopping_13 : decode cX6_setStopping 13 = .ok (.iconst 3, 1) := by decide +kernel
theorem dX6_setStopping_14 : decode cX6_setStopping 14 = .ok (.iaload, 1) := by decide +kernel
theorem dX6_setStopping_15 : decode cX6_setStopping 15 = .ok (.iconst 1, 1) := by decide +kernel
theorem dX6_setStopping_16 : decode cX6_setStopping 16 = .ok (.if_icmp .ne 7, 3) := by decide +kernel
theorem dX6_setStopping_19 : decode cX6_setStopping 19 = .ok (.iconst 1, 1) := by decide +kernel
theorem dX6_setStopping_20 : decode cX6_setStopping 20 = .ok (.goto 4, 3) := by decide +kernel
theorem dX6_setStopping_23 : decode cX6_setStopping 23 = .ok (.iconst 0, 1) := by decide +kernel
theorem dX6_setStopping_24 : decode cX6_setStopping 24 = .ok (.istore_n 2, 1) := by decide +kernel
theorem dX6_setStopping_25 : decode cX6_setStopping 25 = .ok (.aload_n 0, 1) := by decide +kernel
theorem dX6_setStopping_26 : decode cX6_setStopping 26 = .ok (.getfield 7, 3) := by decide +kernel
theorem dX6_setStopping_29 : decode cX6_setStopping 29 = .ok (.iconst 3, 1) := by decide +kernel
theorem dX6_setStopping_30 : decode cX6_setStopping 30 = .ok (.iconst 0, 1) := by decide +kernel
theorem dX6_setStopping_31 : decode cX6_setStopping 31 = .ok (.iastore, 1) := by decide +kernel
theorem dX6_setStopping_32 : decode cX6_setStopping 32 = .ok (.iload_n 1, 1) := by decide +kernel
theorem dX6_setStopping_33 : decode cX6_setStopping 33 = .ok (.ifCond .eq 10, 3) := by decide +kernel
theorem dX6_setStopping_36 : decode cX6_setStopping 36 = .ok (.aload_n 0, 1) := by decide +kernel
theorem dX6_setStopping_37 : decode cX6_setStopping 37 = .ok (.getfield 7, 3) := by decide +kernel
theorem dX6_setStopping_40 : decode cX6_setStopping 40 = .ok (.iconst 3, 1) := by decide +kernel
theorem dX6_setStopping_41 : decode cX6_setStopping 41 = .ok (.iconst 1, 1) := by decide +kernel
theorem dX6_setStopping_42 : decode cX6_setStopping 42 = .ok (.iastore, 1) := by decide +kernel
theorem dX6_setStopping_43 : decode cX6_setStopping 43 = .ok (.iload_n 2, 1) := by decide +kernel
theorem dX6_setStopping_44 : decode cX6_setStopping 44 = .ok (.ireturn, 1) := by decide +kernel
theorem dX6_isReachable_0 : decode cX6_isReachable 0 = .ok (.aload_n 0, 1) := by decide +kernel
theorem dX6_isReachable_1 : decode cX6_isReachable 1 = .ok (.getfield 7, 3) := by decide +kernel
theorem dX6_isReachable_4 : decode cX6_isReachable 4 = .ok (.iload_n 1, 1) := by decide +kernel
theorem dX6_isReachable_5 : decode cX6_isReachable 5 = .ok (.iconst 2, 1) := by decide +kernel
theorem dX6_isReachable_6 : decode cX6_isReachable 6 = .ok (.invokestatic 56, 3) := by decide +kernel
theorem dX6_isReachable_9 : decode cX6_isReachable 9 = .ok (.iaload, 1) := by decide +kernel
theorem dX6_isReachable_10 : decode cX6_isReachable 10 = .ok (.ifCond .ge 22, 3) := by decide +kernel
theorem dX6_isReachable_13 : decode cX6_isReachable 13 = .ok (.aload_n 0, 1) := by decide +kernel
theorem dX6_isReachable_14 : decode cX6_isReachable 14 = .ok (.getfield 7, 3) := by decide +kernel
theorem dX6_isReachable_17 : decode cX6_isReachable 17 = .ok (.iload_n 1, 1) := by decide +kernel
theorem dX6_isReachable_18 : decode cX6_isReachable 18 = .ok (.iconst 3, 1) := by decide +kernel
theorem dX6_isReachable_19 : decode cX6_isReachable 19 = .ok (.invokestatic 56, 3) := by decide +kernel
theorem dX6_isReachable_22 : decode cX6_isReachable 22 = .ok (.iaload, 1) := by decide +kernel
theorem dX6_isReachable_23 : decode cX6_isReachable 23 = .ok (.aload_n 0, 1) := by decide +kernel
theorem dX6_isReachable_24 : decode cX6_isReachable 24 = .ok (.getfield 7, 3) := by decide +kernel
theorem dX6_isReachable_27 : decode cX6_isReachable 27 = .ok (.iconst 1, 1) := by decide +kernel
theorem dX6_isReachable_28 : decode cX6_isReachable 28 = .ok (.iaload, 1) := by decide +kernel
theorem dX6_isReachable_29 : decode cX6_isReachable 29 = .ok (.if_icmp .ne 7, 3) := by decide +kernel
theorem dX6_isReachable_32 : decode cX6_isReachable 32 = .ok (.iconst 1, 1) := by decide +kernel
theorem dX6_isReachable_33 : decode cX6_isReachable 33 = .ok (.goto 4, 3) := by decide +kernel
theorem dX6_isReachable_36 : decode cX6_isReachable 36 = .ok (.iconst 0, 1) := by decide +kernel
theorem dX6_isReachable_37 : decode cX6_isReachable 37 = .ok (.ireturn, 1) := by decide +kernel
theorem dX6_putOn_0 : decode cX6_putOn 0 = .ok (.aload_n 0, 1) := by decide +kernel
theorem dX6_putOn_1 : decode cX6_putOn 1 = .ok (.iconst 0, 1) := by decide +kernel
theorem dX6_putOn_2 : decode cX6_putOn 2 = .ok (.putfield 60, 3) := by decide +kernel
theorem dX6_putOn_5 : decode cX6_putOn 5 = .ok (.aload_n 0, 1) := by decide +kernel
theorem dX6_putOn_6 : decode cX6_putOn 6 = .ok (.iload_n 1, 1) := by decide +kernel
theorem dX6_putOn_7 : decode cX6_putOn 7 = .ok (.invokevirtual 253, 3) := by decide +kernel
theorem dX6_putOn_10 : decode cX6_putOn 10 = .ok (.ifCond .ne 9, 3) := by decide +kernel
theorem dX6_putOn_13 : decode cX6_putOn 13 = .ok (.aload_n 0, 1) := by decide +kernel
theorem dX6_putOn_14 : decode cX6_putOn 14 = .ok (.iconst 1, 1) := by decide +kernel
theorem dX6_putOn_15 : decode cX6_putOn 15 = .ok (.invokevirtual 147, 3) := by decide +kernel
theorem dX6_putOn_18 : decode cX6_putOn 18 = .ok (.ireturn, 1) := by decide +kernel
theorem dX6_putOn_19 : decode cX6_putOn 19 = .ok (.aload_n 0, 1) := by decide +kernel
theorem dX6_putOn_20 : decode cX6_putOn 20 = .ok (.iload_n 2, 1) := by decide +kernel
theorem dX6_putOn_21 : decode cX6_putOn 21 = .ok (.invokevirtual 244, 3) := by decide +kernel
theorem dX6_putOn_24 : decode cX6_putOn 24 = .ok (.ifCond .ne 9, 3) := by decide +kernel
theorem dX6_putOn_27 : decode cX6_putOn 27 = .ok (.aload_n 0, 1) := by decide +kernel
theorem dX6_putOn_28 : decode cX6_putOn 28 = .ok (.iconst 1, 1) := by decide +kernel
theorem dX6_putOn_29 : decode cX6_putOn 29 = .ok (.invokevirtual 147, 3) := by decide +kernel
theorem dX6_putOn_32 : decode cX6_putOn 32 = .ok (.ireturn, 1) := by decide +kernel
theorem dX6_putOn_33 : decode cX6_putOn 33 = .ok (.aload_n 0, 1) := by decide +kernel
theorem dX6_putOn_34 : decode cX6_putOn 34 = .ok (.getfield 7, 3) := by decide +kernel
theorem dX6_putOn_37 : decode cX6_putOn 37 = .ok (.iload_n 2, 1) := by decide +kernel
theorem dX6_putOn_38 : decode cX6_putOn 38 = .ok (.invokestatic 83, 3) := by decide +kernel
theorem dX6_putOn_41 : decode cX6_putOn 41 = .ok (.ifCond .ne 9, 3) := by decide +kernel
theorem dX6_putOn_44 : decode cX6_putOn 44 = .ok (.aload_n 0, 1) := by decide +kernel
theorem dX6_putOn_45 : decode cX6_putOn 45 = .ok (.iconst 2, 1) := by decide +kernel
theorem dX6_putOn_46 : decode cX6_putOn 46 = .ok (.invokevirtual 147, 3) := by decide +kernel
theorem dX6_putOn_49 : decode cX6_putOn 49 = .ok (.ireturn, 1) := by decide +kernel
theorem dX6_putOn_50 : decode cX6_putOn 50 = .ok (.aload_n 0, 1) := by decide +kernel
theorem dX6_putOn_51 : decode cX6_putOn 51 = .ok (.getfield 7, 3) := by decide +kernel
theorem dX6_putOn_54 : decode cX6_putOn 54 = .ok (.iload_n 1, 1) := by decide +kernel
theorem dX6_putOn_55 : decode cX6_putOn 55 = .ok (.iconst 2, 1) := by decide +kernel
theorem dX6_putOn_56 : decode cX6_putOn 56 = .ok (.invokestatic 56, 3) := by decide +kernel
theorem dX6_putOn_59 : decode cX6_putOn 59 = .ok (.iaload, 1) := by decide +kernel
theorem dX6_putOn_60 : decode cX6_putOn 60 = .ok (.iload_n 2, 1) := by decide +kernel
theorem dX6_putOn_61 : decode cX6_putOn 61 = .ok (.if_icmp .ne 9, 3) := by decide +kernel
theorem dX6_putOn_64 : decode cX6_putOn 64 = .ok (.aload_n 0, 1) := by decide +kernel
theorem dX6_putOn_65 : decode cX6_putOn 65 = .ok (.iconst 2, 1) := by decide +kernel
theorem dX6_putOn_66 : decode cX6_putOn 66 = .ok (.invokevirtual 147, 3) := by decide +kernel
theorem dX6_putOn_69 : decode cX6_putOn 69 = .ok (.ireturn, 1) := by decide +kernel
theorem dX6_putOn_70 : decode cX6_putOn 70 = .ok (.aload_n 0, 1) := by decide +kernel
theorem dX6_putOn_71 : decode cX6_putOn 71 = .ok (.iload_n 1, 1) := by decide +kernel
theorem dX6_putOn_72 : decode cX6_putOn 72 = .ok (.invokevirtual 280, 3) := by decide +kernel
theorem dX6_putOn_75 : decode cX6_putOn 75 = .ok (.ifCond .ne 9, 3) := by decide +kernel
theorem dX6_putOn_78 : decode cX6_putOn 78 = .ok (.aload_n 0, 1) := by decide +kernel
theorem dX6_putOn_79 : decode cX6_putOn 79 = .ok (.iconst 2, 1) := by decide +kernel
theorem dX6_putOn_80 : decode cX6_putOn 80 = .ok (.invokevirtual 147, 3) := by decide +kernel
theorem dX6_putOn_83 : decode cX6_putOn 83 = .ok (.ireturn, 1) := by decide +kernel
theorem dX6_putOn_84 : decode cX6_putOn 84 = .ok (.aload_n 0, 1) := by decide +kernel
theorem dX6_putOn_85 : decode cX6_putOn 85 = .ok (.getfield 7, 3) := by decide +kernel
theorem dX6_putOn_88 : decode cX6_putOn 88 = .ok (.iload_n 1, 1) := by decide +kernel
theorem dX6_putOn_89 : decode cX6_putOn 89 = .ok (.iconst 0, 1) := by decide +kernel
theorem dX6_putOn_90 : decode cX6_putOn 90 = .ok (.invokestatic 56, 3) := by decide +kernel
theorem dX6_putOn_93 : decode cX6_putOn 93 = .ok (.iaload, 1) := by decide +kernel
theorem dX6_putOn_94 : decode cX6_putOn 94 = .ok (.aload_n 0, 1) := by decide +kernel
theorem dX6_putOn_95 : decode cX6_putOn 95 = .ok (.getfield 7, 3) := by decide +kernel
theorem dX6_putOn_98 : decode cX6_putOn 98 = .ok (.iload_n 2, 1) := by decide +kernel
theorem dX6_putOn_99 : decode cX6_putOn 99 = .ok (.invokestatic 209, 3) := by decide +kernel
theorem dX6_putOn_102 : decode cX6_putOn 102 = .ok (.if_icmp .le 9, 3) := by decide +kernel
theorem dX6_putOn_105 : decode cX6_putOn 105 = .ok (.aload_n 0, 1) := by decide +kernel
theorem dX6_putOn_106 : decode cX6_putOn 106 = .ok (.iconst 2, 1) := by decide +kernel
theorem dX6_putOn_107 : decode cX6_putOn 107 = .ok (.invokevirtual 147, 3) := by decide +kernel
theorem dX6_putOn_110 : decode cX6_putOn 110 = .ok (.ireturn, 1) := by decide +kernel
theorem dX6_putOn_111 : decode cX6_putOn 111 = .ok (.aload_n 0, 1) := by decide +kernel
theorem dX6_putOn_112 : decode cX6_putOn 112 = .ok (.invokevirtual 274, 3) := by decide +kernel
theorem dX6_putOn_115 : decode cX6_putOn 115 = .ok (.aload_n 0, 1) := by decide +kernel
theorem dX6_putOn_116 : decode cX6_putOn 116 = .ok (.getfield 7, 3) := by decide +kernel
theorem dX6_putOn_119 : decode cX6_putOn 119 = .ok (.iload_n 1, 1) := by decide +kernel
theorem dX6_putOn_120 : decode cX6_putOn 120 = .ok (.iconst 2, 1) := by decide +kernel
theorem dX6_putOn_121 : decode cX6_putOn 121 = .ok (.invokestatic 56, 3) := by decide +kernel
theorem dX6_putOn_124 : decode cX6_putOn 124 = .ok (.iload_n 2, 1) := by decide +kernel
theorem dX6_putOn_125 : decode cX6_putOn 125 = .ok (.iastore, 1) := by decide +kernel
theorem dX6_putOn_126 : decode cX6_putOn 126 = .ok (.aload_n 0, 1) := by decide +kernel
theorem dX6_putOn_127 : decode cX6_putOn 127 = .ok (.getfield 7, 3) := by decide +kernel
theorem dX6_putOn_130 : decode cX6_putOn 130 = .ok (.iload_n 2, 1) := by decide +kernel
theorem dX6_putOn_131 : decode cX6_putOn 131 = .ok (.invokestatic 209, 3) := by decide +kernel
theorem dX6_putOn_134 : decode cX6_putOn 134 = .ok (.ireturn, 1) := by decide +kernel
theorem dX6_takeOff_0 : decode cX6_takeOff 0 = .ok (.aload_n 0, 1) := by decide +kernel
theorem dX6_takeOff_1 : decode cX6_takeOff 1 = .ok (.iconst 0, 1) := by decide +kernel
theorem dX6_takeOff_2 : decode cX6_takeOff 2 = .ok (.putfield 60, 3) := by decide +kernel
theorem dX6_takeOff_5 : decode cX6_takeOff 5 = .ok (.aload_n 0, 1) := by decide +kernel
theorem dX6_takeOff_6 : decode cX6_takeOff 6 = .ok (.iload_n 1, 1) := by decide +kernel
theorem dX6_takeOff_7 : decode cX6_takeOff 7 = .ok (.invokevirtual 253, 3) := by decide +kernel
theorem dX6_takeOff_10 : decode cX6_takeOff 10 = .ok (.ifCond .ne 9, 3) := by decide +kernel
theorem dX6_takeOff_13 : decode cX6_takeOff 13 = .ok (.aload_n 0, 1) := by decide +kernel
theorem dX6_takeOff_14 : decode cX6_takeOff 14 = .ok (.iconst 1, 1) := by decide +kernel
theorem dX6_takeOff_15 : decode cX6_takeOff 15 = .ok (.invokevirtual 147, 3) := by decide +kernel
theorem dX6_takeOff_18 : decode cX6_takeOff 18 = .ok (.ireturn, 1) := by decide +kernel
theorem dX6_takeOff_19 : decode cX6_takeOff 19 = .ok (.aload_n 0, 1) := by decide +kernel
theorem dX6_takeOff_20 : decode cX6_takeOff 20 = .ok (.getfield 7, 3) := by decide +kernel
theorem dX6_takeOff_23 : decode cX6_takeOff 23 = .ok (.iload_n 1, 1) := by decide +kernel
theorem dX6_takeOff_24 : decode cX6_takeOff 24 = .ok (.iconst 2, 1) := by decide +kernel
theorem dX6_takeOff_25 : decode cX6_takeOff 25 = .ok (.invokestatic 56, 3) := by decide +kernel
theorem dX6_takeOff_28 : decode cX6_takeOff 28 = .ok (.iaload, 1) := by decide +kernel
theorem dX6_takeOff_29 : decode cX6_takeOff 29 = .ok (.istore_n 2, 1) := by decide +kernel
theorem dX6_takeOff_30 : decode cX6_takeOff 30 = .ok (.iload_n 2, 1) := by decide +kernel
theorem dX6_takeOff_31 : decode cX6_takeOff 31 = .ok (.ifCond .ge 9, 3) := by decide +kernel
theorem dX6_takeOff_34 : decode cX6_takeOff 34 = .ok (.aload_n 0, 1) := by decide +kernel
theorem dX6_takeOff_35 : decode cX6_takeOff 35 = .ok (.iconst 2, 1) := by decide +kernel
theorem dX6_takeOff_36 : decode cX6_takeOff 36 = .ok (.invokevirtual 147, 3) := by decide +kernel
theorem dX6_takeOff_39 : decode cX6_takeOff 39 = .ok (.ireturn, 1) := by decide +kernel
theorem dX6_takeOff_40 : decode cX6_takeOff 40 = .ok (.aload_n 0, 1) := by decide +kernel
theorem dX6_takeOff_41 : decode cX6_takeOff 41 = .ok (.invokevirtual 274, 3) := by decide +kernel
theorem dX6_takeOff_44 : decode cX6_takeOff 44 = .ok (.aload_n 0, 1) := by decide +kernel
theorem dX6_takeOff_45 : decode cX6_takeOff 45 = .ok (.getfield 7, 3) := by decide +kernel
theorem dX6_takeOff_48 : decode cX6_takeOff 48 = .ok (.iload_n 1, 1) := by decide +kernel
theorem dX6_takeOff_49 : decode cX6_takeOff 49 = .ok (.iconst 2, 1) := by decide +kernel
theorem dX6_takeOff_50 : decode cX6_takeOff 50 = .ok (.invokestatic 56, 3) := by decide +kernel
theorem dX6_takeOff_53 : decode cX6_takeOff 53 = .ok (.iconst (-1), 1) := by decide +kernel
theorem dX6_takeOff_54 : decode cX6_takeOff 54 = .ok (.iastore, 1) := by decide +kernel
theorem dX6_takeOff_55 : decode cX6_takeOff 55 = .ok (.aload_n 0, 1) := by decide +kernel
theorem dX6_takeOff_56 : decode cX6_takeOff 56 = .ok (.getfield 7, 3) := by decide +kernel
theorem dX6_takeOff_59 : decode cX6_takeOff 59 = .ok (.iload_n 1, 1) := by decide +kernel
theorem dX6_takeOff_60 : decode cX6_takeOff 60 = .ok (.iconst 3, 1) := by decide +kernel
theorem dX6_takeOff_61 : decode cX6_takeOff 61 = .ok (.invokestatic 56, 3) := by decide +kernel
theorem dX6_takeOff_64 : decode cX6_takeOff 64 = .ok (.aload_n 0, 1) := by decide +kernel
theorem dX6_takeOff_65 : decode cX6_takeOff 65 = .ok (.getfield 7, 3) := by decide +kernel
theorem dX6_takeOff_68 : decode cX6_takeOff 68 = .ok (.iconst 1, 1) := by decide +kernel
theorem dX6_takeOff_69 : decode cX6_takeOff 69 = .ok (.iaload, 1) := by decide +kernel
theorem dX6_takeOff_70 : decode cX6_takeOff 70 = .ok (.iastore, 1) := by decide +kernel
theorem dX6_takeOff_71 : decode cX6_takeOff 71 = .ok (.iload_n 2, 1) := by decide +kernel
theorem dX6_takeOff_72 : decode cX6_takeOff 72 = .ok (.ireturn, 1) := by decide +kernel
theorem dX6_addLoad_0 : decode cX6_addLoad 0 = .ok (.aload_n 0, 1) := by decide +kernel
theorem dX6_addLoad_1 : decode cX6_addLoad 1 = .ok (.iconst 0, 1) := by decide +kernel
theorem dX6_addLoad_2 : decode cX6_addLoad 2 = .ok (.putfield 60, 3) := by decide +kernel
theorem dX6_addLoad_5 : decode cX6_addLoad 5 = .ok (.iload_n 1, 1) := by decide +kernel
theorem dX6_addLoad_6 : decode cX6_addLoad 6 = .ok (.iconst 1, 1) := by decide +kernel
theorem dX6_addLoad_7 : decode cX6_addLoad 7 = .ok (.bipush 99, 2) := by decide +kernel
theorem dX6_addLoad_9 : decode cX6_addLoad 9 = .ok (.invokestatic 67, 3) := by decide +kernel
theorem dX6_addLoad_12 : decode cX6_addLoad 12 = .ok (.ifCond .ne 9, 3) := by decide +kernel
theorem dX6_addLoad_15 : decode cX6_addLoad 15 = .ok (.aload_n 0, 1) := by decide +kernel
theorem dX6_addLoad_16 : decode cX6_addLoad 16 = .ok (.iconst 1, 1) := by decide +kernel
theorem dX6_addLoad_17 : decode cX6_addLoad 17 = .ok (.invokevirtual 147, 3) := by decide +kernel
theorem dX6_addLoad_20 : decode cX6_addLoad 20 = .ok (.ireturn, 1) := by decide +kernel
theorem dX6_addLoad_21 : decode cX6_addLoad 21 = .ok (.iload_n 2, 1) := by decide +kernel
theorem dX6_addLoad_22 : decode cX6_addLoad 22 = .ok (.iconst 1, 1) := by decide +kernel
theorem dX6_addLoad_23 : decode cX6_addLoad 23 = .ok (.bipush 99, 2) := by decide +kernel
theorem dX6_addLoad_25 : decode cX6_addLoad 25 = .ok (.invokestatic 67, 3) := by decide +kernel
theorem dX6_addLoad_28 : decode cX6_addLoad 28 = .ok (.ifCond .ne 9, 3) := by decide +kernel
theorem dX6_addLoad_31 : decode cX6_addLoad 31 = .ok (.aload_n 0, 1) := by decide +kernel
theorem dX6_addLoad_32 : decode cX6_addLoad 32 = .ok (.iconst 1, 1) := by decide +kernel
theorem dX6_addLoad_33 : decode cX6_addLoad 33 = .ok (.invokevirtual 147, 3) := by decide +kernel
theorem dX6_addLoad_36 : decode cX6_addLoad 36 = .ok (.ireturn, 1) := by decide +kernel
theorem dX6_addLoad_37 : decode cX6_addLoad 37 = .ok (.aload_n 0, 1) := by decide +kernel
theorem dX6_addLoad_38 : decode cX6_addLoad 38 = .ok (.getfield 7, 3) := by decide +kernel
theorem dX6_addLoad_41 : decode cX6_addLoad 41 = .ok (.bipush 9, 2) := by decide +kernel
theorem dX6_addLoad_43 : decode cX6_addLoad 43 = .ok (.iaload, 1) := by decide +kernel
theorem dX6_addLoad_44 : decode cX6_addLoad 44 = .ok (.bipush 20, 2) := by decide +kernel
theorem dX6_addLoad_46 : decode cX6_addLoad 46 = .ok (.if_icmp .ne 9, 3) := by decide +kernel
theorem dX6_addLoad_49 : decode cX6_addLoad 49 = .ok (.aload_n 0, 1) := by decide +kernel
theorem dX6_addLoad_50 : decode cX6_addLoad 50 = .ok (.iconst 2, 1) := by decide +kernel
theorem dX6_addLoad_51 : decode cX6_addLoad 51 = .ok (.invokevirtual 147, 3) := by decide +kernel
theorem dX6_addLoad_54 : decode cX6_addLoad 54 = .ok (.ireturn, 1) := by decide +kernel
theorem dX6_addLoad_55 : decode cX6_addLoad 55 = .ok (.aload_n 0, 1) := by decide +kernel
theorem dX6_addLoad_56 : decode cX6_addLoad 56 = .ok (.invokevirtual 274, 3) := by decide +kernel
theorem dX6_addLoad_59 : decode cX6_addLoad 59 = .ok (.aload_n 0, 1) := by decide +kernel
theorem dX6_addLoad_60 : decode cX6_addLoad 60 = .ok (.getfield 7, 3) := by decide +kernel
theorem dX6_addLoad_63 : decode cX6_addLoad 63 = .ok (.iload_n 1, 1) := by decide +kernel
theorem dX6_addLoad_64 : decode cX6_addLoad 64 = .ok (.iload_n 2, 1) := by decide +kernel
theorem dX6_addLoad_65 : decode cX6_addLoad 65 = .ok (.invokestatic 52, 3) := by decide +kernel
theorem dX6_addLoad_68 : decode cX6_addLoad 68 = .ok (.ireturn, 1) := by decide +kernel
theorem dX6_undo_0 : decode cX6_undo 0 = .ok (.aload_n 0, 1) := by decide +kernel
theorem dX6_undo_1 : decode cX6_undo 1 = .ok (.iconst 0, 1) := by decide +kernel
theorem dX6_undo_2 : decode cX6_undo 2 = .ok (.putfield 60, 3) := by decide +kernel
theorem dX6_undo_5 : decode cX6_undo 5 = .ok (.aload_n 0, 1) := by decide +kernel
theorem dX6_undo_6 : decode cX6_undo 6 = .ok (.getfield 235, 3) := by decide +kernel
theorem dX6_undo_9 : decode cX6_undo 9 = .ok (.ifCond .ne 9, 3) := by decide +kernel
theorem dX6_undo_12 : decode cX6_undo 12 = .ok (.aload_n 0, 1) := by decide +kernel
theorem dX6_undo_13 : decode cX6_undo 13 = .ok (.iconst 1, 1) := by decide +kernel
theorem dX6_undo_14 : decode cX6_undo 14 = .ok (.invokevirtual 147, 3) := by decide +kernel
theorem dX6_undo_17 : decode cX6_undo 17 = .ok (.ireturn, 1) := by decide +kernel
theorem dX6_undo_18 : decode cX6_undo 18 = .ok (.aload_n 0, 1) := by decide +kernel
theorem dX6_undo_19 : decode cX6_undo 19 = .ok (.dup, 1) := by decide +kernel
theorem dX6_undo_20 : decode cX6_undo 20 = .ok (.getfield 235, 3) := by decide +kernel
theorem dX6_undo_23 : decode cX6_undo 23 = .ok (.iconst 1, 1) := by decide +kernel
theorem dX6_undo_24 : decode cX6_undo 24 = .ok (.isub, 1) := by decide +kernel
theorem dX6_undo_25 : decode cX6_undo 25 = .ok (.putfield 235, 3) := by decide +kernel
theorem dX6_undo_28 : decode cX6_undo 28 = .ok (.aload_n 0, 1) := by decide +kernel
theorem dX6_undo_29 : decode cX6_undo 29 = .ok (.getfield 19, 3) := by decide +kernel
theorem dX6_undo_32 : decode cX6_undo 32 = .ok (.sipush 220, 3) := by decide +kernel
theorem dX6_undo_35 : decode cX6_undo 35 = .ok (.aload_n 0, 1) := by decide +kernel
theorem dX6_undo_36 : decode cX6_undo 36 = .ok (.getfield 235, 3) := by decide +kernel
theorem dX6_undo_39 : decode cX6_undo 39 = .ok (.imul, 1) := by decide +kernel
theorem dX6_undo_40 : decode cX6_undo 40 = .ok (.aload_n 0, 1) := by decide +kernel
theorem dX6_undo_41 : decode cX6_undo 41 = .ok (.getfield 7, 3) := by decide +kernel
theorem dX6_undo_44 : decode cX6_undo 44 = .ok (.iconst 0, 1) := by decide +kernel
theorem dX6_undo_45 : decode cX6_undo 45 = .ok (.invokestatic 63, 3) := by decide +kernel
theorem dX6_undo_48 : decode cX6_undo 48 = .ok (.aload_n 0, 1) := by decide +kernel
theorem dX6_undo_49 : decode cX6_undo 49 = .ok (.getfield 235, 3) := by decide +kernel
theorem dX6_undo_52 : decode cX6_undo 52 = .ok (.ireturn, 1) := by decide +kernel
theorem dX6_saveSnapshot_0 : decode cX6_saveSnapshot 0 = .ok (.aload_n 0, 1) := by decide +kernel
theorem dX6_saveSnapshot_1 : decode cX6_saveSnapshot 1 = .ok (.iconst 0, 1) := by decide +kernel
theorem dX6_saveSnapshot_2 : decode cX6_saveSnapshot 2 = .ok (.putfield 60, 3) := by decide +kernel
theorem dX6_saveSnapshot_5 : decode cX6_saveSnapshot 5 = .ok (.iload_n 1, 1) := by decide +kernel
theorem dX6_saveSnapshot_6 : decode cX6_saveSnapshot 6 = .ok (.iconst 0, 1) := by decide +kernel
theorem dX6_saveSnapshot_7 : decode cX6_saveSnapshot 7 = .ok (.iconst 1, 1) := by decide +kernel
theorem dX6_saveSnapshot_8 : decode cX6_saveSnapshot 8 = .ok (.invokestatic 67, 3) := by decide +kernel
theorem dX6_saveSnapshot_11 : decode cX6_saveSnapshot 11 = .ok (.ifCond .ne 9, 3) := by decide +kernel
theorem dX6_saveSnapshot_14 : decode cX6_saveSnapshot 14 = .ok (.aload_n 0, 1) := by decide +kernel
theorem dX6_saveSnapshot_15 : decode cX6_saveSnapshot 15 = .ok (.iconst 1, 1) := by decide +kernel
theorem dX6_saveSnapshot_16 : decode cX6_saveSnapshot 16 = .ok (.invokevirtual 147, 3) := by decide +kernel
theorem dX6_saveSnapshot_19 : decode cX6_saveSnapshot 19 = .ok (.ireturn, 1) := by decide +kernel
theorem dX6_saveSnapshot_20 : decode cX6_saveSnapshot 20 = .ok (.aload_n 0, 1) := by decide +kernel
theorem dX6_saveSnapshot_21 : decode cX6_saveSnapshot 21 = .ok (.getfield 7, 3) := by decide +kernel
theorem dX6_saveSnapshot_24 : decode cX6_saveSnapshot 24 = .ok (.iconst 0, 1) := by decide +kernel
theorem dX6_saveSnapshot_25 : decode cX6_saveSnapshot 25 = .ok (.aload_n 0, 1) := by decide +kernel
theorem dX6_saveSnapshot_26 : decode cX6_saveSnapshot 26 = .ok (.getfield 22, 3) := by decide +kernel
theorem dX6_saveSnapshot_29 : decode cX6_saveSnapshot 29 = .ok (.sipush 220, 3) := by decide +kernel
theorem dX6_saveSnapshot_32 : decode cX6_saveSnapshot 32 = .ok (.iload_n 1, 1) := by decide +kernel
theorem dX6_saveSnapshot_33 : decode cX6_saveSnapshot 33 = .ok (.imul, 1) := by decide +kernel
theorem dX6_saveSnapshot_34 : decode cX6_saveSnapshot 34 = .ok (.invokestatic 63, 3) := by decide +kernel
theorem dX6_saveSnapshot_37 : decode cX6_saveSnapshot 37 = .ok (.aload_n 0, 1) := by decide +kernel
theorem dX6_saveSnapshot_38 : decode cX6_saveSnapshot 38 = .ok (.getfield 25, 3) := by decide +kernel
theorem dX6_saveSnapshot_41 : decode cX6_saveSnapshot 41 = .ok (.iload_n 1, 1) := by decide +kernel
theorem dX6_saveSnapshot_42 : decode cX6_saveSnapshot 42 = .ok (.iconst 1, 1) := by decide +kernel
theorem dX6_saveSnapshot_43 : decode cX6_saveSnapshot 43 = .ok (.bastore, 1) := by decide +kernel
theorem dX6_saveSnapshot_44 : decode cX6_saveSnapshot 44 = .ok (.aload_n 0, 1) := by decide +kernel
theorem dX6_saveSnapshot_45 : decode cX6_saveSnapshot 45 = .ok (.getfield 7, 3) := by decide +kernel
theorem dX6_saveSnapshot_48 : decode cX6_saveSnapshot 48 = .ok (.iconst 1, 1) := by decide +kernel
theorem dX6_saveSnapshot_49 : decode cX6_saveSnapshot 49 = .ok (.iaload, 1) := by decide +kernel
theorem dX6_saveSnapshot_50 : decode cX6_saveSnapshot 50 = .ok (.ireturn, 1) := by decide +kernel
theorem dX6_restoreSnapshot_0 : decode cX6_restoreSnapshot 0 = .ok (.aload_n 0, 1) := by decide +kernel
theorem dX6_restoreSnapshot_1 : decode cX6_restoreSnapshot 1 = .ok (.iconst 0, 1) := by decide +kernel
theorem dX6_restoreSnapshot_2 : decode cX6_restoreSnapshot 2 = .ok (.putfield 60, 3) := by decide +kernel
theorem dX6_restoreSnapshot_5 : decode cX6_restoreSnapshot 5 = .ok (.iload_n 1, 1) := by decide +kernel
theorem dX6_restoreSnapshot_6 : decode cX6_restoreSnapshot 6 = .ok (.iconst 0, 1) := by decide +kernel
theorem dX6_restoreSnapshot_7 : decode cX6_restoreSnapshot 7 = .ok (.iconst 1, 1) := by decide +kernel
theorem dX6_restoreSnapshot_8 : decode cX6_restoreSnapshot 8 = .ok (.invokestatic 67, 3) := by decide +kernel
theorem dX6_restoreSnapshot_11 : decode cX6_restoreSnapshot 11 = .ok (.ifCond .ne 9, 3) := by decide +kernel
theorem dX6_restoreSnapshot_14 : decode cX6_restoreSnapshot 14 = .ok (.aload_n 0, 1) := by decide +kernel
theorem dX6_restoreSnapshot_15 : decode cX6_restoreSnapshot 15 = .ok (.iconst 1, 1) := by decide +kernel
theorem dX6_restoreSnapshot_16 : decode cX6_restoreSnapshot 16 = .ok (.invokevirtual 147, 3) := by decide +kernel
theorem dX6_restoreSnapshot_19 : decode cX6_restoreSnapshot 19 = .ok (.ireturn, 1) := by decide +kernel
theorem dX6_restoreSnapshot_20 : decode cX6_restoreSnapshot 20 = .ok (.aload_n 0, 1) := by decide +kernel
theorem dX6_restoreSnapshot_21 : decode cX6_restoreSnapshot 21 = .ok (.getfield 25, 3) := by decide +kernel
theorem dX6_restoreSnapshot_24 : decode cX6_restoreSnapshot 24 = .ok (.iload_n 1, 1) := by decide +kernel
theorem dX6_restoreSnapshot_25 : decode cX6_restoreSnapshot 25 = .ok (.baload, 1) := by decide +kernel
theorem dX6_restoreSnapshot_26 : decode cX6_restoreSnapshot 26 = .ok (.ifCond .ne 9, 3) := by decide +kernel
theorem dX6_restoreSnapshot_29 : decode cX6_restoreSnapshot 29 = .ok (.aload_n 0, 1) := by decide +kernel
theorem dX6_restoreSnapshot_30 : decode cX6_restoreSnapshot 30 = .ok (.iconst 2, 1) := by decide +kernel
theorem dX6_restoreSnapshot_31 : decode cX6_restoreSnapshot 31 = .ok (.invokevirtual 147, 3) := by decide +kernel
theorem dX6_restoreSnapshot_34 : decode cX6_restoreSnapshot 34 = .ok (.ireturn, 1) := by decide +kernel
theorem dX6_restoreSnapshot_35 : decode cX6_restoreSnapshot 35 = .ok (.aload_n 0, 1) := by decide +kernel
theorem dX6_restoreSnapshot_36 : decode cX6_restoreSnapshot 36 = .ok (.invokevirtual 274, 3) := by decide +kernel
theorem dX6_restoreSnapshot_39 : decode cX6_restoreSnapshot 39 = .ok (.aload_n 0, 1) := by decide +kernel
theorem dX6_restoreSnapshot_40 : decode cX6_restoreSnapshot 40 = .ok (.getfield 22, 3) := by decide +kernel
theorem dX6_restoreSnapshot_43 : decode cX6_restoreSnapshot 43 = .ok (.sipush 220, 3) := by decide +kernel
theorem dX6_restoreSnapshot_46 : decode cX6_restoreSnapshot 46 = .ok (.iload_n 1, 1) := by decide +kernel
theorem dX6_restoreSnapshot_47 : decode cX6_restoreSnapshot 47 = .ok (.imul, 1) := by decide +kernel
theorem dX6_restoreSnapshot_48 : decode cX6_restoreSnapshot 48 = .ok (.aload_n 0, 1) := by decide +kernel
theorem dX6_restoreSnapshot_49 : decode cX6_restoreSnapshot 49 = .ok (.getfield 7, 3) := by decide +kernel
theorem dX6_restoreSnapshot_52 : decode cX6_restoreSnapshot 52 = .ok (.iconst 0, 1) := by decide +kernel
theorem dX6_restoreSnapshot_53 : decode cX6_restoreSnapshot 53 = .ok (.invokestatic 63, 3) := by decide +kernel
theorem dX6_restoreSnapshot_56 : decode cX6_restoreSnapshot 56 = .ok (.aload_n 0, 1) := by decide +kernel
theorem dX6_restoreSnapshot_57 : decode cX6_restoreSnapshot 57 = .ok (.getfield 7, 3) := by decide +kernel
theorem dX6_restoreSnapshot_60 : decode cX6_restoreSnapshot 60 = .ok (.iconst 1, 1) := by decide +kernel
theorem dX6_restoreSnapshot_61 : decode cX6_restoreSnapshot 61 = .ok (.iaload, 1) := by decide +kernel
theorem dX6_restoreSnapshot_62 : decode cX6_restoreSnapshot 62 = .ok (.ireturn, 1) := by decide +kernel
theorem dX6_writes_0 : decode cX6_writes 0 = .ok (.aload_n 0, 1) := by decide +kernel
theorem dX6_writes_1 : decode cX6_writes 1 = .ok (.getfield 39, 3) := by decide +kernel
theorem dX6_writes_4 : decode cX6_writes 4 = .ok (.aload_n 0, 1) := by decide +kernel
theorem dX6_writes_5 : decode cX6_writes 5 = .ok (.getfield 283, 3) := by decide +kernel
theorem dX6_writes_8 : decode cX6_writes 8 = .ok (.iload_n 1, 1) := by decide +kernel
theorem dX6_writes_9 : decode cX6_writes 9 = .ok (.iastore, 1) := by decide +kernel
theorem dX6_writes_10 : decode cX6_writes 10 = .ok (.aload_n 0, 1) := by decide +kernel
theorem dX6_writes_11 : decode cX6_writes 11 = .ok (.dup, 1) := by decide +kernel
theorem dX6_writes_12 : decode cX6_writes 12 = .ok (.getfield 283, 3) := by decide +kernel
theorem dX6_writes_15 : decode cX6_writes 15 = .ok (.iconst 1, 1) := by decide +kernel
theorem dX6_writes_16 : decode cX6_writes 16 = .ok (.iadd, 1) := by decide +kernel
theorem dX6_writes_17 : decode cX6_writes 17 = .ok (.putfield 283, 3) := by decide +kernel
theorem dX6_writes_20 : decode cX6_writes 20 = .ok (.return_, 1) := by decide +kernel
theorem dX6_writesNumber_0 : decode cX6_writesNumber 0 = .ok (.iload_n 1, 1) := by decide +kernel
theorem dX6_writesNumber_1 : decode cX6_writesNumber 1 = .ok (.bipush 9, 2) := by decide +kernel
theorem dX6_writesNumber_3 : decode cX6_writesNumber 3 = .ok (.if_icmp .le 14, 3) := by decide +kernel
theorem dX6_writesNumber_6 : decode cX6_writesNumber 6 = .ok (.aload_n 0, 1) := by decide +kernel
theorem dX6_writesNumber_7 : decode cX6_writesNumber 7 = .ok (.bipush 48, 2) := by decide +kernel
theorem dX6_writesNumber_9 : decode cX6_writesNumber 9 = .ok (.iload_n 1, 1) := by decide +kernel
theorem dX6_writesNumber_10 : decode cX6_writesNumber 10 = .ok (.bipush 10, 2) := by decide +kernel
theorem dX6_writesNumber_12 : decode cX6_writesNumber 12 = .ok (.idiv, 1) := by decide +kernel
theorem dX6_writesNumber_13 : decode cX6_writesNumber 13 = .ok (.iadd, 1) := by decide +kernel
theorem dX6_writesNumber_14 : decode cX6_writesNumber 14 = .ok (.invokevirtual 286, 3) := by decide +kernel
theorem dX6_writesNumber_17 : decode cX6_writesNumber 17 = .ok (.aload_n 0, 1) := by decide +kernel
theorem dX6_writesNumber_18 : decode cX6_writesNumber 18 = .ok (.bipush 48, 2) := by decide +kernel
theorem dX6_writesNumber_20 : decode cX6_writesNumber 20 = .ok (.iload_n 1, 1) := by decide +kernel
theorem dX6_writesNumber_21 : decode cX6_writesNumber 21 = .ok (.bipush 10, 2) := by decide +kernel
theorem dX6_writesNumber_23 : decode cX6_writesNumber 23 = .ok (.irem, 1) := by decide +kernel
theorem dX6_writesNumber_24 : decode cX6_writesNumber 24 = .ok (.iadd, 1) := by decide +kernel
theorem dX6_writesNumber_25 : decode cX6_writesNumber 25 = .ok (.invokevirtual 286, 3) := by decide +kernel
theorem dX6_writesNumber_28 : decode cX6_writesNumber 28 = .ok (.return_, 1) := by decide +kernel
theorem dX6_writesCamel_0 : decode cX6_writesCamel 0 = .ok (.aload_n 0, 1) := by decide +kernel
theorem dX6_writesCamel_1 : decode cX6_writesCamel 1 = .ok (.getfield 7, 3) := by decide +kernel
theorem dX6_writesCamel_4 : decode cX6_writesCamel 4 = .ok (.iconst 4, 1) := by decide +kernel
theorem dX6_writesCamel_5 : decode cX6_writesCamel 5 = .ok (.iaload, 1) := by decide +kernel
theorem dX6_writesCamel_6 : decode cX6_writesCamel 6 = .ok (.iload_n 1, 1) := by decide +kernel
theorem dX6_writesCamel_7 : decode cX6_writesCamel 7 = .ok (.if_icmp .ne 9, 3) := by decide +kernel
theorem dX6_writesCamel_10 : decode cX6_writesCamel 10 = .ok (.aload_n 0, 1) := by decide +kernel
theorem dX6_writesCamel_11 : decode cX6_writesCamel 11 = .ok (.bipush 42, 2) := by decide +kernel
theorem dX6_writesCamel_13 : decode cX6_writesCamel 13 = .ok (.invokevirtual 286, 3) := by decide +kernel
theorem dX6_writesCamel_16 : decode cX6_writesCamel 16 = .ok (.aload_n 0, 1) := by decide +kernel
theorem dX6_writesCamel_17 : decode cX6_writesCamel 17 = .ok (.aload_n 0, 1) := by decide +kernel
theorem dX6_writesCamel_18 : decode cX6_writesCamel 18 = .ok (.getfield 7, 3) := by decide +kernel
theorem dX6_writesCamel_21 : decode cX6_writesCamel 21 = .ok (.iload_n 1, 1) := by decide +kernel
theorem dX6_writesCamel_22 : decode cX6_writesCamel 22 = .ok (.iconst 3, 1) := by decide +kernel
theorem dX6_writesCamel_23 : decode cX6_writesCamel 23 = .ok (.invokestatic 71, 3) := by decide +kernel
theorem dX6_writesCamel_26 : decode cX6_writesCamel 26 = .ok (.iaload, 1) := by decide +kernel
theorem dX6_writesCamel_27 : decode cX6_writesCamel 27 = .ok (.invokevirtual 290, 3) := by decide +kernel
theorem dX6_writesCamel_30 : decode cX6_writesCamel 30 = .ok (.aload_n 0, 1) := by decide +kernel
theorem dX6_writesCamel_31 : decode cX6_writesCamel 31 = .ok (.bipush 47, 2) := by decide +kernel
theorem dX6_writesCamel_33 : decode cX6_writesCamel 33 = .ok (.invokevirtual 286, 3) := by decide +kernel
theorem dX6_writesCamel_36 : decode cX6_writesCamel 36 = .ok (.aload_n 0, 1) := by decide +kernel
theorem dX6_writesCamel_37 : decode cX6_writesCamel 37 = .ok (.aload_n 0, 1) := by decide +kernel
theorem dX6_writesCamel_38 : decode cX6_writesCamel 38 = .ok (.getfield 7, 3) := by decide +kernel
theorem dX6_writesCamel_41 : decode cX6_writesCamel 41 = .ok (.iload_n 1, 1) := by decide +kernel
theorem dX6_writesCamel_42 : decode cX6_writesCamel 42 = .ok (.iconst 2, 1) := by decide +kernel
theorem dX6_writesCamel_43 : decode cX6_writesCamel 43 = .ok (.invokestatic 71, 3) := by decide +kernel
theorem dX6_writesCamel_46 : decode cX6_writesCamel 46 = .ok (.iaload, 1) := by decide +kernel
theorem dX6_writesCamel_47 : decode cX6_writesCamel 47 = .ok (.invokevirtual 290, 3) := by decide +kernel
theorem dX6_writesCamel_50 : decode cX6_writesCamel 50 = .ok (.iconst 0, 1) := by decide +kernel
theorem dX6_writesCamel_51 : decode cX6_writesCamel 51 = .ok (.istore_n 2, 1) := by decide +kernel
theorem dX6_writesCamel_52 : decode cX6_writesCamel 52 = .ok (.iload_n 2, 1) := by decide +kernel
theorem dX6_writesCamel_53 : decode cX6_writesCamel 53 = .ok (.aload_n 0, 1) := by decide +kernel
theorem dX6_writesCamel_54 : decode cX6_writesCamel 54 = .ok (.getfield 7, 3) := by decide +kernel
theorem dX6_writesCamel_57 : decode cX6_writesCamel 57 = .ok (.bipush 9, 2) := by decide +kernel
theorem dX6_writesCamel_59 : decode cX6_writesCamel 59 = .ok (.iaload, 1) := by decide +kernel
theorem dX6_writesCamel_60 : decode cX6_writesCamel 60 = .ok (.if_icmp .ge 37, 3) := by decide +kernel
theorem dX6_writesCamel_63 : decode cX6_writesCamel 63 = .ok (.aload_n 0, 1) := by decide +kernel
theorem dX6_writesCamel_64 : decode cX6_writesCamel 64 = .ok (.getfield 7, 3) := by decide +kernel
theorem dX6_writesCamel_67 : decode cX6_writesCamel 67 = .ok (.iload_n 2, 1) := by decide +kernel
theorem dX6_writesCamel_68 : decode cX6_writesCamel 68 = .ok (.iconst 2, 1) := by decide +kernel
theorem dX6_writesCamel_69 : decode cX6_writesCamel 69 = .ok (.invokestatic 56, 3) := by decide +kernel
theorem dX6_writesCamel_72 : decode cX6_writesCamel 72 = .ok (.iaload, 1) := by decide +kernel
theorem dX6_writesCamel_73 : decode cX6_writesCamel 73 = .ok (.iload_n 1, 1) := by decide +kernel
theorem dX6_writesCamel_74 : decode cX6_writesCamel 74 = .ok (.if_icmp .eq 6, 3) := by decide +kernel
theorem dX6_writesCamel_77 : decode cX6_writesCamel 77 = .ok (.goto 14, 3) := by decide +kernel
theorem dX6_writesCamel_80 : decode cX6_writesCamel 80 = .ok (.aload_n 0, 1) := by decide +kernel
theorem dX6_writesCamel_81 : decode cX6_writesCamel 81 = .ok (.bipush 44, 2) := by decide +kernel
theorem dX6_writesCamel_83 : decode cX6_writesCamel 83 = .ok (.invokevirtual 286, 3) := by decide +kernel
theorem dX6_writesCamel_86 : decode cX6_writesCamel 86 = .ok (.aload_n 0, 1) := by decide +kernel
theorem dX6_writesCamel_87 : decode cX6_writesCamel 87 = .ok (.iload_n 2, 1) := by decide +kernel
theorem dX6_writesCamel_88 : decode cX6_writesCamel 88 = .ok (.invokevirtual 290, 3) := by decide +kernel
theorem dX6_writesCamel_91 : decode cX6_writesCamel 91 = .ok (.iinc 2 1, 3) := by decide +kernel
theorem dX6_writesCamel_94 : decode cX6_writesCamel 94 = .ok (.goto (-42), 3) := by decide +kernel
theorem dX6_writesCamel_97 : decode cX6_writesCamel 97 = .ok (.aload_n 0, 1) := by decide +kernel
theorem dX6_writesCamel_98 : decode cX6_writesCamel 98 = .ok (.getfield 7, 3) := by decide +kernel
theorem dX6_writesCamel_101 : decode cX6_writesCamel 101 = .ok (.iload_n 1, 1) := by decide +kernel
theorem dX6_writesCamel_102 : decode cX6_writesCamel 102 = .ok (.invokestatic 83, 3) := by decide +kernel
theorem dX6_writesCamel_105 : decode cX6_writesCamel 105 = .ok (.ifCond .ne 9, 3) := by decide +kernel
theorem dX6_writesCamel_108 : decode cX6_writesCamel 108 = .ok (.aload_n 0, 1) := by decide +kernel
theorem dX6_writesCamel_109 : decode cX6_writesCamel 109 = .ok (.bipush 33, 2) := by decide +kernel
theorem dX6_writesCamel_111 : decode cX6_writesCamel 111 = .ok (.invokevirtual 286, 3) := by decide +kernel
theorem dX6_writesCamel_114 : decode cX6_writesCamel 114 = .ok (.aload_n 0, 1) := by decide +kernel
theorem dX6_writesCamel_115 : decode cX6_writesCamel 115 = .ok (.bipush 10, 2) := by decide +kernel
theorem dX6_writesCamel_117 : decode cX6_writesCamel 117 = .ok (.invokevirtual 286, 3) := by decide +kernel
theorem dX6_writesCamel_120 : decode cX6_writesCamel 120 = .ok (.return_, 1) := by decide +kernel
theorem dX6_writeCamels_0 : decode cX6_writeCamels 0 = .ok (.aload_n 0, 1) := by decide +kernel
theorem dX6_writeCamels_1 : decode cX6_writeCamels 1 = .ok (.iconst 0, 1) := by decide +kernel
theorem dX6_writeCamels_2 : decode cX6_writeCamels 2 = .ok (.putfield 60, 3) := by decide +kernel
theorem dX6_writeCamels_5 : decode cX6_writeCamels 5 = .ok (.aload_n 0, 1) := by decide +kernel
theorem dX6_writeCamels_6 : decode cX6_writeCamels 6 = .ok (.iconst 0, 1) := by decide +kernel
theorem dX6_writeCamels_7 : decode cX6_writeCamels 7 = .ok (.putfield 283, 3) := by decide +kernel
theorem dX6_writeCamels_10 : decode cX6_writeCamels 10 = .ok (.iconst 0, 1) := by decide +kernel
theorem dX6_writeCamels_11 : decode cX6_writeCamels 11 = .ok (.istore_n 1, 1) := by decide +kernel
theorem dX6_writeCamels_12 : decode cX6_writeCamels 12 = .ok (.iload_n 1, 1) := by decide +kernel
theorem dX6_writeCamels_13 : decode cX6_writeCamels 13 = .ok (.aload_n 0, 1) := by decide +kernel
theorem dX6_writeCamels_14 : decode cX6_writeCamels 14 = .ok (.getfield 7, 3) := by decide +kernel
theorem dX6_writeCamels_17 : decode cX6_writeCamels 17 = .ok (.bipush 6, 2) := by decide +kernel
theorem dX6_writeCamels_19 : decode cX6_writeCamels 19 = .ok (.iaload, 1) := by decide +kernel
theorem dX6_writeCamels_20 : decode cX6_writeCamels 20 = .ok (.if_icmp .ge 14, 3) := by decide +kernel
theorem dX6_writeCamels_23 : decode cX6_writeCamels 23 = .ok (.aload_n 0, 1) := by decide +kernel
theorem dX6_writeCamels_24 : decode cX6_writeCamels 24 = .ok (.iload_n 1, 1) := by decide +kernel
theorem dX6_writeCamels_25 : decode cX6_writeCamels 25 = .ok (.invokevirtual 293, 3) := by decide +kernel
theorem dX6_writeCamels_28 : decode cX6_writeCamels 28 = .ok (.iinc 1 1, 3) := by decide +kernel
theorem dX6_writeCamels_31 : decode cX6_writeCamels 31 = .ok (.goto (-19), 3) := by decide +kernel
theorem dX6_writeCamels_34 : decode cX6_writeCamels 34 = .ok (.aload_n 0, 1) := by decide +kernel
theorem dX6_writeCamels_35 : decode cX6_writeCamels 35 = .ok (.getfield 283, 3) := by decide +kernel
theorem dX6_writeCamels_38 : decode cX6_writeCamels 38 = .ok (.ireturn, 1) := by decide +kernel
theorem dX6_writtenByte_0 : decode cX6_writtenByte 0 = .ok (.aload_n 0, 1) := by decide +kernel
theorem dX6_writtenByte_1 : decode cX6_writtenByte 1 = .ok (.iconst 0, 1) := by decide +kernel
theorem dX6_writtenByte_2 : decode cX6_writtenByte 2 = .ok (.putfield 60, 3) := by decide +kernel
theorem dX6_writtenByte_5 : decode cX6_writtenByte 5 = .ok (.iload_n 1, 1) := by decide +kernel
theorem dX6_writtenByte_6 : decode cX6_writtenByte 6 = .ok (.iconst 0, 1) := by decide +kernel
theorem dX6_writtenByte_7 : decode cX6_writtenByte 7 = .ok (.aload_n 0, 1) := by decide +kernel
theorem dX6_writtenByte_8 : decode cX6_writtenByte 8 = .ok (.getfield 283, 3) := by decide +kernel
theorem dX6_writtenByte_11 : decode cX6_writtenByte 11 = .ok (.iconst 1, 1) := by decide +kernel
theorem dX6_writtenByte_12 : decode cX6_writtenByte 12 = .ok (.isub, 1) := by decide +kernel
theorem dX6_writtenByte_13 : decode cX6_writtenByte 13 = .ok (.invokestatic 67, 3) := by decide +kernel
theorem dX6_writtenByte_16 : decode cX6_writtenByte 16 = .ok (.ifCond .eq 10, 3) := by decide +kernel
theorem dX6_writtenByte_19 : decode cX6_writtenByte 19 = .ok (.aload_n 0, 1) := by decide +kernel
theorem dX6_writtenByte_20 : decode cX6_writtenByte 20 = .ok (.getfield 39, 3) := by decide +kernel
theorem dX6_writtenByte_23 : decode cX6_writtenByte 23 = .ok (.iload_n 1, 1) := by decide +kernel
theorem dX6_writtenByte_24 : decode cX6_writtenByte 24 = .ok (.iaload, 1) := by decide +kernel
theorem dX6_writtenByte_25 : decode cX6_writtenByte 25 = .ok (.ireturn, 1) := by decide +kernel
theorem dX6_writtenByte_26 : decode cX6_writtenByte 26 = .ok (.aload_n 0, 1) := by decide +kernel
theorem dX6_writtenByte_27 : decode cX6_writtenByte 27 = .ok (.iconst 1, 1) := by decide +kernel
theorem dX6_writtenByte_28 : decode cX6_writtenByte 28 = .ok (.invokevirtual 147, 3) := by decide +kernel
theorem dX6_writtenByte_31 : decode cX6_writtenByte 31 = .ok (.ireturn, 1) := by decide +kernel
theorem dL_append_0 : decode cL_append 0 = .ok (.aload 6, 2) := by decide +kernel
theorem dL_append_2 : decode cL_append 2 = .ok (.iconst 0, 1) := by decide +kernel
theorem dL_append_3 : decode cL_append 3 = .ok (.aload_n 0, 1) := by decide +kernel
theorem dL_append_4 : decode cL_append 4 = .ok (.iload_n 1, 1) := by decide +kernel
theorem dL_append_5 : decode cL_append 5 = .ok (.iload_n 2, 1) := by decide +kernel
theorem dL_append_6 : decode cL_append 6 = .ok (.iload_n 3, 1) := by decide +kernel
theorem dL_append_7 : decode cL_append 7 = .ok (.iload 4, 2) := by decide +kernel
theorem dL_append_9 : decode cL_append 9 = .ok (.iload 5, 2) := by decide +kernel
theorem dL_append_11 : decode cL_append 11 = .ok (.invokevirtual 7, 3) := by decide +kernel
theorem dL_append_14 : decode cL_append 14 = .ok (.i2l, 1) := by decide +kernel
theorem dL_append_15 : decode cL_append 15 = .ok (.lastore, 1) := by decide +kernel
theorem dL_append_16 : decode cL_append 16 = .ok (.goto 7, 3) := by decide +kernel
theorem dL_append_19 : decode cL_append 19 = .ok (.astore 7, 2) := by decide +kernel
theorem dL_append_21 : decode cL_append 21 = .ok (.iconst 1, 1) := by decide +kernel
theorem dL_append_22 : decode cL_append 22 = .ok (.ireturn, 1) := by decide +kernel
theorem dL_append_23 : decode cL_append 23 = .ok (.iconst 0, 1) := by decide +kernel
theorem dL_append_24 : decode cL_append 24 = .ok (.ireturn, 1) := by decide +kernel
theorem dL_shorten_0 : decode cL_shorten 0 = .ok (.aload_n 2, 1) := by decide +kernel
theorem dL_shorten_1 : decode cL_shorten 1 = .ok (.iconst 0, 1) := by decide +kernel
theorem dL_shorten_2 : decode cL_shorten 2 = .ok (.aload_n 0, 1) := by decide +kernel
theorem dL_shorten_3 : decode cL_shorten 3 = .ok (.iload_n 1, 1) := by decide +kernel
theorem dL_shorten_4 : decode cL_shorten 4 = .ok (.invokevirtual 15, 3) := by decide +kernel
theorem dL_shorten_7 : decode cL_shorten 7 = .ok (.i2l, 1) := by decide +kernel
theorem dL_shorten_8 : decode cL_shorten 8 = .ok (.lastore, 1) := by decide +kernel
theorem dL_shorten_9 : decode cL_shorten 9 = .ok (.goto 6, 3) := by decide +kernel
theorem dL_shorten_12 : decode cL_shorten 12 = .ok (.astore_n 3, 1) := by decide +kernel
theorem dL_shorten_13 : decode cL_shorten 13 = .ok (.iconst 1, 1) := by decide +kernel
theorem dL_shorten_14 : decode cL_shorten 14 = .ok (.ireturn, 1) := by decide +kernel
theorem dL_shorten_15 : decode cL_shorten 15 = .ok (.iconst 0, 1) := by decide +kernel
theorem dL_shorten_16 : decode cL_shorten 16 = .ok (.ireturn, 1) := by decide +kernel
theorem dL_load_0 : decode cL_load 0 = .ok (.aload_n 1, 1) := by decide +kernel
theorem dL_load_1 : decode cL_load 1 = .ok (.iconst 0, 1) := by decide +kernel
theorem dL_load_2 : decode cL_load 2 = .ok (.aload_n 0, 1) := by decide +kernel
theorem dL_load_3 : decode cL_load 3 = .ok (.invokevirtual 21, 3) := by decide +kernel
theorem dL_load_6 : decode cL_load 6 = .ok (.i2l, 1) := by decide +kernel
theorem dL_load_7 : decode cL_load 7 = .ok (.lastore, 1) := by decide +kernel
theorem dL_load_8 : decode cL_load 8 = .ok (.goto 6, 3) := by decide +kernel
theorem dL_load_11 : decode cL_load 11 = .ok (.astore_n 2, 1) := by decide +kernel
theorem dL_load_12 : decode cL_load 12 = .ok (.iconst 1, 1) := by decide +kernel
theorem dL_load_13 : decode cL_load 13 = .ok (.ireturn, 1) := by decide +kernel
theorem dL_load_14 : decode cL_load 14 = .ok (.iconst 0, 1) := by decide +kernel
theorem dL_load_15 : decode cL_load 15 = .ok (.ireturn, 1) := by decide +kernel
theorem dL_errorOffset_0 : decode cL_errorOffset 0 = .ok (.aload_n 1, 1) := by decide +kernel
theorem dL_errorOffset_1 : decode cL_errorOffset 1 = .ok (.iconst 0, 1) := by decide +kernel
theorem dL_errorOffset_2 : decode cL_errorOffset 2 = .ok (.aload_n 0, 1) := by decide +kernel
theorem dL_errorOffset_3 : decode cL_errorOffset 3 = .ok (.invokevirtual 25, 3) := by decide +kernel
theorem dL_errorOffset_6 : decode cL_errorOffset 6 = .ok (.i2l, 1) := by decide +kernel
theorem dL_errorOffset_7 : decode cL_errorOffset 7 = .ok (.lastore, 1) := by decide +kernel
theorem dL_errorOffset_8 : decode cL_errorOffset 8 = .ok (.goto 6, 3) := by decide +kernel
theorem dL_errorOffset_11 : decode cL_errorOffset 11 = .ok (.astore_n 2, 1) := by decide +kernel
theorem dL_errorOffset_12 : decode cL_errorOffset 12 = .ok (.iconst 1, 1) := by decide +kernel
theorem dL_errorOffset_13 : decode cL_errorOffset 13 = .ok (.ireturn, 1) := by decide +kernel
theorem dL_errorOffset_14 : decode cL_errorOffset 14 = .ok (.iconst 0, 1) := by decide +kernel
theorem dL_errorOffset_15 : decode cL_errorOffset 15 = .ok (.ireturn, 1) := by decide +kernel
theorem dL_stormOn_0 : decode cL_stormOn 0 = .ok (.aload_n 2, 1) := by decide +kernel
theorem dL_stormOn_1 : decode cL_stormOn 1 = .ok (.iconst 0, 1) := by decide +kernel
theorem dL_stormOn_2 : decode cL_stormOn 2 = .ok (.aload_n 0, 1) := by decide +kernel
theorem dL_stormOn_3 : decode cL_stormOn 3 = .ok (.iload_n 1, 1) := by decide +kernel
theorem dL_stormOn_4 : decode cL_stormOn 4 = .ok (.invokevirtual 30, 3) := by decide +kernel
theorem dL_stormOn_7 : decode cL_stormOn 7 = .ok (.i2l, 1) := by decide +kernel
theorem dL_stormOn_8 : decode cL_stormOn 8 = .ok (.lastore, 1) := by decide +kernel
theorem dL_stormOn_9 : decode cL_stormOn 9 = .ok (.goto 6, 3) := by decide +kernel
theorem dL_stormOn_12 : decode cL_stormOn 12 = .ok (.astore_n 3, 1) := by decide +kernel
theorem dL_stormOn_13 : decode cL_stormOn 13 = .ok (.iconst 1, 1) := by decide +kernel
theorem dL_stormOn_14 : decode cL_stormOn 14 = .ok (.ireturn, 1) := by decide +kernel
theorem dL_stormOn_15 : decode cL_stormOn 15 = .ok (.iconst 0, 1) := by decide +kernel
theorem dL_stormOn_16 : decode cL_stormOn 16 = .ok (.ireturn, 1) := by decide +kernel
theorem dL_wellKilometre_0 : decode cL_wellKilometre 0 = .ok (.aload_n 2, 1) := by decide +kernel
theorem dL_wellKilometre_1 : decode cL_wellKilometre 1 = .ok (.iconst 0, 1) := by decide +kernel
theorem dL_wellKilometre_2 : decode cL_wellKilometre 2 = .ok (.aload_n 0, 1) := by decide +kernel
theorem dL_wellKilometre_3 : decode cL_wellKilometre 3 = .ok (.iload_n 1, 1) := by decide +kernel
theorem dL_wellKilometre_4 : decode cL_wellKilometre 4 = .ok (.invokevirtual 33, 3) := by decide +kernel
theorem dL_wellKilometre_7 : decode cL_wellKilometre 7 = .ok (.i2l, 1) := by decide +kernel
theorem dL_wellKilometre_8 : decode cL_wellKilometre 8 = .ok (.lastore, 1) := by decide +kernel
theorem dL_wellKilometre_9 : decode cL_wellKilometre 9 = .ok (.goto 6, 3) := by decide +kernel
theorem dL_wellKilometre_12 : decode cL_wellKilometre 12 = .ok (.astore_n 3, 1) := by decide +kernel
theorem dL_wellKilometre_13 : decode cL_wellKilometre 13 = .ok (.iconst 1, 1) := by decide +kernel
theorem dL_wellKilometre_14 : decode cL_wellKilometre 14 = .ok (.ireturn, 1) := by decide +kernel
theorem dL_wellKilometre_15 : decode cL_wellKilometre 15 = .ok (.iconst 0, 1) := by decide +kernel
theorem dL_wellKilometre_16 : decode cL_wellKilometre 16 = .ok (.ireturn, 1) := by decide +kernel
theorem dL_wellLevel_0 : decode cL_wellLevel 0 = .ok (.aload_n 2, 1) := by decide +kernel
theorem dL_wellLevel_1 : decode cL_wellLevel 1 = .ok (.iconst 0, 1) := by decide +kernel
theorem dL_wellLevel_2 : decode cL_wellLevel 2 = .ok (.aload_n 0, 1) := by decide +kernel
theorem dL_wellLevel_3 : decode cL_wellLevel 3 = .ok (.iload_n 1, 1) := by decide +kernel
theorem dL_wellLevel_4 : decode cL_wellLevel 4 = .ok (.invokevirtual 38, 3) := by decide +kernel
theorem dL_wellLevel_7 : decode cL_wellLevel 7 = .ok (.i2l, 1) := by decide +kernel
theorem dL_wellLevel_8 : decode cL_wellLevel 8 = .ok (.lastore, 1) := by decide +kernel
theorem dL_wellLevel_9 : decode cL_wellLevel 9 = .ok (.goto 6, 3) := by decide +kernel
theorem dL_wellLevel_12 : decode cL_wellLevel 12 = .ok (.astore_n 3, 1) := by decide +kernel
theorem dL_wellLevel_13 : decode cL_wellLevel 13 = .ok (.iconst 1, 1) := by decide +kernel
theorem dL_wellLevel_14 : decode cL_wellLevel 14 = .ok (.ireturn, 1) := by decide +kernel
theorem dL_wellLevel_15 : decode cL_wellLevel 15 = .ok (.iconst 0, 1) := by decide +kernel
theorem dL_wellLevel_16 : decode cL_wellLevel 16 = .ok (.ireturn, 1) := by decide +kernel
theorem dL_wellCapacity_0 : decode cL_wellCapacity 0 = .ok (.aload_n 2, 1) := by decide +kernel
theorem dL_wellCapacity_1 : decode cL_wellCapacity 1 = .ok (.iconst 0, 1) := by decide +kernel
theorem dL_wellCapacity_2 : decode cL_wellCapacity 2 = .ok (.aload_n 0, 1) := by decide +kernel
theorem dL_wellCapacity_3 : decode cL_wellCapacity 3 = .ok (.iload_n 1, 1) := by decide +kernel
theorem dL_wellCapacity_4 : decode cL_wellCapacity 4 = .ok (.invokevirtual 41, 3) := by decide +kernel
theorem dL_wellCapacity_7 : decode cL_wellCapacity 7 = .ok (.i2l, 1) := by decide +kernel
theorem dL_wellCapacity_8 : decode cL_wellCapacity 8 = .ok (.lastore, 1) := by decide +kernel
theorem dL_wellCapacity_9 : decode cL_wellCapacity 9 = .ok (.goto 6, 3) := by decide +kernel
theorem dL_wellCapacity_12 : decode cL_wellCapacity 12 = .ok (.astore_n 3, 1) := by decide +kernel
theorem dL_wellCapacity_13 : decode cL_wellCapacity 13 = .ok (.iconst 1, 1) := by decide +kernel
theorem dL_wellCapacity_14 : decode cL_wellCapacity 14 = .ok (.ireturn, 1) := by decide +kernel
theorem dL_wellCapacity_15 : decode cL_wellCapacity 15 = .ok (.iconst 0, 1) := by decide +kernel
theorem dL_wellCapacity_16 : decode cL_wellCapacity 16 = .ok (.ireturn, 1) := by decide +kernel
theorem dL_wellHere_0 : decode cL_wellHere 0 = .ok (.aload_n 1, 1) := by decide +kernel
theorem dL_wellHere_1 : decode cL_wellHere 1 = .ok (.iconst 0, 1) := by decide +kernel
theorem dL_wellHere_2 : decode cL_wellHere 2 = .ok (.aload_n 0, 1) := by decide +kernel
theorem dL_wellHere_3 : decode cL_wellHere 3 = .ok (.invokevirtual 44, 3) := by decide +kernel
theorem dL_wellHere_6 : decode cL_wellHere 6 = .ok (.i2l, 1) := by decide +kernel
theorem dL_wellHere_7 : decode cL_wellHere 7 = .ok (.lastore, 1) := by decide +kernel
theorem dL_wellHere_8 : decode cL_wellHere 8 = .ok (.goto 6, 3) := by decide +kernel
theorem dL_wellHere_11 : decode cL_wellHere 11 = .ok (.astore_n 2, 1) := by decide +kernel
theorem dL_wellHere_12 : decode cL_wellHere 12 = .ok (.iconst 1, 1) := by decide +kernel
theorem dL_wellHere_13 : decode cL_wellHere 13 = .ok (.ireturn, 1) := by decide +kernel
theorem dL_wellHere_14 : decode cL_wellHere 14 = .ok (.iconst 0, 1) := by decide +kernel
theorem dL_wellHere_15 : decode cL_wellHere 15 = .ok (.ireturn, 1) := by decide +kernel
theorem dL_nextWell_0 : decode cL_nextWell 0 = .ok (.aload_n 1, 1) := by decide +kernel
theorem dL_nextWell_1 : decode cL_nextWell 1 = .ok (.iconst 0, 1) := by decide +kernel
theorem dL_nextWell_2 : decode cL_nextWell 2 = .ok (.aload_n 0, 1) := by decide +kernel
theorem dL_nextWell_3 : decode cL_nextWell 3 = .ok (.invokevirtual 47, 3) := by decide +kernel
theorem dL_nextWell_6 : decode cL_nextWell 6 = .ok (.i2l, 1) := by decide +kernel
theorem dL_nextWell_7 : decode cL_nextWell 7 = .ok (.lastore, 1) := by decide +kernel
theorem dL_nextWell_8 : decode cL_nextWell 8 = .ok (.goto 6, 3) := by decide +kernel
theorem dL_nextWell_11 : decode cL_nextWell 11 = .ok (.astore_n 2, 1) := by decide +kernel
theorem dL_nextWell_12 : decode cL_nextWell 12 = .ok (.iconst 1, 1) := by decide +kernel
theorem dL_nextWell_13 : decode cL_nextWell 13 = .ok (.ireturn, 1) := by decide +kernel
theorem dL_nextWell_14 : decode cL_nextWell 14 = .ok (.iconst 0, 1) := by decide +kernel
theorem dL_nextWell_15 : decode cL_nextWell 15 = .ok (.ireturn, 1) := by decide +kernel
theorem dL_isDead_0 : decode cL_isDead 0 = .ok (.aload_n 2, 1) := by decide +kernel
theorem dL_isDead_1 : decode cL_isDead 1 = .ok (.iconst 0, 1) := by decide +kernel
theorem dL_isDead_2 : decode cL_isDead 2 = .ok (.aload_n 0, 1) := by decide +kernel
theorem dL_isDead_3 : decode cL_isDead 3 = .ok (.iload_n 1, 1) := by decide +kernel
theorem dL_isDead_4 : decode cL_isDead 4 = .ok (.invokevirtual 50, 3) := by decide +kernel
theorem dL_isDead_7 : decode cL_isDead 7 = .ok (.ifCond .eq 7, 3) := by decide +kernel
theorem dL_isDead_10 : decode cL_isDead 10 = .ok (.lconst 1, 1) := by decide +kernel
theorem dL_isDead_11 : decode cL_isDead 11 = .ok (.goto 4, 3) := by decide +kernel
theorem dL_isDead_14 : decode cL_isDead 14 = .ok (.lconst 0, 1) := by decide +kernel
theorem dL_isDead_15 : decode cL_isDead 15 = .ok (.lastore, 1) := by decide +kernel
theorem dL_isDead_16 : decode cL_isDead 16 = .ok (.goto 6, 3) := by decide +kernel
theorem dL_isDead_19 : decode cL_isDead 19 = .ok (.astore_n 3, 1) := by decide +kernel
theorem dL_isDead_20 : decode cL_isDead 20 = .ok (.iconst 1, 1) := by decide +kernel
theorem dL_isDead_21 : decode cL_isDead 21 = .ok (.ireturn, 1) := by decide +kernel
theorem dL_isDead_22 : decode cL_isDead 22 = .ok (.iconst 0, 1) := by decide +kernel
theorem dL_isDead_23 : decode cL_isDead 23 = .ok (.ireturn, 1) := by decide +kernel
theorem dL_pace_0 : decode cL_pace 0 = .ok (.aload_n 2, 1) := by decide +kernel
theorem dL_pace_1 : decode cL_pace 1 = .ok (.iconst 0, 1) := by decide +kernel
theorem dL_pace_2 : decode cL_pace 2 = .ok (.aload_n 0, 1) := by decide +kernel
theorem dL_pace_3 : decode cL_pace 3 = .ok (.iload_n 1, 1) := by decide +kernel
theorem dL_pace_4 : decode cL_pace 4 = .ok (.invokevirtual 54, 3) := by decide +kernel
theorem dL_pace_7 : decode cL_pace 7 = .ok (.i2l, 1) := by decide +kernel
theorem dL_pace_8 : decode cL_pace 8 = .ok (.lastore, 1) := by decide +kernel
theorem dL_pace_9 : decode cL_pace 9 = .ok (.goto 6, 3) := by decide +kernel
theorem dL_pace_12 : decode cL_pace 12 = .ok (.astore_n 3, 1) := by decide +kernel
theorem dL_pace_13 : decode cL_pace 13 = .ok (.iconst 1, 1) := by decide +kernel
theorem dL_pace_14 : decode cL_pace 14 = .ok (.ireturn, 1) := by decide +kernel
theorem dL_pace_15 : decode cL_pace 15 = .ok (.iconst 0, 1) := by decide +kernel
theorem dL_pace_16 : decode cL_pace 16 = .ok (.ireturn, 1) := by decide +kernel
theorem dL_speed_0 : decode cL_speed 0 = .ok (.aload_n 2, 1) := by decide +kernel
theorem dL_speed_1 : decode cL_speed 1 = .ok (.iconst 0, 1) := by decide +kernel
theorem dL_speed_2 : decode cL_speed 2 = .ok (.aload_n 0, 1) := by decide +kernel
theorem dL_speed_3 : decode cL_speed 3 = .ok (.iload_n 1, 1) := by decide +kernel
theorem dL_speed_4 : decode cL_speed 4 = .ok (.invokevirtual 57, 3) := by decide +kernel
theorem dL_speed_7 : decode cL_speed 7 = .ok (.i2l, 1) := by decide +kernel
theorem dL_speed_8 : decode cL_speed 8 = .ok (.lastore, 1) := by decide +kernel
theorem dL_speed_9 : decode cL_speed 9 = .ok (.goto 6, 3) := by decide +kernel
theorem dL_speed_12 : decode cL_speed 12 = .ok (.astore_n 3, 1) := by decide +kernel
theorem dL_speed_13 : decode cL_speed 13 = .ok (.iconst 1, 1) := by decide +kernel
theorem dL_speed_14 : decode cL_speed 14 = .ok (.ireturn, 1) := by decide +kernel
theorem dL_speed_15 : decode cL_speed 15 = .ok (.iconst 0, 1) := by decide +kernel
theorem dL_speed_16 : decode cL_speed 16 = .ok (.ireturn, 1) := by decide +kernel
theorem dL_water_0 : decode cL_water 0 = .ok (.aload_n 2, 1) := by decide +kernel
theorem dL_water_1 : decode cL_water 1 = .ok (.iconst 0, 1) := by decide +kernel
theorem dL_water_2 : decode cL_water 2 = .ok (.aload_n 0, 1) := by decide +kernel
theorem dL_water_3 : decode cL_water 3 = .ok (.iload_n 1, 1) := by decide +kernel
theorem dL_water_4 : decode cL_water 4 = .ok (.invokevirtual 60, 3) := by decide +kernel
theorem dL_water_7 : decode cL_water 7 = .ok (.i2l, 1) := by decide +kernel
theorem dL_water_8 : decode cL_water 8 = .ok (.lastore, 1) := by decide +kernel
theorem dL_water_9 : decode cL_water 9 = .ok (.goto 6, 3) := by decide +kernel
theorem dL_water_12 : decode cL_water 12 = .ok (.astore_n 3, 1) := by decide +kernel
theorem dL_water_13 : decode cL_water 13 = .ok (.iconst 1, 1) := by decide +kernel
theorem dL_water_14 : decode cL_water 14 = .ok (.ireturn, 1) := by decide +kernel
theorem dL_water_15 : decode cL_water 15 = .ok (.iconst 0, 1) := by decide +kernel
theorem dL_water_16 : decode cL_water 16 = .ok (.ireturn, 1) := by decide +kernel
theorem dL_tank_0 : decode cL_tank 0 = .ok (.aload_n 2, 1) := by decide +kernel
theorem dL_tank_1 : decode cL_tank 1 = .ok (.iconst 0, 1) := by decide +kernel
theorem dL_tank_2 : decode cL_tank 2 = .ok (.aload_n 0, 1) := by decide +kernel
theorem dL_tank_3 : decode cL_tank 3 = .ok (.iload_n 1, 1) := by decide +kernel
theorem dL_tank_4 : decode cL_tank 4 = .ok (.invokevirtual 63, 3) := by decide +kernel
theorem dL_tank_7 : decode cL_tank 7 = .ok (.i2l, 1) := by decide +kernel
theorem dL_tank_8 : decode cL_tank 8 = .ok (.lastore, 1) := by decide +kernel
theorem dL_tank_9 : decode cL_tank 9 = .ok (.goto 6, 3) := by decide +kernel
theorem dL_tank_12 : decode cL_tank 12 = .ok (.astore_n 3, 1) := by decide +kernel
theorem dL_tank_13 : decode cL_tank 13 = .ok (.iconst 1, 1) := by decide +kernel
theorem dL_tank_14 : decode cL_tank 14 = .ok (.ireturn, 1) := by decide +kernel
theorem dL_tank_15 : decode cL_tank 15 = .ok (.iconst 0, 1) := by decide +kernel
theorem dL_tank_16 : decode cL_tank 16 = .ok (.ireturn, 1) := by decide +kernel
theorem dL_strain_0 : decode cL_strain 0 = .ok (.aload_n 2, 1) := by decide +kernel
theorem dL_strain_1 : decode cL_strain 1 = .ok (.iconst 0, 1) := by decide +kernel
theorem dL_strain_2 : decode cL_strain 2 = .ok (.aload_n 0, 1) := by decide +kernel
theorem dL_strain_3 : decode cL_strain 3 = .ok (.iload_n 1, 1) := by decide +kernel
theorem dL_strain_4 : decode cL_strain 4 = .ok (.invokevirtual 66, 3) := by decide +kernel
theorem dL_strain_7 : decode cL_strain 7 = .ok (.i2l, 1) := by decide +kernel
theorem dL_strain_8 : decode cL_strain 8 = .ok (.lastore, 1) := by decide +kernel
theorem dL_strain_9 : decode cL_strain 9 = .ok (.goto 6, 3) := by decide +kernel
theorem dL_strain_12 : decode cL_strain 12 = .ok (.astore_n 3, 1) := by decide +kernel
theorem dL_strain_13 : decode cL_strain 13 = .ok (.iconst 1, 1) := by decide +kernel
theorem dL_strain_14 : decode cL_strain 14 = .ok (.ireturn, 1) := by decide +kernel
theorem dL_strain_15 : decode cL_strain 15 = .ok (.iconst 0, 1) := by decide +kernel
theorem dL_strain_16 : decode cL_strain 16 = .ok (.ireturn, 1) := by decide +kernel
theorem dL_lameDays_0 : decode cL_lameDays 0 = .ok (.aload_n 2, 1) := by decide +kernel
theorem dL_lameDays_1 : decode cL_lameDays 1 = .ok (.iconst 0, 1) := by decide +kernel
theorem dL_lameDays_2 : decode cL_lameDays 2 = .ok (.aload_n 0, 1) := by decide +kernel
theorem dL_lameDays_3 : decode cL_lameDays 3 = .ok (.iload_n 1, 1) := by decide +kernel
theorem dL_lameDays_4 : decode cL_lameDays 4 = .ok (.invokevirtual 69, 3) := by decide +kernel
theorem dL_lameDays_7 : decode cL_lameDays 7 = .ok (.i2l, 1) := by decide +kernel
theorem dL_lameDays_8 : decode cL_lameDays 8 = .ok (.lastore, 1) := by decide +kernel
theorem dL_lameDays_9 : decode cL_lameDays 9 = .ok (.goto 6, 3) := by decide +kernel
theorem dL_lameDays_12 : decode cL_lameDays 12 = .ok (.astore_n 3, 1) := by decide +kernel
theorem dL_lameDays_13 : decode cL_lameDays 13 = .ok (.iconst 1, 1) := by decide +kernel
theorem dL_lameDays_14 : decode cL_lameDays 14 = .ok (.ireturn, 1) := by decide +kernel
theorem dL_lameDays_15 : decode cL_lameDays 15 = .ok (.iconst 0, 1) := by decide +kernel
theorem dL_lameDays_16 : decode cL_lameDays 16 = .ok (.ireturn, 1) := by decide +kernel
theorem dL_dryDays_0 : decode cL_dryDays 0 = .ok (.aload_n 2, 1) := by decide +kernel
theorem dL_dryDays_1 : decode cL_dryDays 1 = .ok (.iconst 0, 1) := by decide +kernel
theorem dL_dryDays_2 : decode cL_dryDays 2 = .ok (.aload_n 0, 1) := by decide +kernel
theorem dL_dryDays_3 : decode cL_dryDays 3 = .ok (.iload_n 1, 1) := by decide +kernel
theorem dL_dryDays_4 : decode cL_dryDays 4 = .ok (.invokevirtual 72, 3) := by decide +kernel
theorem dL_dryDays_7 : decode cL_dryDays 7 = .ok (.i2l, 1) := by decide +kernel
theorem dL_dryDays_8 : decode cL_dryDays 8 = .ok (.lastore, 1) := by decide +kernel
theorem dL_dryDays_9 : decode cL_dryDays 9 = .ok (.goto 6, 3) := by decide +kernel
theorem dL_dryDays_12 : decode cL_dryDays 12 = .ok (.astore_n 3, 1) := by decide +kernel
theorem dL_dryDays_13 : decode cL_dryDays 13 = .ok (.iconst 1, 1) := by decide +kernel
theorem dL_dryDays_14 : decode cL_dryDays 14 = .ok (.ireturn, 1) := by decide +kernel
theorem dL_dryDays_15 : decode cL_dryDays 15 = .ok (.iconst 0, 1) := by decide +kernel
theorem dL_dryDays_16 : decode cL_dryDays 16 = .ok (.ireturn, 1) := by decide +kernel
theorem dL_carried_0 : decode cL_carried 0 = .ok (.aload_n 2, 1) := by decide +kernel
theorem dL_carried_1 : decode cL_carried 1 = .ok (.iconst 0, 1) := by decide +kernel
theorem dL_carried_2 : decode cL_carried 2 = .ok (.aload_n 0, 1) := by decide +kernel
theorem dL_carried_3 : decode cL_carried 3 = .ok (.iload_n 1, 1) := by decide +kernel
theorem dL_carried_4 : decode cL_carried 4 = .ok (.invokevirtual 75, 3) := by decide +kernel
theorem dL_carried_7 : decode cL_carried 7 = .ok (.i2l, 1) := by decide +kernel
theorem dL_carried_8 : decode cL_carried 8 = .ok (.lastore, 1) := by decide +kernel
theorem dL_carried_9 : decode cL_carried 9 = .ok (.goto 6, 3) := by decide +kernel
theorem dL_carried_12 : decode cL_carried 12 = .ok (.astore_n 3, 1) := by decide +kernel
theorem dL_carried_13 : decode cL_carried 13 = .ok (.iconst 1, 1) := by decide +kernel
theorem dL_carried_14 : decode cL_carried 14 = .ok (.ireturn, 1) := by decide +kernel
theorem dL_carried_15 : decode cL_carried 15 = .ok (.iconst 0, 1) := by decide +kernel
theorem dL_carried_16 : decode cL_carried 16 = .ok (.ireturn, 1) := by decide +kernel
theorem dL_freeWeight_0 : decode cL_freeWeight 0 = .ok (.aload_n 2, 1) := by decide +kernel
theorem dL_freeWeight_1 : decode cL_freeWeight 1 = .ok (.iconst 0, 1) := by decide +kernel
theorem dL_freeWeight_2 : decode cL_freeWeight 2 = .ok (.aload_n 0, 1) := by decide +kernel
theorem dL_freeWeight_3 : decode cL_freeWeight 3 = .ok (.iload_n 1, 1) := by decide +kernel
theorem dL_freeWeight_4 : decode cL_freeWeight 4 = .ok (.invokevirtual 78, 3) := by decide +kernel
theorem dL_freeWeight_7 : decode cL_freeWeight 7 = .ok (.i2l, 1) := by decide +kernel
theorem dL_freeWeight_8 : decode cL_freeWeight 8 = .ok (.lastore, 1) := by decide +kernel
theorem dL_freeWeight_9 : decode cL_freeWeight 9 = .ok (.goto 6, 3) := by decide +kernel
theorem dL_freeWeight_12 : decode cL_freeWeight 12 = .ok (.astore_n 3, 1) := by decide +kernel
theorem dL_freeWeight_13 : decode cL_freeWeight 13 = .ok (.iconst 1, 1) := by decide +kernel
theorem dL_freeWeight_14 : decode cL_freeWeight 14 = .ok (.ireturn, 1) := by decide +kernel
theorem dL_freeWeight_15 : decode cL_freeWeight 15 = .ok (.iconst 0, 1) := by decide +kernel
theorem dL_freeWeight_16 : decode cL_freeWeight 16 = .ok (.ireturn, 1) := by decide +kernel
theorem dL_thirstiest_0 : decode cL_thirstiest 0 = .ok (.aload_n 1, 1) := by decide +kernel
theorem dL_thirstiest_1 : decode cL_thirstiest 1 = .ok (.iconst 0, 1) := by decide +kernel
theorem dL_thirstiest_2 : decode cL_thirstiest 2 = .ok (.aload_n 0, 1) := by decide +kernel
theorem dL_thirstiest_3 : decode cL_thirstiest 3 = .ok (.invokevirtual 81, 3) := by decide +kernel
theorem dL_thirstiest_6 : decode cL_thirstiest 6 = .ok (.i2l, 1) := by decide +kernel
theorem dL_thirstiest_7 : decode cL_thirstiest 7 = .ok (.lastore, 1) := by decide +kernel
theorem dL_thirstiest_8 : decode cL_thirstiest 8 = .ok (.goto 6, 3) := by decide +kernel
theorem dL_thirstiest_11 : decode cL_thirstiest 11 = .ok (.astore_n 2, 1) := by decide +kernel
theorem dL_thirstiest_12 : decode cL_thirstiest 12 = .ok (.iconst 1, 1) := by decide +kernel
theorem dL_thirstiest_13 : decode cL_thirstiest 13 = .ok (.ireturn, 1) := by decide +kernel
theorem dL_thirstiest_14 : decode cL_thirstiest 14 = .ok (.iconst 0, 1) := by decide +kernel
theorem dL_thirstiest_15 : decode cL_thirstiest 15 = .ok (.ireturn, 1) := by decide +kernel
theorem dL_fastest_0 : decode cL_fastest 0 = .ok (.aload_n 1, 1) := by decide +kernel
theorem dL_fastest_1 : decode cL_fastest 1 = .ok (.iconst 0, 1) := by decide +kernel
theorem dL_fastest_2 : decode cL_fastest 2 = .ok (.aload_n 0, 1) := by decide +kernel
theorem dL_fastest_3 : decode cL_fastest 3 = .ok (.invokevirtual 84, 3) := by decide +kernel
theorem dL_fastest_6 : decode cL_fastest 6 = .ok (.i2l, 1) := by decide +kernel
theorem dL_fastest_7 : decode cL_fastest 7 = .ok (.lastore, 1) := by decide +kernel
theorem dL_fastest_8 : decode cL_fastest 8 = .ok (.goto 6, 3) := by decide +kernel
theorem dL_fastest_11 : decode cL_fastest 11 = .ok (.astore_n 2, 1) := by decide +kernel
theorem dL_fastest_12 : decode cL_fastest 12 = .ok (.iconst 1, 1) := by decide +kernel
theorem dL_fastest_13 : decode cL_fastest 13 = .ok (.ireturn, 1) := by decide +kernel
theorem dL_fastest_14 : decode cL_fastest 14 = .ok (.iconst 0, 1) := by decide +kernel
theorem dL_fastest_15 : decode cL_fastest 15 = .ok (.ireturn, 1) := by decide +kernel
theorem dL_weightOf_0 : decode cL_weightOf 0 = .ok (.aload_n 2, 1) := by decide +kernel
theorem dL_weightOf_1 : decode cL_weightOf 1 = .ok (.iconst 0, 1) := by decide +kernel
theorem dL_weightOf_2 : decode cL_weightOf 2 = .ok (.aload_n 0, 1) := by decide +kernel
theorem dL_weightOf_3 : decode cL_weightOf 3 = .ok (.iload_n 1, 1) := by decide +kernel
theorem dL_weightOf_4 : decode cL_weightOf 4 = .ok (.invokevirtual 87, 3) := by decide +kernel
theorem dL_weightOf_7 : decode cL_weightOf 7 = .ok (.i2l, 1) := by decide +kernel
theorem dL_weightOf_8 : decode cL_weightOf 8 = .ok (.lastore, 1) := by decide +kernel
theorem dL_weightOf_9 : decode cL_weightOf 9 = .ok (.goto 6, 3) := by decide +kernel
theorem dL_weightOf_12 : decode cL_weightOf 12 = .ok (.astore_n 3, 1) := by decide +kernel
theorem dL_weightOf_13 : decode cL_weightOf 13 = .ok (.iconst 1, 1) := by decide +kernel
theorem dL_weightOf_14 : decode cL_weightOf 14 = .ok (.ireturn, 1) := by decide +kernel
theorem dL_weightOf_15 : decode cL_weightOf 15 = .ok (.iconst 0, 1) := by decide +kernel
theorem dL_weightOf_16 : decode cL_weightOf 16 = .ok (.ireturn, 1) := by decide +kernel
theorem dL_valueOf_0 : decode cL_valueOf 0 = .ok (.aload_n 2, 1) := by decide +kernel
theorem dL_valueOf_1 : decode cL_valueOf 1 = .ok (.iconst 0, 1) := by decide +kernel
theorem dL_valueOf_2 : decode cL_valueOf 2 = .ok (.aload_n 0, 1) := by decide +kernel
theorem dL_valueOf_3 : decode cL_valueOf 3 = .ok (.iload_n 1, 1) := by decide +kernel
theorem dL_valueOf_4 : decode cL_valueOf 4 = .ok (.invokevirtual 90, 3) := by decide +kernel
theorem dL_valueOf_7 : decode cL_valueOf 7 = .ok (.i2l, 1) := by decide +kernel
theorem dL_valueOf_8 : decode cL_valueOf 8 = .ok (.lastore, 1) := by decide +kernel
theorem dL_valueOf_9 : decode cL_valueOf 9 = .ok (.goto 6, 3) := by decide +kernel
theorem dL_valueOf_12 : decode cL_valueOf 12 = .ok (.astore_n 3, 1) := by decide +kernel
theorem dL_valueOf_13 : decode cL_valueOf 13 = .ok (.iconst 1, 1) := by decide +kernel
theorem dL_valueOf_14 : decode cL_valueOf 14 = .ok (.ireturn, 1) := by decide +kernel
theorem dL_valueOf_15 : decode cL_valueOf 15 = .ok (.iconst 0, 1) := by decide +kernel
theorem dL_valueOf_16 : decode cL_valueOf 16 = .ok (.ireturn, 1) := by decide +kernel
theorem dL_isCarried_0 : decode cL_isCarried 0 = .ok (.aload_n 2, 1) := by decide +kernel
theorem dL_isCarried_1 : decode cL_isCarried 1 = .ok (.iconst 0, 1) := by decide +kernel
theorem dL_isCarried_2 : decode cL_isCarried 2 = .ok (.aload_n 0, 1) := by decide +kernel
theorem dL_isCarried_3 : decode cL_isCarried 3 = .ok (.iload_n 1, 1) := by decide +kernel
theorem dL_isCarried_4 : decode cL_isCarried 4 = .ok (.invokevirtual 93, 3) := by decide +kernel
theorem dL_isCarried_7 : decode cL_isCarried 7 = .ok (.ifCond .eq 7, 3) := by decide +kernel
theorem dL_isCarried_10 : decode cL_isCarried 10 = .ok (.lconst 1, 1) := by decide +kernel
theorem dL_isCarried_11 : decode cL_isCarried 11 = .ok (.goto 4, 3) := by decide +kernel
theorem dL_isCarried_14 : decode cL_isCarried 14 = .ok (.lconst 0, 1) := by decide +kernel
theorem dL_isCarried_15 : decode cL_isCarried 15 = .ok (.lastore, 1) := by decide +kernel
theorem dL_isCarried_16 : decode cL_isCarried 16 = .ok (.goto 6, 3) := by decide +kernel
theorem dL_isCarried_19 : decode cL_isCarried 19 = .ok (.astore_n 3, 1) := by decide +kernel
theorem dL_isCarried_20 : decode cL_isCarried 20 = .ok (.iconst 1, 1) := by decide +kernel
theorem dL_isCarried_21 : decode cL_isCarried 21 = .ok (.ireturn, 1) := by decide +kernel
theorem dL_isCarried_22 : decode cL_isCarried 22 = .ok (.iconst 0, 1) := by decide +kernel
theorem dL_isCarried_23 : decode cL_isCarried 23 = .ok (.ireturn, 1) := by decide +kernel
theorem dL_carrierOf_0 : decode cL_carrierOf 0 = .ok (.aload_n 2, 1) := by decide +kernel
theorem dL_carrierOf_1 : decode cL_carrierOf 1 = .ok (.iconst 0, 1) := by decide +kernel
theorem dL_carrierOf_2 : decode cL_carrierOf 2 = .ok (.aload_n 0, 1) := by decide +kernel
theorem dL_carrierOf_3 : decode cL_carrierOf 3 = .ok (.iload_n 1, 1) := by decide +kernel
theorem dL_carrierOf_4 : decode cL_carrierOf 4 = .ok (.invokevirtual 96, 3) := by decide +kernel
theorem dL_carrierOf_7 : decode cL_carrierOf 7 = .ok (.i2l, 1) := by decide +kernel
theorem dL_carrierOf_8 : decode cL_carrierOf 8 = .ok (.lastore, 1) := by decide +kernel
theorem dL_carrierOf_9 : decode cL_carrierOf 9 = .ok (.goto 9, 3) := by decide +kernel
theorem dL_carrierOf_12 : decode cL_carrierOf 12 = .ok (.astore_n 3, 1) := by decide +kernel
theorem dL_carrierOf_13 : decode cL_carrierOf 13 = .ok (.iconst 1, 1) := by decide +kernel
theorem dL_carrierOf_14 : decode cL_carrierOf 14 = .ok (.ireturn, 1) := by decide +kernel
theorem dL_carrierOf_15 : decode cL_carrierOf 15 = .ok (.astore_n 3, 1) := by decide +kernel
theorem dL_carrierOf_16 : decode cL_carrierOf 16 = .ok (.iconst 2, 1) := by decide +kernel
theorem dL_carrierOf_17 : decode cL_carrierOf 17 = .ok (.ireturn, 1) := by decide +kernel
theorem dL_carrierOf_18 : decode cL_carrierOf 18 = .ok (.iconst 0, 1) := by decide +kernel
theorem dL_carrierOf_19 : decode cL_carrierOf 19 = .ok (.ireturn, 1) := by decide +kernel
theorem dL_placeOf_0 : decode cL_placeOf 0 = .ok (.aload_n 2, 1) := by decide +kernel
theorem dL_placeOf_1 : decode cL_placeOf 1 = .ok (.iconst 0, 1) := by decide +kernel
theorem dL_placeOf_2 : decode cL_placeOf 2 = .ok (.aload_n 0, 1) := by decide +kernel
theorem dL_placeOf_3 : decode cL_placeOf 3 = .ok (.iload_n 1, 1) := by decide +kernel
theorem dL_placeOf_4 : decode cL_placeOf 4 = .ok (.invokevirtual 99, 3) := by decide +kernel
theorem dL_placeOf_7 : decode cL_placeOf 7 = .ok (.i2l, 1) := by decide +kernel
theorem dL_placeOf_8 : decode cL_placeOf 8 = .ok (.lastore, 1) := by decide +kernel
theorem dL_placeOf_9 : decode cL_placeOf 9 = .ok (.goto 6, 3) := by decide +kernel
theorem dL_placeOf_12 : decode cL_placeOf 12 = .ok (.astore_n 3, 1) := by decide +kernel
theorem dL_placeOf_13 : decode cL_placeOf 13 = .ok (.iconst 1, 1) := by decide +kernel
theorem dL_placeOf_14 : decode cL_placeOf 14 = .ok (.ireturn, 1) := by decide +kernel
theorem dL_placeOf_15 : decode cL_placeOf 15 = .ok (.iconst 0, 1) := by decide +kernel
theorem dL_placeOf_16 : decode cL_placeOf 16 = .ok (.ireturn, 1) := by decide +kernel
theorem dL_needToday_0 : decode cL_needToday 0 = .ok (.aload_n 2, 1) := by decide +kernel
theorem dL_needToday_1 : decode cL_needToday 1 = .ok (.iconst 0, 1) := by decide +kernel
theorem dL_needToday_2 : decode cL_needToday 2 = .ok (.aload_n 0, 1) := by decide +kernel
theorem dL_needToday_3 : decode cL_needToday 3 = .ok (.iload_n 1, 1) := by decide +kernel
theorem dL_needToday_4 : decode cL_needToday 4 = .ok (.invokevirtual 102, 3) := by decide +kernel
theorem dL_needToday_7 : decode cL_needToday 7 = .ok (.i2l, 1) := by decide +kernel
theorem dL_needToday_8 : decode cL_needToday 8 = .ok (.lastore, 1) := by decide +kernel
theorem dL_needToday_9 : decode cL_needToday 9 = .ok (.goto 6, 3) := by decide +kernel
theorem dL_needToday_12 : decode cL_needToday 12 = .ok (.astore_n 3, 1) := by decide +kernel
theorem dL_needToday_13 : decode cL_needToday 13 = .ok (.iconst 1, 1) := by decide +kernel
theorem dL_needToday_14 : decode cL_needToday 14 = .ok (.ireturn, 1) := by decide +kernel
theorem dL_needToday_15 : decode cL_needToday 15 = .ok (.iconst 0, 1) := by decide +kernel
theorem dL_needToday_16 : decode cL_needToday 16 = .ok (.ireturn, 1) := by decide +kernel
theorem dL_livingAfter_0 : decode cL_livingAfter 0 = .ok (.aload_n 2, 1) := by decide +kernel
theorem dL_livingAfter_1 : decode cL_livingAfter 1 = .ok (.iconst 0, 1) := by decide +kernel
theorem dL_livingAfter_2 : decode cL_livingAfter 2 = .ok (.aload_n 0, 1) := by decide +kernel
theorem dL_livingAfter_3 : decode cL_livingAfter 3 = .ok (.iload_n 1, 1) := by decide +kernel
theorem dL_livingAfter_4 : decode cL_livingAfter 4 = .ok (.invokevirtual 105, 3) := by decide +kernel
theorem dL_livingAfter_7 : decode cL_livingAfter 7 = .ok (.i2l, 1) := by decide +kernel
theorem dL_livingAfter_8 : decode cL_livingAfter 8 = .ok (.lastore, 1) := by decide +kernel
theorem dL_livingAfter_9 : decode cL_livingAfter 9 = .ok (.goto 6, 3) := by decide +kernel
theorem dL_livingAfter_12 : decode cL_livingAfter 12 = .ok (.astore_n 3, 1) := by decide +kernel
theorem dL_livingAfter_13 : decode cL_livingAfter 13 = .ok (.iconst 1, 1) := by decide +kernel
theorem dL_livingAfter_14 : decode cL_livingAfter 14 = .ok (.ireturn, 1) := by decide +kernel
theorem dL_livingAfter_15 : decode cL_livingAfter 15 = .ok (.iconst 0, 1) := by decide +kernel
theorem dL_livingAfter_16 : decode cL_livingAfter 16 = .ok (.ireturn, 1) := by decide +kernel
theorem dL_daysToArrival_0 : decode cL_daysToArrival 0 = .ok (.aload_n 1, 1) := by decide +kernel
theorem dL_daysToArrival_1 : decode cL_daysToArrival 1 = .ok (.iconst 0, 1) := by decide +kernel
theorem dL_daysToArrival_2 : decode cL_daysToArrival 2 = .ok (.aload_n 0, 1) := by decide +kernel
theorem dL_daysToArrival_3 : decode cL_daysToArrival 3 = .ok (.invokevirtual 108, 3) := by decide +kernel
theorem dL_daysToArrival_6 : decode cL_daysToArrival 6 = .ok (.i2l, 1) := by decide +kernel
theorem dL_daysToArrival_7 : decode cL_daysToArrival 7 = .ok (.lastore, 1) := by decide +kernel
theorem dL_daysToArrival_8 : decode cL_daysToArrival 8 = .ok (.goto 6, 3) := by decide +kernel
theorem dL_daysToArrival_11 : decode cL_daysToArrival 11 = .ok (.astore_n 2, 1) := by decide +kernel
theorem dL_daysToArrival_12 : decode cL_daysToArrival 12 = .ok (.iconst 1, 1) := by decide +kernel
theorem dL_daysToArrival_13 : decode cL_daysToArrival 13 = .ok (.ireturn, 1) := by decide +kernel
theorem dL_daysToArrival_14 : decode cL_daysToArrival 14 = .ok (.iconst 0, 1) := by decide +kernel
theorem dL_daysToArrival_15 : decode cL_daysToArrival 15 = .ok (.ireturn, 1) := by decide +kernel
theorem dL_wouldDrink_0 : decode cL_wouldDrink 0 = .ok (.aload_n 2, 1) := by decide +kernel
theorem dL_wouldDrink_1 : decode cL_wouldDrink 1 = .ok (.iconst 0, 1) := by decide +kernel
theorem dL_wouldDrink_2 : decode cL_wouldDrink 2 = .ok (.aload_n 0, 1) := by decide +kernel
theorem dL_wouldDrink_3 : decode cL_wouldDrink 3 = .ok (.iload_n 1, 1) := by decide +kernel
theorem dL_wouldDrink_4 : decode cL_wouldDrink 4 = .ok (.invokevirtual 111, 3) := by decide +kernel
theorem dL_wouldDrink_7 : decode cL_wouldDrink 7 = .ok (.i2l, 1) := by decide +kernel
theorem dL_wouldDrink_8 : decode cL_wouldDrink 8 = .ok (.lastore, 1) := by decide +kernel
theorem dL_wouldDrink_9 : decode cL_wouldDrink 9 = .ok (.goto 9, 3) := by decide +kernel
theorem dL_wouldDrink_12 : decode cL_wouldDrink 12 = .ok (.astore_n 3, 1) := by decide +kernel
theorem dL_wouldDrink_13 : decode cL_wouldDrink 13 = .ok (.iconst 1, 1) := by decide +kernel
theorem dL_wouldDrink_14 : decode cL_wouldDrink 14 = .ok (.ireturn, 1) := by decide +kernel
theorem dL_wouldDrink_15 : decode cL_wouldDrink 15 = .ok (.astore_n 3, 1) := by decide +kernel
theorem dL_wouldDrink_16 : decode cL_wouldDrink 16 = .ok (.iconst 2, 1) := by decide +kernel
theorem dL_wouldDrink_17 : decode cL_wouldDrink 17 = .ok (.ireturn, 1) := by decide +kernel
theorem dL_wouldDrink_18 : decode cL_wouldDrink 18 = .ok (.iconst 0, 1) := by decide +kernel
theorem dL_wouldDrink_19 : decode cL_wouldDrink 19 = .ok (.ireturn, 1) := by decide +kernel
theorem dL_travel_0 : decode cL_travel 0 = .ok (.aload_n 1, 1) := by decide +kernel
theorem dL_travel_1 : decode cL_travel 1 = .ok (.iconst 0, 1) := by decide +kernel
theorem dL_travel_2 : decode cL_travel 2 = .ok (.aload_n 0, 1) := by decide +kernel
theorem dL_travel_3 : decode cL_travel 3 = .ok (.invokevirtual 114, 3) := by decide +kernel
theorem dL_travel_6 : decode cL_travel 6 = .ok (.i2l, 1) := by decide +kernel
theorem dL_travel_7 : decode cL_travel 7 = .ok (.lastore, 1) := by decide +kernel
theorem dL_travel_8 : decode cL_travel 8 = .ok (.goto 6, 3) := by decide +kernel
theorem dL_travel_11 : decode cL_travel 11 = .ok (.astore_n 2, 1) := by decide +kernel
theorem dL_travel_12 : decode cL_travel 12 = .ok (.iconst 1, 1) := by decide +kernel
theorem dL_travel_13 : decode cL_travel 13 = .ok (.ireturn, 1) := by decide +kernel
theorem dL_travel_14 : decode cL_travel 14 = .ok (.iconst 0, 1) := by decide +kernel
theorem dL_travel_15 : decode cL_travel 15 = .ok (.ireturn, 1) := by decide +kernel
theorem dL_rest_0 : decode cL_rest 0 = .ok (.aload_n 1, 1) := by decide +kernel
theorem dL_rest_1 : decode cL_rest 1 = .ok (.iconst 0, 1) := by decide +kernel
theorem dL_rest_2 : decode cL_rest 2 = .ok (.aload_n 0, 1) := by decide +kernel
theorem dL_rest_3 : decode cL_rest 3 = .ok (.invokevirtual 117, 3) := by decide +kernel
theorem dL_rest_6 : decode cL_rest 6 = .ok (.i2l, 1) := by decide +kernel
theorem dL_rest_7 : decode cL_rest 7 = .ok (.lastore, 1) := by decide +kernel
theorem dL_rest_8 : decode cL_rest 8 = .ok (.goto 6, 3) := by decide +kernel
theorem dL_rest_11 : decode cL_rest 11 = .ok (.astore_n 2, 1) := by decide +kernel
theorem dL_rest_12 : decode cL_rest 12 = .ok (.iconst 1, 1) := by decide +kernel
theorem dL_rest_13 : decode cL_rest 13 = .ok (.ireturn, 1) := by decide +kernel
theorem dL_rest_14 : decode cL_rest 14 = .ok (.iconst 0, 1) := by decide +kernel
theorem dL_rest_15 : decode cL_rest 15 = .ok (.ireturn, 1) := by decide +kernel
theorem dL_drink_0 : decode cL_drink 0 = .ok (.aload_n 1, 1) := by decide +kernel
theorem dL_drink_1 : decode cL_drink 1 = .ok (.iconst 0, 1) := by decide +kernel
theorem dL_drink_2 : decode cL_drink 2 = .ok (.aload_n 0, 1) := by decide +kernel
theorem dL_drink_3 : decode cL_drink 3 = .ok (.invokevirtual 120, 3) := by decide +kernel
theorem dL_drink_6 : decode cL_drink 6 = .ok (.i2l, 1) := by decide +kernel
theorem dL_drink_7 : decode cL_drink 7 = .ok (.lastore, 1) := by decide +kernel
theorem dL_drink_8 : decode cL_drink 8 = .ok (.goto 6, 3) := by decide +kernel
theorem dL_drink_11 : decode cL_drink 11 = .ok (.astore_n 2, 1) := by decide +kernel
theorem dL_drink_12 : decode cL_drink 12 = .ok (.iconst 1, 1) := by decide +kernel
theorem dL_drink_13 : decode cL_drink 13 = .ok (.ireturn, 1) := by decide +kernel
theorem dL_drink_14 : decode cL_drink 14 = .ok (.iconst 0, 1) := by decide +kernel
theorem dL_drink_15 : decode cL_drink 15 = .ok (.ireturn, 1) := by decide +kernel
theorem dL_setLeader_0 : decode cL_setLeader 0 = .ok (.aload_n 2, 1) := by decide +kernel
theorem dL_setLeader_1 : decode cL_setLeader 1 = .ok (.iconst 0, 1) := by decide +kernel
theorem dL_setLeader_2 : decode cL_setLeader 2 = .ok (.aload_n 0, 1) := by decide +kernel
theorem dL_setLeader_3 : decode cL_setLeader 3 = .ok (.iload_n 1, 1) := by decide +kernel
theorem dL_setLeader_4 : decode cL_setLeader 4 = .ok (.invokevirtual 123, 3) := by decide +kernel
theorem dL_setLeader_7 : decode cL_setLeader 7 = .ok (.i2l, 1) := by decide +kernel
theorem dL_setLeader_8 : decode cL_setLeader 8 = .ok (.lastore, 1) := by decide +kernel
theorem dL_setLeader_9 : decode cL_setLeader 9 = .ok (.goto 9, 3) := by decide +kernel
theorem dL_setLeader_12 : decode cL_setLeader 12 = .ok (.astore_n 3, 1) := by decide +kernel
theorem dL_setLeader_13 : decode cL_setLeader 13 = .ok (.iconst 1, 1) := by decide +kernel
theorem dL_setLeader_14 : decode cL_setLeader 14 = .ok (.ireturn, 1) := by decide +kernel
theorem dL_setLeader_15 : decode cL_setLeader 15 = .ok (.astore_n 3, 1) := by decide +kernel
theorem dL_setLeader_16 : decode cL_setLeader 16 = .ok (.iconst 2, 1) := by decide +kernel
theorem dL_setLeader_17 : decode cL_setLeader 17 = .ok (.ireturn, 1) := by decide +kernel
theorem dL_setLeader_18 : decode cL_setLeader 18 = .ok (.iconst 0, 1) := by decide +kernel
theorem dL_setLeader_19 : decode cL_setLeader 19 = .ok (.ireturn, 1) := by decide +kernel
theorem dL_putOn_0 : decode cL_putOn 0 = .ok (.aload_n 3, 1) := by decide +kernel
theorem dL_putOn_1 : decode cL_putOn 1 = .ok (.iconst 0, 1) := by decide +kernel
theorem dL_putOn_2 : decode cL_putOn 2 = .ok (.aload_n 0, 1) := by decide +kernel
theorem dL_putOn_3 : decode cL_putOn 3 = .ok (.iload_n 1, 1) := by decide +kernel
theorem dL_putOn_4 : decode cL_putOn 4 = .ok (.iload_n 2, 1) := by decide +kernel
theorem dL_putOn_5 : decode cL_putOn 5 = .ok (.invokevirtual 126, 3) := by decide +kernel
theorem dL_putOn_8 : decode cL_putOn 8 = .ok (.i2l, 1) := by decide +kernel
theorem dL_putOn_9 : decode cL_putOn 9 = .ok (.lastore, 1) := by decide +kernel
theorem dL_putOn_10 : decode cL_putOn 10 = .ok (.goto 11, 3) := by decide +kernel
theorem dL_putOn_13 : decode cL_putOn 13 = .ok (.astore 4, 2) := by decide +kernel
theorem dL_putOn_15 : decode cL_putOn 15 = .ok (.iconst 1, 1) := by decide +kernel
theorem dL_putOn_16 : decode cL_putOn 16 = .ok (.ireturn, 1) := by decide +kernel
theorem dL_putOn_17 : decode cL_putOn 17 = .ok (.astore 4, 2) := by decide +kernel
theorem dL_putOn_19 : decode cL_putOn 19 = .ok (.iconst 2, 1) := by decide +kernel
theorem dL_putOn_20 : decode cL_putOn 20 = .ok (.ireturn, 1) := by decide +kernel
theorem dL_putOn_21 : decode cL_putOn 21 = .ok (.iconst 0, 1) := by decide +kernel
theorem dL_putOn_22 : decode cL_putOn 22 = .ok (.ireturn, 1) := by decide +kernel
theorem dL_takeOff_0 : decode cL_takeOff 0 = .ok (.aload_n 2, 1) := by decide +kernel
theorem dL_takeOff_1 : decode cL_takeOff 1 = .ok (.iconst 0, 1) := by decide +kernel
theorem dL_takeOff_2 : decode cL_takeOff 2 = .ok (.aload_n 0, 1) := by decide +kernel
theorem dL_takeOff_3 : decode cL_takeOff 3 = .ok (.iload_n 1, 1) := by decide +kernel
theorem dL_takeOff_4 : decode cL_takeOff 4 = .ok (.invokevirtual 130, 3) := by decide +kernel
theorem dL_takeOff_7 : decode cL_takeOff 7 = .ok (.i2l, 1) := by decide +kernel
theorem dL_takeOff_8 : decode cL_takeOff 8 = .ok (.lastore, 1) := by decide +kernel
theorem dL_takeOff_9 : decode cL_takeOff 9 = .ok (.goto 9, 3) := by decide +kernel
theorem dL_takeOff_12 : decode cL_takeOff 12 = .ok (.astore_n 3, 1) := by decide +kernel
theorem dL_takeOff_13 : decode cL_takeOff 13 = .ok (.iconst 1, 1) := by decide +kernel
theorem dL_takeOff_14 : decode cL_takeOff 14 = .ok (.ireturn, 1) := by decide +kernel
theorem dL_takeOff_15 : decode cL_takeOff 15 = .ok (.astore_n 3, 1) := by decide +kernel
theorem dL_takeOff_16 : decode cL_takeOff 16 = .ok (.iconst 2, 1) := by decide +kernel
theorem dL_takeOff_17 : decode cL_takeOff 17 = .ok (.ireturn, 1) := by decide +kernel
theorem dL_takeOff_18 : decode cL_takeOff 18 = .ok (.iconst 0, 1) := by decide +kernel
theorem dL_takeOff_19 : decode cL_takeOff 19 = .ok (.ireturn, 1) := by decide +kernel
theorem dL_addLoad_0 : decode cL_addLoad 0 = .ok (.aload_n 3, 1) := by decide +kernel
theorem dL_addLoad_1 : decode cL_addLoad 1 = .ok (.iconst 0, 1) := by decide +kernel
theorem dL_addLoad_2 : decode cL_addLoad 2 = .ok (.aload_n 0, 1) := by decide +kernel
theorem dL_addLoad_3 : decode cL_addLoad 3 = .ok (.iload_n 1, 1) := by decide +kernel
theorem dL_addLoad_4 : decode cL_addLoad 4 = .ok (.iload_n 2, 1) := by decide +kernel
theorem dL_addLoad_5 : decode cL_addLoad 5 = .ok (.invokevirtual 133, 3) := by decide +kernel
theorem dL_addLoad_8 : decode cL_addLoad 8 = .ok (.i2l, 1) := by decide +kernel
theorem dL_addLoad_9 : decode cL_addLoad 9 = .ok (.lastore, 1) := by decide +kernel
theorem dL_addLoad_10 : decode cL_addLoad 10 = .ok (.goto 11, 3) := by decide +kernel
theorem dL_addLoad_13 : decode cL_addLoad 13 = .ok (.astore 4, 2) := by decide +kernel
theorem dL_addLoad_15 : decode cL_addLoad 15 = .ok (.iconst 1, 1) := by decide +kernel
theorem dL_addLoad_16 : decode cL_addLoad 16 = .ok (.ireturn, 1) := by decide +kernel
theorem dL_addLoad_17 : decode cL_addLoad 17 = .ok (.astore 4, 2) := by decide +kernel
theorem dL_addLoad_19 : decode cL_addLoad 19 = .ok (.iconst 2, 1) := by decide +kernel
theorem dL_addLoad_20 : decode cL_addLoad 20 = .ok (.ireturn, 1) := by decide +kernel
theorem dL_addLoad_21 : decode cL_addLoad 21 = .ok (.iconst 0, 1) := by decide +kernel
theorem dL_addLoad_22 : decode cL_addLoad 22 = .ok (.ireturn, 1) := by decide +kernel
theorem dL_undo_0 : decode cL_undo 0 = .ok (.aload_n 1, 1) := by decide +kernel
theorem dL_undo_1 : decode cL_undo 1 = .ok (.iconst 0, 1) := by decide +kernel
theorem dL_undo_2 : decode cL_undo 2 = .ok (.aload_n 0, 1) := by decide +kernel
theorem dL_undo_3 : decode cL_undo 3 = .ok (.invokevirtual 136, 3) := by decide +kernel
theorem dL_undo_6 : decode cL_undo 6 = .ok (.i2l, 1) := by decide +kernel
theorem dL_undo_7 : decode cL_undo 7 = .ok (.lastore, 1) := by decide +kernel
theorem dL_undo_8 : decode cL_undo 8 = .ok (.goto 6, 3) := by decide +kernel
theorem dL_undo_11 : decode cL_undo 11 = .ok (.astore_n 2, 1) := by decide +kernel
theorem dL_undo_12 : decode cL_undo 12 = .ok (.iconst 1, 1) := by decide +kernel
theorem dL_undo_13 : decode cL_undo 13 = .ok (.ireturn, 1) := by decide +kernel
theorem dL_undo_14 : decode cL_undo 14 = .ok (.iconst 0, 1) := by decide +kernel
theorem dL_undo_15 : decode cL_undo 15 = .ok (.ireturn, 1) := by decide +kernel
theorem dL_saveSnapshot_0 : decode cL_saveSnapshot 0 = .ok (.aload_n 2, 1) := by decide +kernel
theorem dL_saveSnapshot_1 : decode cL_saveSnapshot 1 = .ok (.iconst 0, 1) := by decide +kernel
theorem dL_saveSnapshot_2 : decode cL_saveSnapshot 2 = .ok (.aload_n 0, 1) := by decide +kernel
theorem dL_saveSnapshot_3 : decode cL_saveSnapshot 3 = .ok (.iload_n 1, 1) := by decide +kernel
theorem dL_saveSnapshot_4 : decode cL_saveSnapshot 4 = .ok (.invokevirtual 139, 3) := by decide +kernel
theorem dL_saveSnapshot_7 : decode cL_saveSnapshot 7 = .ok (.i2l, 1) := by decide +kernel
theorem dL_saveSnapshot_8 : decode cL_saveSnapshot 8 = .ok (.lastore, 1) := by decide +kernel
theorem dL_saveSnapshot_9 : decode cL_saveSnapshot 9 = .ok (.goto 6, 3) := by decide +kernel
theorem dL_saveSnapshot_12 : decode cL_saveSnapshot 12 = .ok (.astore_n 3, 1) := by decide +kernel
theorem dL_saveSnapshot_13 : decode cL_saveSnapshot 13 = .ok (.iconst 1, 1) := by decide +kernel
theorem dL_saveSnapshot_14 : decode cL_saveSnapshot 14 = .ok (.ireturn, 1) := by decide +kernel
theorem dL_saveSnapshot_15 : decode cL_saveSnapshot 15 = .ok (.iconst 0, 1) := by decide +kernel
theorem dL_saveSnapshot_16 : decode cL_saveSnapshot 16 = .ok (.ireturn, 1) := by decide +kernel
theorem dL_restoreSnapshot_0 : decode cL_restoreSnapshot 0 = .ok (.aload_n 2, 1) := by decide +kernel
theorem dL_restoreSnapshot_1 : decode cL_restoreSnapshot 1 = .ok (.iconst 0, 1) := by decide +kernel
theorem dL_restoreSnapshot_2 : decode cL_restoreSnapshot 2 = .ok (.aload_n 0, 1) := by decide +kernel
theorem dL_restoreSnapshot_3 : decode cL_restoreSnapshot 3 = .ok (.iload_n 1, 1) := by decide +kernel
theorem dL_restoreSnapshot_4 : decode cL_restoreSnapshot 4 = .ok (.invokevirtual 142, 3) := by decide +kernel
theorem dL_restoreSnapshot_7 : decode cL_restoreSnapshot 7 = .ok (.i2l, 1) := by decide +kernel
theorem dL_restoreSnapshot_8 : decode cL_restoreSnapshot 8 = .ok (.lastore, 1) := by decide +kernel
theorem dL_restoreSnapshot_9 : decode cL_restoreSnapshot 9 = .ok (.goto 9, 3) := by decide +kernel
theorem dL_restoreSnapshot_12 : decode cL_restoreSnapshot 12 = .ok (.astore_n 3, 1) := by decide +kernel
theorem dL_restoreSnapshot_13 : decode cL_restoreSnapshot 13 = .ok (.iconst 1, 1) := by decide +kernel
