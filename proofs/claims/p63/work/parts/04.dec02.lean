theorem dX5_nextWell_1 : decode cX5_nextWell 1 = .ok (.getfield 49, 3) := by decide +kernel
theorem dX5_nextWell_4 : decode cX5_nextWell 4 = .ok (.getfield 37, 3) := by decide +kernel
theorem dX5_nextWell_7 : decode cX5_nextWell 7 = .ok (.aload_n 0, 1) := by decide +kernel
theorem dX5_nextWell_8 : decode cX5_nextWell 8 = .ok (.getfield 49, 3) := by decide +kernel
theorem dX5_nextWell_11 : decode cX5_nextWell 11 = .ok (.getfield 116, 3) := by decide +kernel
theorem dX5_nextWell_14 : decode cX5_nextWell 14 = .ok (.invokevirtual 161, 3) := by decide +kernel
theorem dX5_nextWell_17 : decode cX5_nextWell 17 = .ok (.istore_n 1, 1) := by decide +kernel
theorem dX5_nextWell_18 : decode cX5_nextWell 18 = .ok (.iload_n 1, 1) := by decide +kernel
theorem dX5_nextWell_19 : decode cX5_nextWell 19 = .ok (.iconst (-1), 1) := by decide +kernel
theorem dX5_nextWell_20 : decode cX5_nextWell 20 = .ok (.if_icmp .ne 13, 3) := by decide +kernel
theorem dX5_nextWell_23 : decode cX5_nextWell 23 = .ok (.new 110, 3) := by decide +kernel
theorem dX5_nextWell_26 : decode cX5_nextWell 26 = .ok (.dup, 1) := by decide +kernel
theorem dX5_nextWell_27 : decode cX5_nextWell 27 = .ok (.ldc 164, 2) := by decide +kernel
theorem dX5_nextWell_29 : decode cX5_nextWell 29 = .ok (.invokespecial 114, 3) := by decide +kernel
theorem dX5_nextWell_32 : decode cX5_nextWell 32 = .ok (.athrow, 1) := by decide +kernel
theorem dX5_nextWell_33 : decode cX5_nextWell 33 = .ok (.iload_n 1, 1) := by decide +kernel
theorem dX5_nextWell_34 : decode cX5_nextWell 34 = .ok (.ireturn, 1) := by decide +kernel
theorem dX5_drunk_0 : decode cX5_drunk 0 = .ok (.aload_n 0, 1) := by decide +kernel
theorem dX5_drunk_1 : decode cX5_drunk 1 = .ok (.getfield 49, 3) := by decide +kernel
theorem dX5_drunk_4 : decode cX5_drunk 4 = .ok (.getfield 166, 3) := by decide +kernel
theorem dX5_drunk_7 : decode cX5_drunk 7 = .ok (.ireturn, 1) := by decide +kernel
theorem dX5_camelCount_0 : decode cX5_camelCount 0 = .ok (.aload_n 0, 1) := by decide +kernel
theorem dX5_camelCount_1 : decode cX5_camelCount 1 = .ok (.getfield 49, 3) := by decide +kernel
theorem dX5_camelCount_4 : decode cX5_camelCount 4 = .ok (.getfield 37, 3) := by decide +kernel
theorem dX5_camelCount_7 : decode cX5_camelCount 7 = .ok (.getfield 107, 3) := by decide +kernel
theorem dX5_camelCount_10 : decode cX5_camelCount 10 = .ok (.ireturn, 1) := by decide +kernel
theorem dX5_livingCamels_0 : decode cX5_livingCamels 0 = .ok (.aload_n 0, 1) := by decide +kernel
theorem dX5_livingCamels_1 : decode cX5_livingCamels 1 = .ok (.getfield 49, 3) := by decide +kernel
theorem dX5_livingCamels_4 : decode cX5_livingCamels 4 = .ok (.invokevirtual 169, 3) := by decide +kernel
theorem dX5_livingCamels_7 : decode cX5_livingCamels 7 = .ok (.ireturn, 1) := by decide +kernel
theorem dX5_leader_0 : decode cX5_leader 0 = .ok (.aload_n 0, 1) := by decide +kernel
theorem dX5_leader_1 : decode cX5_leader 1 = .ok (.getfield 49, 3) := by decide +kernel
theorem dX5_leader_4 : decode cX5_leader 4 = .ok (.getfield 172, 3) := by decide +kernel
theorem dX5_leader_7 : decode cX5_leader 7 = .ok (.ireturn, 1) := by decide +kernel
theorem dX5_requireCamel_0 : decode cX5_requireCamel 0 = .ok (.aload_n 0, 1) := by decide +kernel
theorem dX5_requireCamel_1 : decode cX5_requireCamel 1 = .ok (.getfield 49, 3) := by decide +kernel
theorem dX5_requireCamel_4 : decode cX5_requireCamel 4 = .ok (.getfield 37, 3) := by decide +kernel
theorem dX5_requireCamel_7 : decode cX5_requireCamel 7 = .ok (.iload_n 1, 1) := by decide +kernel
theorem dX5_requireCamel_8 : decode cX5_requireCamel 8 = .ok (.invokevirtual 175, 3) := by decide +kernel
theorem dX5_requireCamel_11 : decode cX5_requireCamel 11 = .ok (.ifCond .ne 13, 3) := by decide +kernel
theorem dX5_requireCamel_14 : decode cX5_requireCamel 14 = .ok (.new 151, 3) := by decide +kernel
theorem dX5_requireCamel_17 : decode cX5_requireCamel 17 = .ok (.dup, 1) := by decide +kernel
theorem dX5_requireCamel_18 : decode cX5_requireCamel 18 = .ok (.ldc 179, 2) := by decide +kernel
theorem dX5_requireCamel_20 : decode cX5_requireCamel 20 = .ok (.invokespecial 155, 3) := by decide +kernel
theorem dX5_requireCamel_23 : decode cX5_requireCamel 23 = .ok (.athrow, 1) := by decide +kernel
theorem dX5_requireCamel_24 : decode cX5_requireCamel 24 = .ok (.return_, 1) := by decide +kernel
theorem dX5_isDead_0 : decode cX5_isDead 0 = .ok (.aload_n 0, 1) := by decide +kernel
theorem dX5_isDead_1 : decode cX5_isDead 1 = .ok (.iload_n 1, 1) := by decide +kernel
theorem dX5_isDead_2 : decode cX5_isDead 2 = .ok (.invokevirtual 181, 3) := by decide +kernel
theorem dX5_isDead_5 : decode cX5_isDead 5 = .ok (.aload_n 0, 1) := by decide +kernel
theorem dX5_isDead_6 : decode cX5_isDead 6 = .ok (.getfield 49, 3) := by decide +kernel
theorem dX5_isDead_9 : decode cX5_isDead 9 = .ok (.iload_n 1, 1) := by decide +kernel
theorem dX5_isDead_10 : decode cX5_isDead 10 = .ok (.invokevirtual 184, 3) := by decide +kernel
theorem dX5_isDead_13 : decode cX5_isDead 13 = .ok (.ifCond .ne 7, 3) := by decide +kernel
theorem dX5_isDead_16 : decode cX5_isDead 16 = .ok (.iconst 1, 1) := by decide +kernel
theorem dX5_isDead_17 : decode cX5_isDead 17 = .ok (.goto 4, 3) := by decide +kernel
theorem dX5_isDead_20 : decode cX5_isDead 20 = .ok (.iconst 0, 1) := by decide +kernel
theorem dX5_isDead_21 : decode cX5_isDead 21 = .ok (.ireturn, 1) := by decide +kernel
theorem dX5_pace_0 : decode cX5_pace 0 = .ok (.aload_n 0, 1) := by decide +kernel
theorem dX5_pace_1 : decode cX5_pace 1 = .ok (.iload_n 1, 1) := by decide +kernel
theorem dX5_pace_2 : decode cX5_pace 2 = .ok (.invokevirtual 181, 3) := by decide +kernel
theorem dX5_pace_5 : decode cX5_pace 5 = .ok (.aload_n 0, 1) := by decide +kernel
theorem dX5_pace_6 : decode cX5_pace 6 = .ok (.getfield 49, 3) := by decide +kernel
theorem dX5_pace_9 : decode cX5_pace 9 = .ok (.getfield 37, 3) := by decide +kernel
theorem dX5_pace_12 : decode cX5_pace 12 = .ok (.getfield 187, 3) := by decide +kernel
theorem dX5_pace_15 : decode cX5_pace 15 = .ok (.iload_n 1, 1) := by decide +kernel
theorem dX5_pace_16 : decode cX5_pace 16 = .ok (.iaload, 1) := by decide +kernel
theorem dX5_pace_17 : decode cX5_pace 17 = .ok (.ireturn, 1) := by decide +kernel
theorem dX5_speed_0 : decode cX5_speed 0 = .ok (.aload_n 0, 1) := by decide +kernel
theorem dX5_speed_1 : decode cX5_speed 1 = .ok (.iload_n 1, 1) := by decide +kernel
theorem dX5_speed_2 : decode cX5_speed 2 = .ok (.invokevirtual 181, 3) := by decide +kernel
theorem dX5_speed_5 : decode cX5_speed 5 = .ok (.aload_n 0, 1) := by decide +kernel
theorem dX5_speed_6 : decode cX5_speed 6 = .ok (.getfield 49, 3) := by decide +kernel
theorem dX5_speed_9 : decode cX5_speed 9 = .ok (.iload_n 1, 1) := by decide +kernel
theorem dX5_speed_10 : decode cX5_speed 10 = .ok (.invokevirtual 190, 3) := by decide +kernel
theorem dX5_speed_13 : decode cX5_speed 13 = .ok (.ireturn, 1) := by decide +kernel
theorem dX5_water_0 : decode cX5_water 0 = .ok (.aload_n 0, 1) := by decide +kernel
theorem dX5_water_1 : decode cX5_water 1 = .ok (.iload_n 1, 1) := by decide +kernel
theorem dX5_water_2 : decode cX5_water 2 = .ok (.invokevirtual 181, 3) := by decide +kernel
theorem dX5_water_5 : decode cX5_water 5 = .ok (.aload_n 0, 1) := by decide +kernel
theorem dX5_water_6 : decode cX5_water 6 = .ok (.getfield 49, 3) := by decide +kernel
theorem dX5_water_9 : decode cX5_water 9 = .ok (.getfield 193, 3) := by decide +kernel
theorem dX5_water_12 : decode cX5_water 12 = .ok (.iload_n 1, 1) := by decide +kernel
theorem dX5_water_13 : decode cX5_water 13 = .ok (.iaload, 1) := by decide +kernel
theorem dX5_water_14 : decode cX5_water 14 = .ok (.ireturn, 1) := by decide +kernel
theorem dX5_tank_0 : decode cX5_tank 0 = .ok (.aload_n 0, 1) := by decide +kernel
theorem dX5_tank_1 : decode cX5_tank 1 = .ok (.iload_n 1, 1) := by decide +kernel
theorem dX5_tank_2 : decode cX5_tank 2 = .ok (.invokevirtual 181, 3) := by decide +kernel
theorem dX5_tank_5 : decode cX5_tank 5 = .ok (.aload_n 0, 1) := by decide +kernel
theorem dX5_tank_6 : decode cX5_tank 6 = .ok (.getfield 49, 3) := by decide +kernel
theorem dX5_tank_9 : decode cX5_tank 9 = .ok (.getfield 37, 3) := by decide +kernel
theorem dX5_tank_12 : decode cX5_tank 12 = .ok (.getfield 196, 3) := by decide +kernel
theorem dX5_tank_15 : decode cX5_tank 15 = .ok (.iload_n 1, 1) := by decide +kernel
theorem dX5_tank_16 : decode cX5_tank 16 = .ok (.iaload, 1) := by decide +kernel
theorem dX5_tank_17 : decode cX5_tank 17 = .ok (.ireturn, 1) := by decide +kernel
theorem dX5_strain_0 : decode cX5_strain 0 = .ok (.aload_n 0, 1) := by decide +kernel
theorem dX5_strain_1 : decode cX5_strain 1 = .ok (.iload_n 1, 1) := by decide +kernel
theorem dX5_strain_2 : decode cX5_strain 2 = .ok (.invokevirtual 181, 3) := by decide +kernel
theorem dX5_strain_5 : decode cX5_strain 5 = .ok (.aload_n 0, 1) := by decide +kernel
theorem dX5_strain_6 : decode cX5_strain 6 = .ok (.getfield 49, 3) := by decide +kernel
theorem dX5_strain_9 : decode cX5_strain 9 = .ok (.getfield 199, 3) := by decide +kernel
theorem dX5_strain_12 : decode cX5_strain 12 = .ok (.iload_n 1, 1) := by decide +kernel
theorem dX5_strain_13 : decode cX5_strain 13 = .ok (.iaload, 1) := by decide +kernel
theorem dX5_strain_14 : decode cX5_strain 14 = .ok (.ireturn, 1) := by decide +kernel
theorem dX5_lameDays_0 : decode cX5_lameDays 0 = .ok (.aload_n 0, 1) := by decide +kernel
theorem dX5_lameDays_1 : decode cX5_lameDays 1 = .ok (.iload_n 1, 1) := by decide +kernel
theorem dX5_lameDays_2 : decode cX5_lameDays 2 = .ok (.invokevirtual 181, 3) := by decide +kernel
theorem dX5_lameDays_5 : decode cX5_lameDays 5 = .ok (.aload_n 0, 1) := by decide +kernel
theorem dX5_lameDays_6 : decode cX5_lameDays 6 = .ok (.getfield 49, 3) := by decide +kernel
theorem dX5_lameDays_9 : decode cX5_lameDays 9 = .ok (.getfield 202, 3) := by decide +kernel
theorem dX5_lameDays_12 : decode cX5_lameDays 12 = .ok (.iload_n 1, 1) := by decide +kernel
theorem dX5_lameDays_13 : decode cX5_lameDays 13 = .ok (.iaload, 1) := by decide +kernel
theorem dX5_lameDays_14 : decode cX5_lameDays 14 = .ok (.ireturn, 1) := by decide +kernel
theorem dX5_dryDays_0 : decode cX5_dryDays 0 = .ok (.aload_n 0, 1) := by decide +kernel
theorem dX5_dryDays_1 : decode cX5_dryDays 1 = .ok (.iload_n 1, 1) := by decide +kernel
theorem dX5_dryDays_2 : decode cX5_dryDays 2 = .ok (.invokevirtual 181, 3) := by decide +kernel
theorem dX5_dryDays_5 : decode cX5_dryDays 5 = .ok (.aload_n 0, 1) := by decide +kernel
theorem dX5_dryDays_6 : decode cX5_dryDays 6 = .ok (.getfield 49, 3) := by decide +kernel
theorem dX5_dryDays_9 : decode cX5_dryDays 9 = .ok (.getfield 205, 3) := by decide +kernel
theorem dX5_dryDays_12 : decode cX5_dryDays 12 = .ok (.iload_n 1, 1) := by decide +kernel
theorem dX5_dryDays_13 : decode cX5_dryDays 13 = .ok (.iaload, 1) := by decide +kernel
theorem dX5_dryDays_14 : decode cX5_dryDays 14 = .ok (.ireturn, 1) := by decide +kernel
theorem dX5_carried_0 : decode cX5_carried 0 = .ok (.aload_n 0, 1) := by decide +kernel
theorem dX5_carried_1 : decode cX5_carried 1 = .ok (.iload_n 1, 1) := by decide +kernel
theorem dX5_carried_2 : decode cX5_carried 2 = .ok (.invokevirtual 181, 3) := by decide +kernel
theorem dX5_carried_5 : decode cX5_carried 5 = .ok (.aload_n 0, 1) := by decide +kernel
theorem dX5_carried_6 : decode cX5_carried 6 = .ok (.getfield 49, 3) := by decide +kernel
theorem dX5_carried_9 : decode cX5_carried 9 = .ok (.getfield 208, 3) := by decide +kernel
theorem dX5_carried_12 : decode cX5_carried 12 = .ok (.iload_n 1, 1) := by decide +kernel
theorem dX5_carried_13 : decode cX5_carried 13 = .ok (.iaload, 1) := by decide +kernel
theorem dX5_carried_14 : decode cX5_carried 14 = .ok (.ireturn, 1) := by decide +kernel
theorem dX5_freeWeight_0 : decode cX5_freeWeight 0 = .ok (.aload_n 0, 1) := by decide +kernel
theorem dX5_freeWeight_1 : decode cX5_freeWeight 1 = .ok (.iload_n 1, 1) := by decide +kernel
theorem dX5_freeWeight_2 : decode cX5_freeWeight 2 = .ok (.invokevirtual 181, 3) := by decide +kernel
theorem dX5_freeWeight_5 : decode cX5_freeWeight 5 = .ok (.aload_n 0, 1) := by decide +kernel
theorem dX5_freeWeight_6 : decode cX5_freeWeight 6 = .ok (.getfield 49, 3) := by decide +kernel
theorem dX5_freeWeight_9 : decode cX5_freeWeight 9 = .ok (.iload_n 1, 1) := by decide +kernel
theorem dX5_freeWeight_10 : decode cX5_freeWeight 10 = .ok (.invokevirtual 211, 3) := by decide +kernel
theorem dX5_freeWeight_13 : decode cX5_freeWeight 13 = .ok (.ireturn, 1) := by decide +kernel
theorem dX5_thirstiest_0 : decode cX5_thirstiest 0 = .ok (.aload_n 0, 1) := by decide +kernel
theorem dX5_thirstiest_1 : decode cX5_thirstiest 1 = .ok (.getfield 49, 3) := by decide +kernel
theorem dX5_thirstiest_4 : decode cX5_thirstiest 4 = .ok (.invokevirtual 214, 3) := by decide +kernel
theorem dX5_thirstiest_7 : decode cX5_thirstiest 7 = .ok (.istore_n 1, 1) := by decide +kernel
theorem dX5_thirstiest_8 : decode cX5_thirstiest 8 = .ok (.iload_n 1, 1) := by decide +kernel
theorem dX5_thirstiest_9 : decode cX5_thirstiest 9 = .ok (.iconst (-1), 1) := by decide +kernel
theorem dX5_thirstiest_10 : decode cX5_thirstiest 10 = .ok (.if_icmp .ne 13, 3) := by decide +kernel
theorem dX5_thirstiest_13 : decode cX5_thirstiest 13 = .ok (.new 110, 3) := by decide +kernel
theorem dX5_thirstiest_16 : decode cX5_thirstiest 16 = .ok (.dup, 1) := by decide +kernel
theorem dX5_thirstiest_17 : decode cX5_thirstiest 17 = .ok (.ldc 217, 2) := by decide +kernel
theorem dX5_thirstiest_19 : decode cX5_thirstiest 19 = .ok (.invokespecial 114, 3) := by decide +kernel
theorem dX5_thirstiest_22 : decode cX5_thirstiest 22 = .ok (.athrow, 1) := by decide +kernel
theorem dX5_thirstiest_23 : decode cX5_thirstiest 23 = .ok (.iload_n 1, 1) := by decide +kernel
theorem dX5_thirstiest_24 : decode cX5_thirstiest 24 = .ok (.ireturn, 1) := by decide +kernel
theorem dX5_fastest_0 : decode cX5_fastest 0 = .ok (.aload_n 0, 1) := by decide +kernel
theorem dX5_fastest_1 : decode cX5_fastest 1 = .ok (.getfield 49, 3) := by decide +kernel
theorem dX5_fastest_4 : decode cX5_fastest 4 = .ok (.invokevirtual 219, 3) := by decide +kernel
theorem dX5_fastest_7 : decode cX5_fastest 7 = .ok (.istore_n 1, 1) := by decide +kernel
theorem dX5_fastest_8 : decode cX5_fastest 8 = .ok (.iload_n 1, 1) := by decide +kernel
theorem dX5_fastest_9 : decode cX5_fastest 9 = .ok (.iconst (-1), 1) := by decide +kernel
theorem dX5_fastest_10 : decode cX5_fastest 10 = .ok (.if_icmp .ne 13, 3) := by decide +kernel
theorem dX5_fastest_13 : decode cX5_fastest 13 = .ok (.new 110, 3) := by decide +kernel
theorem dX5_fastest_16 : decode cX5_fastest 16 = .ok (.dup, 1) := by decide +kernel
theorem dX5_fastest_17 : decode cX5_fastest 17 = .ok (.ldc 217, 2) := by decide +kernel
theorem dX5_fastest_19 : decode cX5_fastest 19 = .ok (.invokespecial 114, 3) := by decide +kernel
theorem dX5_fastest_22 : decode cX5_fastest 22 = .ok (.athrow, 1) := by decide +kernel
theorem dX5_fastest_23 : decode cX5_fastest 23 = .ok (.iload_n 1, 1) := by decide +kernel
theorem dX5_fastest_24 : decode cX5_fastest 24 = .ok (.ireturn, 1) := by decide +kernel
theorem dX5_loadCount_0 : decode cX5_loadCount 0 = .ok (.aload_n 0, 1) := by decide +kernel
theorem dX5_loadCount_1 : decode cX5_loadCount 1 = .ok (.getfield 49, 3) := by decide +kernel
theorem dX5_loadCount_4 : decode cX5_loadCount 4 = .ok (.getfield 222, 3) := by decide +kernel
theorem dX5_loadCount_7 : decode cX5_loadCount 7 = .ok (.ireturn, 1) := by decide +kernel
theorem dX5_requireLoad_0 : decode cX5_requireLoad 0 = .ok (.aload_n 0, 1) := by decide +kernel
theorem dX5_requireLoad_1 : decode cX5_requireLoad 1 = .ok (.getfield 49, 3) := by decide +kernel
theorem dX5_requireLoad_4 : decode cX5_requireLoad 4 = .ok (.iload_n 1, 1) := by decide +kernel
theorem dX5_requireLoad_5 : decode cX5_requireLoad 5 = .ok (.invokevirtual 225, 3) := by decide +kernel
theorem dX5_requireLoad_8 : decode cX5_requireLoad 8 = .ok (.ifCond .ne 13, 3) := by decide +kernel
theorem dX5_requireLoad_11 : decode cX5_requireLoad 11 = .ok (.new 151, 3) := by decide +kernel
theorem dX5_requireLoad_14 : decode cX5_requireLoad 14 = .ok (.dup, 1) := by decide +kernel
theorem dX5_requireLoad_15 : decode cX5_requireLoad 15 = .ok (.ldc 228, 2) := by decide +kernel
theorem dX5_requireLoad_17 : decode cX5_requireLoad 17 = .ok (.invokespecial 155, 3) := by decide +kernel
theorem dX5_requireLoad_20 : decode cX5_requireLoad 20 = .ok (.athrow, 1) := by decide +kernel
theorem dX5_requireLoad_21 : decode cX5_requireLoad 21 = .ok (.return_, 1) := by decide +kernel
theorem dX5_weightOf_0 : decode cX5_weightOf 0 = .ok (.aload_n 0, 1) := by decide +kernel
theorem dX5_weightOf_1 : decode cX5_weightOf 1 = .ok (.iload_n 1, 1) := by decide +kernel
theorem dX5_weightOf_2 : decode cX5_weightOf 2 = .ok (.invokevirtual 230, 3) := by decide +kernel
theorem dX5_weightOf_5 : decode cX5_weightOf 5 = .ok (.aload_n 0, 1) := by decide +kernel
theorem dX5_weightOf_6 : decode cX5_weightOf 6 = .ok (.getfield 49, 3) := by decide +kernel
theorem dX5_weightOf_9 : decode cX5_weightOf 9 = .ok (.getfield 233, 3) := by decide +kernel
theorem dX5_weightOf_12 : decode cX5_weightOf 12 = .ok (.iload_n 1, 1) := by decide +kernel
theorem dX5_weightOf_13 : decode cX5_weightOf 13 = .ok (.iaload, 1) := by decide +kernel
theorem dX5_weightOf_14 : decode cX5_weightOf 14 = .ok (.ireturn, 1) := by decide +kernel
theorem dX5_valueOf_0 : decode cX5_valueOf 0 = .ok (.aload_n 0, 1) := by decide +kernel
theorem dX5_valueOf_1 : decode cX5_valueOf 1 = .ok (.iload_n 1, 1) := by decide +kernel
theorem dX5_valueOf_2 : decode cX5_valueOf 2 = .ok (.invokevirtual 230, 3) := by decide +kernel
theorem dX5_valueOf_5 : decode cX5_valueOf 5 = .ok (.aload_n 0, 1) := by decide +kernel
theorem dX5_valueOf_6 : decode cX5_valueOf 6 = .ok (.getfield 49, 3) := by decide +kernel
theorem dX5_valueOf_9 : decode cX5_valueOf 9 = .ok (.getfield 236, 3) := by decide +kernel
theorem dX5_valueOf_12 : decode cX5_valueOf 12 = .ok (.iload_n 1, 1) := by decide +kernel
theorem dX5_valueOf_13 : decode cX5_valueOf 13 = .ok (.iaload, 1) := by decide +kernel
theorem dX5_valueOf_14 : decode cX5_valueOf 14 = .ok (.ireturn, 1) := by decide +kernel
theorem dX5_isCarried_0 : decode cX5_isCarried 0 = .ok (.aload_n 0, 1) := by decide +kernel
theorem dX5_isCarried_1 : decode cX5_isCarried 1 = .ok (.iload_n 1, 1) := by decide +kernel
theorem dX5_isCarried_2 : decode cX5_isCarried 2 = .ok (.invokevirtual 230, 3) := by decide +kernel
theorem dX5_isCarried_5 : decode cX5_isCarried 5 = .ok (.aload_n 0, 1) := by decide +kernel
theorem dX5_isCarried_6 : decode cX5_isCarried 6 = .ok (.getfield 49, 3) := by decide +kernel
theorem dX5_isCarried_9 : decode cX5_isCarried 9 = .ok (.getfield 239, 3) := by decide +kernel
theorem dX5_isCarried_12 : decode cX5_isCarried 12 = .ok (.iload_n 1, 1) := by decide +kernel
theorem dX5_isCarried_13 : decode cX5_isCarried 13 = .ok (.iaload, 1) := by decide +kernel
theorem dX5_isCarried_14 : decode cX5_isCarried 14 = .ok (.iconst (-1), 1) := by decide +kernel
theorem dX5_isCarried_15 : decode cX5_isCarried 15 = .ok (.if_icmp .eq 7, 3) := by decide +kernel
theorem dX5_isCarried_18 : decode cX5_isCarried 18 = .ok (.iconst 1, 1) := by decide +kernel
theorem dX5_isCarried_19 : decode cX5_isCarried 19 = .ok (.goto 4, 3) := by decide +kernel
theorem dX5_isCarried_22 : decode cX5_isCarried 22 = .ok (.iconst 0, 1) := by decide +kernel
theorem dX5_isCarried_23 : decode cX5_isCarried 23 = .ok (.ireturn, 1) := by decide +kernel
theorem dX5_carrierOf_0 : decode cX5_carrierOf 0 = .ok (.aload_n 0, 1) := by decide +kernel
theorem dX5_carrierOf_1 : decode cX5_carrierOf 1 = .ok (.iload_n 1, 1) := by decide +kernel
theorem dX5_carrierOf_2 : decode cX5_carrierOf 2 = .ok (.invokevirtual 230, 3) := by decide +kernel
theorem dX5_carrierOf_5 : decode cX5_carrierOf 5 = .ok (.aload_n 0, 1) := by decide +kernel
theorem dX5_carrierOf_6 : decode cX5_carrierOf 6 = .ok (.getfield 49, 3) := by decide +kernel
theorem dX5_carrierOf_9 : decode cX5_carrierOf 9 = .ok (.getfield 239, 3) := by decide +kernel
theorem dX5_carrierOf_12 : decode cX5_carrierOf 12 = .ok (.iload_n 1, 1) := by decide +kernel
theorem dX5_carrierOf_13 : decode cX5_carrierOf 13 = .ok (.iaload, 1) := by decide +kernel
theorem dX5_carrierOf_14 : decode cX5_carrierOf 14 = .ok (.iconst (-1), 1) := by decide +kernel
theorem dX5_carrierOf_15 : decode cX5_carrierOf 15 = .ok (.if_icmp .ne 13, 3) := by decide +kernel
theorem dX5_carrierOf_18 : decode cX5_carrierOf 18 = .ok (.new 110, 3) := by decide +kernel
theorem dX5_carrierOf_21 : decode cX5_carrierOf 21 = .ok (.dup, 1) := by decide +kernel
theorem dX5_carrierOf_22 : decode cX5_carrierOf 22 = .ok (.ldc 242, 2) := by decide +kernel
theorem dX5_carrierOf_24 : decode cX5_carrierOf 24 = .ok (.invokespecial 114, 3) := by decide +kernel
theorem dX5_carrierOf_27 : decode cX5_carrierOf 27 = .ok (.athrow, 1) := by decide +kernel
theorem dX5_carrierOf_28 : decode cX5_carrierOf 28 = .ok (.aload_n 0, 1) := by decide +kernel
theorem dX5_carrierOf_29 : decode cX5_carrierOf 29 = .ok (.getfield 49, 3) := by decide +kernel
theorem dX5_carrierOf_32 : decode cX5_carrierOf 32 = .ok (.getfield 239, 3) := by decide +kernel
theorem dX5_carrierOf_35 : decode cX5_carrierOf 35 = .ok (.iload_n 1, 1) := by decide +kernel
theorem dX5_carrierOf_36 : decode cX5_carrierOf 36 = .ok (.iaload, 1) := by decide +kernel
theorem dX5_carrierOf_37 : decode cX5_carrierOf 37 = .ok (.ireturn, 1) := by decide +kernel
theorem dX5_placeOf_0 : decode cX5_placeOf 0 = .ok (.aload_n 0, 1) := by decide +kernel
theorem dX5_placeOf_1 : decode cX5_placeOf 1 = .ok (.iload_n 1, 1) := by decide +kernel
theorem dX5_placeOf_2 : decode cX5_placeOf 2 = .ok (.invokevirtual 230, 3) := by decide +kernel
theorem dX5_placeOf_5 : decode cX5_placeOf 5 = .ok (.aload_n 0, 1) := by decide +kernel
theorem dX5_placeOf_6 : decode cX5_placeOf 6 = .ok (.getfield 49, 3) := by decide +kernel
theorem dX5_placeOf_9 : decode cX5_placeOf 9 = .ok (.iload_n 1, 1) := by decide +kernel
theorem dX5_placeOf_10 : decode cX5_placeOf 10 = .ok (.invokevirtual 244, 3) := by decide +kernel
theorem dX5_placeOf_13 : decode cX5_placeOf 13 = .ok (.ireturn, 1) := by decide +kernel
theorem dX5_carriedValue_0 : decode cX5_carriedValue 0 = .ok (.iconst 0, 1) := by decide +kernel
theorem dX5_carriedValue_1 : decode cX5_carriedValue 1 = .ok (.istore_n 1, 1) := by decide +kernel
theorem dX5_carriedValue_2 : decode cX5_carriedValue 2 = .ok (.iconst 0, 1) := by decide +kernel
theorem dX5_carriedValue_3 : decode cX5_carriedValue 3 = .ok (.istore_n 2, 1) := by decide +kernel
theorem dX5_carriedValue_4 : decode cX5_carriedValue 4 = .ok (.iload_n 2, 1) := by decide +kernel
theorem dX5_carriedValue_5 : decode cX5_carriedValue 5 = .ok (.aload_n 0, 1) := by decide +kernel
theorem dX5_carriedValue_6 : decode cX5_carriedValue 6 = .ok (.getfield 49, 3) := by decide +kernel
theorem dX5_carriedValue_9 : decode cX5_carriedValue 9 = .ok (.getfield 222, 3) := by decide +kernel
theorem dX5_carriedValue_12 : decode cX5_carriedValue 12 = .ok (.if_icmp .ge 34, 3) := by decide +kernel
theorem dX5_carriedValue_15 : decode cX5_carriedValue 15 = .ok (.aload_n 0, 1) := by decide +kernel
theorem dX5_carriedValue_16 : decode cX5_carriedValue 16 = .ok (.getfield 49, 3) := by decide +kernel
theorem dX5_carriedValue_19 : decode cX5_carriedValue 19 = .ok (.getfield 239, 3) := by decide +kernel
theorem dX5_carriedValue_22 : decode cX5_carriedValue 22 = .ok (.iload_n 2, 1) := by decide +kernel
theorem dX5_carriedValue_23 : decode cX5_carriedValue 23 = .ok (.iaload, 1) := by decide +kernel
theorem dX5_carriedValue_24 : decode cX5_carriedValue 24 = .ok (.iconst (-1), 1) := by decide +kernel
theorem dX5_carriedValue_25 : decode cX5_carriedValue 25 = .ok (.if_icmp .eq 15, 3) := by decide +kernel
theorem dX5_carriedValue_28 : decode cX5_carriedValue 28 = .ok (.iload_n 1, 1) := by decide +kernel
theorem dX5_carriedValue_29 : decode cX5_carriedValue 29 = .ok (.aload_n 0, 1) := by decide +kernel
theorem dX5_carriedValue_30 : decode cX5_carriedValue 30 = .ok (.getfield 49, 3) := by decide +kernel
theorem dX5_carriedValue_33 : decode cX5_carriedValue 33 = .ok (.getfield 236, 3) := by decide +kernel
theorem dX5_carriedValue_36 : decode cX5_carriedValue 36 = .ok (.iload_n 2, 1) := by decide +kernel
theorem dX5_carriedValue_37 : decode cX5_carriedValue 37 = .ok (.iaload, 1) := by decide +kernel
theorem dX5_carriedValue_38 : decode cX5_carriedValue 38 = .ok (.iadd, 1) := by decide +kernel
theorem dX5_carriedValue_39 : decode cX5_carriedValue 39 = .ok (.istore_n 1, 1) := by decide +kernel
theorem dX5_carriedValue_40 : decode cX5_carriedValue 40 = .ok (.iinc 2 1, 3) := by decide +kernel
theorem dX5_carriedValue_43 : decode cX5_carriedValue 43 = .ok (.goto (-39), 3) := by decide +kernel
theorem dX5_carriedValue_46 : decode cX5_carriedValue 46 = .ok (.iload_n 1, 1) := by decide +kernel
theorem dX5_carriedValue_47 : decode cX5_carriedValue 47 = .ok (.ireturn, 1) := by decide +kernel
theorem dX5_meanWater_0 : decode cX5_meanWater 0 = .ok (.aload_n 0, 1) := by decide +kernel
theorem dX5_meanWater_1 : decode cX5_meanWater 1 = .ok (.getfield 49, 3) := by decide +kernel
theorem dX5_meanWater_4 : decode cX5_meanWater 4 = .ok (.invokevirtual 169, 3) := by decide +kernel
theorem dX5_meanWater_7 : decode cX5_meanWater 7 = .ok (.istore_n 1, 1) := by decide +kernel
theorem dX5_meanWater_8 : decode cX5_meanWater 8 = .ok (.iload_n 1, 1) := by decide +kernel
theorem dX5_meanWater_9 : decode cX5_meanWater 9 = .ok (.ifCond .ne 5, 3) := by decide +kernel
theorem dX5_meanWater_12 : decode cX5_meanWater 12 = .ok (.dconst 0, 1) := by decide +kernel
theorem dX5_meanWater_13 : decode cX5_meanWater 13 = .ok (.dreturn, 1) := by decide +kernel
theorem dX5_meanWater_14 : decode cX5_meanWater 14 = .ok (.iconst 0, 1) := by decide +kernel
theorem dX5_meanWater_15 : decode cX5_meanWater 15 = .ok (.istore_n 2, 1) := by decide +kernel
theorem dX5_meanWater_16 : decode cX5_meanWater 16 = .ok (.iconst 0, 1) := by decide +kernel
theorem dX5_meanWater_17 : decode cX5_meanWater 17 = .ok (.istore_n 3, 1) := by decide +kernel
theorem dX5_meanWater_18 : decode cX5_meanWater 18 = .ok (.iload_n 3, 1) := by decide +kernel
theorem dX5_meanWater_19 : decode cX5_meanWater 19 = .ok (.aload_n 0, 1) := by decide +kernel
theorem dX5_meanWater_20 : decode cX5_meanWater 20 = .ok (.getfield 49, 3) := by decide +kernel
theorem dX5_meanWater_23 : decode cX5_meanWater 23 = .ok (.getfield 37, 3) := by decide +kernel
theorem dX5_meanWater_26 : decode cX5_meanWater 26 = .ok (.getfield 107, 3) := by decide +kernel
theorem dX5_meanWater_29 : decode cX5_meanWater 29 = .ok (.if_icmp .ge 32, 3) := by decide +kernel
theorem dX5_meanWater_32 : decode cX5_meanWater 32 = .ok (.aload_n 0, 1) := by decide +kernel
theorem dX5_meanWater_33 : decode cX5_meanWater 33 = .ok (.getfield 49, 3) := by decide +kernel
theorem dX5_meanWater_36 : decode cX5_meanWater 36 = .ok (.iload_n 3, 1) := by decide +kernel
theorem dX5_meanWater_37 : decode cX5_meanWater 37 = .ok (.invokevirtual 184, 3) := by decide +kernel
theorem dX5_meanWater_40 : decode cX5_meanWater 40 = .ok (.ifCond .eq 15, 3) := by decide +kernel
theorem dX5_meanWater_43 : decode cX5_meanWater 43 = .ok (.iload_n 2, 1) := by decide +kernel
theorem dX5_meanWater_44 : decode cX5_meanWater 44 = .ok (.aload_n 0, 1) := by decide +kernel
theorem dX5_meanWater_45 : decode cX5_meanWater 45 = .ok (.getfield 49, 3) := by decide +kernel
theorem dX5_meanWater_48 : decode cX5_meanWater 48 = .ok (.getfield 193, 3) := by decide +kernel
theorem dX5_meanWater_51 : decode cX5_meanWater 51 = .ok (.iload_n 3, 1) := by decide +kernel
theorem dX5_meanWater_52 : decode cX5_meanWater 52 = .ok (.iaload, 1) := by decide +kernel
theorem dX5_meanWater_53 : decode cX5_meanWater 53 = .ok (.iadd, 1) := by decide +kernel
theorem dX5_meanWater_54 : decode cX5_meanWater 54 = .ok (.istore_n 2, 1) := by decide +kernel
theorem dX5_meanWater_55 : decode cX5_meanWater 55 = .ok (.iinc 3 1, 3) := by decide +kernel
theorem dX5_meanWater_58 : decode cX5_meanWater 58 = .ok (.goto (-40), 3) := by decide +kernel
theorem dX5_meanWater_61 : decode cX5_meanWater 61 = .ok (.iload_n 2, 1) := by decide +kernel
theorem dX5_meanWater_62 : decode cX5_meanWater 62 = .ok (.i2d, 1) := by decide +kernel
theorem dX5_meanWater_63 : decode cX5_meanWater 63 = .ok (.iload_n 1, 1) := by decide +kernel
theorem dX5_meanWater_64 : decode cX5_meanWater 64 = .ok (.i2d, 1) := by decide +kernel
theorem dX5_meanWater_65 : decode cX5_meanWater 65 = .ok (.ddiv, 1) := by decide +kernel
theorem dX5_meanWater_66 : decode cX5_meanWater 66 = .ok (.dreturn, 1) := by decide +kernel
theorem dX5_progress_0 : decode cX5_progress 0 = .ok (.aload_n 0, 1) := by decide +kernel
theorem dX5_progress_1 : decode cX5_progress 1 = .ok (.getfield 49, 3) := by decide +kernel
theorem dX5_progress_4 : decode cX5_progress 4 = .ok (.getfield 37, 3) := by decide +kernel
theorem dX5_progress_7 : decode cX5_progress 7 = .ok (.getfield 115, 3) := by decide +kernel
theorem dX5_progress_10 : decode cX5_progress 10 = .ok (.ifCond .ne 5, 3) := by decide +kernel
theorem dX5_progress_13 : decode cX5_progress 13 = .ok (.fconst 0, 1) := by decide +kernel
theorem dX5_progress_14 : decode cX5_progress 14 = .ok (.freturn, 1) := by decide +kernel
theorem dX5_progress_15 : decode cX5_progress 15 = .ok (.aload_n 0, 1) := by decide +kernel
theorem dX5_progress_16 : decode cX5_progress 16 = .ok (.getfield 49, 3) := by decide +kernel
theorem dX5_progress_19 : decode cX5_progress 19 = .ok (.getfield 116, 3) := by decide +kernel
theorem dX5_progress_22 : decode cX5_progress 22 = .ok (.i2f, 1) := by decide +kernel
theorem dX5_progress_23 : decode cX5_progress 23 = .ok (.aload_n 0, 1) := by decide +kernel
theorem dX5_progress_24 : decode cX5_progress 24 = .ok (.getfield 49, 3) := by decide +kernel
theorem dX5_progress_27 : decode cX5_progress 27 = .ok (.getfield 37, 3) := by decide +kernel
theorem dX5_progress_30 : decode cX5_progress 30 = .ok (.getfield 115, 3) := by decide +kernel
theorem dX5_progress_33 : decode cX5_progress 33 = .ok (.i2f, 1) := by decide +kernel
theorem dX5_progress_34 : decode cX5_progress 34 = .ok (.fdiv, 1) := by decide +kernel
theorem dX5_progress_35 : decode cX5_progress 35 = .ok (.freturn, 1) := by decide +kernel
theorem dX5_distanceToday_0 : decode cX5_distanceToday 0 = .ok (.aload_n 0, 1) := by decide +kernel
theorem dX5_distanceToday_1 : decode cX5_distanceToday 1 = .ok (.getfield 49, 3) := by decide +kernel
theorem dX5_distanceToday_4 : decode cX5_distanceToday 4 = .ok (.invokevirtual 247, 3) := by decide +kernel
theorem dX5_distanceToday_7 : decode cX5_distanceToday 7 = .ok (.ireturn, 1) := by decide +kernel
theorem dX5_needToday_0 : decode cX5_needToday 0 = .ok (.aload_n 0, 1) := by decide +kernel
theorem dX5_needToday_1 : decode cX5_needToday 1 = .ok (.iload_n 1, 1) := by decide +kernel
theorem dX5_needToday_2 : decode cX5_needToday 2 = .ok (.invokevirtual 181, 3) := by decide +kernel
theorem dX5_needToday_5 : decode cX5_needToday 5 = .ok (.aload_n 0, 1) := by decide +kernel
theorem dX5_needToday_6 : decode cX5_needToday 6 = .ok (.getfield 49, 3) := by decide +kernel
theorem dX5_needToday_9 : decode cX5_needToday 9 = .ok (.iload_n 1, 1) := by decide +kernel
theorem dX5_needToday_10 : decode cX5_needToday 10 = .ok (.invokevirtual 184, 3) := by decide +kernel
theorem dX5_needToday_13 : decode cX5_needToday 13 = .ok (.ifCond .ne 5, 3) := by decide +kernel
theorem dX5_needToday_16 : decode cX5_needToday 16 = .ok (.iconst 0, 1) := by decide +kernel
theorem dX5_needToday_17 : decode cX5_needToday 17 = .ok (.ireturn, 1) := by decide +kernel
theorem dX5_needToday_18 : decode cX5_needToday 18 = .ok (.aload_n 0, 1) := by decide +kernel
theorem dX5_needToday_19 : decode cX5_needToday 19 = .ok (.getfield 49, 3) := by decide +kernel
theorem dX5_needToday_22 : decode cX5_needToday 22 = .ok (.iload_n 1, 1) := by decide +kernel
theorem dX5_needToday_23 : decode cX5_needToday 23 = .ok (.aload_n 0, 1) := by decide +kernel
theorem dX5_needToday_24 : decode cX5_needToday 24 = .ok (.getfield 49, 3) := by decide +kernel
theorem dX5_needToday_27 : decode cX5_needToday 27 = .ok (.getfield 37, 3) := by decide +kernel
theorem dX5_needToday_30 : decode cX5_needToday 30 = .ok (.aload_n 0, 1) := by decide +kernel
theorem dX5_needToday_31 : decode cX5_needToday 31 = .ok (.getfield 49, 3) := by decide +kernel
theorem dX5_needToday_34 : decode cX5_needToday 34 = .ok (.getfield 123, 3) := by decide +kernel
theorem dX5_needToday_37 : decode cX5_needToday 37 = .ok (.invokevirtual 128, 3) := by decide +kernel
theorem dX5_needToday_40 : decode cX5_needToday 40 = .ok (.invokevirtual 250, 3) := by decide +kernel
theorem dX5_needToday_43 : decode cX5_needToday 43 = .ok (.ireturn, 1) := by decide +kernel
theorem dX5_livingAfter_0 : decode cX5_livingAfter 0 = .ok (.iload_n 1, 1) := by decide +kernel
theorem dX5_livingAfter_1 : decode cX5_livingAfter 1 = .ok (.ifCond .lt 9, 3) := by decide +kernel
theorem dX5_livingAfter_4 : decode cX5_livingAfter 4 = .ok (.iload_n 1, 1) := by decide +kernel
theorem dX5_livingAfter_5 : decode cX5_livingAfter 5 = .ok (.bipush 50, 2) := by decide +kernel
theorem dX5_livingAfter_7 : decode cX5_livingAfter 7 = .ok (.if_icmp .le 13, 3) := by decide +kernel
theorem dX5_livingAfter_10 : decode cX5_livingAfter 10 = .ok (.new 97, 3) := by decide +kernel
theorem dX5_livingAfter_13 : decode cX5_livingAfter 13 = .ok (.dup, 1) := by decide +kernel
theorem dX5_livingAfter_14 : decode cX5_livingAfter 14 = .ok (.ldc 254, 2) := by decide +kernel
theorem dX5_livingAfter_16 : decode cX5_livingAfter 16 = .ok (.invokespecial 101, 3) := by decide +kernel
theorem dX5_livingAfter_19 : decode cX5_livingAfter 19 = .ok (.athrow, 1) := by decide +kernel
theorem dX5_livingAfter_20 : decode cX5_livingAfter 20 = .ok (.aload_n 0, 1) := by decide +kernel
theorem dX5_livingAfter_21 : decode cX5_livingAfter 21 = .ok (.getfield 55, 3) := by decide +kernel
theorem dX5_livingAfter_24 : decode cX5_livingAfter 24 = .ok (.aload_n 0, 1) := by decide +kernel
theorem dX5_livingAfter_25 : decode cX5_livingAfter 25 = .ok (.getfield 49, 3) := by decide +kernel
theorem dX5_livingAfter_28 : decode cX5_livingAfter 28 = .ok (.invokevirtual 52, 3) := by decide +kernel
theorem dX5_livingAfter_31 : decode cX5_livingAfter 31 = .ok (.iconst 0, 1) := by decide +kernel
theorem dX5_livingAfter_32 : decode cX5_livingAfter 32 = .ok (.istore_n 2, 1) := by decide +kernel
theorem dX5_livingAfter_33 : decode cX5_livingAfter 33 = .ok (.iload_n 2, 1) := by decide +kernel
theorem dX5_livingAfter_34 : decode cX5_livingAfter 34 = .ok (.iload_n 1, 1) := by decide +kernel
theorem dX5_livingAfter_35 : decode cX5_livingAfter 35 = .ok (.if_icmp .ge 27, 3) := by decide +kernel
theorem dX5_livingAfter_38 : decode cX5_livingAfter 38 = .ok (.aload_n 0, 1) := by decide +kernel
theorem dX5_livingAfter_39 : decode cX5_livingAfter 39 = .ok (.getfield 55, 3) := by decide +kernel
theorem dX5_livingAfter_42 : decode cX5_livingAfter 42 = .ok (.invokevirtual 256, 3) := by decide +kernel
theorem dX5_livingAfter_45 : decode cX5_livingAfter 45 = .ok (.ifCond .eq 17, 3) := by decide +kernel
theorem dX5_livingAfter_48 : decode cX5_livingAfter 48 = .ok (.aload_n 0, 1) := by decide +kernel
theorem dX5_livingAfter_49 : decode cX5_livingAfter 49 = .ok (.getfield 55, 3) := by decide +kernel
theorem dX5_livingAfter_52 : decode cX5_livingAfter 52 = .ok (.invokevirtual 259, 3) := by decide +kernel
theorem dX5_livingAfter_55 : decode cX5_livingAfter 55 = .ok (.pop, 1) := by decide +kernel
theorem dX5_livingAfter_56 : decode cX5_livingAfter 56 = .ok (.iinc 2 1, 3) := by decide +kernel
theorem dX5_livingAfter_59 : decode cX5_livingAfter 59 = .ok (.goto (-26), 3) := by decide +kernel
theorem dX5_livingAfter_62 : decode cX5_livingAfter 62 = .ok (.aload_n 0, 1) := by decide +kernel
theorem dX5_livingAfter_63 : decode cX5_livingAfter 63 = .ok (.getfield 55, 3) := by decide +kernel
theorem dX5_livingAfter_66 : decode cX5_livingAfter 66 = .ok (.invokevirtual 169, 3) := by decide +kernel
theorem dX5_livingAfter_69 : decode cX5_livingAfter 69 = .ok (.ireturn, 1) := by decide +kernel
theorem dX5_daysToArrival_0 : decode cX5_daysToArrival 0 = .ok (.aload_n 0, 1) := by decide +kernel
theorem dX5_daysToArrival_1 : decode cX5_daysToArrival 1 = .ok (.getfield 55, 3) := by decide +kernel
theorem dX5_daysToArrival_4 : decode cX5_daysToArrival 4 = .ok (.aload_n 0, 1) := by decide +kernel
theorem dX5_daysToArrival_5 : decode cX5_daysToArrival 5 = .ok (.getfield 49, 3) := by decide +kernel
theorem dX5_daysToArrival_8 : decode cX5_daysToArrival 8 = .ok (.invokevirtual 52, 3) := by decide +kernel
theorem dX5_daysToArrival_11 : decode cX5_daysToArrival 11 = .ok (.iconst 0, 1) := by decide +kernel
theorem dX5_daysToArrival_12 : decode cX5_daysToArrival 12 = .ok (.istore_n 1, 1) := by decide +kernel
theorem dX5_daysToArrival_13 : decode cX5_daysToArrival 13 = .ok (.iload_n 1, 1) := by decide +kernel
theorem dX5_daysToArrival_14 : decode cX5_daysToArrival 14 = .ok (.sipush 200, 3) := by decide +kernel
theorem dX5_daysToArrival_17 : decode cX5_daysToArrival 17 = .ok (.if_icmp .ge 27, 3) := by decide +kernel
theorem dX5_daysToArrival_20 : decode cX5_daysToArrival 20 = .ok (.aload_n 0, 1) := by decide +kernel
theorem dX5_daysToArrival_21 : decode cX5_daysToArrival 21 = .ok (.getfield 55, 3) := by decide +kernel
theorem dX5_daysToArrival_24 : decode cX5_daysToArrival 24 = .ok (.invokevirtual 256, 3) := by decide +kernel
theorem dX5_daysToArrival_27 : decode cX5_daysToArrival 27 = .ok (.ifCond .eq 17, 3) := by decide +kernel
theorem dX5_daysToArrival_30 : decode cX5_daysToArrival 30 = .ok (.aload_n 0, 1) := by decide +kernel
theorem dX5_daysToArrival_31 : decode cX5_daysToArrival 31 = .ok (.getfield 55, 3) := by decide +kernel
theorem dX5_daysToArrival_34 : decode cX5_daysToArrival 34 = .ok (.invokevirtual 259, 3) := by decide +kernel
theorem dX5_daysToArrival_37 : decode cX5_daysToArrival 37 = .ok (.pop, 1) := by decide +kernel
theorem dX5_daysToArrival_38 : decode cX5_daysToArrival 38 = .ok (.iinc 1 1, 3) := by decide +kernel
theorem dX5_daysToArrival_41 : decode cX5_daysToArrival 41 = .ok (.goto (-28), 3) := by decide +kernel
theorem dX5_daysToArrival_44 : decode cX5_daysToArrival 44 = .ok (.aload_n 0, 1) := by decide +kernel
theorem dX5_daysToArrival_45 : decode cX5_daysToArrival 45 = .ok (.getfield 55, 3) := by decide +kernel
theorem dX5_daysToArrival_48 : decode cX5_daysToArrival 48 = .ok (.invokevirtual 119, 3) := by decide +kernel
theorem dX5_daysToArrival_51 : decode cX5_daysToArrival 51 = .ok (.ifCond .ne 14, 3) := by decide +kernel
theorem dX5_daysToArrival_54 : decode cX5_daysToArrival 54 = .ok (.new 110, 3) := by decide +kernel
theorem dX5_daysToArrival_57 : decode cX5_daysToArrival 57 = .ok (.dup, 1) := by decide +kernel
theorem dX5_daysToArrival_58 : decode cX5_daysToArrival 58 = .ok (.ldc_w 262, 3) := by decide +kernel
theorem dX5_daysToArrival_61 : decode cX5_daysToArrival 61 = .ok (.invokespecial 114, 3) := by decide +kernel
theorem dX5_daysToArrival_64 : decode cX5_daysToArrival 64 = .ok (.athrow, 1) := by decide +kernel
theorem dX5_daysToArrival_65 : decode cX5_daysToArrival 65 = .ok (.aload_n 0, 1) := by decide +kernel
theorem dX5_daysToArrival_66 : decode cX5_daysToArrival 66 = .ok (.getfield 55, 3) := by decide +kernel
theorem dX5_daysToArrival_69 : decode cX5_daysToArrival 69 = .ok (.getfield 123, 3) := by decide +kernel
theorem dX5_daysToArrival_72 : decode cX5_daysToArrival 72 = .ok (.aload_n 0, 1) := by decide +kernel
theorem dX5_daysToArrival_73 : decode cX5_daysToArrival 73 = .ok (.getfield 49, 3) := by decide +kernel
theorem dX5_daysToArrival_76 : decode cX5_daysToArrival 76 = .ok (.getfield 123, 3) := by decide +kernel
theorem dX5_daysToArrival_79 : decode cX5_daysToArrival 79 = .ok (.isub, 1) := by decide +kernel
theorem dX5_daysToArrival_80 : decode cX5_daysToArrival 80 = .ok (.ireturn, 1) := by decide +kernel
theorem dX5_wouldDrink_0 : decode cX5_wouldDrink 0 = .ok (.aload_n 0, 1) := by decide +kernel
theorem dX5_wouldDrink_1 : decode cX5_wouldDrink 1 = .ok (.iload_n 1, 1) := by decide +kernel
theorem dX5_wouldDrink_2 : decode cX5_wouldDrink 2 = .ok (.invokevirtual 181, 3) := by decide +kernel
theorem dX5_wouldDrink_5 : decode cX5_wouldDrink 5 = .ok (.aload_n 0, 1) := by decide +kernel
theorem dX5_wouldDrink_6 : decode cX5_wouldDrink 6 = .ok (.getfield 49, 3) := by decide +kernel
theorem dX5_wouldDrink_9 : decode cX5_wouldDrink 9 = .ok (.getfield 37, 3) := by decide +kernel
theorem dX5_wouldDrink_12 : decode cX5_wouldDrink 12 = .ok (.aload_n 0, 1) := by decide +kernel
theorem dX5_wouldDrink_13 : decode cX5_wouldDrink 13 = .ok (.getfield 49, 3) := by decide +kernel
theorem dX5_wouldDrink_16 : decode cX5_wouldDrink 16 = .ok (.getfield 116, 3) := by decide +kernel
theorem dX5_wouldDrink_19 : decode cX5_wouldDrink 19 = .ok (.invokevirtual 156, 3) := by decide +kernel
theorem dX5_wouldDrink_22 : decode cX5_wouldDrink 22 = .ok (.istore_n 2, 1) := by decide +kernel
theorem dX5_wouldDrink_23 : decode cX5_wouldDrink 23 = .ok (.iload_n 2, 1) := by decide +kernel
theorem dX5_wouldDrink_24 : decode cX5_wouldDrink 24 = .ok (.iconst (-1), 1) := by decide +kernel
theorem dX5_wouldDrink_25 : decode cX5_wouldDrink 25 = .ok (.if_icmp .ne 14, 3) := by decide +kernel
theorem dX5_wouldDrink_28 : decode cX5_wouldDrink 28 = .ok (.new 87, 3) := by decide +kernel
theorem dX5_wouldDrink_31 : decode cX5_wouldDrink 31 = .ok (.dup, 1) := by decide +kernel
theorem dX5_wouldDrink_32 : decode cX5_wouldDrink 32 = .ok (.ldc_w 264, 3) := by decide +kernel
theorem dX5_wouldDrink_35 : decode cX5_wouldDrink 35 = .ok (.invokespecial 91, 3) := by decide +kernel
theorem dX5_wouldDrink_38 : decode cX5_wouldDrink 38 = .ok (.athrow, 1) := by decide +kernel
theorem dX5_wouldDrink_39 : decode cX5_wouldDrink 39 = .ok (.aload_n 0, 1) := by decide +kernel
theorem dX5_wouldDrink_40 : decode cX5_wouldDrink 40 = .ok (.getfield 49, 3) := by decide +kernel
theorem dX5_wouldDrink_43 : decode cX5_wouldDrink 43 = .ok (.iload_n 2, 1) := by decide +kernel
theorem dX5_wouldDrink_44 : decode cX5_wouldDrink 44 = .ok (.aload_n 0, 1) := by decide +kernel
theorem dX5_wouldDrink_45 : decode cX5_wouldDrink 45 = .ok (.getfield 73, 3) := by decide +kernel
theorem dX5_wouldDrink_48 : decode cX5_wouldDrink 48 = .ok (.invokevirtual 266, 3) := by decide +kernel
theorem dX5_wouldDrink_51 : decode cX5_wouldDrink 51 = .ok (.aload_n 0, 1) := by decide +kernel
theorem dX5_wouldDrink_52 : decode cX5_wouldDrink 52 = .ok (.getfield 49, 3) := by decide +kernel
theorem dX5_wouldDrink_55 : decode cX5_wouldDrink 55 = .ok (.iload_n 1, 1) := by decide +kernel
theorem dX5_wouldDrink_56 : decode cX5_wouldDrink 56 = .ok (.invokevirtual 184, 3) := by decide +kernel
theorem dX5_wouldDrink_59 : decode cX5_wouldDrink 59 = .ok (.ifCond .eq 12, 3) := by decide +kernel
theorem dX5_wouldDrink_62 : decode cX5_wouldDrink 62 = .ok (.aload_n 0, 1) := by decide +kernel
theorem dX5_wouldDrink_63 : decode cX5_wouldDrink 63 = .ok (.getfield 73, 3) := by decide +kernel
theorem dX5_wouldDrink_66 : decode cX5_wouldDrink 66 = .ok (.iload_n 1, 1) := by decide +kernel
theorem dX5_wouldDrink_67 : decode cX5_wouldDrink 67 = .ok (.iaload, 1) := by decide +kernel
theorem dX5_wouldDrink_68 : decode cX5_wouldDrink 68 = .ok (.goto 4, 3) := by decide +kernel
theorem dX5_wouldDrink_71 : decode cX5_wouldDrink 71 = .ok (.iconst 0, 1) := by decide +kernel
theorem dX5_wouldDrink_72 : decode cX5_wouldDrink 72 = .ok (.ireturn, 1) := by decide +kernel
theorem dX5_travel_0 : decode cX5_travel 0 = .ok (.aload_n 0, 1) := by decide +kernel
theorem dX5_travel_1 : decode cX5_travel 1 = .ok (.getfield 49, 3) := by decide +kernel
theorem dX5_travel_4 : decode cX5_travel 4 = .ok (.invokevirtual 256, 3) := by decide +kernel
theorem dX5_travel_7 : decode cX5_travel 7 = .ok (.ifCond .ne 14, 3) := by decide +kernel
theorem dX5_travel_10 : decode cX5_travel 10 = .ok (.new 87, 3) := by decide +kernel
theorem dX5_travel_13 : decode cX5_travel 13 = .ok (.dup, 1) := by decide +kernel
theorem dX5_travel_14 : decode cX5_travel 14 = .ok (.ldc_w 270, 3) := by decide +kernel
theorem dX5_travel_17 : decode cX5_travel 17 = .ok (.invokespecial 91, 3) := by decide +kernel
theorem dX5_travel_20 : decode cX5_travel 20 = .ok (.athrow, 1) := by decide +kernel
theorem dX5_travel_21 : decode cX5_travel 21 = .ok (.aload_n 0, 1) := by decide +kernel
theorem dX5_travel_22 : decode cX5_travel 22 = .ok (.getfield 61, 3) := by decide +kernel
theorem dX5_travel_25 : decode cX5_travel 25 = .ok (.aload_n 0, 1) := by decide +kernel
theorem dX5_travel_26 : decode cX5_travel 26 = .ok (.getfield 49, 3) := by decide +kernel
theorem dX5_travel_29 : decode cX5_travel 29 = .ok (.invokevirtual 272, 3) := by decide +kernel
theorem dX5_travel_32 : decode cX5_travel 32 = .ok (.aload_n 0, 1) := by decide +kernel
theorem dX5_travel_33 : decode cX5_travel 33 = .ok (.getfield 49, 3) := by decide +kernel
theorem dX5_travel_36 : decode cX5_travel 36 = .ok (.invokevirtual 259, 3) := by decide +kernel
theorem dX5_travel_39 : decode cX5_travel 39 = .ok (.ireturn, 1) := by decide +kernel
theorem dX5_rest_0 : decode cX5_rest 0 = .ok (.aload_n 0, 1) := by decide +kernel
theorem dX5_rest_1 : decode cX5_rest 1 = .ok (.getfield 49, 3) := by decide +kernel
theorem dX5_rest_4 : decode cX5_rest 4 = .ok (.invokevirtual 275, 3) := by decide +kernel
theorem dX5_rest_7 : decode cX5_rest 7 = .ok (.ifCond .ne 14, 3) := by decide +kernel
theorem dX5_rest_10 : decode cX5_rest 10 = .ok (.new 87, 3) := by decide +kernel
theorem dX5_rest_13 : decode cX5_rest 13 = .ok (.dup, 1) := by decide +kernel
theorem dX5_rest_14 : decode cX5_rest 14 = .ok (.ldc_w 278, 3) := by decide +kernel
theorem dX5_rest_17 : decode cX5_rest 17 = .ok (.invokespecial 91, 3) := by decide +kernel
theorem dX5_rest_20 : decode cX5_rest 20 = .ok (.athrow, 1) := by decide +kernel
theorem dX5_rest_21 : decode cX5_rest 21 = .ok (.aload_n 0, 1) := by decide +kernel
theorem dX5_rest_22 : decode cX5_rest 22 = .ok (.getfield 61, 3) := by decide +kernel
theorem dX5_rest_25 : decode cX5_rest 25 = .ok (.aload_n 0, 1) := by decide +kernel
theorem dX5_rest_26 : decode cX5_rest 26 = .ok (.getfield 49, 3) := by decide +kernel
theorem dX5_rest_29 : decode cX5_rest 29 = .ok (.invokevirtual 272, 3) := by decide +kernel
theorem dX5_rest_32 : decode cX5_rest 32 = .ok (.aload_n 0, 1) := by decide +kernel
theorem dX5_rest_33 : decode cX5_rest 33 = .ok (.getfield 49, 3) := by decide +kernel
theorem dX5_rest_36 : decode cX5_rest 36 = .ok (.invokevirtual 280, 3) := by decide +kernel
theorem dX5_rest_39 : decode cX5_rest 39 = .ok (.aload_n 0, 1) := by decide +kernel
theorem dX5_rest_40 : decode cX5_rest 40 = .ok (.getfield 49, 3) := by decide +kernel
theorem dX5_rest_43 : decode cX5_rest 43 = .ok (.invokevirtual 169, 3) := by decide +kernel
theorem dX5_rest_46 : decode cX5_rest 46 = .ok (.ireturn, 1) := by decide +kernel
theorem dX5_drink_0 : decode cX5_drink 0 = .ok (.aload_n 0, 1) := by decide +kernel
theorem dX5_drink_1 : decode cX5_drink 1 = .ok (.getfield 49, 3) := by decide +kernel
theorem dX5_drink_4 : decode cX5_drink 4 = .ok (.getfield 37, 3) := by decide +kernel
theorem dX5_drink_7 : decode cX5_drink 7 = .ok (.aload_n 0, 1) := by decide +kernel
theorem dX5_drink_8 : decode cX5_drink 8 = .ok (.getfield 49, 3) := by decide +kernel
theorem dX5_drink_11 : decode cX5_drink 11 = .ok (.getfield 116, 3) := by decide +kernel
theorem dX5_drink_14 : decode cX5_drink 14 = .ok (.invokevirtual 156, 3) := by decide +kernel
theorem dX5_drink_17 : decode cX5_drink 17 = .ok (.istore_n 1, 1) := by decide +kernel
theorem dX5_drink_18 : decode cX5_drink 18 = .ok (.iload_n 1, 1) := by decide +kernel
theorem dX5_drink_19 : decode cX5_drink 19 = .ok (.iconst (-1), 1) := by decide +kernel
theorem dX5_drink_20 : decode cX5_drink 20 = .ok (.if_icmp .ne 14, 3) := by decide +kernel
theorem dX5_drink_23 : decode cX5_drink 23 = .ok (.new 87, 3) := by decide +kernel
theorem dX5_drink_26 : decode cX5_drink 26 = .ok (.dup, 1) := by decide +kernel
theorem dX5_drink_27 : decode cX5_drink 27 = .ok (.ldc_w 264, 3) := by decide +kernel
theorem dX5_drink_30 : decode cX5_drink 30 = .ok (.invokespecial 91, 3) := by decide +kernel
theorem dX5_drink_33 : decode cX5_drink 33 = .ok (.athrow, 1) := by decide +kernel
theorem dX5_drink_34 : decode cX5_drink 34 = .ok (.aload_n 0, 1) := by decide +kernel
theorem dX5_drink_35 : decode cX5_drink 35 = .ok (.getfield 61, 3) := by decide +kernel
theorem dX5_drink_38 : decode cX5_drink 38 = .ok (.aload_n 0, 1) := by decide +kernel
theorem dX5_drink_39 : decode cX5_drink 39 = .ok (.getfield 49, 3) := by decide +kernel
theorem dX5_drink_42 : decode cX5_drink 42 = .ok (.invokevirtual 272, 3) := by decide +kernel
theorem dX5_drink_45 : decode cX5_drink 45 = .ok (.aload_n 0, 1) := by decide +kernel
theorem dX5_drink_46 : decode cX5_drink 46 = .ok (.getfield 49, 3) := by decide +kernel
theorem dX5_drink_49 : decode cX5_drink 49 = .ok (.iload_n 1, 1) := by decide +kernel
theorem dX5_drink_50 : decode cX5_drink 50 = .ok (.aload_n 0, 1) := by decide +kernel
theorem dX5_drink_51 : decode cX5_drink 51 = .ok (.getfield 73, 3) := by decide +kernel
theorem dX5_drink_54 : decode cX5_drink 54 = .ok (.invokevirtual 266, 3) := by decide +kernel
theorem dX5_drink_57 : decode cX5_drink 57 = .ok (.aload_n 0, 1) := by decide +kernel
theorem dX5_drink_58 : decode cX5_drink 58 = .ok (.getfield 49, 3) := by decide +kernel
theorem dX5_drink_61 : decode cX5_drink 61 = .ok (.iload_n 1, 1) := by decide +kernel
theorem dX5_drink_62 : decode cX5_drink 62 = .ok (.aload_n 0, 1) := by decide +kernel
theorem dX5_drink_63 : decode cX5_drink 63 = .ok (.getfield 73, 3) := by decide +kernel
theorem dX5_drink_66 : decode cX5_drink 66 = .ok (.invokevirtual 283, 3) := by decide +kernel
theorem dX5_drink_69 : decode cX5_drink 69 = .ok (.ireturn, 1) := by decide +kernel
theorem dX5_setLeader_0 : decode cX5_setLeader 0 = .ok (.aload_n 0, 1) := by decide +kernel
theorem dX5_setLeader_1 : decode cX5_setLeader 1 = .ok (.iload_n 1, 1) := by decide +kernel
theorem dX5_setLeader_2 : decode cX5_setLeader 2 = .ok (.invokevirtual 181, 3) := by decide +kernel
theorem dX5_setLeader_5 : decode cX5_setLeader 5 = .ok (.aload_n 0, 1) := by decide +kernel
theorem dX5_setLeader_6 : decode cX5_setLeader 6 = .ok (.getfield 49, 3) := by decide +kernel
theorem dX5_setLeader_9 : decode cX5_setLeader 9 = .ok (.iload_n 1, 1) := by decide +kernel
theorem dX5_setLeader_10 : decode cX5_setLeader 10 = .ok (.invokevirtual 184, 3) := by decide +kernel
theorem dX5_setLeader_13 : decode cX5_setLeader 13 = .ok (.ifCond .ne 14, 3) := by decide +kernel
theorem dX5_setLeader_16 : decode cX5_setLeader 16 = .ok (.new 87, 3) := by decide +kernel
theorem dX5_setLeader_19 : decode cX5_setLeader 19 = .ok (.dup, 1) := by decide +kernel
theorem dX5_setLeader_20 : decode cX5_setLeader 20 = .ok (.ldc_w 287, 3) := by decide +kernel
theorem dX5_setLeader_23 : decode cX5_setLeader 23 = .ok (.invokespecial 91, 3) := by decide +kernel
theorem dX5_setLeader_26 : decode cX5_setLeader 26 = .ok (.athrow, 1) := by decide +kernel
theorem dX5_setLeader_27 : decode cX5_setLeader 27 = .ok (.aload_n 0, 1) := by decide +kernel
theorem dX5_setLeader_28 : decode cX5_setLeader 28 = .ok (.getfield 61, 3) := by decide +kernel
theorem dX5_setLeader_31 : decode cX5_setLeader 31 = .ok (.aload_n 0, 1) := by decide +kernel
theorem dX5_setLeader_32 : decode cX5_setLeader 32 = .ok (.getfield 49, 3) := by decide +kernel
theorem dX5_setLeader_35 : decode cX5_setLeader 35 = .ok (.invokevirtual 272, 3) := by decide +kernel
theorem dX5_setLeader_38 : decode cX5_setLeader 38 = .ok (.aload_n 0, 1) := by decide +kernel
theorem dX5_setLeader_39 : decode cX5_setLeader 39 = .ok (.getfield 49, 3) := by decide +kernel
theorem dX5_setLeader_42 : decode cX5_setLeader 42 = .ok (.getfield 172, 3) := by decide +kernel
theorem dX5_setLeader_45 : decode cX5_setLeader 45 = .ok (.istore_n 2, 1) := by decide +kernel
theorem dX5_setLeader_46 : decode cX5_setLeader 46 = .ok (.aload_n 0, 1) := by decide +kernel
theorem dX5_setLeader_47 : decode cX5_setLeader 47 = .ok (.getfield 49, 3) := by decide +kernel
theorem dX5_setLeader_50 : decode cX5_setLeader 50 = .ok (.iload_n 1, 1) := by decide +kernel
theorem dX5_setLeader_51 : decode cX5_setLeader 51 = .ok (.putfield 172, 3) := by decide +kernel
theorem dX5_setLeader_54 : decode cX5_setLeader 54 = .ok (.iload_n 2, 1) := by decide +kernel
theorem dX5_setLeader_55 : decode cX5_setLeader 55 = .ok (.ireturn, 1) := by decide +kernel
theorem dX5_setStopping_0 : decode cX5_setStopping 0 = .ok (.aload_n 0, 1) := by decide +kernel
theorem dX5_setStopping_1 : decode cX5_setStopping 1 = .ok (.getfield 61, 3) := by decide +kernel
theorem dX5_setStopping_4 : decode cX5_setStopping 4 = .ok (.aload_n 0, 1) := by decide +kernel
theorem dX5_setStopping_5 : decode cX5_setStopping 5 = .ok (.getfield 49, 3) := by decide +kernel
theorem dX5_setStopping_8 : decode cX5_setStopping 8 = .ok (.invokevirtual 272, 3) := by decide +kernel
theorem dX5_setStopping_11 : decode cX5_setStopping 11 = .ok (.aload_n 0, 1) := by decide +kernel
theorem dX5_setStopping_12 : decode cX5_setStopping 12 = .ok (.getfield 49, 3) := by decide +kernel
theorem dX5_setStopping_15 : decode cX5_setStopping 15 = .ok (.getfield 132, 3) := by decide +kernel
theorem dX5_setStopping_18 : decode cX5_setStopping 18 = .ok (.istore_n 2, 1) := by decide +kernel
theorem dX5_setStopping_19 : decode cX5_setStopping 19 = .ok (.aload_n 0, 1) := by decide +kernel
theorem dX5_setStopping_20 : decode cX5_setStopping 20 = .ok (.getfield 49, 3) := by decide +kernel
theorem dX5_setStopping_23 : decode cX5_setStopping 23 = .ok (.iload_n 1, 1) := by decide +kernel
theorem dX5_setStopping_24 : decode cX5_setStopping 24 = .ok (.putfield 132, 3) := by decide +kernel
theorem dX5_setStopping_27 : decode cX5_setStopping 27 = .ok (.iload_n 2, 1) := by decide +kernel
theorem dX5_setStopping_28 : decode cX5_setStopping 28 = .ok (.ireturn, 1) := by decide +kernel
theorem dX5_putOn_0 : decode cX5_putOn 0 = .ok (.aload_n 0, 1) := by decide +kernel
theorem dX5_putOn_1 : decode cX5_putOn 1 = .ok (.iload_n 1, 1) := by decide +kernel
theorem dX5_putOn_2 : decode cX5_putOn 2 = .ok (.invokevirtual 230, 3) := by decide +kernel
theorem dX5_putOn_5 : decode cX5_putOn 5 = .ok (.aload_n 0, 1) := by decide +kernel
theorem dX5_putOn_6 : decode cX5_putOn 6 = .ok (.iload_n 2, 1) := by decide +kernel
theorem dX5_putOn_7 : decode cX5_putOn 7 = .ok (.invokevirtual 181, 3) := by decide +kernel
theorem dX5_putOn_10 : decode cX5_putOn 10 = .ok (.aload_n 0, 1) := by decide +kernel
theorem dX5_putOn_11 : decode cX5_putOn 11 = .ok (.getfield 49, 3) := by decide +kernel
theorem dX5_putOn_14 : decode cX5_putOn 14 = .ok (.iload_n 2, 1) := by decide +kernel
theorem dX5_putOn_15 : decode cX5_putOn 15 = .ok (.invokevirtual 184, 3) := by decide +kernel
theorem dX5_putOn_18 : decode cX5_putOn 18 = .ok (.ifCond .eq 16, 3) := by decide +kernel
theorem dX5_putOn_21 : decode cX5_putOn 21 = .ok (.aload_n 0, 1) := by decide +kernel
theorem dX5_putOn_22 : decode cX5_putOn 22 = .ok (.getfield 49, 3) := by decide +kernel
theorem dX5_putOn_25 : decode cX5_putOn 25 = .ok (.getfield 239, 3) := by decide +kernel
theorem dX5_putOn_28 : decode cX5_putOn 28 = .ok (.iload_n 1, 1) := by decide +kernel
theorem dX5_putOn_29 : decode cX5_putOn 29 = .ok (.iaload, 1) := by decide +kernel
theorem dX5_putOn_30 : decode cX5_putOn 30 = .ok (.iload_n 2, 1) := by decide +kernel
theorem dX5_putOn_31 : decode cX5_putOn 31 = .ok (.if_icmp .ne 14, 3) := by decide +kernel
theorem dX5_putOn_34 : decode cX5_putOn 34 = .ok (.new 87, 3) := by decide +kernel
theorem dX5_putOn_37 : decode cX5_putOn 37 = .ok (.dup, 1) := by decide +kernel
theorem dX5_putOn_38 : decode cX5_putOn 38 = .ok (.ldc_w 289, 3) := by decide +kernel
theorem dX5_putOn_41 : decode cX5_putOn 41 = .ok (.invokespecial 91, 3) := by decide +kernel
theorem dX5_putOn_44 : decode cX5_putOn 44 = .ok (.athrow, 1) := by decide +kernel
theorem dX5_putOn_45 : decode cX5_putOn 45 = .ok (.aload_n 0, 1) := by decide +kernel
theorem dX5_putOn_46 : decode cX5_putOn 46 = .ok (.getfield 49, 3) := by decide +kernel
theorem dX5_putOn_49 : decode cX5_putOn 49 = .ok (.iload_n 1, 1) := by decide +kernel
theorem dX5_putOn_50 : decode cX5_putOn 50 = .ok (.invokevirtual 244, 3) := by decide +kernel
theorem dX5_putOn_53 : decode cX5_putOn 53 = .ok (.aload_n 0, 1) := by decide +kernel
theorem dX5_putOn_54 : decode cX5_putOn 54 = .ok (.getfield 49, 3) := by decide +kernel
theorem dX5_putOn_57 : decode cX5_putOn 57 = .ok (.getfield 116, 3) := by decide +kernel
theorem dX5_putOn_60 : decode cX5_putOn 60 = .ok (.if_icmp .eq 14, 3) := by decide +kernel
theorem dX5_putOn_63 : decode cX5_putOn 63 = .ok (.new 87, 3) := by decide +kernel
theorem dX5_putOn_66 : decode cX5_putOn 66 = .ok (.dup, 1) := by decide +kernel
theorem dX5_putOn_67 : decode cX5_putOn 67 = .ok (.ldc_w 291, 3) := by decide +kernel
theorem dX5_putOn_70 : decode cX5_putOn 70 = .ok (.invokespecial 91, 3) := by decide +kernel
theorem dX5_putOn_73 : decode cX5_putOn 73 = .ok (.athrow, 1) := by decide +kernel
theorem dX5_putOn_74 : decode cX5_putOn 74 = .ok (.aload_n 0, 1) := by decide +kernel
theorem dX5_putOn_75 : decode cX5_putOn 75 = .ok (.getfield 49, 3) := by decide +kernel
theorem dX5_putOn_78 : decode cX5_putOn 78 = .ok (.getfield 233, 3) := by decide +kernel
theorem dX5_putOn_81 : decode cX5_putOn 81 = .ok (.iload_n 1, 1) := by decide +kernel
theorem dX5_putOn_82 : decode cX5_putOn 82 = .ok (.iaload, 1) := by decide +kernel
theorem dX5_putOn_83 : decode cX5_putOn 83 = .ok (.aload_n 0, 1) := by decide +kernel
theorem dX5_putOn_84 : decode cX5_putOn 84 = .ok (.getfield 49, 3) := by decide +kernel
theorem dX5_putOn_87 : decode cX5_putOn 87 = .ok (.iload_n 2, 1) := by decide +kernel
theorem dX5_putOn_88 : decode cX5_putOn 88 = .ok (.invokevirtual 211, 3) := by decide +kernel
theorem dX5_putOn_91 : decode cX5_putOn 91 = .ok (.if_icmp .le 14, 3) := by decide +kernel
theorem dX5_putOn_94 : decode cX5_putOn 94 = .ok (.new 87, 3) := by decide +kernel
theorem dX5_putOn_97 : decode cX5_putOn 97 = .ok (.dup, 1) := by decide +kernel
theorem dX5_putOn_98 : decode cX5_putOn 98 = .ok (.ldc_w 293, 3) := by decide +kernel
theorem dX5_putOn_101 : decode cX5_putOn 101 = .ok (.invokespecial 91, 3) := by decide +kernel
theorem dX5_putOn_104 : decode cX5_putOn 104 = .ok (.athrow, 1) := by decide +kernel
theorem dX5_putOn_105 : decode cX5_putOn 105 = .ok (.aload_n 0, 1) := by decide +kernel
theorem dX5_putOn_106 : decode cX5_putOn 106 = .ok (.getfield 61, 3) := by decide +kernel
theorem dX5_putOn_109 : decode cX5_putOn 109 = .ok (.aload_n 0, 1) := by decide +kernel
theorem dX5_putOn_110 : decode cX5_putOn 110 = .ok (.getfield 49, 3) := by decide +kernel
theorem dX5_putOn_113 : decode cX5_putOn 113 = .ok (.invokevirtual 272, 3) := by decide +kernel
theorem dX5_putOn_116 : decode cX5_putOn 116 = .ok (.aload_n 0, 1) := by decide +kernel
theorem dX5_putOn_117 : decode cX5_putOn 117 = .ok (.getfield 49, 3) := by decide +kernel
theorem dX5_putOn_120 : decode cX5_putOn 120 = .ok (.iload_n 1, 1) := by decide +kernel
theorem dX5_putOn_121 : decode cX5_putOn 121 = .ok (.invokevirtual 295, 3) := by decide +kernel
theorem dX5_putOn_124 : decode cX5_putOn 124 = .ok (.aload_n 0, 1) := by decide +kernel
theorem dX5_putOn_125 : decode cX5_putOn 125 = .ok (.getfield 49, 3) := by decide +kernel
theorem dX5_putOn_128 : decode cX5_putOn 128 = .ok (.iload_n 1, 1) := by decide +kernel
theorem dX5_putOn_129 : decode cX5_putOn 129 = .ok (.iload_n 2, 1) := by decide +kernel
theorem dX5_putOn_130 : decode cX5_putOn 130 = .ok (.invokevirtual 298, 3) := by decide +kernel
theorem dX5_putOn_133 : decode cX5_putOn 133 = .ok (.aload_n 0, 1) := by decide +kernel
theorem dX5_putOn_134 : decode cX5_putOn 134 = .ok (.getfield 49, 3) := by decide +kernel
theorem dX5_putOn_137 : decode cX5_putOn 137 = .ok (.iload_n 2, 1) := by decide +kernel
theorem dX5_putOn_138 : decode cX5_putOn 138 = .ok (.invokevirtual 211, 3) := by decide +kernel
theorem dX5_putOn_141 : decode cX5_putOn 141 = .ok (.ireturn, 1) := by decide +kernel
theorem dX5_takeOff_0 : decode cX5_takeOff 0 = .ok (.aload_n 0, 1) := by decide +kernel
theorem dX5_takeOff_1 : decode cX5_takeOff 1 = .ok (.iload_n 1, 1) := by decide +kernel
theorem dX5_takeOff_2 : decode cX5_takeOff 2 = .ok (.invokevirtual 230, 3) := by decide +kernel
theorem dX5_takeOff_5 : decode cX5_takeOff 5 = .ok (.aload_n 0, 1) := by decide +kernel
theorem dX5_takeOff_6 : decode cX5_takeOff 6 = .ok (.getfield 49, 3) := by decide +kernel
theorem dX5_takeOff_9 : decode cX5_takeOff 9 = .ok (.getfield 239, 3) := by decide +kernel
theorem dX5_takeOff_12 : decode cX5_takeOff 12 = .ok (.iload_n 1, 1) := by decide +kernel
theorem dX5_takeOff_13 : decode cX5_takeOff 13 = .ok (.iaload, 1) := by decide +kernel
theorem dX5_takeOff_14 : decode cX5_takeOff 14 = .ok (.istore_n 2, 1) := by decide +kernel
theorem dX5_takeOff_15 : decode cX5_takeOff 15 = .ok (.iload_n 2, 1) := by decide +kernel
theorem dX5_takeOff_16 : decode cX5_takeOff 16 = .ok (.iconst (-1), 1) := by decide +kernel
theorem dX5_takeOff_17 : decode cX5_takeOff 17 = .ok (.if_icmp .ne 14, 3) := by decide +kernel
theorem dX5_takeOff_20 : decode cX5_takeOff 20 = .ok (.new 87, 3) := by decide +kernel
theorem dX5_takeOff_23 : decode cX5_takeOff 23 = .ok (.dup, 1) := by decide +kernel
theorem dX5_takeOff_24 : decode cX5_takeOff 24 = .ok (.ldc_w 302, 3) := by decide +kernel
theorem dX5_takeOff_27 : decode cX5_takeOff 27 = .ok (.invokespecial 91, 3) := by decide +kernel
theorem dX5_takeOff_30 : decode cX5_takeOff 30 = .ok (.athrow, 1) := by decide +kernel
theorem dX5_takeOff_31 : decode cX5_takeOff 31 = .ok (.aload_n 0, 1) := by decide +kernel
theorem dX5_takeOff_32 : decode cX5_takeOff 32 = .ok (.getfield 61, 3) := by decide +kernel
theorem dX5_takeOff_35 : decode cX5_takeOff 35 = .ok (.aload_n 0, 1) := by decide +kernel
theorem dX5_takeOff_36 : decode cX5_takeOff 36 = .ok (.getfield 49, 3) := by decide +kernel
theorem dX5_takeOff_39 : decode cX5_takeOff 39 = .ok (.invokevirtual 272, 3) := by decide +kernel
theorem dX5_takeOff_42 : decode cX5_takeOff 42 = .ok (.aload_n 0, 1) := by decide +kernel
theorem dX5_takeOff_43 : decode cX5_takeOff 43 = .ok (.getfield 49, 3) := by decide +kernel
theorem dX5_takeOff_46 : decode cX5_takeOff 46 = .ok (.iload_n 1, 1) := by decide +kernel
theorem dX5_takeOff_47 : decode cX5_takeOff 47 = .ok (.invokevirtual 295, 3) := by decide +kernel
theorem dX5_takeOff_50 : decode cX5_takeOff 50 = .ok (.iload_n 2, 1) := by decide +kernel
theorem dX5_takeOff_51 : decode cX5_takeOff 51 = .ok (.ireturn, 1) := by decide +kernel
theorem dX5_addLoad_0 : decode cX5_addLoad 0 = .ok (.iload_n 1, 1) := by decide +kernel
theorem dX5_addLoad_1 : decode cX5_addLoad 1 = .ok (.iconst 1, 1) := by decide +kernel
theorem dX5_addLoad_2 : decode cX5_addLoad 2 = .ok (.if_icmp .lt 20, 3) := by decide +kernel
theorem dX5_addLoad_5 : decode cX5_addLoad 5 = .ok (.iload_n 1, 1) := by decide +kernel
theorem dX5_addLoad_6 : decode cX5_addLoad 6 = .ok (.bipush 99, 2) := by decide +kernel
theorem dX5_addLoad_8 : decode cX5_addLoad 8 = .ok (.if_icmp .gt 14, 3) := by decide +kernel
theorem dX5_addLoad_11 : decode cX5_addLoad 11 = .ok (.iload_n 2, 1) := by decide +kernel
theorem dX5_addLoad_12 : decode cX5_addLoad 12 = .ok (.iconst 1, 1) := by decide +kernel
theorem dX5_addLoad_13 : decode cX5_addLoad 13 = .ok (.if_icmp .lt 9, 3) := by decide +kernel
theorem dX5_addLoad_16 : decode cX5_addLoad 16 = .ok (.iload_n 2, 1) := by decide +kernel
theorem dX5_addLoad_17 : decode cX5_addLoad 17 = .ok (.bipush 99, 2) := by decide +kernel
theorem dX5_addLoad_19 : decode cX5_addLoad 19 = .ok (.if_icmp .le 14, 3) := by decide +kernel
theorem dX5_addLoad_22 : decode cX5_addLoad 22 = .ok (.new 97, 3) := by decide +kernel
theorem dX5_addLoad_25 : decode cX5_addLoad 25 = .ok (.dup, 1) := by decide +kernel
theorem dX5_addLoad_26 : decode cX5_addLoad 26 = .ok (.ldc_w 304, 3) := by decide +kernel
theorem dX5_addLoad_29 : decode cX5_addLoad 29 = .ok (.invokespecial 101, 3) := by decide +kernel
theorem dX5_addLoad_32 : decode cX5_addLoad 32 = .ok (.athrow, 1) := by decide +kernel
theorem dX5_addLoad_33 : decode cX5_addLoad 33 = .ok (.aload_n 0, 1) := by decide +kernel
theorem dX5_addLoad_34 : decode cX5_addLoad 34 = .ok (.getfield 49, 3) := by decide +kernel
theorem dX5_addLoad_37 : decode cX5_addLoad 37 = .ok (.getfield 222, 3) := by decide +kernel
theorem dX5_addLoad_40 : decode cX5_addLoad 40 = .ok (.bipush 20, 2) := by decide +kernel
theorem dX5_addLoad_42 : decode cX5_addLoad 42 = .ok (.if_icmp .lt 14, 3) := by decide +kernel
theorem dX5_addLoad_45 : decode cX5_addLoad 45 = .ok (.new 87, 3) := by decide +kernel
theorem dX5_addLoad_48 : decode cX5_addLoad 48 = .ok (.dup, 1) := by decide +kernel
theorem dX5_addLoad_49 : decode cX5_addLoad 49 = .ok (.ldc_w 306, 3) := by decide +kernel
theorem dX5_addLoad_52 : decode cX5_addLoad 52 = .ok (.invokespecial 91, 3) := by decide +kernel
theorem dX5_addLoad_55 : decode cX5_addLoad 55 = .ok (.athrow, 1) := by decide +kernel
theorem dX5_addLoad_56 : decode cX5_addLoad 56 = .ok (.aload_n 0, 1) := by decide +kernel
theorem dX5_addLoad_57 : decode cX5_addLoad 57 = .ok (.getfield 61, 3) := by decide +kernel
theorem dX5_addLoad_60 : decode cX5_addLoad 60 = .ok (.aload_n 0, 1) := by decide +kernel
theorem dX5_addLoad_61 : decode cX5_addLoad 61 = .ok (.getfield 49, 3) := by decide +kernel
theorem dX5_addLoad_64 : decode cX5_addLoad 64 = .ok (.invokevirtual 272, 3) := by decide +kernel
theorem dX5_addLoad_67 : decode cX5_addLoad 67 = .ok (.aload_n 0, 1) := by decide +kernel
theorem dX5_addLoad_68 : decode cX5_addLoad 68 = .ok (.getfield 49, 3) := by decide +kernel
theorem dX5_addLoad_71 : decode cX5_addLoad 71 = .ok (.iload_n 1, 1) := by decide +kernel
theorem dX5_addLoad_72 : decode cX5_addLoad 72 = .ok (.iload_n 2, 1) := by decide +kernel
theorem dX5_addLoad_73 : decode cX5_addLoad 73 = .ok (.invokevirtual 308, 3) := by decide +kernel
theorem dX5_addLoad_76 : decode cX5_addLoad 76 = .ok (.ireturn, 1) := by decide +kernel
theorem dX5_undo_0 : decode cX5_undo 0 = .ok (.aload_n 0, 1) := by decide +kernel
theorem dX5_undo_1 : decode cX5_undo 1 = .ok (.getfield 61, 3) := by decide +kernel
theorem dX5_undo_4 : decode cX5_undo 4 = .ok (.getfield 311, 3) := by decide +kernel
theorem dX5_undo_7 : decode cX5_undo 7 = .ok (.ifCond .ne 14, 3) := by decide +kernel
theorem dX5_undo_10 : decode cX5_undo 10 = .ok (.new 87, 3) := by decide +kernel
theorem dX5_undo_13 : decode cX5_undo 13 = .ok (.dup, 1) := by decide +kernel
theorem dX5_undo_14 : decode cX5_undo 14 = .ok (.ldc_w 314, 3) := by decide +kernel
theorem dX5_undo_17 : decode cX5_undo 17 = .ok (.invokespecial 91, 3) := by decide +kernel
theorem dX5_undo_20 : decode cX5_undo 20 = .ok (.athrow, 1) := by decide +kernel
theorem dX5_undo_21 : decode cX5_undo 21 = .ok (.aload_n 0, 1) := by decide +kernel
theorem dX5_undo_22 : decode cX5_undo 22 = .ok (.getfield 61, 3) := by decide +kernel
theorem dX5_undo_25 : decode cX5_undo 25 = .ok (.aload_n 0, 1) := by decide +kernel
theorem dX5_undo_26 : decode cX5_undo 26 = .ok (.getfield 49, 3) := by decide +kernel
theorem dX5_undo_29 : decode cX5_undo 29 = .ok (.invokevirtual 316, 3) := by decide +kernel
theorem dX5_undo_32 : decode cX5_undo 32 = .ok (.aload_n 0, 1) := by decide +kernel
theorem dX5_undo_33 : decode cX5_undo 33 = .ok (.getfield 61, 3) := by decide +kernel
theorem dX5_undo_36 : decode cX5_undo 36 = .ok (.getfield 311, 3) := by decide +kernel
theorem dX5_undo_39 : decode cX5_undo 39 = .ok (.ireturn, 1) := by decide +kernel
theorem dX5_requireSlot_0 : decode cX5_requireSlot 0 = .ok (.iload_n 1, 1) := by decide +kernel
theorem dX5_requireSlot_1 : decode cX5_requireSlot 1 = .ok (.ifCond .lt 8, 3) := by decide +kernel
theorem dX5_requireSlot_4 : decode cX5_requireSlot 4 = .ok (.iload_n 1, 1) := by decide +kernel
theorem dX5_requireSlot_5 : decode cX5_requireSlot 5 = .ok (.iconst 2, 1) := by decide +kernel
theorem dX5_requireSlot_6 : decode cX5_requireSlot 6 = .ok (.if_icmp .lt 14, 3) := by decide +kernel
theorem dX5_requireSlot_9 : decode cX5_requireSlot 9 = .ok (.new 151, 3) := by decide +kernel
theorem dX5_requireSlot_12 : decode cX5_requireSlot 12 = .ok (.dup, 1) := by decide +kernel
theorem dX5_requireSlot_13 : decode cX5_requireSlot 13 = .ok (.ldc_w 319, 3) := by decide +kernel
theorem dX5_requireSlot_16 : decode cX5_requireSlot 16 = .ok (.invokespecial 155, 3) := by decide +kernel
theorem dX5_requireSlot_19 : decode cX5_requireSlot 19 = .ok (.athrow, 1) := by decide +kernel
theorem dX5_requireSlot_20 : decode cX5_requireSlot 20 = .ok (.return_, 1) := by decide +kernel
theorem dX5_saveSnapshot_0 : decode cX5_saveSnapshot 0 = .ok (.aload_n 0, 1) := by decide +kernel
theorem dX5_saveSnapshot_1 : decode cX5_saveSnapshot 1 = .ok (.iload_n 1, 1) := by decide +kernel
theorem dX5_saveSnapshot_2 : decode cX5_saveSnapshot 2 = .ok (.invokevirtual 321, 3) := by decide +kernel
theorem dX5_saveSnapshot_5 : decode cX5_saveSnapshot 5 = .ok (.aload_n 0, 1) := by decide +kernel
theorem dX5_saveSnapshot_6 : decode cX5_saveSnapshot 6 = .ok (.getfield 65, 3) := by decide +kernel
theorem dX5_saveSnapshot_9 : decode cX5_saveSnapshot 9 = .ok (.iload_n 1, 1) := by decide +kernel
theorem dX5_saveSnapshot_10 : decode cX5_saveSnapshot 10 = .ok (.aaload, 1) := by decide +kernel
theorem dX5_saveSnapshot_11 : decode cX5_saveSnapshot 11 = .ok (.aload_n 0, 1) := by decide +kernel
theorem dX5_saveSnapshot_12 : decode cX5_saveSnapshot 12 = .ok (.getfield 49, 3) := by decide +kernel
theorem dX5_saveSnapshot_15 : decode cX5_saveSnapshot 15 = .ok (.invokevirtual 52, 3) := by decide +kernel
theorem dX5_saveSnapshot_18 : decode cX5_saveSnapshot 18 = .ok (.aload_n 0, 1) := by decide +kernel
theorem dX5_saveSnapshot_19 : decode cX5_saveSnapshot 19 = .ok (.getfield 69, 3) := by decide +kernel
theorem dX5_saveSnapshot_22 : decode cX5_saveSnapshot 22 = .ok (.iload_n 1, 1) := by decide +kernel
theorem dX5_saveSnapshot_23 : decode cX5_saveSnapshot 23 = .ok (.iconst 1, 1) := by decide +kernel
theorem dX5_saveSnapshot_24 : decode cX5_saveSnapshot 24 = .ok (.bastore, 1) := by decide +kernel
theorem dX5_saveSnapshot_25 : decode cX5_saveSnapshot 25 = .ok (.aload_n 0, 1) := by decide +kernel
theorem dX5_saveSnapshot_26 : decode cX5_saveSnapshot 26 = .ok (.getfield 49, 3) := by decide +kernel
theorem dX5_saveSnapshot_29 : decode cX5_saveSnapshot 29 = .ok (.getfield 116, 3) := by decide +kernel
theorem dX5_saveSnapshot_32 : decode cX5_saveSnapshot 32 = .ok (.ireturn, 1) := by decide +kernel
theorem dX5_restoreSnapshot_0 : decode cX5_restoreSnapshot 0 = .ok (.aload_n 0, 1) := by decide +kernel
theorem dX5_restoreSnapshot_1 : decode cX5_restoreSnapshot 1 = .ok (.iload_n 1, 1) := by decide +kernel
theorem dX5_restoreSnapshot_2 : decode cX5_restoreSnapshot 2 = .ok (.invokevirtual 321, 3) := by decide +kernel
theorem dX5_restoreSnapshot_5 : decode cX5_restoreSnapshot 5 = .ok (.aload_n 0, 1) := by decide +kernel
theorem dX5_restoreSnapshot_6 : decode cX5_restoreSnapshot 6 = .ok (.getfield 69, 3) := by decide +kernel
theorem dX5_restoreSnapshot_9 : decode cX5_restoreSnapshot 9 = .ok (.iload_n 1, 1) := by decide +kernel
theorem dX5_restoreSnapshot_10 : decode cX5_restoreSnapshot 10 = .ok (.baload, 1) := by decide +kernel
theorem dX5_restoreSnapshot_11 : decode cX5_restoreSnapshot 11 = .ok (.ifCond .ne 14, 3) := by decide +kernel
theorem dX5_restoreSnapshot_14 : decode cX5_restoreSnapshot 14 = .ok (.new 110, 3) := by decide +kernel
theorem dX5_restoreSnapshot_17 : decode cX5_restoreSnapshot 17 = .ok (.dup, 1) := by decide +kernel
theorem dX5_restoreSnapshot_18 : decode cX5_restoreSnapshot 18 = .ok (.ldc_w 324, 3) := by decide +kernel
theorem dX5_restoreSnapshot_21 : decode cX5_restoreSnapshot 21 = .ok (.invokespecial 114, 3) := by decide +kernel
theorem dX5_restoreSnapshot_24 : decode cX5_restoreSnapshot 24 = .ok (.athrow, 1) := by decide +kernel
theorem dX5_restoreSnapshot_25 : decode cX5_restoreSnapshot 25 = .ok (.aload_n 0, 1) := by decide +kernel
theorem dX5_restoreSnapshot_26 : decode cX5_restoreSnapshot 26 = .ok (.getfield 61, 3) := by decide +kernel
theorem dX5_restoreSnapshot_29 : decode cX5_restoreSnapshot 29 = .ok (.aload_n 0, 1) := by decide +kernel
theorem dX5_restoreSnapshot_30 : decode cX5_restoreSnapshot 30 = .ok (.getfield 49, 3) := by decide +kernel
theorem dX5_restoreSnapshot_33 : decode cX5_restoreSnapshot 33 = .ok (.invokevirtual 272, 3) := by decide +kernel
theorem dX5_restoreSnapshot_36 : decode cX5_restoreSnapshot 36 = .ok (.aload_n 0, 1) := by decide +kernel
theorem dX5_restoreSnapshot_37 : decode cX5_restoreSnapshot 37 = .ok (.getfield 49, 3) := by decide +kernel
theorem dX5_restoreSnapshot_40 : decode cX5_restoreSnapshot 40 = .ok (.aload_n 0, 1) := by decide +kernel
theorem dX5_restoreSnapshot_41 : decode cX5_restoreSnapshot 41 = .ok (.getfield 65, 3) := by decide +kernel
theorem dX5_restoreSnapshot_44 : decode cX5_restoreSnapshot 44 = .ok (.iload_n 1, 1) := by decide +kernel
theorem dX5_restoreSnapshot_45 : decode cX5_restoreSnapshot 45 = .ok (.aaload, 1) := by decide +kernel
theorem dX5_restoreSnapshot_46 : decode cX5_restoreSnapshot 46 = .ok (.invokevirtual 52, 3) := by decide +kernel
theorem dX5_restoreSnapshot_49 : decode cX5_restoreSnapshot 49 = .ok (.aload_n 0, 1) := by decide +kernel
theorem dX5_restoreSnapshot_50 : decode cX5_restoreSnapshot 50 = .ok (.getfield 49, 3) := by decide +kernel
theorem dX5_restoreSnapshot_53 : decode cX5_restoreSnapshot 53 = .ok (.getfield 116, 3) := by decide +kernel
theorem dX5_restoreSnapshot_56 : decode cX5_restoreSnapshot 56 = .ok (.ireturn, 1) := by decide +kernel
theorem dX5_writtenByte_0 : decode cX5_writtenByte 0 = .ok (.iload_n 1, 1) := by decide +kernel
theorem dX5_writtenByte_1 : decode cX5_writtenByte 1 = .ok (.ifCond .lt 14, 3) := by decide +kernel
theorem dX5_writtenByte_4 : decode cX5_writtenByte 4 = .ok (.iload_n 1, 1) := by decide +kernel
theorem dX5_writtenByte_5 : decode cX5_writtenByte 5 = .ok (.aload_n 0, 1) := by decide +kernel
theorem dX5_writtenByte_6 : decode cX5_writtenByte 6 = .ok (.getfield 80, 3) := by decide +kernel
theorem dX5_writtenByte_9 : decode cX5_writtenByte 9 = .ok (.getfield 329, 3) := by decide +kernel
theorem dX5_writtenByte_12 : decode cX5_writtenByte 12 = .ok (.if_icmp .lt 14, 3) := by decide +kernel
theorem dX5_writtenByte_15 : decode cX5_writtenByte 15 = .ok (.new 151, 3) := by decide +kernel
theorem dX5_writtenByte_18 : decode cX5_writtenByte 18 = .ok (.dup, 1) := by decide +kernel
theorem dX5_writtenByte_19 : decode cX5_writtenByte 19 = .ok (.ldc_w 330, 3) := by decide +kernel
theorem dX5_writtenByte_22 : decode cX5_writtenByte 22 = .ok (.invokespecial 155, 3) := by decide +kernel
theorem dX5_writtenByte_25 : decode cX5_writtenByte 25 = .ok (.athrow, 1) := by decide +kernel
theorem dX5_writtenByte_26 : decode cX5_writtenByte 26 = .ok (.aload_n 0, 1) := by decide +kernel
theorem dX5_writtenByte_27 : decode cX5_writtenByte 27 = .ok (.getfield 80, 3) := by decide +kernel
theorem dX5_writtenByte_30 : decode cX5_writtenByte 30 = .ok (.getfield 332, 3) := by decide +kernel
theorem dX5_writtenByte_33 : decode cX5_writtenByte 33 = .ok (.iload_n 1, 1) := by decide +kernel
theorem dX5_writtenByte_34 : decode cX5_writtenByte 34 = .ok (.baload, 1) := by decide +kernel
theorem dX5_writtenByte_35 : decode cX5_writtenByte 35 = .ok (.ireturn, 1) := by decide +kernel
theorem dJ0_init_81219_0 : decode cJ0_init_81219 0 = .ok (.aload_n 0, 1) := by decide +kernel
theorem dJ0_init_81219_1 : decode cJ0_init_81219 1 = .ok (.aload_n 1, 1) := by decide +kernel
theorem dJ0_init_81219_2 : decode cJ0_init_81219 2 = .ok (.aconst_null, 1) := by decide +kernel
theorem dJ0_init_81219_3 : decode cJ0_init_81219 3 = .ok (.invokespecial 489, 3) := by decide +kernel
theorem dJ0_init_81219_6 : decode cJ0_init_81219 6 = .ok (.return_, 1) := by decide +kernel
theorem dJ0_length_8abf5_0 : decode cJ0_length_8abf5 0 = .ok (.aload_n 0, 1) := by decide +kernel
theorem dJ0_length_8abf5_1 : decode cJ0_length_8abf5 1 = .ok (.getfield 9, 3) := by decide +kernel
theorem dJ0_length_8abf5_4 : decode cJ0_length_8abf5 4 = .ok (.arraylength, 1) := by decide +kernel
theorem dJ0_length_8abf5_5 : decode cJ0_length_8abf5 5 = .ok (.aload_n 0, 1) := by decide +kernel
theorem dJ0_length_8abf5_6 : decode cJ0_length_8abf5 6 = .ok (.invokevirtual 335, 3) := by decide +kernel
theorem dJ0_length_8abf5_9 : decode cJ0_length_8abf5 9 = .ok (.ishr, 1) := by decide +kernel
theorem dJ0_length_8abf5_10 : decode cJ0_length_8abf5 10 = .ok (.ireturn, 1) := by decide +kernel
theorem dJ0_charAt_5068e_0 : decode cJ0_charAt_5068e 0 = .ok (.aload_n 0, 1) := by decide +kernel
theorem dJ0_charAt_5068e_1 : decode cJ0_charAt_5068e 1 = .ok (.invokevirtual 492, 3) := by decide +kernel
theorem dJ0_charAt_5068e_4 : decode cJ0_charAt_5068e 4 = .ok (.ifCond .eq 12, 3) := by decide +kernel
theorem dJ0_charAt_5068e_7 : decode cJ0_charAt_5068e 7 = .ok (.aload_n 0, 1) := by decide +kernel
theorem dJ0_charAt_5068e_8 : decode cJ0_charAt_5068e 8 = .ok (.getfield 9, 3) := by decide +kernel
theorem dJ0_charAt_5068e_11 : decode cJ0_charAt_5068e 11 = .ok (.iload_n 1, 1) := by decide +kernel
theorem dJ0_charAt_5068e_12 : decode cJ0_charAt_5068e 12 = .ok (.invokestatic 495, 3) := by decide +kernel
theorem dJ0_charAt_5068e_15 : decode cJ0_charAt_5068e 15 = .ok (.ireturn, 1) := by decide +kernel
theorem dJ0_charAt_5068e_16 : decode cJ0_charAt_5068e 16 = .ok (.aload_n 0, 1) := by decide +kernel
theorem dJ0_charAt_5068e_17 : decode cJ0_charAt_5068e 17 = .ok (.getfield 9, 3) := by decide +kernel
theorem dJ0_charAt_5068e_20 : decode cJ0_charAt_5068e 20 = .ok (.iload_n 1, 1) := by decide +kernel
theorem dJ0_charAt_5068e_21 : decode cJ0_charAt_5068e 21 = .ok (.invokestatic 498, 3) := by decide +kernel
theorem dJ0_charAt_5068e_24 : decode cJ0_charAt_5068e 24 = .ok (.ireturn, 1) := by decide +kernel
theorem dJ0_getBytes_840e7_0 : decode cJ0_getBytes_840e7 0 = .ok (.aload_n 0, 1) := by decide +kernel
theorem dJ0_getBytes_840e7_1 : decode cJ0_getBytes_840e7 1 = .ok (.invokevirtual 335, 3) := by decide +kernel
theorem dJ0_getBytes_840e7_4 : decode cJ0_getBytes_840e7 4 = .ok (.iload_n 3, 1) := by decide +kernel
theorem dJ0_getBytes_840e7_5 : decode cJ0_getBytes_840e7 5 = .ok (.if_icmp .ne 23, 3) := by decide +kernel
theorem dJ0_getBytes_840e7_8 : decode cJ0_getBytes_840e7 8 = .ok (.aload_n 0, 1) := by decide +kernel
theorem dJ0_getBytes_840e7_9 : decode cJ0_getBytes_840e7 9 = .ok (.getfield 9, 3) := by decide +kernel
theorem dJ0_getBytes_840e7_12 : decode cJ0_getBytes_840e7 12 = .ok (.iconst 0, 1) := by decide +kernel
theorem dJ0_getBytes_840e7_13 : decode cJ0_getBytes_840e7 13 = .ok (.aload_n 1, 1) := by decide +kernel
theorem dJ0_getBytes_840e7_14 : decode cJ0_getBytes_840e7 14 = .ok (.iload_n 2, 1) := by decide +kernel
theorem dJ0_getBytes_840e7_15 : decode cJ0_getBytes_840e7 15 = .ok (.iload_n 3, 1) := by decide +kernel
theorem dJ0_getBytes_840e7_16 : decode cJ0_getBytes_840e7 16 = .ok (.ishl, 1) := by decide +kernel
theorem dJ0_getBytes_840e7_17 : decode cJ0_getBytes_840e7 17 = .ok (.aload_n 0, 1) := by decide +kernel
theorem dJ0_getBytes_840e7_18 : decode cJ0_getBytes_840e7 18 = .ok (.getfield 9, 3) := by decide +kernel
theorem dJ0_getBytes_840e7_21 : decode cJ0_getBytes_840e7 21 = .ok (.arraylength, 1) := by decide +kernel
theorem dJ0_getBytes_840e7_22 : decode cJ0_getBytes_840e7 22 = .ok (.invokestatic 212, 3) := by decide +kernel
theorem dJ0_getBytes_840e7_25 : decode cJ0_getBytes_840e7 25 = .ok (.goto 18, 3) := by decide +kernel
theorem dJ0_getBytes_840e7_28 : decode cJ0_getBytes_840e7 28 = .ok (.aload_n 0, 1) := by decide +kernel
theorem dJ0_getBytes_840e7_29 : decode cJ0_getBytes_840e7 29 = .ok (.getfield 9, 3) := by decide +kernel
theorem dJ0_getBytes_840e7_32 : decode cJ0_getBytes_840e7 32 = .ok (.iconst 0, 1) := by decide +kernel
theorem dJ0_getBytes_840e7_33 : decode cJ0_getBytes_840e7 33 = .ok (.aload_n 1, 1) := by decide +kernel
theorem dJ0_getBytes_840e7_34 : decode cJ0_getBytes_840e7 34 = .ok (.iload_n 2, 1) := by decide +kernel
theorem dJ0_getBytes_840e7_35 : decode cJ0_getBytes_840e7 35 = .ok (.aload_n 0, 1) := by decide +kernel
theorem dJ0_getBytes_840e7_36 : decode cJ0_getBytes_840e7 36 = .ok (.getfield 9, 3) := by decide +kernel
theorem dJ0_getBytes_840e7_39 : decode cJ0_getBytes_840e7 39 = .ok (.arraylength, 1) := by decide +kernel
theorem dJ0_getBytes_840e7_40 : decode cJ0_getBytes_840e7 40 = .ok (.invokestatic 106, 3) := by decide +kernel
theorem dJ0_getBytes_840e7_43 : decode cJ0_getBytes_840e7 43 = .ok (.return_, 1) := by decide +kernel
theorem dJ0_init_db425_0 : decode cJ0_init_db425 0 = .ok (.aload_n 0, 1) := by decide +kernel
theorem dJ0_init_db425_1 : decode cJ0_init_db425 1 = .ok (.invokespecial 1, 3) := by decide +kernel
theorem dJ0_init_db425_4 : decode cJ0_init_db425 4 = .ok (.aload_n 1, 1) := by decide +kernel
theorem dJ0_init_db425_5 : decode cJ0_init_db425 5 = .ok (.invokevirtual 552, 3) := by decide +kernel
theorem dJ0_init_db425_8 : decode cJ0_init_db425 8 = .ok (.astore_n 3, 1) := by decide +kernel
theorem dJ0_init_db425_9 : decode cJ0_init_db425 9 = .ok (.aload_n 1, 1) := by decide +kernel
theorem dJ0_init_db425_10 : decode cJ0_init_db425 10 = .ok (.invokevirtual 549, 3) := by decide +kernel
theorem dJ0_init_db425_13 : decode cJ0_init_db425 13 = .ok (.istore 4, 2) := by decide +kernel
theorem dJ0_init_db425_15 : decode cJ0_init_db425 15 = .ok (.aload_n 1, 1) := by decide +kernel
theorem dJ0_init_db425_16 : decode cJ0_init_db425 16 = .ok (.invokevirtual 1047, 3) := by decide +kernel
theorem dJ0_init_db425_19 : decode cJ0_init_db425 19 = .ok (.ifCond .eq 22, 3) := by decide +kernel
theorem dJ0_init_db425_22 : decode cJ0_init_db425 22 = .ok (.aload_n 0, 1) := by decide +kernel
theorem dJ0_init_db425_23 : decode cJ0_init_db425 23 = .ok (.iconst 0, 1) := by decide +kernel
theorem dJ0_init_db425_24 : decode cJ0_init_db425 24 = .ok (.putfield 15, 3) := by decide +kernel
theorem dJ0_init_db425_27 : decode cJ0_init_db425 27 = .ok (.aload_n 0, 1) := by decide +kernel
theorem dJ0_init_db425_28 : decode cJ0_init_db425 28 = .ok (.aload_n 3, 1) := by decide +kernel
theorem dJ0_init_db425_29 : decode cJ0_init_db425 29 = .ok (.iconst 0, 1) := by decide +kernel
theorem dJ0_init_db425_30 : decode cJ0_init_db425 30 = .ok (.iload 4, 2) := by decide +kernel
theorem dJ0_init_db425_32 : decode cJ0_init_db425 32 = .ok (.invokestatic 54, 3) := by decide +kernel
theorem dJ0_init_db425_35 : decode cJ0_init_db425 35 = .ok (.putfield 9, 3) := by decide +kernel
theorem dJ0_init_db425_38 : decode cJ0_init_db425 38 = .ok (.goto 59, 3) := by decide +kernel
theorem dJ0_init_db425_41 : decode cJ0_init_db425 41 = .ok (.getstatic 38, 3) := by decide +kernel
theorem dJ0_init_db425_44 : decode cJ0_init_db425 44 = .ok (.ifCond .eq 35, 3) := by decide +kernel
theorem dJ0_init_db425_47 : decode cJ0_init_db425 47 = .ok (.aload_n 1, 1) := by decide +kernel
theorem dJ0_init_db425_48 : decode cJ0_init_db425 48 = .ok (.getfield 1048, 3) := by decide +kernel
theorem dJ0_init_db425_51 : decode cJ0_init_db425 51 = .ok (.ifCond .eq 28, 3) := by decide +kernel
theorem dJ0_init_db425_54 : decode cJ0_init_db425 54 = .ok (.aload_n 0, 1) := by decide +kernel
theorem dJ0_init_db425_55 : decode cJ0_init_db425 55 = .ok (.aload_n 3, 1) := by decide +kernel
theorem dJ0_init_db425_56 : decode cJ0_init_db425 56 = .ok (.iconst 0, 1) := by decide +kernel
theorem dJ0_init_db425_57 : decode cJ0_init_db425 57 = .ok (.iload 4, 2) := by decide +kernel
theorem dJ0_init_db425_59 : decode cJ0_init_db425 59 = .ok (.invokestatic 1051, 3) := by decide +kernel
theorem dJ0_init_db425_62 : decode cJ0_init_db425 62 = .ok (.putfield 9, 3) := by decide +kernel
theorem dJ0_init_db425_65 : decode cJ0_init_db425 65 = .ok (.aload_n 0, 1) := by decide +kernel
theorem dJ0_init_db425_66 : decode cJ0_init_db425 66 = .ok (.aload_n 0, 1) := by decide +kernel
theorem dJ0_init_db425_67 : decode cJ0_init_db425 67 = .ok (.getfield 9, 3) := by decide +kernel
theorem dJ0_init_db425_70 : decode cJ0_init_db425 70 = .ok (.iload 4, 2) := by decide +kernel
theorem dJ0_init_db425_72 : decode cJ0_init_db425 72 = .ok (.invokestatic 47, 3) := by decide +kernel
theorem dJ0_init_db425_75 : decode cJ0_init_db425 75 = .ok (.putfield 15, 3) := by decide +kernel
theorem dJ0_init_db425_78 : decode cJ0_init_db425 78 = .ok (.return_, 1) := by decide +kernel
theorem dJ0_init_db425_79 : decode cJ0_init_db425 79 = .ok (.aload_n 0, 1) := by decide +kernel
theorem dJ0_init_db425_80 : decode cJ0_init_db425 80 = .ok (.iconst 1, 1) := by decide +kernel
theorem dJ0_init_db425_81 : decode cJ0_init_db425 81 = .ok (.putfield 15, 3) := by decide +kernel
theorem dJ0_init_db425_84 : decode cJ0_init_db425 84 = .ok (.aload_n 0, 1) := by decide +kernel
theorem dJ0_init_db425_85 : decode cJ0_init_db425 85 = .ok (.aload_n 3, 1) := by decide +kernel
theorem dJ0_init_db425_86 : decode cJ0_init_db425 86 = .ok (.iconst 0, 1) := by decide +kernel
theorem dJ0_init_db425_87 : decode cJ0_init_db425 87 = .ok (.iload 4, 2) := by decide +kernel
theorem dJ0_init_db425_89 : decode cJ0_init_db425 89 = .ok (.iconst 1, 1) := by decide +kernel
theorem dJ0_init_db425_90 : decode cJ0_init_db425 90 = .ok (.ishl, 1) := by decide +kernel
theorem dJ0_init_db425_91 : decode cJ0_init_db425 91 = .ok (.invokestatic 54, 3) := by decide +kernel
theorem dJ0_init_db425_94 : decode cJ0_init_db425 94 = .ok (.putfield 9, 3) := by decide +kernel
theorem dJ0_init_db425_97 : decode cJ0_init_db425 97 = .ok (.return_, 1) := by decide +kernel
theorem dJ0_coder_7d493_0 : decode cJ0_coder_7d493 0 = .ok (.getstatic 38, 3) := by decide +kernel
theorem dJ0_coder_7d493_3 : decode cJ0_coder_7d493 3 = .ok (.ifCond .eq 10, 3) := by decide +kernel
theorem dJ0_coder_7d493_6 : decode cJ0_coder_7d493 6 = .ok (.aload_n 0, 1) := by decide +kernel
theorem dJ0_coder_7d493_7 : decode cJ0_coder_7d493 7 = .ok (.getfield 15, 3) := by decide +kernel
theorem dJ0_coder_7d493_10 : decode cJ0_coder_7d493 10 = .ok (.goto 4, 3) := by decide +kernel
theorem dJ0_coder_7d493_13 : decode cJ0_coder_7d493 13 = .ok (.iconst 1, 1) := by decide +kernel
theorem dJ0_coder_7d493_14 : decode cJ0_coder_7d493 14 = .ok (.ireturn, 1) := by decide +kernel
theorem dJ0_isLatin1_aae02_0 : decode cJ0_isLatin1_aae02 0 = .ok (.getstatic 38, 3) := by decide +kernel
theorem dJ0_isLatin1_aae02_3 : decode cJ0_isLatin1_aae02 3 = .ok (.ifCond .eq 14, 3) := by decide +kernel
theorem dJ0_isLatin1_aae02_6 : decode cJ0_isLatin1_aae02 6 = .ok (.aload_n 0, 1) := by decide +kernel
theorem dJ0_isLatin1_aae02_7 : decode cJ0_isLatin1_aae02 7 = .ok (.getfield 15, 3) := by decide +kernel
theorem dJ0_isLatin1_aae02_10 : decode cJ0_isLatin1_aae02 10 = .ok (.ifCond .ne 7, 3) := by decide +kernel
theorem dJ0_isLatin1_aae02_13 : decode cJ0_isLatin1_aae02 13 = .ok (.iconst 1, 1) := by decide +kernel
theorem dJ0_isLatin1_aae02_14 : decode cJ0_isLatin1_aae02 14 = .ok (.goto 4, 3) := by decide +kernel
theorem dJ0_isLatin1_aae02_17 : decode cJ0_isLatin1_aae02 17 = .ok (.iconst 0, 1) := by decide +kernel
theorem dJ0_isLatin1_aae02_18 : decode cJ0_isLatin1_aae02 18 = .ok (.ireturn, 1) := by decide +kernel
theorem dJ0_checkIndex_df160_0 : decode cJ0_checkIndex_df160 0 = .ok (.iload_n 0, 1) := by decide +kernel
theorem dJ0_checkIndex_df160_1 : decode cJ0_checkIndex_df160 1 = .ok (.iload_n 1, 1) := by decide +kernel
theorem dJ0_checkIndex_df160_2 : decode cJ0_checkIndex_df160 2 = .ok (.getstatic 1053, 3) := by decide +kernel
theorem dJ0_checkIndex_df160_5 : decode cJ0_checkIndex_df160 5 = .ok (.invokestatic 1059, 3) := by decide +kernel
theorem dJ0_checkIndex_df160_8 : decode cJ0_checkIndex_df160 8 = .ok (.pop, 1) := by decide +kernel
theorem dJ0_checkIndex_df160_9 : decode cJ0_checkIndex_df160 9 = .ok (.return_, 1) := by decide +kernel
theorem dJ0_checkBoundsOffCount_cabcc_0 : decode cJ0_checkBoundsOffCount_cabcc 0 = .ok (.iload_n 0, 1) := by decide +kernel
theorem dJ0_checkBoundsOffCount_cabcc_1 : decode cJ0_checkBoundsOffCount_cabcc 1 = .ok (.iload_n 1, 1) := by decide +kernel
theorem dJ0_checkBoundsOffCount_cabcc_2 : decode cJ0_checkBoundsOffCount_cabcc 2 = .ok (.iload_n 2, 1) := by decide +kernel
theorem dJ0_checkBoundsOffCount_cabcc_3 : decode cJ0_checkBoundsOffCount_cabcc 3 = .ok (.getstatic 1053, 3) := by decide +kernel
theorem dJ0_checkBoundsOffCount_cabcc_6 : decode cJ0_checkBoundsOffCount_cabcc 6 = .ok (.invokestatic 1065, 3) := by decide +kernel
theorem dJ0_checkBoundsOffCount_cabcc_9 : decode cJ0_checkBoundsOffCount_cabcc 9 = .ok (.ireturn, 1) := by decide +kernel
theorem dJ0_checkBoundsBeginEnd_23922_0 : decode cJ0_checkBoundsBeginEnd_23922 0 = .ok (.iload_n 0, 1) := by decide +kernel
theorem dJ0_checkBoundsBeginEnd_23922_1 : decode cJ0_checkBoundsBeginEnd_23922 1 = .ok (.iload_n 1, 1) := by decide +kernel
theorem dJ0_checkBoundsBeginEnd_23922_2 : decode cJ0_checkBoundsBeginEnd_23922 2 = .ok (.iload_n 2, 1) := by decide +kernel
theorem dJ0_checkBoundsBeginEnd_23922_3 : decode cJ0_checkBoundsBeginEnd_23922 3 = .ok (.getstatic 1053, 3) := by decide +kernel
theorem dJ0_checkBoundsBeginEnd_23922_6 : decode cJ0_checkBoundsBeginEnd_23922 6 = .ok (.invokestatic 1062, 3) := by decide +kernel
theorem dJ0_checkBoundsBeginEnd_23922_9 : decode cJ0_checkBoundsBeginEnd_23922 9 = .ok (.pop, 1) := by decide +kernel
theorem dJ0_checkBoundsBeginEnd_23922_10 : decode cJ0_checkBoundsBeginEnd_23922 10 = .ok (.return_, 1) := by decide +kernel
theorem dJ1_charAt_3b067_0 : decode cJ1_charAt_3b067 0 = .ok (.iload_n 1, 1) := by decide +kernel
theorem dJ1_charAt_3b067_1 : decode cJ1_charAt_3b067 1 = .ok (.aload_n 0, 1) := by decide +kernel
theorem dJ1_charAt_3b067_2 : decode cJ1_charAt_3b067 2 = .ok (.arraylength, 1) := by decide +kernel
theorem dJ1_charAt_3b067_3 : decode cJ1_charAt_3b067 3 = .ok (.invokestatic 9, 3) := by decide +kernel
theorem dJ1_charAt_3b067_6 : decode cJ1_charAt_3b067 6 = .ok (.aload_n 0, 1) := by decide +kernel
theorem dJ1_charAt_3b067_7 : decode cJ1_charAt_3b067 7 = .ok (.iload_n 1, 1) := by decide +kernel
theorem dJ1_charAt_3b067_8 : decode cJ1_charAt_3b067 8 = .ok (.baload, 1) := by decide +kernel
theorem dJ1_charAt_3b067_9 : decode cJ1_charAt_3b067 9 = .ok (.sipush 255, 3) := by decide +kernel
theorem dJ1_charAt_3b067_12 : decode cJ1_charAt_3b067 12 = .ok (.iand, 1) := by decide +kernel
theorem dJ1_charAt_3b067_13 : decode cJ1_charAt_3b067 13 = .ok (.i2c, 1) := by decide +kernel
theorem dJ1_charAt_3b067_14 : decode cJ1_charAt_3b067 14 = .ok (.ireturn, 1) := by decide +kernel
theorem dJ1_canEncode_fc78d_0 : decode cJ1_canEncode_fc78d 0 = .ok (.iload_n 0, 1) := by decide +kernel
theorem dJ1_canEncode_fc78d_1 : decode cJ1_canEncode_fc78d 1 = .ok (.sipush 255, 3) := by decide +kernel
theorem dJ1_canEncode_fc78d_4 : decode cJ1_canEncode_fc78d 4 = .ok (.if_icmp .gt 7, 3) := by decide +kernel
theorem dJ1_canEncode_fc78d_7 : decode cJ1_canEncode_fc78d 7 = .ok (.iconst 1, 1) := by decide +kernel
theorem dJ1_canEncode_fc78d_8 : decode cJ1_canEncode_fc78d 8 = .ok (.goto 4, 3) := by decide +kernel
theorem dJ1_canEncode_fc78d_11 : decode cJ1_canEncode_fc78d 11 = .ok (.iconst 0, 1) := by decide +kernel
theorem dJ1_canEncode_fc78d_12 : decode cJ1_canEncode_fc78d 12 = .ok (.ireturn, 1) := by decide +kernel
theorem dJ1_inflate_0e8fd_0 : decode cJ1_inflate_0e8fd 0 = .ok (.aload_n 0, 1) := by decide +kernel
theorem dJ1_inflate_0e8fd_1 : decode cJ1_inflate_0e8fd 1 = .ok (.iload_n 1, 1) := by decide +kernel
theorem dJ1_inflate_0e8fd_2 : decode cJ1_inflate_0e8fd 2 = .ok (.aload_n 2, 1) := by decide +kernel
theorem dJ1_inflate_0e8fd_3 : decode cJ1_inflate_0e8fd 3 = .ok (.iload_n 3, 1) := by decide +kernel
theorem dJ1_inflate_0e8fd_4 : decode cJ1_inflate_0e8fd 4 = .ok (.iload 4, 2) := by decide +kernel
theorem dJ1_inflate_0e8fd_6 : decode cJ1_inflate_0e8fd 6 = .ok (.invokestatic 240, 3) := by decide +kernel
theorem dJ1_inflate_0e8fd_9 : decode cJ1_inflate_0e8fd 9 = .ok (.return_, 1) := by decide +kernel
theorem dJ3_checkIndex_8e157_0 : decode cJ3_checkIndex_8e157 0 = .ok (.iload_n 0, 1) := by decide +kernel
theorem dJ3_checkIndex_8e157_1 : decode cJ3_checkIndex_8e157 1 = .ok (.ifCond .lt 8, 3) := by decide +kernel
theorem dJ3_checkIndex_8e157_4 : decode cJ3_checkIndex_8e157 4 = .ok (.iload_n 0, 1) := by decide +kernel
theorem dJ3_checkIndex_8e157_5 : decode cJ3_checkIndex_8e157 5 = .ok (.iload_n 1, 1) := by decide +kernel
theorem dJ3_checkIndex_8e157_6 : decode cJ3_checkIndex_8e157 6 = .ok (.if_icmp .lt 10, 3) := by decide +kernel
theorem dJ3_checkIndex_8e157_9 : decode cJ3_checkIndex_8e157 9 = .ok (.aload_n 2, 1) := by decide +kernel
theorem dJ3_checkIndex_8e157_10 : decode cJ3_checkIndex_8e157 10 = .ok (.iload_n 0, 1) := by decide +kernel
theorem dJ3_checkIndex_8e157_11 : decode cJ3_checkIndex_8e157 11 = .ok (.iload_n 1, 1) := by decide +kernel
theorem dJ3_checkIndex_8e157_12 : decode cJ3_checkIndex_8e157 12 = .ok (.invokestatic 95, 3) := by decide +kernel
theorem dJ3_checkIndex_8e157_15 : decode cJ3_checkIndex_8e157 15 = .ok (.athrow, 1) := by decide +kernel
theorem dJ3_checkIndex_8e157_16 : decode cJ3_checkIndex_8e157 16 = .ok (.iload_n 0, 1) := by decide +kernel
theorem dJ3_checkIndex_8e157_17 : decode cJ3_checkIndex_8e157 17 = .ok (.ireturn, 1) := by decide +kernel
theorem dJ3_checkFromToIndex_8c36e_0 : decode cJ3_checkFromToIndex_8c36e 0 = .ok (.iload_n 0, 1) := by decide +kernel
theorem dJ3_checkFromToIndex_8c36e_1 : decode cJ3_checkFromToIndex_8c36e 1 = .ok (.ifCond .lt 13, 3) := by decide +kernel
theorem dJ3_checkFromToIndex_8c36e_4 : decode cJ3_checkFromToIndex_8c36e 4 = .ok (.iload_n 0, 1) := by decide +kernel
theorem dJ3_checkFromToIndex_8c36e_5 : decode cJ3_checkFromToIndex_8c36e 5 = .ok (.iload_n 1, 1) := by decide +kernel
theorem dJ3_checkFromToIndex_8c36e_6 : decode cJ3_checkFromToIndex_8c36e 6 = .ok (.if_icmp .gt 8, 3) := by decide +kernel
theorem dJ3_checkFromToIndex_8c36e_9 : decode cJ3_checkFromToIndex_8c36e 9 = .ok (.iload_n 1, 1) := by decide +kernel
theorem dJ3_checkFromToIndex_8c36e_10 : decode cJ3_checkFromToIndex_8c36e 10 = .ok (.iload_n 2, 1) := by decide +kernel
theorem dJ3_checkFromToIndex_8c36e_11 : decode cJ3_checkFromToIndex_8c36e 11 = .ok (.if_icmp .le 11, 3) := by decide +kernel
theorem dJ3_checkFromToIndex_8c36e_14 : decode cJ3_checkFromToIndex_8c36e 14 = .ok (.aload_n 3, 1) := by decide +kernel
theorem dJ3_checkFromToIndex_8c36e_15 : decode cJ3_checkFromToIndex_8c36e 15 = .ok (.iload_n 0, 1) := by decide +kernel
theorem dJ3_checkFromToIndex_8c36e_16 : decode cJ3_checkFromToIndex_8c36e 16 = .ok (.iload_n 1, 1) := by decide +kernel
theorem dJ3_checkFromToIndex_8c36e_17 : decode cJ3_checkFromToIndex_8c36e 17 = .ok (.iload_n 2, 1) := by decide +kernel
theorem dJ3_checkFromToIndex_8c36e_18 : decode cJ3_checkFromToIndex_8c36e 18 = .ok (.invokestatic 99, 3) := by decide +kernel
theorem dJ3_checkFromToIndex_8c36e_21 : decode cJ3_checkFromToIndex_8c36e 21 = .ok (.athrow, 1) := by decide +kernel
theorem dJ3_checkFromToIndex_8c36e_22 : decode cJ3_checkFromToIndex_8c36e 22 = .ok (.iload_n 0, 1) := by decide +kernel
theorem dJ3_checkFromToIndex_8c36e_23 : decode cJ3_checkFromToIndex_8c36e 23 = .ok (.ireturn, 1) := by decide +kernel
theorem dJ3_checkFromIndexSize_8c36e_0 : decode cJ3_checkFromIndexSize_8c36e 0 = .ok (.iload_n 2, 1) := by decide +kernel
theorem dJ3_checkFromIndexSize_8c36e_1 : decode cJ3_checkFromIndexSize_8c36e 1 = .ok (.iload_n 0, 1) := by decide +kernel
theorem dJ3_checkFromIndexSize_8c36e_2 : decode cJ3_checkFromIndexSize_8c36e 2 = .ok (.ior, 1) := by decide +kernel
theorem dJ3_checkFromIndexSize_8c36e_3 : decode cJ3_checkFromIndexSize_8c36e 3 = .ok (.iload_n 1, 1) := by decide +kernel
theorem dJ3_checkFromIndexSize_8c36e_4 : decode cJ3_checkFromIndexSize_8c36e 4 = .ok (.ior, 1) := by decide +kernel
theorem dJ3_checkFromIndexSize_8c36e_5 : decode cJ3_checkFromIndexSize_8c36e 5 = .ok (.ifCond .lt 10, 3) := by decide +kernel
theorem dJ3_checkFromIndexSize_8c36e_8 : decode cJ3_checkFromIndexSize_8c36e 8 = .ok (.iload_n 1, 1) := by decide +kernel
theorem dJ3_checkFromIndexSize_8c36e_9 : decode cJ3_checkFromIndexSize_8c36e 9 = .ok (.iload_n 2, 1) := by decide +kernel
theorem dJ3_checkFromIndexSize_8c36e_10 : decode cJ3_checkFromIndexSize_8c36e 10 = .ok (.iload_n 0, 1) := by decide +kernel
theorem dJ3_checkFromIndexSize_8c36e_11 : decode cJ3_checkFromIndexSize_8c36e 11 = .ok (.isub, 1) := by decide +kernel
theorem dJ3_checkFromIndexSize_8c36e_12 : decode cJ3_checkFromIndexSize_8c36e 12 = .ok (.if_icmp .le 11, 3) := by decide +kernel
theorem dJ3_checkFromIndexSize_8c36e_15 : decode cJ3_checkFromIndexSize_8c36e 15 = .ok (.aload_n 3, 1) := by decide +kernel
theorem dJ3_checkFromIndexSize_8c36e_16 : decode cJ3_checkFromIndexSize_8c36e 16 = .ok (.iload_n 0, 1) := by decide +kernel
theorem dJ3_checkFromIndexSize_8c36e_17 : decode cJ3_checkFromIndexSize_8c36e 17 = .ok (.iload_n 1, 1) := by decide +kernel
theorem dJ3_checkFromIndexSize_8c36e_18 : decode cJ3_checkFromIndexSize_8c36e 18 = .ok (.iload_n 2, 1) := by decide +kernel
theorem dJ3_checkFromIndexSize_8c36e_19 : decode cJ3_checkFromIndexSize_8c36e 19 = .ok (.invokestatic 103, 3) := by decide +kernel
theorem dJ3_checkFromIndexSize_8c36e_22 : decode cJ3_checkFromIndexSize_8c36e 22 = .ok (.athrow, 1) := by decide +kernel
theorem dJ3_checkFromIndexSize_8c36e_23 : decode cJ3_checkFromIndexSize_8c36e 23 = .ok (.iload_n 0, 1) := by decide +kernel
theorem dJ3_checkFromIndexSize_8c36e_24 : decode cJ3_checkFromIndexSize_8c36e 24 = .ok (.ireturn, 1) := by decide +kernel
theorem dJ4_init_da8c8_0 : decode cJ4_init_da8c8 0 = .ok (.aload_n 0, 1) := by decide +kernel
theorem dJ4_init_da8c8_1 : decode cJ4_init_da8c8 1 = .ok (.bipush 16, 2) := by decide +kernel
theorem dJ4_init_da8c8_3 : decode cJ4_init_da8c8 3 = .ok (.invokespecial 1, 3) := by decide +kernel
theorem dJ4_init_da8c8_6 : decode cJ4_init_da8c8 6 = .ok (.return_, 1) := by decide +kernel
theorem dJ4_init_a7421_0 : decode cJ4_init_a7421 0 = .ok (.aload_n 0, 1) := by decide +kernel
theorem dJ4_init_a7421_1 : decode cJ4_init_a7421 1 = .ok (.aload_n 1, 1) := by decide +kernel
theorem dJ4_init_a7421_2 : decode cJ4_init_a7421 2 = .ok (.invokespecial 7, 3) := by decide +kernel
theorem dJ4_init_a7421_5 : decode cJ4_init_a7421 5 = .ok (.return_, 1) := by decide +kernel
theorem dJ4_append_15ec4_0 : decode cJ4_append_15ec4 0 = .ok (.aload_n 0, 1) := by decide +kernel
theorem dJ4_append_15ec4_1 : decode cJ4_append_15ec4 1 = .ok (.aload_n 1, 1) := by decide +kernel
theorem dJ4_append_15ec4_2 : decode cJ4_append_15ec4 2 = .ok (.invokespecial 29, 3) := by decide +kernel
theorem dJ4_append_15ec4_5 : decode cJ4_append_15ec4 5 = .ok (.pop, 1) := by decide +kernel
theorem dJ4_append_15ec4_6 : decode cJ4_append_15ec4 6 = .ok (.aload_n 0, 1) := by decide +kernel
theorem dJ4_append_15ec4_7 : decode cJ4_append_15ec4 7 = .ok (.areturn, 1) := by decide +kernel
theorem dJ4_append_cf468_0 : decode cJ4_append_cf468 0 = .ok (.aload_n 0, 1) := by decide +kernel
theorem dJ4_append_cf468_1 : decode cJ4_append_cf468 1 = .ok (.iload_n 1, 1) := by decide +kernel
theorem dJ4_append_cf468_2 : decode cJ4_append_cf468 2 = .ok (.invokespecial 50, 3) := by decide +kernel
theorem dJ4_append_cf468_5 : decode cJ4_append_cf468 5 = .ok (.pop, 1) := by decide +kernel
theorem dJ4_append_cf468_6 : decode cJ4_append_cf468 6 = .ok (.aload_n 0, 1) := by decide +kernel
theorem dJ4_append_cf468_7 : decode cJ4_append_cf468 7 = .ok (.areturn, 1) := by decide +kernel
theorem dJ4_append_bf812_0 : decode cJ4_append_bf812 0 = .ok (.aload_n 0, 1) := by decide +kernel
theorem dJ4_append_bf812_1 : decode cJ4_append_bf812 1 = .ok (.iload_n 1, 1) := by decide +kernel
theorem dJ4_append_bf812_2 : decode cJ4_append_bf812 2 = .ok (.invokespecial 53, 3) := by decide +kernel
theorem dJ4_append_bf812_5 : decode cJ4_append_bf812 5 = .ok (.pop, 1) := by decide +kernel
theorem dJ4_append_bf812_6 : decode cJ4_append_bf812 6 = .ok (.aload_n 0, 1) := by decide +kernel
theorem dJ4_append_bf812_7 : decode cJ4_append_bf812 7 = .ok (.areturn, 1) := by decide +kernel
theorem dJ4_toString_0e30d_0 : decode cJ4_toString_0e30d 0 = .ok (.new 18, 3) := by decide +kernel
theorem dJ4_toString_0e30d_3 : decode cJ4_toString_0e30d 3 = .ok (.dup, 1) := by decide +kernel
theorem dJ4_toString_0e30d_4 : decode cJ4_toString_0e30d 4 = .ok (.aload_n 0, 1) := by decide +kernel
theorem dJ4_toString_0e30d_5 : decode cJ4_toString_0e30d 5 = .ok (.invokespecial 137, 3) := by decide +kernel
theorem dJ4_toString_0e30d_8 : decode cJ4_toString_0e30d 8 = .ok (.areturn, 1) := by decide +kernel
theorem dJ4_append_cf1ce_0 : decode cJ4_append_cf1ce 0 = .ok (.aload_n 0, 1) := by decide +kernel
theorem dJ4_append_cf1ce_1 : decode cJ4_append_cf1ce 1 = .ok (.aload_n 1, 1) := by decide +kernel
theorem dJ4_append_cf1ce_2 : decode cJ4_append_cf1ce 2 = .ok (.invokevirtual 23, 3) := by decide +kernel
theorem dJ4_append_cf1ce_5 : decode cJ4_append_cf1ce 5 = .ok (.areturn, 1) := by decide +kernel
theorem dJ4_length_8abf5_0 : decode cJ4_length_8abf5 0 = .ok (.aload_n 0, 1) := by decide +kernel
theorem dJ4_length_8abf5_1 : decode cJ4_length_8abf5 1 = .ok (.invokespecial 343, 3) := by decide +kernel
theorem dJ4_length_8abf5_4 : decode cJ4_length_8abf5 4 = .ok (.ireturn, 1) := by decide +kernel
theorem dJ5_init_d00df_0 : decode cJ5_init_d00df 0 = .ok (.aload_n 0, 1) := by decide +kernel
theorem dJ5_init_d00df_1 : decode cJ5_init_d00df 1 = .ok (.invokespecial 3, 3) := by decide +kernel
theorem dJ5_init_d00df_4 : decode cJ5_init_d00df 4 = .ok (.getstatic 18, 3) := by decide +kernel
theorem dJ5_init_d00df_7 : decode cJ5_init_d00df 7 = .ok (.ifCond .eq 18, 3) := by decide +kernel
theorem dJ5_init_d00df_10 : decode cJ5_init_d00df 10 = .ok (.aload_n 0, 1) := by decide +kernel
theorem dJ5_init_d00df_11 : decode cJ5_init_d00df 11 = .ok (.iload_n 1, 1) := by decide +kernel
theorem dJ5_init_d00df_12 : decode cJ5_init_d00df 12 = .ok (.newarray .byte, 2) := by decide +kernel
theorem dJ5_init_d00df_14 : decode cJ5_init_d00df 14 = .ok (.putfield 15, 3) := by decide +kernel
theorem dJ5_init_d00df_17 : decode cJ5_init_d00df 17 = .ok (.aload_n 0, 1) := by decide +kernel
theorem dJ5_init_d00df_18 : decode cJ5_init_d00df 18 = .ok (.iconst 0, 1) := by decide +kernel
theorem dJ5_init_d00df_19 : decode cJ5_init_d00df 19 = .ok (.putfield 22, 3) := by decide +kernel
theorem dJ5_init_d00df_22 : decode cJ5_init_d00df 22 = .ok (.goto 16, 3) := by decide +kernel
theorem dJ5_init_d00df_25 : decode cJ5_init_d00df 25 = .ok (.aload_n 0, 1) := by decide +kernel
theorem dJ5_init_d00df_26 : decode cJ5_init_d00df 26 = .ok (.iload_n 1, 1) := by decide +kernel
theorem dJ5_init_d00df_27 : decode cJ5_init_d00df 27 = .ok (.invokestatic 26, 3) := by decide +kernel
theorem dJ5_init_d00df_30 : decode cJ5_init_d00df 30 = .ok (.putfield 15, 3) := by decide +kernel
theorem dJ5_init_d00df_33 : decode cJ5_init_d00df 33 = .ok (.aload_n 0, 1) := by decide +kernel
theorem dJ5_init_d00df_34 : decode cJ5_init_d00df 34 = .ok (.iconst 1, 1) := by decide +kernel
theorem dJ5_init_d00df_35 : decode cJ5_init_d00df 35 = .ok (.putfield 22, 3) := by decide +kernel
theorem dJ5_init_d00df_38 : decode cJ5_init_d00df 38 = .ok (.return_, 1) := by decide +kernel
theorem dJ5_init_a7421_0 : decode cJ5_init_a7421 0 = .ok (.aload_n 0, 1) := by decide +kernel
theorem dJ5_init_a7421_1 : decode cJ5_init_a7421 1 = .ok (.invokespecial 3, 3) := by decide +kernel
theorem dJ5_init_a7421_4 : decode cJ5_init_a7421 4 = .ok (.aload_n 1, 1) := by decide +kernel
theorem dJ5_init_a7421_5 : decode cJ5_init_a7421 5 = .ok (.invokevirtual 32, 3) := by decide +kernel
theorem dJ5_init_a7421_8 : decode cJ5_init_a7421 8 = .ok (.istore_n 2, 1) := by decide +kernel
theorem dJ5_init_a7421_9 : decode cJ5_init_a7421 9 = .ok (.iload_n 2, 1) := by decide +kernel
theorem dJ5_init_a7421_10 : decode cJ5_init_a7421 10 = .ok (.ldc 38, 2) := by decide +kernel
theorem dJ5_init_a7421_12 : decode cJ5_init_a7421 12 = .ok (.if_icmp .ge 10, 3) := by decide +kernel
theorem dJ5_init_a7421_15 : decode cJ5_init_a7421 15 = .ok (.iload_n 2, 1) := by decide +kernel
theorem dJ5_init_a7421_16 : decode cJ5_init_a7421 16 = .ok (.bipush 16, 2) := by decide +kernel
theorem dJ5_init_a7421_18 : decode cJ5_init_a7421 18 = .ok (.iadd, 1) := by decide +kernel
theorem dJ5_init_a7421_19 : decode cJ5_init_a7421 19 = .ok (.goto 5, 3) := by decide +kernel
theorem dJ5_init_a7421_22 : decode cJ5_init_a7421 22 = .ok (.ldc 39, 2) := by decide +kernel
theorem dJ5_init_a7421_24 : decode cJ5_init_a7421 24 = .ok (.istore_n 3, 1) := by decide +kernel
theorem dJ5_init_a7421_25 : decode cJ5_init_a7421 25 = .ok (.aload_n 1, 1) := by decide +kernel
theorem dJ5_init_a7421_26 : decode cJ5_init_a7421 26 = .ok (.invokevirtual 40, 3) := by decide +kernel
theorem dJ5_init_a7421_29 : decode cJ5_init_a7421 29 = .ok (.istore 4, 2) := by decide +kernel
theorem dJ5_init_a7421_31 : decode cJ5_init_a7421 31 = .ok (.aload_n 0, 1) := by decide +kernel
theorem dJ5_init_a7421_32 : decode cJ5_init_a7421 32 = .ok (.iload 4, 2) := by decide +kernel
theorem dJ5_init_a7421_34 : decode cJ5_init_a7421 34 = .ok (.putfield 22, 3) := by decide +kernel
theorem dJ5_init_a7421_37 : decode cJ5_init_a7421 37 = .ok (.aload_n 0, 1) := by decide +kernel
theorem dJ5_init_a7421_38 : decode cJ5_init_a7421 38 = .ok (.iload 4, 2) := by decide +kernel
theorem dJ5_init_a7421_40 : decode cJ5_init_a7421 40 = .ok (.ifCond .ne 9, 3) := by decide +kernel
theorem dJ5_init_a7421_43 : decode cJ5_init_a7421 43 = .ok (.iload_n 3, 1) := by decide +kernel
theorem dJ5_init_a7421_44 : decode cJ5_init_a7421 44 = .ok (.newarray .byte, 2) := by decide +kernel
theorem dJ5_init_a7421_46 : decode cJ5_init_a7421 46 = .ok (.goto 7, 3) := by decide +kernel
theorem dJ5_init_a7421_49 : decode cJ5_init_a7421 49 = .ok (.iload_n 3, 1) := by decide +kernel
theorem dJ5_init_a7421_50 : decode cJ5_init_a7421 50 = .ok (.invokestatic 26, 3) := by decide +kernel
theorem dJ5_init_a7421_53 : decode cJ5_init_a7421 53 = .ok (.putfield 15, 3) := by decide +kernel
theorem dJ5_init_a7421_56 : decode cJ5_init_a7421 56 = .ok (.aload_n 0, 1) := by decide +kernel
theorem dJ5_init_a7421_57 : decode cJ5_init_a7421 57 = .ok (.aload_n 1, 1) := by decide +kernel
theorem dJ5_init_a7421_58 : decode cJ5_init_a7421 58 = .ok (.invokevirtual 43, 3) := by decide +kernel
theorem dJ5_init_a7421_61 : decode cJ5_init_a7421 61 = .ok (.pop, 1) := by decide +kernel
theorem dJ5_init_a7421_62 : decode cJ5_init_a7421 62 = .ok (.return_, 1) := by decide +kernel
theorem dJ5_length_8abf5_0 : decode cJ5_length_8abf5 0 = .ok (.aload_n 0, 1) := by decide +kernel
theorem dJ5_length_8abf5_1 : decode cJ5_length_8abf5 1 = .ok (.getfield 79, 3) := by decide +kernel
theorem dJ5_length_8abf5_4 : decode cJ5_length_8abf5 4 = .ok (.ireturn, 1) := by decide +kernel
theorem dJ5_ensureCapacityInternal_d00df_0 : decode cJ5_ensureCapacityInternal_d00df 0 = .ok (.aload_n 0, 1) := by decide +kernel
theorem dJ5_ensureCapacityInternal_d00df_1 : decode cJ5_ensureCapacityInternal_d00df 1 = .ok (.getfield 15, 3) := by decide +kernel
theorem dJ5_ensureCapacityInternal_d00df_4 : decode cJ5_ensureCapacityInternal_d00df 4 = .ok (.arraylength, 1) := by decide +kernel
theorem dJ5_ensureCapacityInternal_d00df_5 : decode cJ5_ensureCapacityInternal_d00df 5 = .ok (.aload_n 0, 1) := by decide +kernel
theorem dJ5_ensureCapacityInternal_d00df_6 : decode cJ5_ensureCapacityInternal_d00df 6 = .ok (.getfield 22, 3) := by decide +kernel
theorem dJ5_ensureCapacityInternal_d00df_9 : decode cJ5_ensureCapacityInternal_d00df 9 = .ok (.ishr, 1) := by decide +kernel
theorem dJ5_ensureCapacityInternal_d00df_10 : decode cJ5_ensureCapacityInternal_d00df 10 = .ok (.istore_n 2, 1) := by decide +kernel
theorem dJ5_ensureCapacityInternal_d00df_11 : decode cJ5_ensureCapacityInternal_d00df 11 = .ok (.iload_n 1, 1) := by decide +kernel
theorem dJ5_ensureCapacityInternal_d00df_12 : decode cJ5_ensureCapacityInternal_d00df 12 = .ok (.iload_n 2, 1) := by decide +kernel
theorem dJ5_ensureCapacityInternal_d00df_13 : decode cJ5_ensureCapacityInternal_d00df 13 = .ok (.isub, 1) := by decide +kernel
theorem dJ5_ensureCapacityInternal_d00df_14 : decode cJ5_ensureCapacityInternal_d00df 14 = .ok (.ifCond .le 24, 3) := by decide +kernel
theorem dJ5_ensureCapacityInternal_d00df_17 : decode cJ5_ensureCapacityInternal_d00df 17 = .ok (.aload_n 0, 1) := by decide +kernel
theorem dJ5_ensureCapacityInternal_d00df_18 : decode cJ5_ensureCapacityInternal_d00df 18 = .ok (.aload_n 0, 1) := by decide +kernel
theorem dJ5_ensureCapacityInternal_d00df_19 : decode cJ5_ensureCapacityInternal_d00df 19 = .ok (.getfield 15, 3) := by decide +kernel
theorem dJ5_ensureCapacityInternal_d00df_22 : decode cJ5_ensureCapacityInternal_d00df 22 = .ok (.aload_n 0, 1) := by decide +kernel
theorem dJ5_ensureCapacityInternal_d00df_23 : decode cJ5_ensureCapacityInternal_d00df 23 = .ok (.iload_n 1, 1) := by decide +kernel
theorem dJ5_ensureCapacityInternal_d00df_24 : decode cJ5_ensureCapacityInternal_d00df 24 = .ok (.invokevirtual 104, 3) := by decide +kernel
theorem dJ5_ensureCapacityInternal_d00df_27 : decode cJ5_ensureCapacityInternal_d00df 27 = .ok (.aload_n 0, 1) := by decide +kernel
theorem dJ5_ensureCapacityInternal_d00df_28 : decode cJ5_ensureCapacityInternal_d00df 28 = .ok (.getfield 22, 3) := by decide +kernel
theorem dJ5_ensureCapacityInternal_d00df_31 : decode cJ5_ensureCapacityInternal_d00df 31 = .ok (.ishl, 1) := by decide +kernel
theorem dJ5_ensureCapacityInternal_d00df_32 : decode cJ5_ensureCapacityInternal_d00df 32 = .ok (.invokestatic 108, 3) := by decide +kernel
theorem dJ5_ensureCapacityInternal_d00df_35 : decode cJ5_ensureCapacityInternal_d00df 35 = .ok (.putfield 15, 3) := by decide +kernel
theorem dJ5_ensureCapacityInternal_d00df_38 : decode cJ5_ensureCapacityInternal_d00df 38 = .ok (.return_, 1) := by decide +kernel
theorem dJ5_newCapacity_0f7a4_0 : decode cJ5_newCapacity_0f7a4 0 = .ok (.aload_n 0, 1) := by decide +kernel
theorem dJ5_newCapacity_0f7a4_1 : decode cJ5_newCapacity_0f7a4 1 = .ok (.getfield 15, 3) := by decide +kernel
theorem dJ5_newCapacity_0f7a4_4 : decode cJ5_newCapacity_0f7a4 4 = .ok (.arraylength, 1) := by decide +kernel
theorem dJ5_newCapacity_0f7a4_5 : decode cJ5_newCapacity_0f7a4 5 = .ok (.istore_n 2, 1) := by decide +kernel
theorem dJ5_newCapacity_0f7a4_6 : decode cJ5_newCapacity_0f7a4 6 = .ok (.iload_n 1, 1) := by decide +kernel
theorem dJ5_newCapacity_0f7a4_7 : decode cJ5_newCapacity_0f7a4 7 = .ok (.aload_n 0, 1) := by decide +kernel
theorem dJ5_newCapacity_0f7a4_8 : decode cJ5_newCapacity_0f7a4 8 = .ok (.getfield 22, 3) := by decide +kernel
theorem dJ5_newCapacity_0f7a4_11 : decode cJ5_newCapacity_0f7a4 11 = .ok (.ishl, 1) := by decide +kernel
theorem dJ5_newCapacity_0f7a4_12 : decode cJ5_newCapacity_0f7a4 12 = .ok (.istore_n 3, 1) := by decide +kernel
theorem dJ5_newCapacity_0f7a4_13 : decode cJ5_newCapacity_0f7a4 13 = .ok (.iload_n 3, 1) := by decide +kernel
theorem dJ5_newCapacity_0f7a4_14 : decode cJ5_newCapacity_0f7a4 14 = .ok (.iload_n 2, 1) := by decide +kernel
theorem dJ5_newCapacity_0f7a4_15 : decode cJ5_newCapacity_0f7a4 15 = .ok (.isub, 1) := by decide +kernel
theorem dJ5_newCapacity_0f7a4_16 : decode cJ5_newCapacity_0f7a4 16 = .ok (.istore 4, 2) := by decide +kernel
theorem dJ5_newCapacity_0f7a4_18 : decode cJ5_newCapacity_0f7a4 18 = .ok (.iload_n 2, 1) := by decide +kernel
theorem dJ5_newCapacity_0f7a4_19 : decode cJ5_newCapacity_0f7a4 19 = .ok (.iload 4, 2) := by decide +kernel
theorem dJ5_newCapacity_0f7a4_21 : decode cJ5_newCapacity_0f7a4 21 = .ok (.iload_n 2, 1) := by decide +kernel
theorem dJ5_newCapacity_0f7a4_22 : decode cJ5_newCapacity_0f7a4 22 = .ok (.iconst 2, 1) := by decide +kernel
theorem dJ5_newCapacity_0f7a4_23 : decode cJ5_newCapacity_0f7a4 23 = .ok (.aload_n 0, 1) := by decide +kernel
theorem dJ5_newCapacity_0f7a4_24 : decode cJ5_newCapacity_0f7a4 24 = .ok (.getfield 22, 3) := by decide +kernel
theorem dJ5_newCapacity_0f7a4_27 : decode cJ5_newCapacity_0f7a4 27 = .ok (.ishl, 1) := by decide +kernel
theorem dJ5_newCapacity_0f7a4_28 : decode cJ5_newCapacity_0f7a4 28 = .ok (.iadd, 1) := by decide +kernel
theorem dJ5_newCapacity_0f7a4_29 : decode cJ5_newCapacity_0f7a4 29 = .ok (.invokestatic 114, 3) := by decide +kernel
theorem dJ5_newCapacity_0f7a4_32 : decode cJ5_newCapacity_0f7a4 32 = .ok (.istore 5, 2) := by decide +kernel
theorem dJ5_newCapacity_0f7a4_34 : decode cJ5_newCapacity_0f7a4 34 = .ok (.iload 5, 2) := by decide +kernel
theorem dJ5_newCapacity_0f7a4_36 : decode cJ5_newCapacity_0f7a4 36 = .ok (.ldc 39, 2) := by decide +kernel
theorem dJ5_newCapacity_0f7a4_38 : decode cJ5_newCapacity_0f7a4 38 = .ok (.if_icmp .ne 13, 3) := by decide +kernel
theorem dJ5_newCapacity_0f7a4_41 : decode cJ5_newCapacity_0f7a4 41 = .ok (.new 120, 3) := by decide +kernel
theorem dJ5_newCapacity_0f7a4_44 : decode cJ5_newCapacity_0f7a4 44 = .ok (.dup, 1) := by decide +kernel
theorem dJ5_newCapacity_0f7a4_45 : decode cJ5_newCapacity_0f7a4 45 = .ok (.ldc 122, 2) := by decide +kernel
theorem dJ5_newCapacity_0f7a4_47 : decode cJ5_newCapacity_0f7a4 47 = .ok (.invokespecial 124, 3) := by decide +kernel
theorem dJ5_newCapacity_0f7a4_50 : decode cJ5_newCapacity_0f7a4 50 = .ok (.athrow, 1) := by decide +kernel
theorem dJ5_newCapacity_0f7a4_51 : decode cJ5_newCapacity_0f7a4 51 = .ok (.iload 5, 2) := by decide +kernel
theorem dJ5_newCapacity_0f7a4_53 : decode cJ5_newCapacity_0f7a4 53 = .ok (.aload_n 0, 1) := by decide +kernel
theorem dJ5_newCapacity_0f7a4_54 : decode cJ5_newCapacity_0f7a4 54 = .ok (.getfield 22, 3) := by decide +kernel
theorem dJ5_newCapacity_0f7a4_57 : decode cJ5_newCapacity_0f7a4 57 = .ok (.ishr, 1) := by decide +kernel
theorem dJ5_newCapacity_0f7a4_58 : decode cJ5_newCapacity_0f7a4 58 = .ok (.ireturn, 1) := by decide +kernel
theorem dJ5_inflate_da8c8_0 : decode cJ5_inflate_da8c8 0 = .ok (.aload_n 0, 1) := by decide +kernel
theorem dJ5_inflate_da8c8_1 : decode cJ5_inflate_da8c8 1 = .ok (.invokevirtual 83, 3) := by decide +kernel
theorem dJ5_inflate_da8c8_4 : decode cJ5_inflate_da8c8 4 = .ok (.ifCond .ne 4, 3) := by decide +kernel
theorem dJ5_inflate_da8c8_7 : decode cJ5_inflate_da8c8 7 = .ok (.return_, 1) := by decide +kernel
theorem dJ5_inflate_da8c8_8 : decode cJ5_inflate_da8c8 8 = .ok (.aload_n 0, 1) := by decide +kernel
theorem dJ5_inflate_da8c8_9 : decode cJ5_inflate_da8c8 9 = .ok (.getfield 15, 3) := by decide +kernel
theorem dJ5_inflate_da8c8_12 : decode cJ5_inflate_da8c8 12 = .ok (.arraylength, 1) := by decide +kernel
theorem dJ5_inflate_da8c8_13 : decode cJ5_inflate_da8c8 13 = .ok (.invokestatic 26, 3) := by decide +kernel
theorem dJ5_inflate_da8c8_16 : decode cJ5_inflate_da8c8 16 = .ok (.astore_n 1, 1) := by decide +kernel
theorem dJ5_inflate_da8c8_17 : decode cJ5_inflate_da8c8 17 = .ok (.aload_n 0, 1) := by decide +kernel
theorem dJ5_inflate_da8c8_18 : decode cJ5_inflate_da8c8 18 = .ok (.getfield 15, 3) := by decide +kernel
theorem dJ5_inflate_da8c8_21 : decode cJ5_inflate_da8c8 21 = .ok (.iconst 0, 1) := by decide +kernel
theorem dJ5_inflate_da8c8_22 : decode cJ5_inflate_da8c8 22 = .ok (.aload_n 1, 1) := by decide +kernel
theorem dJ5_inflate_da8c8_23 : decode cJ5_inflate_da8c8 23 = .ok (.iconst 0, 1) := by decide +kernel
theorem dJ5_inflate_da8c8_24 : decode cJ5_inflate_da8c8 24 = .ok (.aload_n 0, 1) := by decide +kernel
theorem dJ5_inflate_da8c8_25 : decode cJ5_inflate_da8c8 25 = .ok (.getfield 79, 3) := by decide +kernel
theorem dJ5_inflate_da8c8_28 : decode cJ5_inflate_da8c8 28 = .ok (.invokestatic 125, 3) := by decide +kernel
theorem dJ5_inflate_da8c8_31 : decode cJ5_inflate_da8c8 31 = .ok (.aload_n 0, 1) := by decide +kernel
theorem dJ5_inflate_da8c8_32 : decode cJ5_inflate_da8c8 32 = .ok (.aload_n 1, 1) := by decide +kernel
theorem dJ5_inflate_da8c8_33 : decode cJ5_inflate_da8c8 33 = .ok (.putfield 15, 3) := by decide +kernel
theorem dJ5_inflate_da8c8_36 : decode cJ5_inflate_da8c8 36 = .ok (.aload_n 0, 1) := by decide +kernel
theorem dJ5_inflate_da8c8_37 : decode cJ5_inflate_da8c8 37 = .ok (.iconst 1, 1) := by decide +kernel
theorem dJ5_inflate_da8c8_38 : decode cJ5_inflate_da8c8 38 = .ok (.putfield 22, 3) := by decide +kernel
theorem dJ5_inflate_da8c8_41 : decode cJ5_inflate_da8c8 41 = .ok (.return_, 1) := by decide +kernel
theorem dJ5_append_cf1ce_0 : decode cJ5_append_cf1ce 0 = .ok (.aload_n 1, 1) := by decide +kernel
theorem dJ5_append_cf1ce_1 : decode cJ5_append_cf1ce 1 = .ok (.ifnonnull 8, 3) := by decide +kernel
theorem dJ5_append_cf1ce_4 : decode cJ5_append_cf1ce 4 = .ok (.aload_n 0, 1) := by decide +kernel
theorem dJ5_append_cf1ce_5 : decode cJ5_append_cf1ce 5 = .ok (.invokevirtual 204, 3) := by decide +kernel
