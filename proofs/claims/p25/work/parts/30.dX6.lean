theorem dX6_init_0 : decode cX6_init 0 = .ok (.aload_n 0, 1) := by decide +kernel
theorem dX6_init_1 : decode cX6_init 1 = .ok (.invokespecial 1, 3) := by decide +kernel
theorem dX6_init_4 : decode cX6_init 4 = .ok (.aload_n 0, 1) := by decide +kernel
theorem dX6_init_5 : decode cX6_init 5 = .ok (.new 7, 3) := by decide +kernel
theorem dX6_init_8 : decode cX6_init 8 = .ok (.dup, 1) := by decide +kernel
theorem dX6_init_9 : decode cX6_init 9 = .ok (.invokespecial 9, 3) := by decide +kernel
theorem dX6_init_12 : decode cX6_init 12 = .ok (.putfield 10, 3) := by decide +kernel
theorem dX6_init_15 : decode cX6_init 15 = .ok (.aload_n 0, 1) := by decide +kernel
theorem dX6_init_16 : decode cX6_init 16 = .ok (.new 16, 3) := by decide +kernel
theorem dX6_init_19 : decode cX6_init 19 = .ok (.dup, 1) := by decide +kernel
theorem dX6_init_20 : decode cX6_init 20 = .ok (.invokespecial 18, 3) := by decide +kernel
theorem dX6_init_23 : decode cX6_init 23 = .ok (.putfield 19, 3) := by decide +kernel
theorem dX6_init_26 : decode cX6_init 26 = .ok (.aload_n 0, 1) := by decide +kernel
theorem dX6_init_27 : decode cX6_init 27 = .ok (.new 23, 3) := by decide +kernel
theorem dX6_init_30 : decode cX6_init 30 = .ok (.dup, 1) := by decide +kernel
theorem dX6_init_31 : decode cX6_init 31 = .ok (.invokespecial 25, 3) := by decide +kernel
theorem dX6_init_34 : decode cX6_init 34 = .ok (.putfield 26, 3) := by decide +kernel
theorem dX6_init_37 : decode cX6_init 37 = .ok (.aload_n 0, 1) := by decide +kernel
theorem dX6_init_38 : decode cX6_init 38 = .ok (.new 30, 3) := by decide +kernel
theorem dX6_init_41 : decode cX6_init 41 = .ok (.dup, 1) := by decide +kernel
theorem dX6_init_42 : decode cX6_init 42 = .ok (.invokespecial 32, 3) := by decide +kernel
theorem dX6_init_45 : decode cX6_init 45 = .ok (.putfield 33, 3) := by decide +kernel
theorem dX6_init_48 : decode cX6_init 48 = .ok (.aload_n 0, 1) := by decide +kernel
theorem dX6_init_49 : decode cX6_init 49 = .ok (.bipush 60, 2) := by decide +kernel
theorem dX6_init_51 : decode cX6_init 51 = .ok (.putfield 37, 3) := by decide +kernel
theorem dX6_init_54 : decode cX6_init 54 = .ok (.return_, 1) := by decide +kernel
theorem dX6_moveIn_0 : decode cX6_moveIn 0 = .ok (.iload_n 1, 1) := by decide +kernel
theorem dX6_moveIn_1 : decode cX6_moveIn 1 = .ok (.iconst 0, 1) := by decide +kernel
theorem dX6_moveIn_2 : decode cX6_moveIn 2 = .ok (.bipush 87, 2) := by decide +kernel
theorem dX6_moveIn_4 : decode cX6_moveIn 4 = .ok (.invokestatic 41, 3) := by decide +kernel
theorem dX6_moveIn_7 : decode cX6_moveIn 7 = .ok (.ifCond .ne 13, 3) := by decide +kernel
theorem dX6_moveIn_10 : decode cX6_moveIn 10 = .ok (.iload_n 2, 1) := by decide +kernel
theorem dX6_moveIn_11 : decode cX6_moveIn 11 = .ok (.iconst 0, 1) := by decide +kernel
theorem dX6_moveIn_12 : decode cX6_moveIn 12 = .ok (.bipush 9, 2) := by decide +kernel
theorem dX6_moveIn_14 : decode cX6_moveIn 14 = .ok (.invokestatic 41, 3) := by decide +kernel
theorem dX6_moveIn_17 : decode cX6_moveIn 17 = .ok (.ifCond .eq 11, 3) := by decide +kernel
theorem dX6_moveIn_20 : decode cX6_moveIn 20 = .ok (.new 45, 3) := by decide +kernel
theorem dX6_moveIn_23 : decode cX6_moveIn 23 = .ok (.dup, 1) := by decide +kernel
theorem dX6_moveIn_24 : decode cX6_moveIn 24 = .ok (.invokespecial 47, 3) := by decide +kernel
theorem dX6_moveIn_27 : decode cX6_moveIn 27 = .ok (.athrow, 1) := by decide +kernel
theorem dX6_moveIn_28 : decode cX6_moveIn 28 = .ok (.aload_n 0, 1) := by decide +kernel
theorem dX6_moveIn_29 : decode cX6_moveIn 29 = .ok (.getfield 10, 3) := by decide +kernel
theorem dX6_moveIn_32 : decode cX6_moveIn 32 = .ok (.invokevirtual 48, 3) := by decide +kernel
theorem dX6_moveIn_35 : decode cX6_moveIn 35 = .ok (.bipush 16, 2) := by decide +kernel
theorem dX6_moveIn_37 : decode cX6_moveIn 37 = .ok (.if_icmp .lt 11, 3) := by decide +kernel
theorem dX6_moveIn_40 : decode cX6_moveIn 40 = .ok (.new 52, 3) := by decide +kernel
theorem dX6_moveIn_43 : decode cX6_moveIn 43 = .ok (.dup, 1) := by decide +kernel
theorem dX6_moveIn_44 : decode cX6_moveIn 44 = .ok (.invokespecial 54, 3) := by decide +kernel
theorem dX6_moveIn_47 : decode cX6_moveIn 47 = .ok (.athrow, 1) := by decide +kernel
theorem dX6_moveIn_48 : decode cX6_moveIn 48 = .ok (.aload_n 0, 1) := by decide +kernel
theorem dX6_moveIn_49 : decode cX6_moveIn 49 = .ok (.getfield 10, 3) := by decide +kernel
theorem dX6_moveIn_52 : decode cX6_moveIn 52 = .ok (.invokevirtual 48, 3) := by decide +kernel
theorem dX6_moveIn_55 : decode cX6_moveIn 55 = .ok (.istore_n 3, 1) := by decide +kernel
theorem dX6_moveIn_56 : decode cX6_moveIn 56 = .ok (.aload_n 0, 1) := by decide +kernel
theorem dX6_moveIn_57 : decode cX6_moveIn 57 = .ok (.getfield 10, 3) := by decide +kernel
theorem dX6_moveIn_60 : decode cX6_moveIn 60 = .ok (.new 55, 3) := by decide +kernel
theorem dX6_moveIn_63 : decode cX6_moveIn 63 = .ok (.dup, 1) := by decide +kernel
theorem dX6_moveIn_64 : decode cX6_moveIn 64 = .ok (.iload_n 3, 1) := by decide +kernel
theorem dX6_moveIn_65 : decode cX6_moveIn 65 = .ok (.iload_n 1, 1) := by decide +kernel
theorem dX6_moveIn_66 : decode cX6_moveIn 66 = .ok (.iload_n 2, 1) := by decide +kernel
theorem dX6_moveIn_67 : decode cX6_moveIn 67 = .ok (.invokespecial 57, 3) := by decide +kernel
theorem dX6_moveIn_70 : decode cX6_moveIn 70 = .ok (.invokevirtual 60, 3) := by decide +kernel
theorem dX6_moveIn_73 : decode cX6_moveIn 73 = .ok (.pop, 1) := by decide +kernel
theorem dX6_moveIn_74 : decode cX6_moveIn 74 = .ok (.iload_n 3, 1) := by decide +kernel
theorem dX6_moveIn_75 : decode cX6_moveIn 75 = .ok (.ireturn, 1) := by decide +kernel
theorem dX6_setHour_0 : decode cX6_setHour 0 = .ok (.iload_n 1, 1) := by decide +kernel
theorem dX6_setHour_1 : decode cX6_setHour 1 = .ok (.iconst 5, 1) := by decide +kernel
theorem dX6_setHour_2 : decode cX6_setHour 2 = .ok (.sipush 500, 3) := by decide +kernel
theorem dX6_setHour_5 : decode cX6_setHour 5 = .ok (.invokestatic 41, 3) := by decide +kernel
theorem dX6_setHour_8 : decode cX6_setHour 8 = .ok (.ifCond .eq 11, 3) := by decide +kernel
theorem dX6_setHour_11 : decode cX6_setHour 11 = .ok (.new 45, 3) := by decide +kernel
theorem dX6_setHour_14 : decode cX6_setHour 14 = .ok (.dup, 1) := by decide +kernel
theorem dX6_setHour_15 : decode cX6_setHour 15 = .ok (.invokespecial 47, 3) := by decide +kernel
theorem dX6_setHour_18 : decode cX6_setHour 18 = .ok (.athrow, 1) := by decide +kernel
theorem dX6_setHour_19 : decode cX6_setHour 19 = .ok (.aload_n 0, 1) := by decide +kernel
theorem dX6_setHour_20 : decode cX6_setHour 20 = .ok (.getfield 37, 3) := by decide +kernel
theorem dX6_setHour_23 : decode cX6_setHour 23 = .ok (.istore_n 2, 1) := by decide +kernel
theorem dX6_setHour_24 : decode cX6_setHour 24 = .ok (.aload_n 0, 1) := by decide +kernel
theorem dX6_setHour_25 : decode cX6_setHour 25 = .ok (.iload_n 1, 1) := by decide +kernel
theorem dX6_setHour_26 : decode cX6_setHour 26 = .ok (.putfield 37, 3) := by decide +kernel
theorem dX6_setHour_29 : decode cX6_setHour 29 = .ok (.iload_n 2, 1) := by decide +kernel
theorem dX6_setHour_30 : decode cX6_setHour 30 = .ok (.ireturn, 1) := by decide +kernel
theorem dX6_addHabit_0 : decode cX6_addHabit 0 = .ok (.aload_n 0, 1) := by decide +kernel
theorem dX6_addHabit_1 : decode cX6_addHabit 1 = .ok (.iload_n 1, 1) := by decide +kernel
theorem dX6_addHabit_2 : decode cX6_addHabit 2 = .ok (.invokevirtual 64, 3) := by decide +kernel
theorem dX6_addHabit_5 : decode cX6_addHabit 5 = .ok (.astore_n 2, 1) := by decide +kernel
theorem dX6_addHabit_6 : decode cX6_addHabit 6 = .ok (.aload_n 2, 1) := by decide +kernel
theorem dX6_addHabit_7 : decode cX6_addHabit 7 = .ok (.getfield 68, 3) := by decide +kernel
theorem dX6_addHabit_10 : decode cX6_addHabit 10 = .ok (.invokevirtual 48, 3) := by decide +kernel
theorem dX6_addHabit_13 : decode cX6_addHabit 13 = .ok (.bipush 8, 2) := by decide +kernel
theorem dX6_addHabit_15 : decode cX6_addHabit 15 = .ok (.if_icmp .lt 11, 3) := by decide +kernel
theorem dX6_addHabit_18 : decode cX6_addHabit 18 = .ok (.new 52, 3) := by decide +kernel
theorem dX6_addHabit_21 : decode cX6_addHabit 21 = .ok (.dup, 1) := by decide +kernel
theorem dX6_addHabit_22 : decode cX6_addHabit 22 = .ok (.invokespecial 54, 3) := by decide +kernel
theorem dX6_addHabit_25 : decode cX6_addHabit 25 = .ok (.athrow, 1) := by decide +kernel
theorem dX6_addHabit_26 : decode cX6_addHabit 26 = .ok (.aload_n 2, 1) := by decide +kernel
theorem dX6_addHabit_27 : decode cX6_addHabit 27 = .ok (.getfield 68, 3) := by decide +kernel
theorem dX6_addHabit_30 : decode cX6_addHabit 30 = .ok (.new 71, 3) := by decide +kernel
theorem dX6_addHabit_33 : decode cX6_addHabit 33 = .ok (.dup, 1) := by decide +kernel
theorem dX6_addHabit_34 : decode cX6_addHabit 34 = .ok (.iload_n 1, 1) := by decide +kernel
theorem dX6_addHabit_35 : decode cX6_addHabit 35 = .ok (.invokespecial 73, 3) := by decide +kernel
theorem dX6_addHabit_38 : decode cX6_addHabit 38 = .ok (.invokevirtual 60, 3) := by decide +kernel
theorem dX6_addHabit_41 : decode cX6_addHabit 41 = .ok (.pop, 1) := by decide +kernel
theorem dX6_addHabit_42 : decode cX6_addHabit 42 = .ok (.aload_n 2, 1) := by decide +kernel
theorem dX6_addHabit_43 : decode cX6_addHabit 43 = .ok (.getfield 68, 3) := by decide +kernel
theorem dX6_addHabit_46 : decode cX6_addHabit 46 = .ok (.invokevirtual 48, 3) := by decide +kernel
theorem dX6_addHabit_49 : decode cX6_addHabit 49 = .ok (.ireturn, 1) := by decide +kernel
theorem dX6_setWhen_0 : decode cX6_setWhen 0 = .ok (.aload_n 0, 1) := by decide +kernel
theorem dX6_setWhen_1 : decode cX6_setWhen 1 = .ok (.iload_n 1, 1) := by decide +kernel
theorem dX6_setWhen_2 : decode cX6_setWhen 2 = .ok (.invokevirtual 64, 3) := by decide +kernel
theorem dX6_setWhen_5 : decode cX6_setWhen 5 = .ok (.iload_n 2, 1) := by decide +kernel
theorem dX6_setWhen_6 : decode cX6_setWhen 6 = .ok (.invokevirtual 76, 3) := by decide +kernel
theorem dX6_setWhen_9 : decode cX6_setWhen 9 = .ok (.astore 7, 2) := by decide +kernel
theorem dX6_setWhen_11 : decode cX6_setWhen 11 = .ok (.iload_n 3, 1) := by decide +kernel
theorem dX6_setWhen_12 : decode cX6_setWhen 12 = .ok (.iconst 0, 1) := by decide +kernel
theorem dX6_setWhen_13 : decode cX6_setWhen 13 = .ok (.bipush 23, 2) := by decide +kernel
theorem dX6_setWhen_15 : decode cX6_setWhen 15 = .ok (.invokestatic 41, 3) := by decide +kernel
theorem dX6_setWhen_18 : decode cX6_setWhen 18 = .ok (.ifCond .ne 35, 3) := by decide +kernel
theorem dX6_setWhen_21 : decode cX6_setWhen 21 = .ok (.iload 4, 2) := by decide +kernel
theorem dX6_setWhen_23 : decode cX6_setWhen 23 = .ok (.iconst 0, 1) := by decide +kernel
theorem dX6_setWhen_24 : decode cX6_setWhen 24 = .ok (.bipush 23, 2) := by decide +kernel
theorem dX6_setWhen_26 : decode cX6_setWhen 26 = .ok (.invokestatic 41, 3) := by decide +kernel
theorem dX6_setWhen_29 : decode cX6_setWhen 29 = .ok (.ifCond .ne 24, 3) := by decide +kernel
theorem dX6_setWhen_32 : decode cX6_setWhen 32 = .ok (.iload 5, 2) := by decide +kernel
theorem dX6_setWhen_34 : decode cX6_setWhen 34 = .ok (.iconst 0, 1) := by decide +kernel
theorem dX6_setWhen_35 : decode cX6_setWhen 35 = .ok (.iconst 2, 1) := by decide +kernel
theorem dX6_setWhen_36 : decode cX6_setWhen 36 = .ok (.invokestatic 41, 3) := by decide +kernel
theorem dX6_setWhen_39 : decode cX6_setWhen 39 = .ok (.ifCond .ne 14, 3) := by decide +kernel
theorem dX6_setWhen_42 : decode cX6_setWhen 42 = .ok (.iload 6, 2) := by decide +kernel
theorem dX6_setWhen_44 : decode cX6_setWhen 44 = .ok (.iconst 0, 1) := by decide +kernel
theorem dX6_setWhen_45 : decode cX6_setWhen 45 = .ok (.bipush 9, 2) := by decide +kernel
theorem dX6_setWhen_47 : decode cX6_setWhen 47 = .ok (.invokestatic 41, 3) := by decide +kernel
theorem dX6_setWhen_50 : decode cX6_setWhen 50 = .ok (.ifCond .eq 11, 3) := by decide +kernel
theorem dX6_setWhen_53 : decode cX6_setWhen 53 = .ok (.new 45, 3) := by decide +kernel
theorem dX6_setWhen_56 : decode cX6_setWhen 56 = .ok (.dup, 1) := by decide +kernel
theorem dX6_setWhen_57 : decode cX6_setWhen 57 = .ok (.invokespecial 47, 3) := by decide +kernel
theorem dX6_setWhen_60 : decode cX6_setWhen 60 = .ok (.athrow, 1) := by decide +kernel
theorem dX6_setWhen_61 : decode cX6_setWhen 61 = .ok (.aload 7, 2) := by decide +kernel
theorem dX6_setWhen_63 : decode cX6_setWhen 63 = .ok (.getfield 80, 3) := by decide +kernel
theorem dX6_setWhen_66 : decode cX6_setWhen 66 = .ok (.istore 8, 2) := by decide +kernel
theorem dX6_setWhen_68 : decode cX6_setWhen 68 = .ok (.aload 7, 2) := by decide +kernel
theorem dX6_setWhen_70 : decode cX6_setWhen 70 = .ok (.iload_n 3, 1) := by decide +kernel
theorem dX6_setWhen_71 : decode cX6_setWhen 71 = .ok (.putfield 83, 3) := by decide +kernel
theorem dX6_setWhen_74 : decode cX6_setWhen 74 = .ok (.aload 7, 2) := by decide +kernel
theorem dX6_setWhen_76 : decode cX6_setWhen 76 = .ok (.iload 4, 2) := by decide +kernel
theorem dX6_setWhen_78 : decode cX6_setWhen 78 = .ok (.putfield 86, 3) := by decide +kernel
theorem dX6_setWhen_81 : decode cX6_setWhen 81 = .ok (.aload 7, 2) := by decide +kernel
theorem dX6_setWhen_83 : decode cX6_setWhen 83 = .ok (.iload 5, 2) := by decide +kernel
theorem dX6_setWhen_85 : decode cX6_setWhen 85 = .ok (.putfield 80, 3) := by decide +kernel
theorem dX6_setWhen_88 : decode cX6_setWhen 88 = .ok (.aload 7, 2) := by decide +kernel
theorem dX6_setWhen_90 : decode cX6_setWhen 90 = .ok (.iload 6, 2) := by decide +kernel
theorem dX6_setWhen_92 : decode cX6_setWhen 92 = .ok (.putfield 89, 3) := by decide +kernel
theorem dX6_setWhen_95 : decode cX6_setWhen 95 = .ok (.iload 8, 2) := by decide +kernel
theorem dX6_setWhen_97 : decode cX6_setWhen 97 = .ok (.ireturn, 1) := by decide +kernel
theorem dX6_setWhat_0 : decode cX6_setWhat 0 = .ok (.aload_n 0, 1) := by decide +kernel
theorem dX6_setWhat_1 : decode cX6_setWhat 1 = .ok (.iload_n 1, 1) := by decide +kernel
theorem dX6_setWhat_2 : decode cX6_setWhat 2 = .ok (.invokevirtual 64, 3) := by decide +kernel
theorem dX6_setWhat_5 : decode cX6_setWhat 5 = .ok (.iload_n 2, 1) := by decide +kernel
theorem dX6_setWhat_6 : decode cX6_setWhat 6 = .ok (.invokevirtual 76, 3) := by decide +kernel
theorem dX6_setWhat_9 : decode cX6_setWhat 9 = .ok (.astore 7, 2) := by decide +kernel
theorem dX6_setWhat_11 : decode cX6_setWhat 11 = .ok (.iload 4, 2) := by decide +kernel
theorem dX6_setWhat_13 : decode cX6_setWhat 13 = .ok (.iconst 0, 1) := by decide +kernel
theorem dX6_setWhat_14 : decode cX6_setWhat 14 = .ok (.aload_n 0, 1) := by decide +kernel
theorem dX6_setWhat_15 : decode cX6_setWhat 15 = .ok (.getfield 10, 3) := by decide +kernel
theorem dX6_setWhat_18 : decode cX6_setWhat 18 = .ok (.invokevirtual 48, 3) := by decide +kernel
theorem dX6_setWhat_21 : decode cX6_setWhat 21 = .ok (.iconst 1, 1) := by decide +kernel
theorem dX6_setWhat_22 : decode cX6_setWhat 22 = .ok (.isub, 1) := by decide +kernel
theorem dX6_setWhat_23 : decode cX6_setWhat 23 = .ok (.invokestatic 41, 3) := by decide +kernel
theorem dX6_setWhat_26 : decode cX6_setWhat 26 = .ok (.ifCond .eq 11, 3) := by decide +kernel
theorem dX6_setWhat_29 : decode cX6_setWhat 29 = .ok (.new 92, 3) := by decide +kernel
theorem dX6_setWhat_32 : decode cX6_setWhat 32 = .ok (.dup, 1) := by decide +kernel
theorem dX6_setWhat_33 : decode cX6_setWhat 33 = .ok (.invokespecial 94, 3) := by decide +kernel
theorem dX6_setWhat_36 : decode cX6_setWhat 36 = .ok (.athrow, 1) := by decide +kernel
theorem dX6_setWhat_37 : decode cX6_setWhat 37 = .ok (.iload_n 3, 1) := by decide +kernel
theorem dX6_setWhat_38 : decode cX6_setWhat 38 = .ok (.iconst 0, 1) := by decide +kernel
theorem dX6_setWhat_39 : decode cX6_setWhat 39 = .ok (.iconst 5, 1) := by decide +kernel
theorem dX6_setWhat_40 : decode cX6_setWhat 40 = .ok (.invokestatic 41, 3) := by decide +kernel
theorem dX6_setWhat_43 : decode cX6_setWhat 43 = .ok (.ifCond .ne 26, 3) := by decide +kernel
theorem dX6_setWhat_46 : decode cX6_setWhat 46 = .ok (.iload 5, 2) := by decide +kernel
theorem dX6_setWhat_48 : decode cX6_setWhat 48 = .ok (.iconst 1, 1) := by decide +kernel
theorem dX6_setWhat_49 : decode cX6_setWhat 49 = .ok (.bipush 99, 2) := by decide +kernel
theorem dX6_setWhat_51 : decode cX6_setWhat 51 = .ok (.invokestatic 41, 3) := by decide +kernel
theorem dX6_setWhat_54 : decode cX6_setWhat 54 = .ok (.ifCond .ne 15, 3) := by decide +kernel
theorem dX6_setWhat_57 : decode cX6_setWhat 57 = .ok (.iload 6, 2) := by decide +kernel
theorem dX6_setWhat_59 : decode cX6_setWhat 59 = .ok (.bipush (-12), 2) := by decide +kernel
theorem dX6_setWhat_61 : decode cX6_setWhat 61 = .ok (.bipush 12, 2) := by decide +kernel
theorem dX6_setWhat_63 : decode cX6_setWhat 63 = .ok (.invokestatic 41, 3) := by decide +kernel
theorem dX6_setWhat_66 : decode cX6_setWhat 66 = .ok (.ifCond .eq 11, 3) := by decide +kernel
theorem dX6_setWhat_69 : decode cX6_setWhat 69 = .ok (.new 45, 3) := by decide +kernel
theorem dX6_setWhat_72 : decode cX6_setWhat 72 = .ok (.dup, 1) := by decide +kernel
theorem dX6_setWhat_73 : decode cX6_setWhat 73 = .ok (.invokespecial 47, 3) := by decide +kernel
theorem dX6_setWhat_76 : decode cX6_setWhat 76 = .ok (.athrow, 1) := by decide +kernel
theorem dX6_setWhat_77 : decode cX6_setWhat 77 = .ok (.aload 7, 2) := by decide +kernel
theorem dX6_setWhat_79 : decode cX6_setWhat 79 = .ok (.getfield 95, 3) := by decide +kernel
theorem dX6_setWhat_82 : decode cX6_setWhat 82 = .ok (.istore 8, 2) := by decide +kernel
theorem dX6_setWhat_84 : decode cX6_setWhat 84 = .ok (.aload 7, 2) := by decide +kernel
theorem dX6_setWhat_86 : decode cX6_setWhat 86 = .ok (.iload_n 3, 1) := by decide +kernel
theorem dX6_setWhat_87 : decode cX6_setWhat 87 = .ok (.putfield 95, 3) := by decide +kernel
theorem dX6_setWhat_90 : decode cX6_setWhat 90 = .ok (.aload 7, 2) := by decide +kernel
theorem dX6_setWhat_92 : decode cX6_setWhat 92 = .ok (.iload 4, 2) := by decide +kernel
theorem dX6_setWhat_94 : decode cX6_setWhat 94 = .ok (.putfield 98, 3) := by decide +kernel
theorem dX6_setWhat_97 : decode cX6_setWhat 97 = .ok (.aload 7, 2) := by decide +kernel
theorem dX6_setWhat_99 : decode cX6_setWhat 99 = .ok (.iload 5, 2) := by decide +kernel
theorem dX6_setWhat_101 : decode cX6_setWhat 101 = .ok (.putfield 101, 3) := by decide +kernel
theorem dX6_setWhat_104 : decode cX6_setWhat 104 = .ok (.aload 7, 2) := by decide +kernel
theorem dX6_setWhat_106 : decode cX6_setWhat 106 = .ok (.iload 6, 2) := by decide +kernel
theorem dX6_setWhat_108 : decode cX6_setWhat 108 = .ok (.putfield 104, 3) := by decide +kernel
theorem dX6_setWhat_111 : decode cX6_setWhat 111 = .ok (.iload 8, 2) := by decide +kernel
theorem dX6_setWhat_113 : decode cX6_setWhat 113 = .ok (.ireturn, 1) := by decide +kernel
theorem dX6_tenant_0 : decode cX6_tenant 0 = .ok (.aload_n 0, 1) := by decide +kernel
theorem dX6_tenant_1 : decode cX6_tenant 1 = .ok (.iload_n 1, 1) := by decide +kernel
theorem dX6_tenant_2 : decode cX6_tenant 2 = .ok (.invokevirtual 64, 3) := by decide +kernel
theorem dX6_tenant_5 : decode cX6_tenant 5 = .ok (.astore_n 3, 1) := by decide +kernel
theorem dX6_tenant_6 : decode cX6_tenant 6 = .ok (.iload_n 2, 1) := by decide +kernel
theorem dX6_tenant_7 : decode cX6_tenant 7 = .ok (.iconst 0, 1) := by decide +kernel
theorem dX6_tenant_8 : decode cX6_tenant 8 = .ok (.iconst 5, 1) := by decide +kernel
theorem dX6_tenant_9 : decode cX6_tenant 9 = .ok (.invokestatic 41, 3) := by decide +kernel
theorem dX6_tenant_12 : decode cX6_tenant 12 = .ok (.ifCond .eq 11, 3) := by decide +kernel
theorem dX6_tenant_15 : decode cX6_tenant 15 = .ok (.new 92, 3) := by decide +kernel
theorem dX6_tenant_18 : decode cX6_tenant 18 = .ok (.dup, 1) := by decide +kernel
theorem dX6_tenant_19 : decode cX6_tenant 19 = .ok (.invokespecial 94, 3) := by decide +kernel
theorem dX6_tenant_22 : decode cX6_tenant 22 = .ok (.athrow, 1) := by decide +kernel
theorem dX6_tenant_23 : decode cX6_tenant 23 = .ok (.aload_n 3, 1) := by decide +kernel
theorem dX6_tenant_24 : decode cX6_tenant 24 = .ok (.iload_n 2, 1) := by decide +kernel
theorem dX6_tenant_25 : decode cX6_tenant 25 = .ok (.invokevirtual 111, 3) := by decide +kernel
theorem dX6_tenant_28 : decode cX6_tenant 28 = .ok (.ireturn, 1) := by decide +kernel
theorem dX6_habit_0 : decode cX6_habit 0 = .ok (.aload_n 0, 1) := by decide +kernel
theorem dX6_habit_1 : decode cX6_habit 1 = .ok (.iload_n 1, 1) := by decide +kernel
theorem dX6_habit_2 : decode cX6_habit 2 = .ok (.invokevirtual 64, 3) := by decide +kernel
theorem dX6_habit_5 : decode cX6_habit 5 = .ok (.iload_n 2, 1) := by decide +kernel
theorem dX6_habit_6 : decode cX6_habit 6 = .ok (.invokevirtual 76, 3) := by decide +kernel
theorem dX6_habit_9 : decode cX6_habit 9 = .ok (.astore 4, 2) := by decide +kernel
theorem dX6_habit_11 : decode cX6_habit 11 = .ok (.iload_n 3, 1) := by decide +kernel
theorem dX6_habit_12 : decode cX6_habit 12 = .ok (.iconst 0, 1) := by decide +kernel
theorem dX6_habit_13 : decode cX6_habit 13 = .ok (.bipush 8, 2) := by decide +kernel
theorem dX6_habit_15 : decode cX6_habit 15 = .ok (.invokestatic 41, 3) := by decide +kernel
theorem dX6_habit_18 : decode cX6_habit 18 = .ok (.ifCond .eq 11, 3) := by decide +kernel
theorem dX6_habit_21 : decode cX6_habit 21 = .ok (.new 92, 3) := by decide +kernel
theorem dX6_habit_24 : decode cX6_habit 24 = .ok (.dup, 1) := by decide +kernel
theorem dX6_habit_25 : decode cX6_habit 25 = .ok (.invokespecial 94, 3) := by decide +kernel
theorem dX6_habit_28 : decode cX6_habit 28 = .ok (.athrow, 1) := by decide +kernel
theorem dX6_habit_29 : decode cX6_habit 29 = .ok (.aload 4, 2) := by decide +kernel
theorem dX6_habit_31 : decode cX6_habit 31 = .ok (.iload_n 3, 1) := by decide +kernel
theorem dX6_habit_32 : decode cX6_habit 32 = .ok (.invokevirtual 115, 3) := by decide +kernel
theorem dX6_habit_35 : decode cX6_habit 35 = .ok (.ireturn, 1) := by decide +kernel
theorem dX6_ring_0 : decode cX6_ring 0 = .ok (.aload_n 0, 1) := by decide +kernel
theorem dX6_ring_1 : decode cX6_ring 1 = .ok (.iload_n 1, 1) := by decide +kernel
theorem dX6_ring_2 : decode cX6_ring 2 = .ok (.invokevirtual 64, 3) := by decide +kernel
theorem dX6_ring_5 : decode cX6_ring 5 = .ok (.astore_n 2, 1) := by decide +kernel
theorem dX6_ring_6 : decode cX6_ring 6 = .ok (.aload_n 0, 1) := by decide +kernel
theorem dX6_ring_7 : decode cX6_ring 7 = .ok (.getfield 33, 3) := by decide +kernel
theorem dX6_ring_10 : decode cX6_ring 10 = .ok (.aload_n 0, 1) := by decide +kernel
theorem dX6_ring_11 : decode cX6_ring 11 = .ok (.getfield 116, 3) := by decide +kernel
theorem dX6_ring_14 : decode cX6_ring 14 = .ok (.aload_n 2, 1) := by decide +kernel
theorem dX6_ring_15 : decode cX6_ring 15 = .ok (.getfield 119, 3) := by decide +kernel
theorem dX6_ring_18 : decode cX6_ring 18 = .ok (.invokevirtual 122, 3) := by decide +kernel
theorem dX6_ring_21 : decode cX6_ring 21 = .ok (.aload_n 0, 1) := by decide +kernel
theorem dX6_ring_22 : decode cX6_ring 22 = .ok (.aload_n 0, 1) := by decide +kernel
theorem dX6_ring_23 : decode cX6_ring 23 = .ok (.getfield 33, 3) := by decide +kernel
theorem dX6_ring_26 : decode cX6_ring 26 = .ok (.invokevirtual 126, 3) := by decide +kernel
theorem dX6_ring_29 : decode cX6_ring 29 = .ok (.ireturn, 1) := by decide +kernel
theorem dX6_pass_0 : decode cX6_pass 0 = .ok (.iload_n 1, 1) := by decide +kernel
theorem dX6_pass_1 : decode cX6_pass 1 = .ok (.iconst 1, 1) := by decide +kernel
theorem dX6_pass_2 : decode cX6_pass 2 = .ok (.sipush 1000, 3) := by decide +kernel
theorem dX6_pass_5 : decode cX6_pass 5 = .ok (.invokestatic 41, 3) := by decide +kernel
theorem dX6_pass_8 : decode cX6_pass 8 = .ok (.ifCond .eq 11, 3) := by decide +kernel
theorem dX6_pass_11 : decode cX6_pass 11 = .ok (.new 45, 3) := by decide +kernel
theorem dX6_pass_14 : decode cX6_pass 14 = .ok (.dup, 1) := by decide +kernel
theorem dX6_pass_15 : decode cX6_pass 15 = .ok (.invokespecial 47, 3) := by decide +kernel
theorem dX6_pass_18 : decode cX6_pass 18 = .ok (.athrow, 1) := by decide +kernel
theorem dX6_pass_19 : decode cX6_pass 19 = .ok (.aload_n 0, 1) := by decide +kernel
theorem dX6_pass_20 : decode cX6_pass 20 = .ok (.getfield 130, 3) := by decide +kernel
theorem dX6_pass_23 : decode cX6_pass 23 = .ok (.istore_n 2, 1) := by decide +kernel
theorem dX6_pass_24 : decode cX6_pass 24 = .ok (.iconst 0, 1) := by decide +kernel
theorem dX6_pass_25 : decode cX6_pass 25 = .ok (.istore_n 3, 1) := by decide +kernel
theorem dX6_pass_26 : decode cX6_pass 26 = .ok (.iload_n 3, 1) := by decide +kernel
theorem dX6_pass_27 : decode cX6_pass 27 = .ok (.iload_n 1, 1) := by decide +kernel
theorem dX6_pass_28 : decode cX6_pass 28 = .ok (.if_icmp .ge 13, 3) := by decide +kernel
theorem dX6_pass_31 : decode cX6_pass 31 = .ok (.aload_n 0, 1) := by decide +kernel
theorem dX6_pass_32 : decode cX6_pass 32 = .ok (.invokevirtual 133, 3) := by decide +kernel
theorem dX6_pass_35 : decode cX6_pass 35 = .ok (.iinc 3 1, 3) := by decide +kernel
theorem dX6_pass_38 : decode cX6_pass 38 = .ok (.goto (-12), 3) := by decide +kernel
theorem dX6_pass_41 : decode cX6_pass 41 = .ok (.aload_n 0, 1) := by decide +kernel
theorem dX6_pass_42 : decode cX6_pass 42 = .ok (.getfield 130, 3) := by decide +kernel
theorem dX6_pass_45 : decode cX6_pass 45 = .ok (.iload_n 2, 1) := by decide +kernel
theorem dX6_pass_46 : decode cX6_pass 46 = .ok (.isub, 1) := by decide +kernel
theorem dX6_pass_47 : decode cX6_pass 47 = .ok (.ireturn, 1) := by decide +kernel
theorem dX6_count_0 : decode cX6_count 0 = .ok (.iload_n 1, 1) := by decide +kernel
theorem dX6_count_1 : decode cX6_count 1 = .ok (.iconst 0, 1) := by decide +kernel
theorem dX6_count_2 : decode cX6_count 2 = .ok (.bipush 8, 2) := by decide +kernel
theorem dX6_count_4 : decode cX6_count 4 = .ok (.invokestatic 41, 3) := by decide +kernel
theorem dX6_count_7 : decode cX6_count 7 = .ok (.ifCond .eq 11, 3) := by decide +kernel
theorem dX6_count_10 : decode cX6_count 10 = .ok (.new 92, 3) := by decide +kernel
theorem dX6_count_13 : decode cX6_count 13 = .ok (.dup, 1) := by decide +kernel
theorem dX6_count_14 : decode cX6_count 14 = .ok (.invokespecial 94, 3) := by decide +kernel
theorem dX6_count_17 : decode cX6_count 17 = .ok (.athrow, 1) := by decide +kernel
theorem dX6_count_18 : decode cX6_count 18 = .ok (.aload_n 0, 1) := by decide +kernel
theorem dX6_count_19 : decode cX6_count 19 = .ok (.iload_n 1, 1) := by decide +kernel
theorem dX6_count_20 : decode cX6_count 20 = .ok (.invokevirtual 136, 3) := by decide +kernel
theorem dX6_count_23 : decode cX6_count 23 = .ok (.ireturn, 1) := by decide +kernel
theorem dX6_waiting_0 : decode cX6_waiting 0 = .ok (.aload_n 0, 1) := by decide +kernel
theorem dX6_waiting_1 : decode cX6_waiting 1 = .ok (.getfield 19, 3) := by decide +kernel
theorem dX6_waiting_4 : decode cX6_waiting 4 = .ok (.iload_n 1, 1) := by decide +kernel
theorem dX6_waiting_5 : decode cX6_waiting 5 = .ok (.invokevirtual 137, 3) := by decide +kernel
theorem dX6_waiting_8 : decode cX6_waiting 8 = .ok (.astore_n 3, 1) := by decide +kernel
theorem dX6_waiting_9 : decode cX6_waiting 9 = .ok (.iload_n 2, 1) := by decide +kernel
theorem dX6_waiting_10 : decode cX6_waiting 10 = .ok (.iconst 0, 1) := by decide +kernel
theorem dX6_waiting_11 : decode cX6_waiting 11 = .ok (.iconst 4, 1) := by decide +kernel
theorem dX6_waiting_12 : decode cX6_waiting 12 = .ok (.invokestatic 41, 3) := by decide +kernel
theorem dX6_waiting_15 : decode cX6_waiting 15 = .ok (.ifCond .eq 11, 3) := by decide +kernel
theorem dX6_waiting_18 : decode cX6_waiting 18 = .ok (.new 92, 3) := by decide +kernel
theorem dX6_waiting_21 : decode cX6_waiting 21 = .ok (.dup, 1) := by decide +kernel
theorem dX6_waiting_22 : decode cX6_waiting 22 = .ok (.invokespecial 94, 3) := by decide +kernel
theorem dX6_waiting_25 : decode cX6_waiting 25 = .ok (.athrow, 1) := by decide +kernel
theorem dX6_waiting_26 : decode cX6_waiting 26 = .ok (.aload_n 3, 1) := by decide +kernel
theorem dX6_waiting_27 : decode cX6_waiting 27 = .ok (.iload_n 2, 1) := by decide +kernel
theorem dX6_waiting_28 : decode cX6_waiting 28 = .ok (.invokevirtual 141, 3) := by decide +kernel
theorem dX6_waiting_31 : decode cX6_waiting 31 = .ok (.ireturn, 1) := by decide +kernel
theorem dX6_sung_0 : decode cX6_sung 0 = .ok (.aload_n 0, 1) := by decide +kernel
theorem dX6_sung_1 : decode cX6_sung 1 = .ok (.getfield 26, 3) := by decide +kernel
theorem dX6_sung_4 : decode cX6_sung 4 = .ok (.iload_n 1, 1) := by decide +kernel
theorem dX6_sung_5 : decode cX6_sung 5 = .ok (.invokevirtual 146, 3) := by decide +kernel
theorem dX6_sung_8 : decode cX6_sung 8 = .ok (.astore_n 3, 1) := by decide +kernel
theorem dX6_sung_9 : decode cX6_sung 9 = .ok (.iload_n 2, 1) := by decide +kernel
theorem dX6_sung_10 : decode cX6_sung 10 = .ok (.iconst 0, 1) := by decide +kernel
theorem dX6_sung_11 : decode cX6_sung 11 = .ok (.iconst 5, 1) := by decide +kernel
theorem dX6_sung_12 : decode cX6_sung 12 = .ok (.invokestatic 41, 3) := by decide +kernel
theorem dX6_sung_15 : decode cX6_sung 15 = .ok (.ifCond .eq 11, 3) := by decide +kernel
theorem dX6_sung_18 : decode cX6_sung 18 = .ok (.new 92, 3) := by decide +kernel
theorem dX6_sung_21 : decode cX6_sung 21 = .ok (.dup, 1) := by decide +kernel
theorem dX6_sung_22 : decode cX6_sung 22 = .ok (.invokespecial 94, 3) := by decide +kernel
theorem dX6_sung_25 : decode cX6_sung 25 = .ok (.athrow, 1) := by decide +kernel
theorem dX6_sung_26 : decode cX6_sung 26 = .ok (.aload_n 3, 1) := by decide +kernel
theorem dX6_sung_27 : decode cX6_sung 27 = .ok (.iload_n 2, 1) := by decide +kernel
theorem dX6_sung_28 : decode cX6_sung 28 = .ok (.invokevirtual 149, 3) := by decide +kernel
theorem dX6_sung_31 : decode cX6_sung 31 = .ok (.ireturn, 1) := by decide +kernel
theorem dX6_through_0 : decode cX6_through 0 = .ok (.aload_n 0, 1) := by decide +kernel
theorem dX6_through_1 : decode cX6_through 1 = .ok (.getfield 26, 3) := by decide +kernel
theorem dX6_through_4 : decode cX6_through 4 = .ok (.iload_n 1, 1) := by decide +kernel
theorem dX6_through_5 : decode cX6_through 5 = .ok (.invokevirtual 146, 3) := by decide +kernel
theorem dX6_through_8 : decode cX6_through 8 = .ok (.astore_n 3, 1) := by decide +kernel
theorem dX6_through_9 : decode cX6_through 9 = .ok (.iload_n 2, 1) := by decide +kernel
theorem dX6_through_10 : decode cX6_through 10 = .ok (.iconst 0, 1) := by decide +kernel
theorem dX6_through_11 : decode cX6_through 11 = .ok (.aload_n 3, 1) := by decide +kernel
theorem dX6_through_12 : decode cX6_through 12 = .ok (.getfield 152, 3) := by decide +kernel
theorem dX6_through_15 : decode cX6_through 15 = .ok (.invokestatic 41, 3) := by decide +kernel
theorem dX6_through_18 : decode cX6_through 18 = .ok (.ifCond .eq 11, 3) := by decide +kernel
theorem dX6_through_21 : decode cX6_through 21 = .ok (.new 92, 3) := by decide +kernel
theorem dX6_through_24 : decode cX6_through 24 = .ok (.dup, 1) := by decide +kernel
theorem dX6_through_25 : decode cX6_through 25 = .ok (.invokespecial 94, 3) := by decide +kernel
theorem dX6_through_28 : decode cX6_through 28 = .ok (.athrow, 1) := by decide +kernel
theorem dX6_through_29 : decode cX6_through 29 = .ok (.aload_n 3, 1) := by decide +kernel
theorem dX6_through_30 : decode cX6_through 30 = .ok (.getfield 155, 3) := by decide +kernel
theorem dX6_through_33 : decode cX6_through 33 = .ok (.iload_n 2, 1) := by decide +kernel
theorem dX6_through_34 : decode cX6_through 34 = .ok (.invokestatic 159, 3) := by decide +kernel
theorem dX6_through_37 : decode cX6_through 37 = .ok (.ireturn, 1) := by decide +kernel
theorem dX6_sounds_0 : decode cX6_sounds 0 = .ok (.iload_n 1, 1) := by decide +kernel
theorem dX6_sounds_1 : decode cX6_sounds 1 = .ok (.ifCond .ge 11, 3) := by decide +kernel
theorem dX6_sounds_4 : decode cX6_sounds 4 = .ok (.new 45, 3) := by decide +kernel
theorem dX6_sounds_7 : decode cX6_sounds 7 = .ok (.dup, 1) := by decide +kernel
theorem dX6_sounds_8 : decode cX6_sounds 8 = .ok (.invokespecial 47, 3) := by decide +kernel
theorem dX6_sounds_11 : decode cX6_sounds 11 = .ok (.athrow, 1) := by decide +kernel
theorem dX6_sounds_12 : decode cX6_sounds 12 = .ok (.iload_n 2, 1) := by decide +kernel
theorem dX6_sounds_13 : decode cX6_sounds 13 = .ok (.iconst 0, 1) := by decide +kernel
theorem dX6_sounds_14 : decode cX6_sounds 14 = .ok (.iconst 3, 1) := by decide +kernel
theorem dX6_sounds_15 : decode cX6_sounds 15 = .ok (.invokestatic 41, 3) := by decide +kernel
theorem dX6_sounds_18 : decode cX6_sounds 18 = .ok (.ifCond .eq 11, 3) := by decide +kernel
theorem dX6_sounds_21 : decode cX6_sounds 21 = .ok (.new 92, 3) := by decide +kernel
theorem dX6_sounds_24 : decode cX6_sounds 24 = .ok (.dup, 1) := by decide +kernel
theorem dX6_sounds_25 : decode cX6_sounds 25 = .ok (.invokespecial 94, 3) := by decide +kernel
theorem dX6_sounds_28 : decode cX6_sounds 28 = .ok (.athrow, 1) := by decide +kernel
theorem dX6_sounds_29 : decode cX6_sounds 29 = .ok (.iload_n 2, 1) := by decide +kernel
theorem dX6_sounds_30 : decode cX6_sounds 30 = .ok (.tableswitch 53 0 2 #[26, 35, 44], 26) := by decide +kernel
theorem dX6_sounds_56 : decode cX6_sounds 56 = .ok (.aload_n 0, 1) := by decide +kernel
theorem dX6_sounds_57 : decode cX6_sounds 57 = .ok (.getfield 26, 3) := by decide +kernel
theorem dX6_sounds_60 : decode cX6_sounds 60 = .ok (.iload_n 1, 1) := by decide +kernel
theorem dX6_sounds_61 : decode cX6_sounds 61 = .ok (.invokevirtual 163, 3) := by decide +kernel
theorem dX6_sounds_64 : decode cX6_sounds 64 = .ok (.ireturn, 1) := by decide +kernel
theorem dX6_sounds_65 : decode cX6_sounds 65 = .ok (.aload_n 0, 1) := by decide +kernel
theorem dX6_sounds_66 : decode cX6_sounds 66 = .ok (.getfield 26, 3) := by decide +kernel
theorem dX6_sounds_69 : decode cX6_sounds 69 = .ok (.iload_n 1, 1) := by decide +kernel
theorem dX6_sounds_70 : decode cX6_sounds 70 = .ok (.invokevirtual 166, 3) := by decide +kernel
theorem dX6_sounds_73 : decode cX6_sounds 73 = .ok (.ireturn, 1) := by decide +kernel
theorem dX6_sounds_74 : decode cX6_sounds 74 = .ok (.aload_n 0, 1) := by decide +kernel
theorem dX6_sounds_75 : decode cX6_sounds 75 = .ok (.getfield 26, 3) := by decide +kernel
theorem dX6_sounds_78 : decode cX6_sounds 78 = .ok (.iload_n 1, 1) := by decide +kernel
theorem dX6_sounds_79 : decode cX6_sounds 79 = .ok (.invokevirtual 169, 3) := by decide +kernel
theorem dX6_sounds_82 : decode cX6_sounds 82 = .ok (.ireturn, 1) := by decide +kernel
theorem dX6_sounds_83 : decode cX6_sounds 83 = .ok (.aload_n 0, 1) := by decide +kernel
theorem dX6_sounds_84 : decode cX6_sounds 84 = .ok (.getfield 26, 3) := by decide +kernel
theorem dX6_sounds_87 : decode cX6_sounds 87 = .ok (.iload_n 1, 1) := by decide +kernel
theorem dX6_sounds_88 : decode cX6_sounds 88 = .ok (.invokevirtual 172, 3) := by decide +kernel
theorem dX6_sounds_91 : decode cX6_sounds 91 = .ok (.ireturn, 1) := by decide +kernel
theorem dX6_best_0 : decode cX6_best 0 = .ok (.aload_n 0, 1) := by decide +kernel
theorem dX6_best_1 : decode cX6_best 1 = .ok (.getfield 26, 3) := by decide +kernel
theorem dX6_best_4 : decode cX6_best 4 = .ok (.invokevirtual 175, 3) := by decide +kernel
theorem dX6_best_7 : decode cX6_best 7 = .ok (.ireturn, 1) := by decide +kernel
theorem dX6_reach_0 : decode cX6_reach 0 = .ok (.aload_n 0, 1) := by decide +kernel
theorem dX6_reach_1 : decode cX6_reach 1 = .ok (.aload_n 0, 1) := by decide +kernel
theorem dX6_reach_2 : decode cX6_reach 2 = .ok (.iload_n 1, 1) := by decide +kernel
theorem dX6_reach_3 : decode cX6_reach 3 = .ok (.invokevirtual 64, 3) := by decide +kernel
theorem dX6_reach_6 : decode cX6_reach 6 = .ok (.invokevirtual 181, 3) := by decide +kernel
theorem dX6_reach_9 : decode cX6_reach 9 = .ok (.istore_n 2, 1) := by decide +kernel
theorem dX6_reach_10 : decode cX6_reach 10 = .ok (.iconst 2, 1) := by decide +kernel
theorem dX6_reach_11 : decode cX6_reach 11 = .ok (.istore_n 3, 1) := by decide +kernel
theorem dX6_reach_12 : decode cX6_reach 12 = .ok (.iload_n 3, 1) := by decide +kernel
theorem dX6_reach_13 : decode cX6_reach 13 = .ok (.bipush 16, 2) := by decide +kernel
theorem dX6_reach_15 : decode cX6_reach 15 = .ok (.if_icmp .gt 17, 3) := by decide +kernel
theorem dX6_reach_18 : decode cX6_reach 18 = .ok (.iload_n 2, 1) := by decide +kernel
theorem dX6_reach_19 : decode cX6_reach 19 = .ok (.aload_n 0, 1) := by decide +kernel
theorem dX6_reach_20 : decode cX6_reach 20 = .ok (.iload_n 2, 1) := by decide +kernel
theorem dX6_reach_21 : decode cX6_reach 21 = .ok (.invokevirtual 185, 3) := by decide +kernel
theorem dX6_reach_24 : decode cX6_reach 24 = .ok (.ior, 1) := by decide +kernel
theorem dX6_reach_25 : decode cX6_reach 25 = .ok (.istore_n 2, 1) := by decide +kernel
theorem dX6_reach_26 : decode cX6_reach 26 = .ok (.iinc 3 1, 3) := by decide +kernel
theorem dX6_reach_29 : decode cX6_reach 29 = .ok (.goto (-17), 3) := by decide +kernel
theorem dX6_reach_32 : decode cX6_reach 32 = .ok (.iload_n 2, 1) := by decide +kernel
theorem dX6_reach_33 : decode cX6_reach 33 = .ok (.ireturn, 1) := by decide +kernel
theorem dX6_hops_0 : decode cX6_hops 0 = .ok (.aload_n 0, 1) := by decide +kernel
theorem dX6_hops_1 : decode cX6_hops 1 = .ok (.iload_n 1, 1) := by decide +kernel
theorem dX6_hops_2 : decode cX6_hops 2 = .ok (.invokevirtual 64, 3) := by decide +kernel
theorem dX6_hops_5 : decode cX6_hops 5 = .ok (.astore_n 3, 1) := by decide +kernel
theorem dX6_hops_6 : decode cX6_hops 6 = .ok (.aload_n 0, 1) := by decide +kernel
theorem dX6_hops_7 : decode cX6_hops 7 = .ok (.iload_n 2, 1) := by decide +kernel
theorem dX6_hops_8 : decode cX6_hops 8 = .ok (.invokevirtual 64, 3) := by decide +kernel
theorem dX6_hops_11 : decode cX6_hops 11 = .ok (.astore 4, 2) := by decide +kernel
theorem dX6_hops_13 : decode cX6_hops 13 = .ok (.aload_n 0, 1) := by decide +kernel
theorem dX6_hops_14 : decode cX6_hops 14 = .ok (.aload_n 3, 1) := by decide +kernel
theorem dX6_hops_15 : decode cX6_hops 15 = .ok (.invokevirtual 181, 3) := by decide +kernel
theorem dX6_hops_18 : decode cX6_hops 18 = .ok (.istore 5, 2) := by decide +kernel
theorem dX6_hops_20 : decode cX6_hops 20 = .ok (.iconst 1, 1) := by decide +kernel
theorem dX6_hops_21 : decode cX6_hops 21 = .ok (.istore 6, 2) := by decide +kernel
theorem dX6_hops_23 : decode cX6_hops 23 = .ok (.iload 6, 2) := by decide +kernel
theorem dX6_hops_25 : decode cX6_hops 25 = .ok (.bipush 16, 2) := by decide +kernel
theorem dX6_hops_27 : decode cX6_hops 27 = .ok (.if_icmp .gt 33, 3) := by decide +kernel
theorem dX6_hops_30 : decode cX6_hops 30 = .ok (.iload 5, 2) := by decide +kernel
theorem dX6_hops_32 : decode cX6_hops 32 = .ok (.aload 4, 2) := by decide +kernel
theorem dX6_hops_34 : decode cX6_hops 34 = .ok (.getfield 119, 3) := by decide +kernel
theorem dX6_hops_37 : decode cX6_hops 37 = .ok (.invokestatic 188, 3) := by decide +kernel
theorem dX6_hops_40 : decode cX6_hops 40 = .ok (.ifCond .eq 6, 3) := by decide +kernel
theorem dX6_hops_43 : decode cX6_hops 43 = .ok (.iload 6, 2) := by decide +kernel
theorem dX6_hops_45 : decode cX6_hops 45 = .ok (.ireturn, 1) := by decide +kernel
theorem dX6_hops_46 : decode cX6_hops 46 = .ok (.aload_n 0, 1) := by decide +kernel
theorem dX6_hops_47 : decode cX6_hops 47 = .ok (.iload 5, 2) := by decide +kernel
theorem dX6_hops_49 : decode cX6_hops 49 = .ok (.invokevirtual 185, 3) := by decide +kernel
theorem dX6_hops_52 : decode cX6_hops 52 = .ok (.istore 5, 2) := by decide +kernel
theorem dX6_hops_54 : decode cX6_hops 54 = .ok (.iinc 6 1, 3) := by decide +kernel
theorem dX6_hops_57 : decode cX6_hops 57 = .ok (.goto (-34), 3) := by decide +kernel
theorem dX6_hops_60 : decode cX6_hops 60 = .ok (.iconst (-1), 1) := by decide +kernel
theorem dX6_hops_61 : decode cX6_hops 61 = .ok (.ireturn, 1) := by decide +kernel
theorem dX6_isOutside_0 : decode cX6_isOutside 0 = .ok (.iload_n 0, 1) := by decide +kernel
theorem dX6_isOutside_1 : decode cX6_isOutside 1 = .ok (.iload_n 1, 1) := by decide +kernel
theorem dX6_isOutside_2 : decode cX6_isOutside 2 = .ok (.if_icmp .lt 8, 3) := by decide +kernel
theorem dX6_isOutside_5 : decode cX6_isOutside 5 = .ok (.iload_n 0, 1) := by decide +kernel
theorem dX6_isOutside_6 : decode cX6_isOutside 6 = .ok (.iload_n 2, 1) := by decide +kernel
theorem dX6_isOutside_7 : decode cX6_isOutside 7 = .ok (.if_icmp .le 7, 3) := by decide +kernel
theorem dX6_isOutside_10 : decode cX6_isOutside 10 = .ok (.iconst 1, 1) := by decide +kernel
theorem dX6_isOutside_11 : decode cX6_isOutside 11 = .ok (.goto 4, 3) := by decide +kernel
theorem dX6_isOutside_14 : decode cX6_isOutside 14 = .ok (.iconst 0, 1) := by decide +kernel
theorem dX6_isOutside_15 : decode cX6_isOutside 15 = .ok (.ireturn, 1) := by decide +kernel
theorem dX6_contains_0 : decode cX6_contains 0 = .ok (.iload_n 0, 1) := by decide +kernel
theorem dX6_contains_1 : decode cX6_contains 1 = .ok (.iload_n 1, 1) := by decide +kernel
theorem dX6_contains_2 : decode cX6_contains 2 = .ok (.ishr, 1) := by decide +kernel
theorem dX6_contains_3 : decode cX6_contains 3 = .ok (.iconst 1, 1) := by decide +kernel
theorem dX6_contains_4 : decode cX6_contains 4 = .ok (.iand, 1) := by decide +kernel
theorem dX6_contains_5 : decode cX6_contains 5 = .ok (.iconst 1, 1) := by decide +kernel
theorem dX6_contains_6 : decode cX6_contains 6 = .ok (.if_icmp .ne 7, 3) := by decide +kernel
theorem dX6_contains_9 : decode cX6_contains 9 = .ok (.iconst 1, 1) := by decide +kernel
theorem dX6_contains_10 : decode cX6_contains 10 = .ok (.goto 4, 3) := by decide +kernel
theorem dX6_contains_13 : decode cX6_contains 13 = .ok (.iconst 0, 1) := by decide +kernel
theorem dX6_contains_14 : decode cX6_contains 14 = .ok (.ireturn, 1) := by decide +kernel
theorem dX6_tenantOnWay_0 : decode cX6_tenantOnWay 0 = .ok (.lload_n 0, 1) := by decide +kernel
theorem dX6_tenantOnWay_1 : decode cX6_tenantOnWay 1 = .ok (.iload_n 2, 1) := by decide +kernel
theorem dX6_tenantOnWay_2 : decode cX6_tenantOnWay 2 = .ok (.iconst 4, 1) := by decide +kernel
theorem dX6_tenantOnWay_3 : decode cX6_tenantOnWay 3 = .ok (.imul, 1) := by decide +kernel
theorem dX6_tenantOnWay_4 : decode cX6_tenantOnWay 4 = .ok (.lshr, 1) := by decide +kernel
theorem dX6_tenantOnWay_5 : decode cX6_tenantOnWay 5 = .ok (.l2i, 1) := by decide +kernel
theorem dX6_tenantOnWay_6 : decode cX6_tenantOnWay 6 = .ok (.bipush 15, 2) := by decide +kernel
theorem dX6_tenantOnWay_8 : decode cX6_tenantOnWay 8 = .ok (.iand, 1) := by decide +kernel
theorem dX6_tenantOnWay_9 : decode cX6_tenantOnWay 9 = .ok (.ireturn, 1) := by decide +kernel
theorem dX6_tenantAt_0 : decode cX6_tenantAt 0 = .ok (.iload_n 1, 1) := by decide +kernel
theorem dX6_tenantAt_1 : decode cX6_tenantAt 1 = .ok (.iconst 0, 1) := by decide +kernel
theorem dX6_tenantAt_2 : decode cX6_tenantAt 2 = .ok (.aload_n 0, 1) := by decide +kernel
theorem dX6_tenantAt_3 : decode cX6_tenantAt 3 = .ok (.getfield 10, 3) := by decide +kernel
theorem dX6_tenantAt_6 : decode cX6_tenantAt 6 = .ok (.invokevirtual 48, 3) := by decide +kernel
theorem dX6_tenantAt_9 : decode cX6_tenantAt 9 = .ok (.iconst 1, 1) := by decide +kernel
theorem dX6_tenantAt_10 : decode cX6_tenantAt 10 = .ok (.isub, 1) := by decide +kernel
theorem dX6_tenantAt_11 : decode cX6_tenantAt 11 = .ok (.invokestatic 41, 3) := by decide +kernel
theorem dX6_tenantAt_14 : decode cX6_tenantAt 14 = .ok (.ifCond .eq 11, 3) := by decide +kernel
theorem dX6_tenantAt_17 : decode cX6_tenantAt 17 = .ok (.new 92, 3) := by decide +kernel
theorem dX6_tenantAt_20 : decode cX6_tenantAt 20 = .ok (.dup, 1) := by decide +kernel
theorem dX6_tenantAt_21 : decode cX6_tenantAt 21 = .ok (.invokespecial 94, 3) := by decide +kernel
theorem dX6_tenantAt_24 : decode cX6_tenantAt 24 = .ok (.athrow, 1) := by decide +kernel
theorem dX6_tenantAt_25 : decode cX6_tenantAt 25 = .ok (.aload_n 0, 1) := by decide +kernel
theorem dX6_tenantAt_26 : decode cX6_tenantAt 26 = .ok (.getfield 10, 3) := by decide +kernel
theorem dX6_tenantAt_29 : decode cX6_tenantAt 29 = .ok (.iload_n 1, 1) := by decide +kernel
theorem dX6_tenantAt_30 : decode cX6_tenantAt 30 = .ok (.invokevirtual 192, 3) := by decide +kernel
theorem dX6_tenantAt_33 : decode cX6_tenantAt 33 = .ok (.checkcast 55, 3) := by decide +kernel
theorem dX6_tenantAt_36 : decode cX6_tenantAt 36 = .ok (.areturn, 1) := by decide +kernel
theorem dX6_part_0 : decode cX6_part 0 = .ok (.iload_n 1, 1) := by decide +kernel
theorem dX6_part_1 : decode cX6_part 1 = .ok (.tableswitch 99 0 7 #[47, 52, 57, 65, 76, 81, 86, 94], 47) := by decide +kernel
theorem dX6_part_48 : decode cX6_part 48 = .ok (.aload_n 0, 1) := by decide +kernel
theorem dX6_part_49 : decode cX6_part 49 = .ok (.getfield 116, 3) := by decide +kernel
theorem dX6_part_52 : decode cX6_part 52 = .ok (.ireturn, 1) := by decide +kernel
theorem dX6_part_53 : decode cX6_part 53 = .ok (.aload_n 0, 1) := by decide +kernel
theorem dX6_part_54 : decode cX6_part 54 = .ok (.invokevirtual 212, 3) := by decide +kernel
theorem dX6_part_57 : decode cX6_part 57 = .ok (.ireturn, 1) := by decide +kernel
theorem dX6_part_58 : decode cX6_part 58 = .ok (.aload_n 0, 1) := by decide +kernel
theorem dX6_part_59 : decode cX6_part 59 = .ok (.getfield 10, 3) := by decide +kernel
theorem dX6_part_62 : decode cX6_part 62 = .ok (.invokevirtual 48, 3) := by decide +kernel
theorem dX6_part_65 : decode cX6_part 65 = .ok (.ireturn, 1) := by decide +kernel
theorem dX6_part_66 : decode cX6_part 66 = .ok (.aload_n 0, 1) := by decide +kernel
theorem dX6_part_67 : decode cX6_part 67 = .ok (.getfield 19, 3) := by decide +kernel
theorem dX6_part_70 : decode cX6_part 70 = .ok (.getfield 215, 3) := by decide +kernel
theorem dX6_part_73 : decode cX6_part 73 = .ok (.invokevirtual 48, 3) := by decide +kernel
theorem dX6_part_76 : decode cX6_part 76 = .ok (.ireturn, 1) := by decide +kernel
theorem dX6_part_77 : decode cX6_part 77 = .ok (.aload_n 0, 1) := by decide +kernel
theorem dX6_part_78 : decode cX6_part 78 = .ok (.getfield 130, 3) := by decide +kernel
theorem dX6_part_81 : decode cX6_part 81 = .ok (.ireturn, 1) := by decide +kernel
theorem dX6_part_82 : decode cX6_part 82 = .ok (.aload_n 0, 1) := by decide +kernel
theorem dX6_part_83 : decode cX6_part 83 = .ok (.getfield 218, 3) := by decide +kernel
theorem dX6_part_86 : decode cX6_part 86 = .ok (.ireturn, 1) := by decide +kernel
theorem dX6_part_87 : decode cX6_part 87 = .ok (.aload_n 0, 1) := by decide +kernel
theorem dX6_part_88 : decode cX6_part 88 = .ok (.getfield 26, 3) := by decide +kernel
theorem dX6_part_91 : decode cX6_part 91 = .ok (.getfield 221, 3) := by decide +kernel
theorem dX6_part_94 : decode cX6_part 94 = .ok (.ireturn, 1) := by decide +kernel
theorem dX6_part_95 : decode cX6_part 95 = .ok (.aload_n 0, 1) := by decide +kernel
theorem dX6_part_96 : decode cX6_part 96 = .ok (.getfield 224, 3) := by decide +kernel
theorem dX6_part_99 : decode cX6_part 99 = .ok (.ireturn, 1) := by decide +kernel
theorem dX6_part_100 : decode cX6_part 100 = .ok (.aload_n 0, 1) := by decide +kernel
theorem dX6_part_101 : decode cX6_part 101 = .ok (.getfield 37, 3) := by decide +kernel
theorem dX6_part_104 : decode cX6_part 104 = .ok (.ireturn, 1) := by decide +kernel
theorem dX6_hourNow_0 : decode cX6_hourNow 0 = .ok (.aload_n 0, 1) := by decide +kernel
theorem dX6_hourNow_1 : decode cX6_hourNow 1 = .ok (.getfield 37, 3) := by decide +kernel
theorem dX6_hourNow_4 : decode cX6_hourNow 4 = .ok (.ifCond .le 18, 3) := by decide +kernel
theorem dX6_hourNow_7 : decode cX6_hourNow 7 = .ok (.aload_n 0, 1) := by decide +kernel
theorem dX6_hourNow_8 : decode cX6_hourNow 8 = .ok (.getfield 116, 3) := by decide +kernel
theorem dX6_hourNow_11 : decode cX6_hourNow 11 = .ok (.aload_n 0, 1) := by decide +kernel
theorem dX6_hourNow_12 : decode cX6_hourNow 12 = .ok (.getfield 37, 3) := by decide +kernel
theorem dX6_hourNow_15 : decode cX6_hourNow 15 = .ok (.idiv, 1) := by decide +kernel
theorem dX6_hourNow_16 : decode cX6_hourNow 16 = .ok (.bipush 24, 2) := by decide +kernel
theorem dX6_hourNow_18 : decode cX6_hourNow 18 = .ok (.irem, 1) := by decide +kernel
theorem dX6_hourNow_19 : decode cX6_hourNow 19 = .ok (.goto 4, 3) := by decide +kernel
theorem dX6_hourNow_23 : decode cX6_hourNow 23 = .ok (.ireturn, 1) := by decide +kernel
theorem dX6_hourBegins_0 : decode cX6_hourBegins 0 = .ok (.aload_n 0, 1) := by decide +kernel
theorem dX6_hourBegins_1 : decode cX6_hourBegins 1 = .ok (.getfield 37, 3) := by decide +kernel
theorem dX6_hourBegins_4 : decode cX6_hourBegins 4 = .ok (.ifCond .le 19, 3) := by decide +kernel
theorem dX6_hourBegins_7 : decode cX6_hourBegins 7 = .ok (.aload_n 0, 1) := by decide +kernel
theorem dX6_hourBegins_8 : decode cX6_hourBegins 8 = .ok (.getfield 116, 3) := by decide +kernel
theorem dX6_hourBegins_11 : decode cX6_hourBegins 11 = .ok (.aload_n 0, 1) := by decide +kernel
theorem dX6_hourBegins_12 : decode cX6_hourBegins 12 = .ok (.getfield 37, 3) := by decide +kernel
theorem dX6_hourBegins_15 : decode cX6_hourBegins 15 = .ok (.irem, 1) := by decide +kernel
theorem dX6_hourBegins_16 : decode cX6_hourBegins 16 = .ok (.ifCond .ne 7, 3) := by decide +kernel
theorem dX6_hourBegins_19 : decode cX6_hourBegins 19 = .ok (.iconst 1, 1) := by decide +kernel
theorem dX6_hourBegins_20 : decode cX6_hourBegins 20 = .ok (.goto 4, 3) := by decide +kernel
theorem dX6_hourBegins_23 : decode cX6_hourBegins 23 = .ok (.iconst 0, 1) := by decide +kernel
theorem dX6_hourBegins_24 : decode cX6_hourBegins 24 = .ok (.ireturn, 1) := by decide +kernel
theorem dX6_doNextTick_0 : decode cX6_doNextTick 0 = .ok (.aload_n 0, 1) := by decide +kernel
theorem dX6_doNextTick_1 : decode cX6_doNextTick 1 = .ok (.dup, 1) := by decide +kernel
theorem dX6_doNextTick_2 : decode cX6_doNextTick 2 = .ok (.getfield 116, 3) := by decide +kernel
theorem dX6_doNextTick_5 : decode cX6_doNextTick 5 = .ok (.iconst 1, 1) := by decide +kernel
theorem dX6_doNextTick_6 : decode cX6_doNextTick 6 = .ok (.iadd, 1) := by decide +kernel
theorem dX6_doNextTick_7 : decode cX6_doNextTick 7 = .ok (.putfield 116, 3) := by decide +kernel
theorem dX6_doNextTick_10 : decode cX6_doNextTick 10 = .ok (.aload_n 0, 1) := by decide +kernel
theorem dX6_doNextTick_11 : decode cX6_doNextTick 11 = .ok (.invokevirtual 227, 3) := by decide +kernel
theorem dX6_doNextTick_14 : decode cX6_doNextTick 14 = .ok (.ifCond .eq 7, 3) := by decide +kernel
theorem dX6_doNextTick_17 : decode cX6_doNextTick 17 = .ok (.aload_n 0, 1) := by decide +kernel
theorem dX6_doNextTick_18 : decode cX6_doNextTick 18 = .ok (.invokevirtual 231, 3) := by decide +kernel
theorem dX6_doNextTick_21 : decode cX6_doNextTick 21 = .ok (.iconst 0, 1) := by decide +kernel
theorem dX6_doNextTick_22 : decode cX6_doNextTick 22 = .ok (.istore_n 1, 1) := by decide +kernel
theorem dX6_doNextTick_23 : decode cX6_doNextTick 23 = .ok (.iload_n 1, 1) := by decide +kernel
theorem dX6_doNextTick_24 : decode cX6_doNextTick 24 = .ok (.bipush 60, 2) := by decide +kernel
theorem dX6_doNextTick_26 : decode cX6_doNextTick 26 = .ok (.if_icmp .ge 42, 3) := by decide +kernel
theorem dX6_doNextTick_29 : decode cX6_doNextTick 29 = .ok (.aload_n 0, 1) := by decide +kernel
theorem dX6_doNextTick_30 : decode cX6_doNextTick 30 = .ok (.getfield 19, 3) := by decide +kernel
theorem dX6_doNextTick_33 : decode cX6_doNextTick 33 = .ok (.aload_n 0, 1) := by decide +kernel
theorem dX6_doNextTick_34 : decode cX6_doNextTick 34 = .ok (.getfield 116, 3) := by decide +kernel
theorem dX6_doNextTick_37 : decode cX6_doNextTick 37 = .ok (.invokevirtual 234, 3) := by decide +kernel
theorem dX6_doNextTick_40 : decode cX6_doNextTick 40 = .ok (.astore_n 2, 1) := by decide +kernel
theorem dX6_doNextTick_41 : decode cX6_doNextTick 41 = .ok (.aload_n 2, 1) := by decide +kernel
theorem dX6_doNextTick_42 : decode cX6_doNextTick 42 = .ok (.ifnonnull 6, 3) := by decide +kernel
theorem dX6_doNextTick_45 : decode cX6_doNextTick 45 = .ok (.goto 23, 3) := by decide +kernel
theorem dX6_doNextTick_48 : decode cX6_doNextTick 48 = .ok (.aload_n 0, 1) := by decide +kernel
theorem dX6_doNextTick_49 : decode cX6_doNextTick 49 = .ok (.aload_n 2, 1) := by decide +kernel
theorem dX6_doNextTick_50 : decode cX6_doNextTick 50 = .ok (.invokevirtual 126, 3) := by decide +kernel
theorem dX6_doNextTick_53 : decode cX6_doNextTick 53 = .ok (.pop, 1) := by decide +kernel
theorem dX6_doNextTick_54 : decode cX6_doNextTick 54 = .ok (.aload_n 0, 1) := by decide +kernel
theorem dX6_doNextTick_55 : decode cX6_doNextTick 55 = .ok (.getfield 19, 3) := by decide +kernel
theorem dX6_doNextTick_58 : decode cX6_doNextTick 58 = .ok (.aload_n 2, 1) := by decide +kernel
theorem dX6_doNextTick_59 : decode cX6_doNextTick 59 = .ok (.invokevirtual 237, 3) := by decide +kernel
theorem dX6_doNextTick_62 : decode cX6_doNextTick 62 = .ok (.iinc 1 1, 3) := by decide +kernel
theorem dX6_doNextTick_65 : decode cX6_doNextTick 65 = .ok (.goto (-42), 3) := by decide +kernel
theorem dX6_doNextTick_68 : decode cX6_doNextTick 68 = .ok (.return_, 1) := by decide +kernel
theorem dX6_growPatience_0 : decode cX6_growPatience 0 = .ok (.iconst 0, 1) := by decide +kernel
theorem dX6_growPatience_1 : decode cX6_growPatience 1 = .ok (.istore_n 1, 1) := by decide +kernel
theorem dX6_growPatience_2 : decode cX6_growPatience 2 = .ok (.iload_n 1, 1) := by decide +kernel
theorem dX6_growPatience_3 : decode cX6_growPatience 3 = .ok (.aload_n 0, 1) := by decide +kernel
theorem dX6_growPatience_4 : decode cX6_growPatience 4 = .ok (.getfield 10, 3) := by decide +kernel
theorem dX6_growPatience_7 : decode cX6_growPatience 7 = .ok (.invokevirtual 48, 3) := by decide +kernel
theorem dX6_growPatience_10 : decode cX6_growPatience 10 = .ok (.if_icmp .ge 42, 3) := by decide +kernel
theorem dX6_growPatience_13 : decode cX6_growPatience 13 = .ok (.aload_n 0, 1) := by decide +kernel
theorem dX6_growPatience_14 : decode cX6_growPatience 14 = .ok (.getfield 10, 3) := by decide +kernel
theorem dX6_growPatience_17 : decode cX6_growPatience 17 = .ok (.iload_n 1, 1) := by decide +kernel
theorem dX6_growPatience_18 : decode cX6_growPatience 18 = .ok (.invokevirtual 192, 3) := by decide +kernel
theorem dX6_growPatience_21 : decode cX6_growPatience 21 = .ok (.checkcast 55, 3) := by decide +kernel
theorem dX6_growPatience_24 : decode cX6_growPatience 24 = .ok (.astore_n 2, 1) := by decide +kernel
theorem dX6_growPatience_25 : decode cX6_growPatience 25 = .ok (.aload_n 2, 1) := by decide +kernel
theorem dX6_growPatience_26 : decode cX6_growPatience 26 = .ok (.getfield 195, 3) := by decide +kernel
theorem dX6_growPatience_29 : decode cX6_growPatience 29 = .ok (.aload_n 2, 1) := by decide +kernel
theorem dX6_growPatience_30 : decode cX6_growPatience 30 = .ok (.getfield 241, 3) := by decide +kernel
theorem dX6_growPatience_33 : decode cX6_growPatience 33 = .ok (.if_icmp .ge 13, 3) := by decide +kernel
theorem dX6_growPatience_36 : decode cX6_growPatience 36 = .ok (.aload_n 2, 1) := by decide +kernel
theorem dX6_growPatience_37 : decode cX6_growPatience 37 = .ok (.dup, 1) := by decide +kernel
theorem dX6_growPatience_38 : decode cX6_growPatience 38 = .ok (.getfield 195, 3) := by decide +kernel
theorem dX6_growPatience_41 : decode cX6_growPatience 41 = .ok (.iconst 1, 1) := by decide +kernel
theorem dX6_growPatience_42 : decode cX6_growPatience 42 = .ok (.iadd, 1) := by decide +kernel
theorem dX6_growPatience_43 : decode cX6_growPatience 43 = .ok (.putfield 195, 3) := by decide +kernel
theorem dX6_growPatience_46 : decode cX6_growPatience 46 = .ok (.iinc 1 1, 3) := by decide +kernel
theorem dX6_growPatience_49 : decode cX6_growPatience 49 = .ok (.goto (-47), 3) := by decide +kernel
theorem dX6_growPatience_52 : decode cX6_growPatience 52 = .ok (.return_, 1) := by decide +kernel
theorem dX6_doRing_0 : decode cX6_doRing 0 = .ok (.aload_n 0, 1) := by decide +kernel
theorem dX6_doRing_1 : decode cX6_doRing 1 = .ok (.aload_n 1, 1) := by decide +kernel
theorem dX6_doRing_2 : decode cX6_doRing 2 = .ok (.getfield 244, 3) := by decide +kernel
theorem dX6_doRing_5 : decode cX6_doRing 5 = .ok (.invokevirtual 64, 3) := by decide +kernel
theorem dX6_doRing_8 : decode cX6_doRing 8 = .ok (.astore_n 2, 1) := by decide +kernel
theorem dX6_doRing_9 : decode cX6_doRing 9 = .ok (.aload_n 2, 1) := by decide +kernel
theorem dX6_doRing_10 : decode cX6_doRing 10 = .ok (.getfield 246, 3) := by decide +kernel
theorem dX6_doRing_13 : decode cX6_doRing 13 = .ok (.aload_n 0, 1) := by decide +kernel
theorem dX6_doRing_14 : decode cX6_doRing 14 = .ok (.getfield 116, 3) := by decide +kernel
theorem dX6_doRing_17 : decode cX6_doRing 17 = .ok (.if_icmp .ne 15, 3) := by decide +kernel
theorem dX6_doRing_20 : decode cX6_doRing 20 = .ok (.aload_n 0, 1) := by decide +kernel
theorem dX6_doRing_21 : decode cX6_doRing 21 = .ok (.dup, 1) := by decide +kernel
theorem dX6_doRing_22 : decode cX6_doRing 22 = .ok (.getfield 218, 3) := by decide +kernel
theorem dX6_doRing_25 : decode cX6_doRing 25 = .ok (.iconst 1, 1) := by decide +kernel
theorem dX6_doRing_26 : decode cX6_doRing 26 = .ok (.iadd, 1) := by decide +kernel
theorem dX6_doRing_27 : decode cX6_doRing 27 = .ok (.putfield 218, 3) := by decide +kernel
theorem dX6_doRing_30 : decode cX6_doRing 30 = .ok (.iconst 2, 1) := by decide +kernel
theorem dX6_doRing_31 : decode cX6_doRing 31 = .ok (.ireturn, 1) := by decide +kernel
theorem dX6_doRing_32 : decode cX6_doRing 32 = .ok (.aload_n 2, 1) := by decide +kernel
theorem dX6_doRing_33 : decode cX6_doRing 33 = .ok (.aload_n 0, 1) := by decide +kernel
theorem dX6_doRing_34 : decode cX6_doRing 34 = .ok (.getfield 116, 3) := by decide +kernel
theorem dX6_doRing_37 : decode cX6_doRing 37 = .ok (.putfield 246, 3) := by decide +kernel
theorem dX6_doRing_40 : decode cX6_doRing 40 = .ok (.aload_n 2, 1) := by decide +kernel
theorem dX6_doRing_41 : decode cX6_doRing 41 = .ok (.dup, 1) := by decide +kernel
theorem dX6_doRing_42 : decode cX6_doRing 42 = .ok (.getfield 249, 3) := by decide +kernel
theorem dX6_doRing_45 : decode cX6_doRing 45 = .ok (.iconst 1, 1) := by decide +kernel
theorem dX6_doRing_46 : decode cX6_doRing 46 = .ok (.iadd, 1) := by decide +kernel
theorem dX6_doRing_47 : decode cX6_doRing 47 = .ok (.putfield 249, 3) := by decide +kernel
theorem dX6_doRing_50 : decode cX6_doRing 50 = .ok (.aload_n 0, 1) := by decide +kernel
theorem dX6_doRing_51 : decode cX6_doRing 51 = .ok (.dup, 1) := by decide +kernel
theorem dX6_doRing_52 : decode cX6_doRing 52 = .ok (.getfield 130, 3) := by decide +kernel
theorem dX6_doRing_55 : decode cX6_doRing 55 = .ok (.iconst 1, 1) := by decide +kernel
theorem dX6_doRing_56 : decode cX6_doRing 56 = .ok (.iadd, 1) := by decide +kernel
theorem dX6_doRing_57 : decode cX6_doRing 57 = .ok (.putfield 130, 3) := by decide +kernel
theorem dX6_doRing_60 : decode cX6_doRing 60 = .ok (.aload_n 0, 1) := by decide +kernel
theorem dX6_doRing_61 : decode cX6_doRing 61 = .ok (.aload_n 0, 1) := by decide +kernel
theorem dX6_doRing_62 : decode cX6_doRing 62 = .ok (.getfield 224, 3) := by decide +kernel
theorem dX6_doRing_65 : decode cX6_doRing 65 = .ok (.aload_n 1, 1) := by decide +kernel
theorem dX6_doRing_66 : decode cX6_doRing 66 = .ok (.getfield 250, 3) := by decide +kernel
theorem dX6_doRing_69 : decode cX6_doRing 69 = .ok (.invokestatic 251, 3) := by decide +kernel
theorem dX6_doRing_72 : decode cX6_doRing 72 = .ok (.putfield 224, 3) := by decide +kernel
theorem dX6_doRing_75 : decode cX6_doRing 75 = .ok (.aload_n 2, 1) := by decide +kernel
theorem dX6_doRing_76 : decode cX6_doRing 76 = .ok (.aload_n 1, 1) := by decide +kernel
theorem dX6_doRing_77 : decode cX6_doRing 77 = .ok (.invokevirtual 256, 3) := by decide +kernel
theorem dX6_doRing_80 : decode cX6_doRing 80 = .ok (.aload_n 0, 1) := by decide +kernel
theorem dX6_doRing_81 : decode cX6_doRing 81 = .ok (.invokevirtual 212, 3) := by decide +kernel
theorem dX6_doRing_84 : decode cX6_doRing 84 = .ok (.invokevirtual 142, 3) := by decide +kernel
theorem dX6_doRing_87 : decode cX6_doRing 87 = .ok (.istore_n 3, 1) := by decide +kernel
theorem dX6_doRing_88 : decode cX6_doRing 88 = .ok (.iload_n 3, 1) := by decide +kernel
theorem dX6_doRing_89 : decode cX6_doRing 89 = .ok (.iconst (-1), 1) := by decide +kernel
theorem dX6_doRing_90 : decode cX6_doRing 90 = .ok (.if_icmp .eq 14, 3) := by decide +kernel
theorem dX6_doRing_93 : decode cX6_doRing 93 = .ok (.aload_n 0, 1) := by decide +kernel
theorem dX6_doRing_94 : decode cX6_doRing 94 = .ok (.aload_n 2, 1) := by decide +kernel
theorem dX6_doRing_95 : decode cX6_doRing 95 = .ok (.iload_n 3, 1) := by decide +kernel
theorem dX6_doRing_96 : decode cX6_doRing 96 = .ok (.invokevirtual 76, 3) := by decide +kernel
theorem dX6_doRing_99 : decode cX6_doRing 99 = .ok (.aload_n 2, 1) := by decide +kernel
theorem dX6_doRing_100 : decode cX6_doRing 100 = .ok (.aload_n 1, 1) := by decide +kernel
theorem dX6_doRing_101 : decode cX6_doRing 101 = .ok (.invokevirtual 258, 3) := by decide +kernel
theorem dX6_doRing_104 : decode cX6_doRing 104 = .ok (.aload_n 2, 1) := by decide +kernel
theorem dX6_doRing_105 : decode cX6_doRing 105 = .ok (.getfield 195, 3) := by decide +kernel
theorem dX6_doRing_108 : decode cX6_doRing 108 = .ok (.ifCond .le 13, 3) := by decide +kernel
theorem dX6_doRing_111 : decode cX6_doRing 111 = .ok (.aload_n 2, 1) := by decide +kernel
theorem dX6_doRing_112 : decode cX6_doRing 112 = .ok (.dup, 1) := by decide +kernel
theorem dX6_doRing_113 : decode cX6_doRing 113 = .ok (.getfield 195, 3) := by decide +kernel
theorem dX6_doRing_116 : decode cX6_doRing 116 = .ok (.iconst 1, 1) := by decide +kernel
theorem dX6_doRing_117 : decode cX6_doRing 117 = .ok (.isub, 1) := by decide +kernel
theorem dX6_doRing_118 : decode cX6_doRing 118 = .ok (.putfield 195, 3) := by decide +kernel
theorem dX6_doRing_121 : decode cX6_doRing 121 = .ok (.iload_n 3, 1) := by decide +kernel
theorem dX6_doRing_122 : decode cX6_doRing 122 = .ok (.iconst (-1), 1) := by decide +kernel
theorem dX6_doRing_123 : decode cX6_doRing 123 = .ok (.if_icmp .ne 7, 3) := by decide +kernel
theorem dX6_doRing_126 : decode cX6_doRing 126 = .ok (.iconst 1, 1) := by decide +kernel
theorem dX6_doRing_127 : decode cX6_doRing 127 = .ok (.goto 4, 3) := by decide +kernel
theorem dX6_doRing_130 : decode cX6_doRing 130 = .ok (.iconst 0, 1) := by decide +kernel
theorem dX6_doRing_131 : decode cX6_doRing 131 = .ok (.ireturn, 1) := by decide +kernel
theorem dX6_follow_0 : decode cX6_follow 0 = .ok (.aload_n 1, 1) := by decide +kernel
theorem dX6_follow_1 : decode cX6_follow 1 = .ok (.dup, 1) := by decide +kernel
theorem dX6_follow_2 : decode cX6_follow 2 = .ok (.getfield 262, 3) := by decide +kernel
theorem dX6_follow_5 : decode cX6_follow 5 = .ok (.iconst 1, 1) := by decide +kernel
theorem dX6_follow_6 : decode cX6_follow 6 = .ok (.iadd, 1) := by decide +kernel
theorem dX6_follow_7 : decode cX6_follow 7 = .ok (.putfield 262, 3) := by decide +kernel
theorem dX6_follow_10 : decode cX6_follow 10 = .ok (.aload_n 1, 1) := by decide +kernel
theorem dX6_follow_11 : decode cX6_follow 11 = .ok (.getfield 95, 3) := by decide +kernel
theorem dX6_follow_14 : decode cX6_follow 14 = .ok (.ifCond .eq 11, 3) := by decide +kernel
theorem dX6_follow_17 : decode cX6_follow 17 = .ok (.aload_n 1, 1) := by decide +kernel
theorem dX6_follow_18 : decode cX6_follow 18 = .ok (.getfield 95, 3) := by decide +kernel
theorem dX6_follow_21 : decode cX6_follow 21 = .ok (.iconst 4, 1) := by decide +kernel
theorem dX6_follow_22 : decode cX6_follow 22 = .ok (.if_icmp .ne 39, 3) := by decide +kernel
theorem dX6_follow_25 : decode cX6_follow 25 = .ok (.aload_n 2, 1) := by decide +kernel
theorem dX6_follow_26 : decode cX6_follow 26 = .ok (.dup, 1) := by decide +kernel
theorem dX6_follow_27 : decode cX6_follow 27 = .ok (.getfield 265, 3) := by decide +kernel
theorem dX6_follow_30 : decode cX6_follow 30 = .ok (.iconst 1, 1) := by decide +kernel
theorem dX6_follow_31 : decode cX6_follow 31 = .ok (.iadd, 1) := by decide +kernel
theorem dX6_follow_32 : decode cX6_follow 32 = .ok (.putfield 265, 3) := by decide +kernel
theorem dX6_follow_35 : decode cX6_follow 35 = .ok (.aload_n 0, 1) := by decide +kernel
theorem dX6_follow_36 : decode cX6_follow 36 = .ok (.getfield 26, 3) := by decide +kernel
theorem dX6_follow_39 : decode cX6_follow 39 = .ok (.aload_n 2, 1) := by decide +kernel
theorem dX6_follow_40 : decode cX6_follow 40 = .ok (.getfield 268, 3) := by decide +kernel
theorem dX6_follow_43 : decode cX6_follow 43 = .ok (.aload_n 3, 1) := by decide +kernel
theorem dX6_follow_44 : decode cX6_follow 44 = .ok (.getfield 271, 3) := by decide +kernel
theorem dX6_follow_47 : decode cX6_follow 47 = .ok (.iadd, 1) := by decide +kernel
theorem dX6_follow_48 : decode cX6_follow 48 = .ok (.bipush 88, 2) := by decide +kernel
theorem dX6_follow_50 : decode cX6_follow 50 = .ok (.invokestatic 272, 3) := by decide +kernel
theorem dX6_follow_53 : decode cX6_follow 53 = .ok (.aload_n 1, 1) := by decide +kernel
theorem dX6_follow_54 : decode cX6_follow 54 = .ok (.getfield 101, 3) := by decide +kernel
theorem dX6_follow_57 : decode cX6_follow 57 = .ok (.aload_n 3, 1) := by decide +kernel
theorem dX6_follow_58 : decode cX6_follow 58 = .ok (.invokevirtual 275, 3) := by decide +kernel
theorem dX6_follow_61 : decode cX6_follow 61 = .ok (.aload_n 3, 1) := by decide +kernel
theorem dX6_follow_62 : decode cX6_follow 62 = .ok (.getfield 250, 3) := by decide +kernel
theorem dX6_follow_65 : decode cX6_follow 65 = .ok (.bipush 8, 2) := by decide +kernel
theorem dX6_follow_67 : decode cX6_follow 67 = .ok (.if_icmp .ge 10, 3) := by decide +kernel
theorem dX6_follow_70 : decode cX6_follow 70 = .ok (.aload_n 0, 1) := by decide +kernel
theorem dX6_follow_71 : decode cX6_follow 71 = .ok (.aload_n 1, 1) := by decide +kernel
theorem dX6_follow_72 : decode cX6_follow 72 = .ok (.aload_n 2, 1) := by decide +kernel
theorem dX6_follow_73 : decode cX6_follow 73 = .ok (.aload_n 3, 1) := by decide +kernel
theorem dX6_follow_74 : decode cX6_follow 74 = .ok (.invokevirtual 278, 3) := by decide +kernel
theorem dX6_follow_77 : decode cX6_follow 77 = .ok (.return_, 1) := by decide +kernel
theorem dX6_ringOn_0 : decode cX6_ringOn 0 = .ok (.aload_n 0, 1) := by decide +kernel
theorem dX6_ringOn_1 : decode cX6_ringOn 1 = .ok (.aload_n 1, 1) := by decide +kernel
theorem dX6_ringOn_2 : decode cX6_ringOn 2 = .ok (.aload_n 2, 1) := by decide +kernel
theorem dX6_ringOn_3 : decode cX6_ringOn 3 = .ok (.getfield 119, 3) := by decide +kernel
theorem dX6_ringOn_6 : decode cX6_ringOn 6 = .ok (.invokevirtual 281, 3) := by decide +kernel
theorem dX6_ringOn_9 : decode cX6_ringOn 9 = .ok (.istore 4, 2) := by decide +kernel
theorem dX6_ringOn_11 : decode cX6_ringOn 11 = .ok (.iconst 0, 1) := by decide +kernel
theorem dX6_ringOn_12 : decode cX6_ringOn 12 = .ok (.istore 5, 2) := by decide +kernel
theorem dX6_ringOn_14 : decode cX6_ringOn 14 = .ok (.iload 5, 2) := by decide +kernel
theorem dX6_ringOn_16 : decode cX6_ringOn 16 = .ok (.aload_n 0, 1) := by decide +kernel
theorem dX6_ringOn_17 : decode cX6_ringOn 17 = .ok (.getfield 10, 3) := by decide +kernel
theorem dX6_ringOn_20 : decode cX6_ringOn 20 = .ok (.invokevirtual 48, 3) := by decide +kernel
theorem dX6_ringOn_23 : decode cX6_ringOn 23 = .ok (.if_icmp .ge 60, 3) := by decide +kernel
theorem dX6_ringOn_26 : decode cX6_ringOn 26 = .ok (.iload 4, 2) := by decide +kernel
theorem dX6_ringOn_28 : decode cX6_ringOn 28 = .ok (.iload 5, 2) := by decide +kernel
theorem dX6_ringOn_30 : decode cX6_ringOn 30 = .ok (.invokestatic 188, 3) := by decide +kernel
theorem dX6_ringOn_33 : decode cX6_ringOn 33 = .ok (.ifCond .eq 44, 3) := by decide +kernel
theorem dX6_ringOn_36 : decode cX6_ringOn 36 = .ok (.aload_n 0, 1) := by decide +kernel
theorem dX6_ringOn_37 : decode cX6_ringOn 37 = .ok (.getfield 19, 3) := by decide +kernel
theorem dX6_ringOn_40 : decode cX6_ringOn 40 = .ok (.aload_n 3, 1) := by decide +kernel
theorem dX6_ringOn_41 : decode cX6_ringOn 41 = .ok (.aload_n 0, 1) := by decide +kernel
theorem dX6_ringOn_42 : decode cX6_ringOn 42 = .ok (.getfield 116, 3) := by decide +kernel
theorem dX6_ringOn_45 : decode cX6_ringOn 45 = .ok (.aload_n 1, 1) := by decide +kernel
theorem dX6_ringOn_46 : decode cX6_ringOn 46 = .ok (.getfield 101, 3) := by decide +kernel
theorem dX6_ringOn_49 : decode cX6_ringOn 49 = .ok (.iadd, 1) := by decide +kernel
theorem dX6_ringOn_50 : decode cX6_ringOn 50 = .ok (.iload 5, 2) := by decide +kernel
theorem dX6_ringOn_52 : decode cX6_ringOn 52 = .ok (.aload_n 3, 1) := by decide +kernel
theorem dX6_ringOn_53 : decode cX6_ringOn 53 = .ok (.getfield 271, 3) := by decide +kernel
theorem dX6_ringOn_56 : decode cX6_ringOn 56 = .ok (.aload_n 1, 1) := by decide +kernel
theorem dX6_ringOn_57 : decode cX6_ringOn 57 = .ok (.getfield 104, 3) := by decide +kernel
theorem dX6_ringOn_60 : decode cX6_ringOn 60 = .ok (.iadd, 1) := by decide +kernel
theorem dX6_ringOn_61 : decode cX6_ringOn 61 = .ok (.invokevirtual 285, 3) := by decide +kernel
theorem dX6_ringOn_64 : decode cX6_ringOn 64 = .ok (.ifCond .ne 13, 3) := by decide +kernel
theorem dX6_ringOn_67 : decode cX6_ringOn 67 = .ok (.aload_n 0, 1) := by decide +kernel
theorem dX6_ringOn_68 : decode cX6_ringOn 68 = .ok (.dup, 1) := by decide +kernel
theorem dX6_ringOn_69 : decode cX6_ringOn 69 = .ok (.getfield 218, 3) := by decide +kernel
theorem dX6_ringOn_72 : decode cX6_ringOn 72 = .ok (.iconst 1, 1) := by decide +kernel
theorem dX6_ringOn_73 : decode cX6_ringOn 73 = .ok (.iadd, 1) := by decide +kernel
theorem dX6_ringOn_74 : decode cX6_ringOn 74 = .ok (.putfield 218, 3) := by decide +kernel
theorem dX6_ringOn_77 : decode cX6_ringOn 77 = .ok (.iinc 5 1, 3) := by decide +kernel
theorem dX6_ringOn_80 : decode cX6_ringOn 80 = .ok (.goto (-66), 3) := by decide +kernel
theorem dX6_ringOn_83 : decode cX6_ringOn 83 = .ok (.return_, 1) := by decide +kernel
theorem dX6_rungByHabit_0 : decode cX6_rungByHabit 0 = .ok (.iconst 1, 1) := by decide +kernel
theorem dX6_rungByHabit_1 : decode cX6_rungByHabit 1 = .ok (.aload_n 0, 1) := by decide +kernel
theorem dX6_rungByHabit_2 : decode cX6_rungByHabit 2 = .ok (.getfield 10, 3) := by decide +kernel
theorem dX6_rungByHabit_5 : decode cX6_rungByHabit 5 = .ok (.invokevirtual 48, 3) := by decide +kernel
theorem dX6_rungByHabit_8 : decode cX6_rungByHabit 8 = .ok (.ishl, 1) := by decide +kernel
theorem dX6_rungByHabit_9 : decode cX6_rungByHabit 9 = .ok (.iconst 1, 1) := by decide +kernel
theorem dX6_rungByHabit_10 : decode cX6_rungByHabit 10 = .ok (.isub, 1) := by decide +kernel
theorem dX6_rungByHabit_11 : decode cX6_rungByHabit 11 = .ok (.istore_n 3, 1) := by decide +kernel
theorem dX6_rungByHabit_12 : decode cX6_rungByHabit 12 = .ok (.iconst 1, 1) := by decide +kernel
theorem dX6_rungByHabit_13 : decode cX6_rungByHabit 13 = .ok (.iload_n 2, 1) := by decide +kernel
theorem dX6_rungByHabit_14 : decode cX6_rungByHabit 14 = .ok (.ishl, 1) := by decide +kernel
theorem dX6_rungByHabit_15 : decode cX6_rungByHabit 15 = .ok (.istore 4, 2) := by decide +kernel
theorem dX6_rungByHabit_17 : decode cX6_rungByHabit 17 = .ok (.aload_n 1, 1) := by decide +kernel
theorem dX6_rungByHabit_18 : decode cX6_rungByHabit 18 = .ok (.getfield 95, 3) := by decide +kernel
theorem dX6_rungByHabit_21 : decode cX6_rungByHabit 21 = .ok (.tableswitch 57 2 5 #[31, 38, 31, 50], 31) := by decide +kernel
theorem dX6_rungByHabit_52 : decode cX6_rungByHabit 52 = .ok (.iconst 1, 1) := by decide +kernel
theorem dX6_rungByHabit_53 : decode cX6_rungByHabit 53 = .ok (.aload_n 1, 1) := by decide +kernel
theorem dX6_rungByHabit_54 : decode cX6_rungByHabit 54 = .ok (.getfield 98, 3) := by decide +kernel
theorem dX6_rungByHabit_57 : decode cX6_rungByHabit 57 = .ok (.ishl, 1) := by decide +kernel
theorem dX6_rungByHabit_58 : decode cX6_rungByHabit 58 = .ok (.ireturn, 1) := by decide +kernel
theorem dX6_rungByHabit_59 : decode cX6_rungByHabit 59 = .ok (.iload 4, 2) := by decide +kernel
theorem dX6_rungByHabit_61 : decode cX6_rungByHabit 61 = .ok (.iconst 1, 1) := by decide +kernel
theorem dX6_rungByHabit_62 : decode cX6_rungByHabit 62 = .ok (.ishr, 1) := by decide +kernel
theorem dX6_rungByHabit_63 : decode cX6_rungByHabit 63 = .ok (.iload 4, 2) := by decide +kernel
theorem dX6_rungByHabit_65 : decode cX6_rungByHabit 65 = .ok (.iconst 1, 1) := by decide +kernel
theorem dX6_rungByHabit_66 : decode cX6_rungByHabit 66 = .ok (.ishl, 1) := by decide +kernel
theorem dX6_rungByHabit_67 : decode cX6_rungByHabit 67 = .ok (.ior, 1) := by decide +kernel
theorem dX6_rungByHabit_68 : decode cX6_rungByHabit 68 = .ok (.iload_n 3, 1) := by decide +kernel
theorem dX6_rungByHabit_69 : decode cX6_rungByHabit 69 = .ok (.iand, 1) := by decide +kernel
theorem dX6_rungByHabit_70 : decode cX6_rungByHabit 70 = .ok (.ireturn, 1) := by decide +kernel
theorem dX6_rungByHabit_71 : decode cX6_rungByHabit 71 = .ok (.iload_n 3, 1) := by decide +kernel
theorem dX6_rungByHabit_72 : decode cX6_rungByHabit 72 = .ok (.iload 4, 2) := by decide +kernel
theorem dX6_rungByHabit_74 : decode cX6_rungByHabit 74 = .ok (.iconst (-1), 1) := by decide +kernel
theorem dX6_rungByHabit_75 : decode cX6_rungByHabit 75 = .ok (.ixor, 1) := by decide +kernel
theorem dX6_rungByHabit_76 : decode cX6_rungByHabit 76 = .ok (.iand, 1) := by decide +kernel
theorem dX6_rungByHabit_77 : decode cX6_rungByHabit 77 = .ok (.ireturn, 1) := by decide +kernel
theorem dX6_rungByHabit_78 : decode cX6_rungByHabit 78 = .ok (.iconst 0, 1) := by decide +kernel
theorem dX6_rungByHabit_79 : decode cX6_rungByHabit 79 = .ok (.ireturn, 1) := by decide +kernel
theorem dX6_rungBy_0 : decode cX6_rungBy 0 = .ok (.iconst 0, 1) := by decide +kernel
theorem dX6_rungBy_1 : decode cX6_rungBy 1 = .ok (.istore_n 2, 1) := by decide +kernel
theorem dX6_rungBy_2 : decode cX6_rungBy 2 = .ok (.iconst 0, 1) := by decide +kernel
theorem dX6_rungBy_3 : decode cX6_rungBy 3 = .ok (.istore_n 3, 1) := by decide +kernel
theorem dX6_rungBy_4 : decode cX6_rungBy 4 = .ok (.iload_n 3, 1) := by decide +kernel
theorem dX6_rungBy_5 : decode cX6_rungBy 5 = .ok (.aload_n 1, 1) := by decide +kernel
theorem dX6_rungBy_6 : decode cX6_rungBy 6 = .ok (.getfield 68, 3) := by decide +kernel
theorem dX6_rungBy_9 : decode cX6_rungBy 9 = .ok (.invokevirtual 48, 3) := by decide +kernel
theorem dX6_rungBy_12 : decode cX6_rungBy 12 = .ok (.if_icmp .ge 31, 3) := by decide +kernel
theorem dX6_rungBy_15 : decode cX6_rungBy 15 = .ok (.iload_n 2, 1) := by decide +kernel
theorem dX6_rungBy_16 : decode cX6_rungBy 16 = .ok (.aload_n 0, 1) := by decide +kernel
theorem dX6_rungBy_17 : decode cX6_rungBy 17 = .ok (.aload_n 1, 1) := by decide +kernel
theorem dX6_rungBy_18 : decode cX6_rungBy 18 = .ok (.getfield 68, 3) := by decide +kernel
theorem dX6_rungBy_21 : decode cX6_rungBy 21 = .ok (.iload_n 3, 1) := by decide +kernel
theorem dX6_rungBy_22 : decode cX6_rungBy 22 = .ok (.invokevirtual 192, 3) := by decide +kernel
theorem dX6_rungBy_25 : decode cX6_rungBy 25 = .ok (.checkcast 71, 3) := by decide +kernel
theorem dX6_rungBy_28 : decode cX6_rungBy 28 = .ok (.aload_n 1, 1) := by decide +kernel
theorem dX6_rungBy_29 : decode cX6_rungBy 29 = .ok (.getfield 119, 3) := by decide +kernel
theorem dX6_rungBy_32 : decode cX6_rungBy 32 = .ok (.invokevirtual 281, 3) := by decide +kernel
theorem dX6_rungBy_35 : decode cX6_rungBy 35 = .ok (.ior, 1) := by decide +kernel
theorem dX6_rungBy_36 : decode cX6_rungBy 36 = .ok (.istore_n 2, 1) := by decide +kernel
theorem dX6_rungBy_37 : decode cX6_rungBy 37 = .ok (.iinc 3 1, 3) := by decide +kernel
theorem dX6_rungBy_40 : decode cX6_rungBy 40 = .ok (.goto (-36), 3) := by decide +kernel
theorem dX6_rungBy_43 : decode cX6_rungBy 43 = .ok (.iload_n 2, 1) := by decide +kernel
theorem dX6_rungBy_44 : decode cX6_rungBy 44 = .ok (.ireturn, 1) := by decide +kernel
theorem dX6_rungByAll_0 : decode cX6_rungByAll 0 = .ok (.iconst 0, 1) := by decide +kernel
theorem dX6_rungByAll_1 : decode cX6_rungByAll 1 = .ok (.istore_n 2, 1) := by decide +kernel
theorem dX6_rungByAll_2 : decode cX6_rungByAll 2 = .ok (.iconst 0, 1) := by decide +kernel
theorem dX6_rungByAll_3 : decode cX6_rungByAll 3 = .ok (.istore_n 3, 1) := by decide +kernel
theorem dX6_rungByAll_4 : decode cX6_rungByAll 4 = .ok (.iload_n 3, 1) := by decide +kernel
theorem dX6_rungByAll_5 : decode cX6_rungByAll 5 = .ok (.aload_n 0, 1) := by decide +kernel
theorem dX6_rungByAll_6 : decode cX6_rungByAll 6 = .ok (.getfield 10, 3) := by decide +kernel
theorem dX6_rungByAll_9 : decode cX6_rungByAll 9 = .ok (.invokevirtual 48, 3) := by decide +kernel
theorem dX6_rungByAll_12 : decode cX6_rungByAll 12 = .ok (.if_icmp .ge 35, 3) := by decide +kernel
theorem dX6_rungByAll_15 : decode cX6_rungByAll 15 = .ok (.iload_n 1, 1) := by decide +kernel
theorem dX6_rungByAll_16 : decode cX6_rungByAll 16 = .ok (.iload_n 3, 1) := by decide +kernel
theorem dX6_rungByAll_17 : decode cX6_rungByAll 17 = .ok (.invokestatic 188, 3) := by decide +kernel
theorem dX6_rungByAll_20 : decode cX6_rungByAll 20 = .ok (.ifCond .eq 21, 3) := by decide +kernel
theorem dX6_rungByAll_23 : decode cX6_rungByAll 23 = .ok (.iload_n 2, 1) := by decide +kernel
theorem dX6_rungByAll_24 : decode cX6_rungByAll 24 = .ok (.aload_n 0, 1) := by decide +kernel
theorem dX6_rungByAll_25 : decode cX6_rungByAll 25 = .ok (.aload_n 0, 1) := by decide +kernel
theorem dX6_rungByAll_26 : decode cX6_rungByAll 26 = .ok (.getfield 10, 3) := by decide +kernel
theorem dX6_rungByAll_29 : decode cX6_rungByAll 29 = .ok (.iload_n 3, 1) := by decide +kernel
theorem dX6_rungByAll_30 : decode cX6_rungByAll 30 = .ok (.invokevirtual 192, 3) := by decide +kernel
theorem dX6_rungByAll_33 : decode cX6_rungByAll 33 = .ok (.checkcast 55, 3) := by decide +kernel
theorem dX6_rungByAll_36 : decode cX6_rungByAll 36 = .ok (.invokevirtual 181, 3) := by decide +kernel
theorem dX6_rungByAll_39 : decode cX6_rungByAll 39 = .ok (.ior, 1) := by decide +kernel
theorem dX6_rungByAll_40 : decode cX6_rungByAll 40 = .ok (.istore_n 2, 1) := by decide +kernel
theorem dX6_rungByAll_41 : decode cX6_rungByAll 41 = .ok (.iinc 3 1, 3) := by decide +kernel
theorem dX6_rungByAll_44 : decode cX6_rungByAll 44 = .ok (.goto (-40), 3) := by decide +kernel
theorem dX6_rungByAll_47 : decode cX6_rungByAll 47 = .ok (.iload_n 2, 1) := by decide +kernel
theorem dX6_rungByAll_48 : decode cX6_rungByAll 48 = .ok (.ireturn, 1) := by decide +kernel
