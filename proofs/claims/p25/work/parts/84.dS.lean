theorem dX7_init_0 : decode cX7_init 0 = .ok (.aload_n 0, 1) := by decide +kernel
theorem dX7_init_1 : decode cX7_init 1 = .ok (.invokespecial 1, 3) := by decide +kernel
theorem dX7_init_4 : decode cX7_init 4 = .ok (.aload_n 0, 1) := by decide +kernel
theorem dX7_init_5 : decode cX7_init 5 = .ok (.bipush 60, 2) := by decide +kernel
theorem dX7_init_7 : decode cX7_init 7 = .ok (.putfield 7, 3) := by decide +kernel
theorem dX7_init_10 : decode cX7_init 10 = .ok (.aload_n 0, 1) := by decide +kernel
theorem dX7_init_11 : decode cX7_init 11 = .ok (.iconst 0, 1) := by decide +kernel
theorem dX7_init_12 : decode cX7_init 12 = .ok (.anewarray 13, 3) := by decide +kernel
theorem dX7_init_15 : decode cX7_init 15 = .ok (.putfield 15, 3) := by decide +kernel
theorem dX7_init_18 : decode cX7_init 18 = .ok (.aload_n 0, 1) := by decide +kernel
theorem dX7_init_19 : decode cX7_init 19 = .ok (.iconst 0, 1) := by decide +kernel
theorem dX7_init_20 : decode cX7_init 20 = .ok (.anewarray 19, 3) := by decide +kernel
theorem dX7_init_23 : decode cX7_init 23 = .ok (.putfield 21, 3) := by decide +kernel
theorem dX7_init_26 : decode cX7_init 26 = .ok (.aload_n 0, 1) := by decide +kernel
theorem dX7_init_27 : decode cX7_init 27 = .ok (.iconst 0, 1) := by decide +kernel
theorem dX7_init_28 : decode cX7_init 28 = .ok (.anewarray 19, 3) := by decide +kernel
theorem dX7_init_31 : decode cX7_init 31 = .ok (.putfield 25, 3) := by decide +kernel
theorem dX7_init_34 : decode cX7_init 34 = .ok (.return_, 1) := by decide +kernel
theorem dX7_more_0 : decode cX7_more 0 = .ok (.aload_n 0, 1) := by decide +kernel
theorem dX7_more_1 : decode cX7_more 1 = .ok (.arraylength, 1) := by decide +kernel
theorem dX7_more_2 : decode cX7_more 2 = .ok (.iconst 1, 1) := by decide +kernel
theorem dX7_more_3 : decode cX7_more 3 = .ok (.iadd, 1) := by decide +kernel
theorem dX7_more_4 : decode cX7_more 4 = .ok (.anewarray 19, 3) := by decide +kernel
theorem dX7_more_7 : decode cX7_more 7 = .ok (.astore_n 3, 1) := by decide +kernel
theorem dX7_more_8 : decode cX7_more 8 = .ok (.iconst 0, 1) := by decide +kernel
theorem dX7_more_9 : decode cX7_more 9 = .ok (.istore 4, 2) := by decide +kernel
theorem dX7_more_11 : decode cX7_more 11 = .ok (.iload 4, 2) := by decide +kernel
theorem dX7_more_13 : decode cX7_more 13 = .ok (.aload_n 3, 1) := by decide +kernel
theorem dX7_more_14 : decode cX7_more 14 = .ok (.arraylength, 1) := by decide +kernel
theorem dX7_more_15 : decode cX7_more 15 = .ok (.if_icmp .ge 42, 3) := by decide +kernel
theorem dX7_more_18 : decode cX7_more 18 = .ok (.aload_n 3, 1) := by decide +kernel
theorem dX7_more_19 : decode cX7_more 19 = .ok (.iload 4, 2) := by decide +kernel
theorem dX7_more_21 : decode cX7_more 21 = .ok (.iload 4, 2) := by decide +kernel
theorem dX7_more_23 : decode cX7_more 23 = .ok (.iload_n 1, 1) := by decide +kernel
theorem dX7_more_24 : decode cX7_more 24 = .ok (.if_icmp .ge 10, 3) := by decide +kernel
theorem dX7_more_27 : decode cX7_more 27 = .ok (.aload_n 0, 1) := by decide +kernel
theorem dX7_more_28 : decode cX7_more 28 = .ok (.iload 4, 2) := by decide +kernel
theorem dX7_more_30 : decode cX7_more 30 = .ok (.aaload, 1) := by decide +kernel
theorem dX7_more_31 : decode cX7_more 31 = .ok (.goto 19, 3) := by decide +kernel
theorem dX7_more_34 : decode cX7_more 34 = .ok (.iload 4, 2) := by decide +kernel
theorem dX7_more_36 : decode cX7_more 36 = .ok (.iload_n 1, 1) := by decide +kernel
theorem dX7_more_37 : decode cX7_more 37 = .ok (.if_icmp .ne 7, 3) := by decide +kernel
theorem dX7_more_40 : decode cX7_more 40 = .ok (.aload_n 2, 1) := by decide +kernel
theorem dX7_more_41 : decode cX7_more 41 = .ok (.goto 9, 3) := by decide +kernel
theorem dX7_more_44 : decode cX7_more 44 = .ok (.aload_n 0, 1) := by decide +kernel
theorem dX7_more_45 : decode cX7_more 45 = .ok (.iload 4, 2) := by decide +kernel
theorem dX7_more_47 : decode cX7_more 47 = .ok (.iconst 1, 1) := by decide +kernel
theorem dX7_more_48 : decode cX7_more 48 = .ok (.isub, 1) := by decide +kernel
theorem dX7_more_49 : decode cX7_more 49 = .ok (.aaload, 1) := by decide +kernel
theorem dX7_more_50 : decode cX7_more 50 = .ok (.aastore, 1) := by decide +kernel
theorem dX7_more_51 : decode cX7_more 51 = .ok (.iinc 4 1, 3) := by decide +kernel
theorem dX7_more_54 : decode cX7_more 54 = .ok (.goto (-43), 3) := by decide +kernel
theorem dX7_more_57 : decode cX7_more 57 = .ok (.aload_n 3, 1) := by decide +kernel
theorem dX7_more_58 : decode cX7_more 58 = .ok (.areturn, 1) := by decide +kernel
set_option maxRecDepth 20000 in
theorem ggX7_moveIn_X8_init : GoodIn wsX7_moveIn wsX8_init := goodIn_r _ [9, 10, 11, 12, 13, 14, 15, 16, 17, 18, 19, 20, 21, 22] (by decide +kernel) (by decide +kernel)
theorem dX7_moveIn_0 : decode cX7_moveIn 0 = .ok (.new 13, 3) := by decide +kernel
theorem dX7_moveIn_3 : decode cX7_moveIn 3 = .ok (.dup, 1) := by decide +kernel
theorem dX7_moveIn_4 : decode cX7_moveIn 4 = .ok (.invokespecial 28, 3) := by decide +kernel
theorem dX7_moveIn_7 : decode cX7_moveIn 7 = .ok (.astore_n 3, 1) := by decide +kernel
theorem dX7_moveIn_8 : decode cX7_moveIn 8 = .ok (.aload_n 3, 1) := by decide +kernel
theorem dX7_moveIn_9 : decode cX7_moveIn 9 = .ok (.iload_n 1, 1) := by decide +kernel
theorem dX7_moveIn_10 : decode cX7_moveIn 10 = .ok (.putfield 29, 3) := by decide +kernel
theorem dX7_moveIn_13 : decode cX7_moveIn 13 = .ok (.aload_n 3, 1) := by decide +kernel
theorem dX7_moveIn_14 : decode cX7_moveIn 14 = .ok (.iload_n 2, 1) := by decide +kernel
theorem dX7_moveIn_15 : decode cX7_moveIn 15 = .ok (.putfield 32, 3) := by decide +kernel
theorem dX7_moveIn_18 : decode cX7_moveIn 18 = .ok (.aload_n 3, 1) := by decide +kernel
theorem dX7_moveIn_19 : decode cX7_moveIn 19 = .ok (.iload_n 2, 1) := by decide +kernel
theorem dX7_moveIn_20 : decode cX7_moveIn 20 = .ok (.putfield 35, 3) := by decide +kernel
theorem dX7_moveIn_23 : decode cX7_moveIn 23 = .ok (.aload_n 0, 1) := by decide +kernel
theorem dX7_moveIn_24 : decode cX7_moveIn 24 = .ok (.getfield 15, 3) := by decide +kernel
theorem dX7_moveIn_27 : decode cX7_moveIn 27 = .ok (.arraylength, 1) := by decide +kernel
theorem dX7_moveIn_28 : decode cX7_moveIn 28 = .ok (.iconst 1, 1) := by decide +kernel
theorem dX7_moveIn_29 : decode cX7_moveIn 29 = .ok (.iadd, 1) := by decide +kernel
theorem dX7_moveIn_30 : decode cX7_moveIn 30 = .ok (.anewarray 13, 3) := by decide +kernel
theorem dX7_moveIn_33 : decode cX7_moveIn 33 = .ok (.astore 4, 2) := by decide +kernel
theorem dX7_moveIn_35 : decode cX7_moveIn 35 = .ok (.iconst 0, 1) := by decide +kernel
theorem dX7_moveIn_36 : decode cX7_moveIn 36 = .ok (.istore 5, 2) := by decide +kernel
theorem dX7_moveIn_38 : decode cX7_moveIn 38 = .ok (.iload 5, 2) := by decide +kernel
theorem dX7_moveIn_40 : decode cX7_moveIn 40 = .ok (.aload_n 0, 1) := by decide +kernel
theorem dX7_moveIn_41 : decode cX7_moveIn 41 = .ok (.getfield 15, 3) := by decide +kernel
theorem dX7_moveIn_44 : decode cX7_moveIn 44 = .ok (.arraylength, 1) := by decide +kernel
theorem dX7_moveIn_45 : decode cX7_moveIn 45 = .ok (.if_icmp .ge 21, 3) := by decide +kernel
theorem dX7_moveIn_48 : decode cX7_moveIn 48 = .ok (.aload 4, 2) := by decide +kernel
theorem dX7_moveIn_50 : decode cX7_moveIn 50 = .ok (.iload 5, 2) := by decide +kernel
theorem dX7_moveIn_52 : decode cX7_moveIn 52 = .ok (.aload_n 0, 1) := by decide +kernel
theorem dX7_moveIn_53 : decode cX7_moveIn 53 = .ok (.getfield 15, 3) := by decide +kernel
theorem dX7_moveIn_56 : decode cX7_moveIn 56 = .ok (.iload 5, 2) := by decide +kernel
theorem dX7_moveIn_58 : decode cX7_moveIn 58 = .ok (.aaload, 1) := by decide +kernel
theorem dX7_moveIn_59 : decode cX7_moveIn 59 = .ok (.aastore, 1) := by decide +kernel
theorem dX7_moveIn_60 : decode cX7_moveIn 60 = .ok (.iinc 5 1, 3) := by decide +kernel
theorem dX7_moveIn_63 : decode cX7_moveIn 63 = .ok (.goto (-25), 3) := by decide +kernel
theorem dX7_moveIn_66 : decode cX7_moveIn 66 = .ok (.aload 4, 2) := by decide +kernel
theorem dX7_moveIn_68 : decode cX7_moveIn 68 = .ok (.aload_n 0, 1) := by decide +kernel
theorem dX7_moveIn_69 : decode cX7_moveIn 69 = .ok (.getfield 15, 3) := by decide +kernel
theorem dX7_moveIn_72 : decode cX7_moveIn 72 = .ok (.arraylength, 1) := by decide +kernel
theorem dX7_moveIn_73 : decode cX7_moveIn 73 = .ok (.aload_n 3, 1) := by decide +kernel
theorem dX7_moveIn_74 : decode cX7_moveIn 74 = .ok (.aastore, 1) := by decide +kernel
theorem dX7_moveIn_75 : decode cX7_moveIn 75 = .ok (.aload_n 0, 1) := by decide +kernel
theorem dX7_moveIn_76 : decode cX7_moveIn 76 = .ok (.aload 4, 2) := by decide +kernel
theorem dX7_moveIn_78 : decode cX7_moveIn 78 = .ok (.putfield 15, 3) := by decide +kernel
theorem dX7_moveIn_81 : decode cX7_moveIn 81 = .ok (.aload_n 3, 1) := by decide +kernel
theorem dX7_moveIn_82 : decode cX7_moveIn 82 = .ok (.areturn, 1) := by decide +kernel
theorem dX8_init_0 : decode cX8_init 0 = .ok (.aload_n 0, 1) := by decide +kernel
theorem dX8_init_1 : decode cX8_init 1 = .ok (.invokespecial 1, 3) := by decide +kernel
theorem dX8_init_4 : decode cX8_init 4 = .ok (.aload_n 0, 1) := by decide +kernel
theorem dX8_init_5 : decode cX8_init 5 = .ok (.iconst (-1), 1) := by decide +kernel
theorem dX8_init_6 : decode cX8_init 6 = .ok (.putfield 7, 3) := by decide +kernel
theorem dX8_init_9 : decode cX8_init 9 = .ok (.aload_n 0, 1) := by decide +kernel
theorem dX8_init_10 : decode cX8_init 10 = .ok (.iconst 0, 1) := by decide +kernel
theorem dX8_init_11 : decode cX8_init 11 = .ok (.anewarray 13, 3) := by decide +kernel
theorem dX8_init_14 : decode cX8_init 14 = .ok (.putfield 15, 3) := by decide +kernel
theorem dX8_init_17 : decode cX8_init 17 = .ok (.return_, 1) := by decide +kernel
theorem dL_below_0 : decode cL_below 0 = .ok (.iload_n 0, 1) := by decide +kernel
theorem dL_below_1 : decode cL_below 1 = .ok (.ldc 7, 2) := by decide +kernel
theorem dL_below_3 : decode cL_below 3 = .ok (.iand, 1) := by decide +kernel
theorem dL_below_4 : decode cL_below 4 = .ok (.iload_n 1, 1) := by decide +kernel
theorem dL_below_5 : decode cL_below 5 = .ok (.irem, 1) := by decide +kernel
theorem dL_below_6 : decode cL_below 6 = .ok (.ireturn, 1) := by decide +kernel
theorem dL_cell_0 : decode cL_cell 0 = .ok (.iload_n 1, 1) := by decide +kernel
theorem dL_cell_1 : decode cL_cell 1 = .ok (.aload_n 0, 1) := by decide +kernel
theorem dL_cell_2 : decode cL_cell 2 = .ok (.arraylength, 1) := by decide +kernel
theorem dL_cell_3 : decode cL_cell 3 = .ok (.if_icmp .ge 9, 3) := by decide +kernel
theorem dL_cell_6 : decode cL_cell 6 = .ok (.aload_n 0, 1) := by decide +kernel
theorem dL_cell_7 : decode cL_cell 7 = .ok (.iload_n 1, 1) := by decide +kernel
theorem dL_cell_8 : decode cL_cell 8 = .ok (.iaload, 1) := by decide +kernel
theorem dL_cell_9 : decode cL_cell 9 = .ok (.goto 9, 3) := by decide +kernel
theorem dL_cell_12 : decode cL_cell 12 = .ok (.ldc 8, 2) := by decide +kernel
theorem dL_cell_14 : decode cL_cell 14 = .ok (.iload_n 1, 1) := by decide +kernel
theorem dL_cell_15 : decode cL_cell 15 = .ok (.iconst 3, 1) := by decide +kernel
theorem dL_cell_16 : decode cL_cell 16 = .ok (.iadd, 1) := by decide +kernel
theorem dL_cell_17 : decode cL_cell 17 = .ok (.imul, 1) := by decide +kernel
theorem dL_cell_18 : decode cL_cell 18 = .ok (.ireturn, 1) := by decide +kernel
