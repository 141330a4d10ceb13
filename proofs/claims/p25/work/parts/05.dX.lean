theorem dX0_init_0 : decode cX0_init 0 = .ok (.aload_n 0, 1) := by decide +kernel
theorem dX0_init_1 : decode cX0_init 1 = .ok (.invokespecial 3, 3) := by decide +kernel
theorem dX0_init_4 : decode cX0_init 4 = .ok (.aload_n 0, 1) := by decide +kernel
theorem dX0_init_5 : decode cX0_init 5 = .ok (.bipush 23, 2) := by decide +kernel
theorem dX0_init_7 : decode cX0_init 7 = .ok (.putfield 9, 3) := by decide +kernel
theorem dX0_init_10 : decode cX0_init 10 = .ok (.aload_n 0, 1) := by decide +kernel
theorem dX0_init_11 : decode cX0_init 11 = .ok (.iconst 2, 1) := by decide +kernel
theorem dX0_init_12 : decode cX0_init 12 = .ok (.putfield 15, 3) := by decide +kernel
theorem dX0_init_15 : decode cX0_init 15 = .ok (.aload_n 0, 1) := by decide +kernel
theorem dX0_init_16 : decode cX0_init 16 = .ok (.iconst 1, 1) := by decide +kernel
theorem dX0_init_17 : decode cX0_init 17 = .ok (.putfield 18, 3) := by decide +kernel
theorem dX0_init_20 : decode cX0_init 20 = .ok (.aload_n 0, 1) := by decide +kernel
theorem dX0_init_21 : decode cX0_init 21 = .ok (.iconst 1, 1) := by decide +kernel
theorem dX0_init_22 : decode cX0_init 22 = .ok (.putfield 21, 3) := by decide +kernel
theorem dX0_init_25 : decode cX0_init 25 = .ok (.aload_n 0, 1) := by decide +kernel
theorem dX0_init_26 : decode cX0_init 26 = .ok (.iload_n 1, 1) := by decide +kernel
theorem dX0_init_27 : decode cX0_init 27 = .ok (.putfield 24, 3) := by decide +kernel
theorem dX0_init_30 : decode cX0_init 30 = .ok (.return_, 1) := by decide +kernel
theorem dX0_holdsAt_0 : decode cX0_holdsAt 0 = .ok (.aload_n 0, 1) := by decide +kernel
theorem dX0_holdsAt_1 : decode cX0_holdsAt 1 = .ok (.getfield 27, 3) := by decide +kernel
theorem dX0_holdsAt_4 : decode cX0_holdsAt 4 = .ok (.aload_n 0, 1) := by decide +kernel
theorem dX0_holdsAt_5 : decode cX0_holdsAt 5 = .ok (.getfield 9, 3) := by decide +kernel
theorem dX0_holdsAt_8 : decode cX0_holdsAt 8 = .ok (.if_icmp .gt 25, 3) := by decide +kernel
theorem dX0_holdsAt_11 : decode cX0_holdsAt 11 = .ok (.aload_n 0, 1) := by decide +kernel
theorem dX0_holdsAt_12 : decode cX0_holdsAt 12 = .ok (.getfield 27, 3) := by decide +kernel
theorem dX0_holdsAt_15 : decode cX0_holdsAt 15 = .ok (.iload_n 1, 1) := by decide +kernel
theorem dX0_holdsAt_16 : decode cX0_holdsAt 16 = .ok (.if_icmp .gt 15, 3) := by decide +kernel
theorem dX0_holdsAt_19 : decode cX0_holdsAt 19 = .ok (.iload_n 1, 1) := by decide +kernel
theorem dX0_holdsAt_20 : decode cX0_holdsAt 20 = .ok (.aload_n 0, 1) := by decide +kernel
theorem dX0_holdsAt_21 : decode cX0_holdsAt 21 = .ok (.getfield 9, 3) := by decide +kernel
theorem dX0_holdsAt_24 : decode cX0_holdsAt 24 = .ok (.if_icmp .gt 7, 3) := by decide +kernel
theorem dX0_holdsAt_27 : decode cX0_holdsAt 27 = .ok (.iconst 1, 1) := by decide +kernel
theorem dX0_holdsAt_28 : decode cX0_holdsAt 28 = .ok (.goto 4, 3) := by decide +kernel
theorem dX0_holdsAt_31 : decode cX0_holdsAt 31 = .ok (.iconst 0, 1) := by decide +kernel
theorem dX0_holdsAt_32 : decode cX0_holdsAt 32 = .ok (.ireturn, 1) := by decide +kernel
theorem dX0_holdsAt_33 : decode cX0_holdsAt 33 = .ok (.aload_n 0, 1) := by decide +kernel
theorem dX0_holdsAt_34 : decode cX0_holdsAt 34 = .ok (.getfield 27, 3) := by decide +kernel
theorem dX0_holdsAt_37 : decode cX0_holdsAt 37 = .ok (.iload_n 1, 1) := by decide +kernel
theorem dX0_holdsAt_38 : decode cX0_holdsAt 38 = .ok (.if_icmp .le 11, 3) := by decide +kernel
theorem dX0_holdsAt_41 : decode cX0_holdsAt 41 = .ok (.iload_n 1, 1) := by decide +kernel
theorem dX0_holdsAt_42 : decode cX0_holdsAt 42 = .ok (.aload_n 0, 1) := by decide +kernel
theorem dX0_holdsAt_43 : decode cX0_holdsAt 43 = .ok (.getfield 9, 3) := by decide +kernel
theorem dX0_holdsAt_46 : decode cX0_holdsAt 46 = .ok (.if_icmp .gt 7, 3) := by decide +kernel
theorem dX0_holdsAt_49 : decode cX0_holdsAt 49 = .ok (.iconst 1, 1) := by decide +kernel
theorem dX0_holdsAt_50 : decode cX0_holdsAt 50 = .ok (.goto 4, 3) := by decide +kernel
theorem dX0_holdsAt_53 : decode cX0_holdsAt 53 = .ok (.iconst 0, 1) := by decide +kernel
theorem dX0_holdsAt_54 : decode cX0_holdsAt 54 = .ok (.ireturn, 1) := by decide +kernel
theorem dX0_isFor_0 : decode cX0_isFor 0 = .ok (.aload_n 0, 1) := by decide +kernel
theorem dX0_isFor_1 : decode cX0_isFor 1 = .ok (.getfield 15, 3) := by decide +kernel
theorem dX0_isFor_4 : decode cX0_isFor 4 = .ok (.iconst 2, 1) := by decide +kernel
theorem dX0_isFor_5 : decode cX0_isFor 5 = .ok (.if_icmp .eq 11, 3) := by decide +kernel
theorem dX0_isFor_8 : decode cX0_isFor 8 = .ok (.aload_n 0, 1) := by decide +kernel
theorem dX0_isFor_9 : decode cX0_isFor 9 = .ok (.getfield 15, 3) := by decide +kernel
theorem dX0_isFor_12 : decode cX0_isFor 12 = .ok (.iload_n 1, 1) := by decide +kernel
theorem dX0_isFor_13 : decode cX0_isFor 13 = .ok (.if_icmp .ne 7, 3) := by decide +kernel
theorem dX0_isFor_16 : decode cX0_isFor 16 = .ok (.iconst 1, 1) := by decide +kernel
theorem dX0_isFor_17 : decode cX0_isFor 17 = .ok (.goto 4, 3) := by decide +kernel
theorem dX0_isFor_20 : decode cX0_isFor 20 = .ok (.iconst 0, 1) := by decide +kernel
theorem dX0_isFor_21 : decode cX0_isFor 21 = .ok (.ireturn, 1) := by decide +kernel
theorem dX0_part_0 : decode cX0_part 0 = .ok (.iload_n 1, 1) := by decide +kernel
theorem dX0_part_1 : decode cX0_part 1 = .ok (.tableswitch 87 0 7 #[47, 52, 57, 62, 67, 72, 77, 82], 47) := by decide +kernel
theorem dX0_part_48 : decode cX0_part 48 = .ok (.aload_n 0, 1) := by decide +kernel
theorem dX0_part_49 : decode cX0_part 49 = .ok (.getfield 27, 3) := by decide +kernel
theorem dX0_part_52 : decode cX0_part 52 = .ok (.ireturn, 1) := by decide +kernel
theorem dX0_part_53 : decode cX0_part 53 = .ok (.aload_n 0, 1) := by decide +kernel
theorem dX0_part_54 : decode cX0_part 54 = .ok (.getfield 9, 3) := by decide +kernel
theorem dX0_part_57 : decode cX0_part 57 = .ok (.ireturn, 1) := by decide +kernel
theorem dX0_part_58 : decode cX0_part 58 = .ok (.aload_n 0, 1) := by decide +kernel
theorem dX0_part_59 : decode cX0_part 59 = .ok (.getfield 15, 3) := by decide +kernel
theorem dX0_part_62 : decode cX0_part 62 = .ok (.ireturn, 1) := by decide +kernel
theorem dX0_part_63 : decode cX0_part 63 = .ok (.aload_n 0, 1) := by decide +kernel
theorem dX0_part_64 : decode cX0_part 64 = .ok (.getfield 30, 3) := by decide +kernel
theorem dX0_part_67 : decode cX0_part 67 = .ok (.ireturn, 1) := by decide +kernel
theorem dX0_part_68 : decode cX0_part 68 = .ok (.aload_n 0, 1) := by decide +kernel
theorem dX0_part_69 : decode cX0_part 69 = .ok (.getfield 18, 3) := by decide +kernel
theorem dX0_part_72 : decode cX0_part 72 = .ok (.ireturn, 1) := by decide +kernel
theorem dX0_part_73 : decode cX0_part 73 = .ok (.aload_n 0, 1) := by decide +kernel
theorem dX0_part_74 : decode cX0_part 74 = .ok (.getfield 24, 3) := by decide +kernel
theorem dX0_part_77 : decode cX0_part 77 = .ok (.ireturn, 1) := by decide +kernel
theorem dX0_part_78 : decode cX0_part 78 = .ok (.aload_n 0, 1) := by decide +kernel
theorem dX0_part_79 : decode cX0_part 79 = .ok (.getfield 21, 3) := by decide +kernel
theorem dX0_part_82 : decode cX0_part 82 = .ok (.ireturn, 1) := by decide +kernel
theorem dX0_part_83 : decode cX0_part 83 = .ok (.aload_n 0, 1) := by decide +kernel
theorem dX0_part_84 : decode cX0_part 84 = .ok (.getfield 33, 3) := by decide +kernel
theorem dX0_part_87 : decode cX0_part 87 = .ok (.ireturn, 1) := by decide +kernel
theorem dX0_part_88 : decode cX0_part 88 = .ok (.aload_n 0, 1) := by decide +kernel
theorem dX0_part_89 : decode cX0_part 89 = .ok (.getfield 36, 3) := by decide +kernel
theorem dX0_part_92 : decode cX0_part 92 = .ok (.ireturn, 1) := by decide +kernel
theorem dX1_init_0 : decode cX1_init 0 = .ok (.aload_n 0, 1) := by decide +kernel
theorem dX1_init_1 : decode cX1_init 1 = .ok (.invokespecial 1, 3) := by decide +kernel
theorem dX1_init_4 : decode cX1_init 4 = .ok (.return_, 1) := by decide +kernel
theorem dX1_soundsAt_0 : decode cX1_soundsAt 0 = .ok (.iload_n 1, 1) := by decide +kernel
theorem dX1_soundsAt_1 : decode cX1_soundsAt 1 = .ok (.aload_n 0, 1) := by decide +kernel
theorem dX1_soundsAt_2 : decode cX1_soundsAt 2 = .ok (.getfield 7, 3) := by decide +kernel
theorem dX1_soundsAt_5 : decode cX1_soundsAt 5 = .ok (.if_icmp .lt 20, 3) := by decide +kernel
theorem dX1_soundsAt_8 : decode cX1_soundsAt 8 = .ok (.iload_n 1, 1) := by decide +kernel
theorem dX1_soundsAt_9 : decode cX1_soundsAt 9 = .ok (.aload_n 0, 1) := by decide +kernel
theorem dX1_soundsAt_10 : decode cX1_soundsAt 10 = .ok (.getfield 7, 3) := by decide +kernel
theorem dX1_soundsAt_13 : decode cX1_soundsAt 13 = .ok (.isub, 1) := by decide +kernel
theorem dX1_soundsAt_14 : decode cX1_soundsAt 14 = .ok (.aload_n 0, 1) := by decide +kernel
theorem dX1_soundsAt_15 : decode cX1_soundsAt 15 = .ok (.getfield 13, 3) := by decide +kernel
theorem dX1_soundsAt_18 : decode cX1_soundsAt 18 = .ok (.if_icmp .ge 7, 3) := by decide +kernel
theorem dX1_soundsAt_21 : decode cX1_soundsAt 21 = .ok (.iconst 1, 1) := by decide +kernel
theorem dX1_soundsAt_22 : decode cX1_soundsAt 22 = .ok (.goto 4, 3) := by decide +kernel
theorem dX1_soundsAt_25 : decode cX1_soundsAt 25 = .ok (.iconst 0, 1) := by decide +kernel
theorem dX1_soundsAt_26 : decode cX1_soundsAt 26 = .ok (.ireturn, 1) := by decide +kernel
theorem dX1_part_0 : decode cX1_part 0 = .ok (.iload_n 1, 1) := by decide +kernel
theorem dX1_part_1 : decode cX1_part 1 = .ok (.tableswitch 60 0 4 #[35, 40, 45, 50, 55], 35) := by decide +kernel
theorem dX1_part_36 : decode cX1_part 36 = .ok (.aload_n 0, 1) := by decide +kernel
theorem dX1_part_37 : decode cX1_part 37 = .ok (.getfield 7, 3) := by decide +kernel
theorem dX1_part_40 : decode cX1_part 40 = .ok (.ireturn, 1) := by decide +kernel
theorem dX1_part_41 : decode cX1_part 41 = .ok (.aload_n 0, 1) := by decide +kernel
theorem dX1_part_42 : decode cX1_part 42 = .ok (.getfield 13, 3) := by decide +kernel
theorem dX1_part_45 : decode cX1_part 45 = .ok (.ireturn, 1) := by decide +kernel
theorem dX1_part_46 : decode cX1_part 46 = .ok (.aload_n 0, 1) := by decide +kernel
theorem dX1_part_47 : decode cX1_part 47 = .ok (.getfield 16, 3) := by decide +kernel
theorem dX1_part_50 : decode cX1_part 50 = .ok (.ireturn, 1) := by decide +kernel
theorem dX1_part_51 : decode cX1_part 51 = .ok (.aload_n 0, 1) := by decide +kernel
theorem dX1_part_52 : decode cX1_part 52 = .ok (.getfield 19, 3) := by decide +kernel
theorem dX1_part_55 : decode cX1_part 55 = .ok (.ireturn, 1) := by decide +kernel
theorem dX1_part_56 : decode cX1_part 56 = .ok (.aload_n 0, 1) := by decide +kernel
theorem dX1_part_57 : decode cX1_part 57 = .ok (.getfield 22, 3) := by decide +kernel
theorem dX1_part_60 : decode cX1_part 60 = .ok (.ireturn, 1) := by decide +kernel
theorem dX1_part_61 : decode cX1_part 61 = .ok (.aload_n 0, 1) := by decide +kernel
theorem dX1_part_62 : decode cX1_part 62 = .ok (.getfield 25, 3) := by decide +kernel
theorem dX1_part_65 : decode cX1_part 65 = .ok (.ireturn, 1) := by decide +kernel
theorem dX2_init_0 : decode cX2_init 0 = .ok (.aload_n 0, 1) := by decide +kernel
theorem dX2_init_1 : decode cX2_init 1 = .ok (.invokespecial 3, 3) := by decide +kernel
theorem dX2_init_4 : decode cX2_init 4 = .ok (.return_, 1) := by decide +kernel
theorem dX2_startAt_0 : decode cX2_startAt 0 = .ok (.aload_n 0, 1) := by decide +kernel
theorem dX2_startAt_1 : decode cX2_startAt 1 = .ok (.iload_n 1, 1) := by decide +kernel
theorem dX2_startAt_2 : decode cX2_startAt 2 = .ok (.putfield 9, 3) := by decide +kernel
theorem dX2_startAt_5 : decode cX2_startAt 5 = .ok (.aload_n 0, 1) := by decide +kernel
theorem dX2_startAt_6 : decode cX2_startAt 6 = .ok (.iload_n 2, 1) := by decide +kernel
theorem dX2_startAt_7 : decode cX2_startAt 7 = .ok (.putfield 15, 3) := by decide +kernel
theorem dX2_startAt_10 : decode cX2_startAt 10 = .ok (.aload_n 0, 1) := by decide +kernel
theorem dX2_startAt_11 : decode cX2_startAt 11 = .ok (.iconst (-1), 1) := by decide +kernel
theorem dX2_startAt_12 : decode cX2_startAt 12 = .ok (.putfield 18, 3) := by decide +kernel
theorem dX2_startAt_15 : decode cX2_startAt 15 = .ok (.aload_n 0, 1) := by decide +kernel
theorem dX2_startAt_16 : decode cX2_startAt 16 = .ok (.iconst 0, 1) := by decide +kernel
theorem dX2_startAt_17 : decode cX2_startAt 17 = .ok (.putfield 21, 3) := by decide +kernel
theorem dX2_startAt_20 : decode cX2_startAt 20 = .ok (.aload_n 0, 1) := by decide +kernel
theorem dX2_startAt_21 : decode cX2_startAt 21 = .ok (.iconst 0, 1) := by decide +kernel
theorem dX2_startAt_22 : decode cX2_startAt 22 = .ok (.putfield 24, 3) := by decide +kernel
theorem dX2_startAt_25 : decode cX2_startAt 25 = .ok (.aload_n 0, 1) := by decide +kernel
theorem dX2_startAt_26 : decode cX2_startAt 26 = .ok (.iload_n 2, 1) := by decide +kernel
theorem dX2_startAt_27 : decode cX2_startAt 27 = .ok (.i2l, 1) := by decide +kernel
theorem dX2_startAt_28 : decode cX2_startAt 28 = .ok (.putfield 27, 3) := by decide +kernel
theorem dX2_startAt_31 : decode cX2_startAt 31 = .ok (.return_, 1) := by decide +kernel
theorem dX2_goOn_0 : decode cX2_goOn 0 = .ok (.aload_n 0, 1) := by decide +kernel
theorem dX2_goOn_1 : decode cX2_goOn 1 = .ok (.iload_n 2, 1) := by decide +kernel
theorem dX2_goOn_2 : decode cX2_goOn 2 = .ok (.putfield 9, 3) := by decide +kernel
theorem dX2_goOn_5 : decode cX2_goOn 5 = .ok (.aload_n 0, 1) := by decide +kernel
theorem dX2_goOn_6 : decode cX2_goOn 6 = .ok (.iload_n 3, 1) := by decide +kernel
theorem dX2_goOn_7 : decode cX2_goOn 7 = .ok (.putfield 15, 3) := by decide +kernel
theorem dX2_goOn_10 : decode cX2_goOn 10 = .ok (.aload_n 0, 1) := by decide +kernel
theorem dX2_goOn_11 : decode cX2_goOn 11 = .ok (.iload 4, 2) := by decide +kernel
theorem dX2_goOn_13 : decode cX2_goOn 13 = .ok (.putfield 21, 3) := by decide +kernel
theorem dX2_goOn_16 : decode cX2_goOn 16 = .ok (.aload_n 0, 1) := by decide +kernel
theorem dX2_goOn_17 : decode cX2_goOn 17 = .ok (.aload_n 1, 1) := by decide +kernel
theorem dX2_goOn_18 : decode cX2_goOn 18 = .ok (.getfield 15, 3) := by decide +kernel
theorem dX2_goOn_21 : decode cX2_goOn 21 = .ok (.putfield 18, 3) := by decide +kernel
theorem dX2_goOn_24 : decode cX2_goOn 24 = .ok (.aload_n 0, 1) := by decide +kernel
theorem dX2_goOn_25 : decode cX2_goOn 25 = .ok (.aload_n 1, 1) := by decide +kernel
theorem dX2_goOn_26 : decode cX2_goOn 26 = .ok (.getfield 24, 3) := by decide +kernel
theorem dX2_goOn_29 : decode cX2_goOn 29 = .ok (.iconst 1, 1) := by decide +kernel
theorem dX2_goOn_30 : decode cX2_goOn 30 = .ok (.iadd, 1) := by decide +kernel
theorem dX2_goOn_31 : decode cX2_goOn 31 = .ok (.putfield 24, 3) := by decide +kernel
theorem dX2_goOn_34 : decode cX2_goOn 34 = .ok (.aload_n 0, 1) := by decide +kernel
theorem dX2_goOn_35 : decode cX2_goOn 35 = .ok (.aload_n 1, 1) := by decide +kernel
theorem dX2_goOn_36 : decode cX2_goOn 36 = .ok (.getfield 27, 3) := by decide +kernel
theorem dX2_goOn_39 : decode cX2_goOn 39 = .ok (.iload_n 3, 1) := by decide +kernel
theorem dX2_goOn_40 : decode cX2_goOn 40 = .ok (.i2l, 1) := by decide +kernel
theorem dX2_goOn_41 : decode cX2_goOn 41 = .ok (.aload_n 0, 1) := by decide +kernel
theorem dX2_goOn_42 : decode cX2_goOn 42 = .ok (.getfield 24, 3) := by decide +kernel
theorem dX2_goOn_45 : decode cX2_goOn 45 = .ok (.iconst 4, 1) := by decide +kernel
theorem dX2_goOn_46 : decode cX2_goOn 46 = .ok (.imul, 1) := by decide +kernel
theorem dX2_goOn_47 : decode cX2_goOn 47 = .ok (.lshl, 1) := by decide +kernel
theorem dX2_goOn_48 : decode cX2_goOn 48 = .ok (.lor, 1) := by decide +kernel
theorem dX2_goOn_49 : decode cX2_goOn 49 = .ok (.putfield 27, 3) := by decide +kernel
theorem dX2_goOn_52 : decode cX2_goOn 52 = .ok (.return_, 1) := by decide +kernel
theorem dX2_sort_0 : decode cX2_sort 0 = .ok (.aload_n 0, 1) := by decide +kernel
theorem dX2_sort_1 : decode cX2_sort 1 = .ok (.getfield 18, 3) := by decide +kernel
theorem dX2_sort_4 : decode cX2_sort 4 = .ok (.iconst (-1), 1) := by decide +kernel
theorem dX2_sort_5 : decode cX2_sort 5 = .ok (.if_icmp .ne 7, 3) := by decide +kernel
theorem dX2_sort_8 : decode cX2_sort 8 = .ok (.iconst 0, 1) := by decide +kernel
theorem dX2_sort_9 : decode cX2_sort 9 = .ok (.goto 4, 3) := by decide +kernel
theorem dX2_sort_12 : decode cX2_sort 12 = .ok (.iconst 1, 1) := by decide +kernel
theorem dX2_sort_13 : decode cX2_sort 13 = .ok (.ireturn, 1) := by decide +kernel
theorem dX2_isLaterThan_0 : decode cX2_isLaterThan 0 = .ok (.aload_n 0, 1) := by decide +kernel
theorem dX2_isLaterThan_1 : decode cX2_isLaterThan 1 = .ok (.getfield 9, 3) := by decide +kernel
theorem dX2_isLaterThan_4 : decode cX2_isLaterThan 4 = .ok (.iload_n 1, 1) := by decide +kernel
theorem dX2_isLaterThan_5 : decode cX2_isLaterThan 5 = .ok (.if_icmp .gt 19, 3) := by decide +kernel
theorem dX2_isLaterThan_8 : decode cX2_isLaterThan 8 = .ok (.aload_n 0, 1) := by decide +kernel
theorem dX2_isLaterThan_9 : decode cX2_isLaterThan 9 = .ok (.getfield 9, 3) := by decide +kernel
theorem dX2_isLaterThan_12 : decode cX2_isLaterThan 12 = .ok (.iload_n 1, 1) := by decide +kernel
theorem dX2_isLaterThan_13 : decode cX2_isLaterThan 13 = .ok (.if_icmp .ne 15, 3) := by decide +kernel
theorem dX2_isLaterThan_16 : decode cX2_isLaterThan 16 = .ok (.aload_n 0, 1) := by decide +kernel
theorem dX2_isLaterThan_17 : decode cX2_isLaterThan 17 = .ok (.getfield 15, 3) := by decide +kernel
theorem dX2_isLaterThan_20 : decode cX2_isLaterThan 20 = .ok (.iload_n 2, 1) := by decide +kernel
theorem dX2_isLaterThan_21 : decode cX2_isLaterThan 21 = .ok (.if_icmp .le 7, 3) := by decide +kernel
theorem dX2_isLaterThan_24 : decode cX2_isLaterThan 24 = .ok (.iconst 1, 1) := by decide +kernel
theorem dX2_isLaterThan_25 : decode cX2_isLaterThan 25 = .ok (.goto 4, 3) := by decide +kernel
theorem dX2_isLaterThan_28 : decode cX2_isLaterThan 28 = .ok (.iconst 0, 1) := by decide +kernel
theorem dX2_isLaterThan_29 : decode cX2_isLaterThan 29 = .ok (.ireturn, 1) := by decide +kernel
theorem dX2_part_0 : decode cX2_part 0 = .ok (.iload_n 1, 1) := by decide +kernel
theorem dX2_part_1 : decode cX2_part 1 = .ok (.tableswitch 51 0 3 #[31, 36, 41, 46], 31) := by decide +kernel
theorem dX2_part_32 : decode cX2_part 32 = .ok (.aload_n 0, 1) := by decide +kernel
theorem dX2_part_33 : decode cX2_part 33 = .ok (.getfield 9, 3) := by decide +kernel
theorem dX2_part_36 : decode cX2_part 36 = .ok (.ireturn, 1) := by decide +kernel
theorem dX2_part_37 : decode cX2_part 37 = .ok (.aload_n 0, 1) := by decide +kernel
theorem dX2_part_38 : decode cX2_part 38 = .ok (.getfield 15, 3) := by decide +kernel
theorem dX2_part_41 : decode cX2_part 41 = .ok (.ireturn, 1) := by decide +kernel
theorem dX2_part_42 : decode cX2_part 42 = .ok (.aload_n 0, 1) := by decide +kernel
theorem dX2_part_43 : decode cX2_part 43 = .ok (.getfield 18, 3) := by decide +kernel
theorem dX2_part_46 : decode cX2_part 46 = .ok (.ireturn, 1) := by decide +kernel
theorem dX2_part_47 : decode cX2_part 47 = .ok (.aload_n 0, 1) := by decide +kernel
theorem dX2_part_48 : decode cX2_part 48 = .ok (.getfield 21, 3) := by decide +kernel
theorem dX2_part_51 : decode cX2_part 51 = .ok (.ireturn, 1) := by decide +kernel
theorem dX2_part_52 : decode cX2_part 52 = .ok (.aload_n 0, 1) := by decide +kernel
theorem dX2_part_53 : decode cX2_part 53 = .ok (.getfield 24, 3) := by decide +kernel
theorem dX2_part_56 : decode cX2_part 56 = .ok (.ireturn, 1) := by decide +kernel
set_option maxRecDepth 20000 in
theorem ggX4_init_Jx4a65c_init_da8c8 : GoodIn wsX4_init wsJx4a65c_init_da8c8 := goodIn_r _ [15, 16, 17, 18, 19, 20, 21, 22, 23, 24, 25, 26, 27, 2, 3, 28, 29, 30] (by decide +kernel) (by decide +kernel)
theorem dX4_init_0 : decode cX4_init 0 = .ok (.aload_n 0, 1) := by decide +kernel
theorem dX4_init_1 : decode cX4_init 1 = .ok (.invokespecial 3, 3) := by decide +kernel
theorem dX4_init_4 : decode cX4_init 4 = .ok (.aload_n 0, 1) := by decide +kernel
theorem dX4_init_5 : decode cX4_init 5 = .ok (.new 9, 3) := by decide +kernel
theorem dX4_init_8 : decode cX4_init 8 = .ok (.dup, 1) := by decide +kernel
theorem dX4_init_9 : decode cX4_init 9 = .ok (.invokespecial 11, 3) := by decide +kernel
theorem dX4_init_12 : decode cX4_init 12 = .ok (.putfield 12, 3) := by decide +kernel
theorem dX4_init_15 : decode cX4_init 15 = .ok (.aload_n 0, 1) := by decide +kernel
theorem dX4_init_16 : decode cX4_init 16 = .ok (.iconst (-1), 1) := by decide +kernel
theorem dX4_init_17 : decode cX4_init 17 = .ok (.putfield 18, 3) := by decide +kernel
theorem dX4_init_20 : decode cX4_init 20 = .ok (.aload_n 0, 1) := by decide +kernel
theorem dX4_init_21 : decode cX4_init 21 = .ok (.iload_n 1, 1) := by decide +kernel
theorem dX4_init_22 : decode cX4_init 22 = .ok (.putfield 22, 3) := by decide +kernel
theorem dX4_init_25 : decode cX4_init 25 = .ok (.aload_n 0, 1) := by decide +kernel
theorem dX4_init_26 : decode cX4_init 26 = .ok (.iload_n 2, 1) := by decide +kernel
theorem dX4_init_27 : decode cX4_init 27 = .ok (.putfield 25, 3) := by decide +kernel
theorem dX4_init_30 : decode cX4_init 30 = .ok (.aload_n 0, 1) := by decide +kernel
theorem dX4_init_31 : decode cX4_init 31 = .ok (.iload_n 3, 1) := by decide +kernel
theorem dX4_init_32 : decode cX4_init 32 = .ok (.putfield 28, 3) := by decide +kernel
theorem dX4_init_35 : decode cX4_init 35 = .ok (.aload_n 0, 1) := by decide +kernel
theorem dX4_init_36 : decode cX4_init 36 = .ok (.iload_n 3, 1) := by decide +kernel
theorem dX4_init_37 : decode cX4_init 37 = .ok (.putfield 31, 3) := by decide +kernel
theorem dX4_init_40 : decode cX4_init 40 = .ok (.return_, 1) := by decide +kernel
set_option maxRecDepth 20000 in
theorem ggX4_habitAt_Jx4a65c_size_8abf5 : GoodIn wsX4_habitAt wsJx4a65c_size_8abf5 := goodIn_r _ [9, 10, 39, 40, 41] (by decide +kernel) (by decide +kernel)
set_option maxRecDepth 20000 in
theorem ggX4_habitAt_X6_isOutside : GoodIn wsX4_habitAt wsX6_isOutside := goodIn_r _ [13] (by decide +kernel) (by decide +kernel)
set_option maxRecDepth 20000 in
theorem ggX4_habitAt_Jx4a65c_get_915e3 : GoodIn wsX4_habitAt wsJx4a65c_get_915e3 := goodIn_r _ [17, 10, 18, 19, 20, 21, 22, 23, 24, 25, 26, 27, 28, 8, 29, 30, 39, 40, 41] (by decide +kernel) (by decide +kernel)
theorem dX4_habitAt_0 : decode cX4_habitAt 0 = .ok (.iload_n 1, 1) := by decide +kernel
theorem dX4_habitAt_1 : decode cX4_habitAt 1 = .ok (.iconst 0, 1) := by decide +kernel
theorem dX4_habitAt_2 : decode cX4_habitAt 2 = .ok (.aload_n 0, 1) := by decide +kernel
theorem dX4_habitAt_3 : decode cX4_habitAt 3 = .ok (.getfield 12, 3) := by decide +kernel
theorem dX4_habitAt_6 : decode cX4_habitAt 6 = .ok (.invokevirtual 34, 3) := by decide +kernel
theorem dX4_habitAt_9 : decode cX4_habitAt 9 = .ok (.iconst 1, 1) := by decide +kernel
theorem dX4_habitAt_10 : decode cX4_habitAt 10 = .ok (.isub, 1) := by decide +kernel
theorem dX4_habitAt_11 : decode cX4_habitAt 11 = .ok (.invokestatic 38, 3) := by decide +kernel
theorem dX4_habitAt_14 : decode cX4_habitAt 14 = .ok (.ifCond .eq 11, 3) := by decide +kernel
theorem dX4_habitAt_17 : decode cX4_habitAt 17 = .ok (.new 42, 3) := by decide +kernel
theorem dX4_habitAt_20 : decode cX4_habitAt 20 = .ok (.dup, 1) := by decide +kernel
theorem dX4_habitAt_21 : decode cX4_habitAt 21 = .ok (.invokespecial 44, 3) := by decide +kernel
theorem dX4_habitAt_24 : decode cX4_habitAt 24 = .ok (.athrow, 1) := by decide +kernel
theorem dX4_habitAt_25 : decode cX4_habitAt 25 = .ok (.aload_n 0, 1) := by decide +kernel
theorem dX4_habitAt_26 : decode cX4_habitAt 26 = .ok (.getfield 12, 3) := by decide +kernel
theorem dX4_habitAt_29 : decode cX4_habitAt 29 = .ok (.iload_n 1, 1) := by decide +kernel
theorem dX4_habitAt_30 : decode cX4_habitAt 30 = .ok (.invokevirtual 45, 3) := by decide +kernel
theorem dX4_habitAt_33 : decode cX4_habitAt 33 = .ok (.checkcast 49, 3) := by decide +kernel
theorem dX4_habitAt_36 : decode cX4_habitAt 36 = .ok (.areturn, 1) := by decide +kernel
set_option maxRecDepth 20000 in
theorem ggX4_fittingHabit_Jx4a65c_size_8abf5 : GoodIn wsX4_fittingHabit wsJx4a65c_size_8abf5 := goodIn_r _ [9, 10, 57, 58, 59] (by decide +kernel) (by decide +kernel)
set_option maxRecDepth 20000 in
theorem ggX4_fittingHabit_Jx4a65c_get_915e3 : GoodIn wsX4_fittingHabit wsJx4a65c_get_915e3 := goodIn_r _ [14, 10, 15, 16, 17, 18, 19, 20, 21, 22, 23, 24, 25, 8, 26, 27, 57, 58, 59] (by decide +kernel) (by decide +kernel)
set_option maxRecDepth 20000 in
theorem ggX4_fittingHabit_X0_holdsAt : GoodIn wsX4_fittingHabit wsX0_holdsAt := goodIn_r _ [32, 33, 34, 48, 49, 50, 51, 52, 53, 54, 55, 56] (by decide +kernel) (by decide +kernel)
set_option maxRecDepth 20000 in
theorem ggX4_fittingHabit_X0_isFor : GoodIn wsX4_fittingHabit wsX0_isFor := goodIn_r _ [38, 39, 48, 49, 50, 51, 52, 53, 54, 55, 56] (by decide +kernel) (by decide +kernel)
theorem dX4_fittingHabit_0 : decode cX4_fittingHabit 0 = .ok (.iconst 0, 1) := by decide +kernel
theorem dX4_fittingHabit_1 : decode cX4_fittingHabit 1 = .ok (.istore_n 3, 1) := by decide +kernel
theorem dX4_fittingHabit_2 : decode cX4_fittingHabit 2 = .ok (.iload_n 3, 1) := by decide +kernel
theorem dX4_fittingHabit_3 : decode cX4_fittingHabit 3 = .ok (.aload_n 0, 1) := by decide +kernel
theorem dX4_fittingHabit_4 : decode cX4_fittingHabit 4 = .ok (.getfield 12, 3) := by decide +kernel
theorem dX4_fittingHabit_7 : decode cX4_fittingHabit 7 = .ok (.invokevirtual 34, 3) := by decide +kernel
theorem dX4_fittingHabit_10 : decode cX4_fittingHabit 10 = .ok (.if_icmp .ge 54, 3) := by decide +kernel
theorem dX4_fittingHabit_13 : decode cX4_fittingHabit 13 = .ok (.aload_n 0, 1) := by decide +kernel
theorem dX4_fittingHabit_14 : decode cX4_fittingHabit 14 = .ok (.getfield 12, 3) := by decide +kernel
theorem dX4_fittingHabit_17 : decode cX4_fittingHabit 17 = .ok (.iload_n 3, 1) := by decide +kernel
theorem dX4_fittingHabit_18 : decode cX4_fittingHabit 18 = .ok (.invokevirtual 45, 3) := by decide +kernel
theorem dX4_fittingHabit_21 : decode cX4_fittingHabit 21 = .ok (.checkcast 49, 3) := by decide +kernel
theorem dX4_fittingHabit_24 : decode cX4_fittingHabit 24 = .ok (.astore 4, 2) := by decide +kernel
theorem dX4_fittingHabit_26 : decode cX4_fittingHabit 26 = .ok (.aload 4, 2) := by decide +kernel
theorem dX4_fittingHabit_28 : decode cX4_fittingHabit 28 = .ok (.iload_n 2, 1) := by decide +kernel
theorem dX4_fittingHabit_29 : decode cX4_fittingHabit 29 = .ok (.invokevirtual 51, 3) := by decide +kernel
theorem dX4_fittingHabit_32 : decode cX4_fittingHabit 32 = .ok (.ifCond .eq 26, 3) := by decide +kernel
theorem dX4_fittingHabit_35 : decode cX4_fittingHabit 35 = .ok (.aload 4, 2) := by decide +kernel
theorem dX4_fittingHabit_37 : decode cX4_fittingHabit 37 = .ok (.iload_n 1, 1) := by decide +kernel
theorem dX4_fittingHabit_38 : decode cX4_fittingHabit 38 = .ok (.invokevirtual 55, 3) := by decide +kernel
theorem dX4_fittingHabit_41 : decode cX4_fittingHabit 41 = .ok (.ifCond .eq 17, 3) := by decide +kernel
theorem dX4_fittingHabit_44 : decode cX4_fittingHabit 44 = .ok (.aload_n 0, 1) := by decide +kernel
theorem dX4_fittingHabit_45 : decode cX4_fittingHabit 45 = .ok (.getfield 31, 3) := by decide +kernel
theorem dX4_fittingHabit_48 : decode cX4_fittingHabit 48 = .ok (.aload 4, 2) := by decide +kernel
theorem dX4_fittingHabit_50 : decode cX4_fittingHabit 50 = .ok (.getfield 58, 3) := by decide +kernel
theorem dX4_fittingHabit_53 : decode cX4_fittingHabit 53 = .ok (.if_icmp .lt 5, 3) := by decide +kernel
theorem dX4_fittingHabit_56 : decode cX4_fittingHabit 56 = .ok (.iload_n 3, 1) := by decide +kernel
theorem dX4_fittingHabit_57 : decode cX4_fittingHabit 57 = .ok (.ireturn, 1) := by decide +kernel
theorem dX4_fittingHabit_58 : decode cX4_fittingHabit 58 = .ok (.iinc 3 1, 3) := by decide +kernel
theorem dX4_fittingHabit_61 : decode cX4_fittingHabit 61 = .ok (.goto (-59), 3) := by decide +kernel
theorem dX4_fittingHabit_64 : decode cX4_fittingHabit 64 = .ok (.iconst (-1), 1) := by decide +kernel
theorem dX4_fittingHabit_65 : decode cX4_fittingHabit 65 = .ok (.ireturn, 1) := by decide +kernel
set_option maxRecDepth 20000 in
theorem ggX4_part_Jx4a65c_size_8abf5 : GoodIn wsX4_part wsJx4a65c_size_8abf5 := goodIn_r _ [11, 12, 21, 22, 23] (by decide +kernel) (by decide +kernel)
theorem dX4_part_0 : decode cX4_part 0 = .ok (.iload_n 1, 1) := by decide +kernel
theorem dX4_part_1 : decode cX4_part 1 = .ok (.tableswitch 63 0 4 #[35, 40, 45, 50, 58], 35) := by decide +kernel
theorem dX4_part_36 : decode cX4_part 36 = .ok (.aload_n 0, 1) := by decide +kernel
theorem dX4_part_37 : decode cX4_part 37 = .ok (.getfield 25, 3) := by decide +kernel
theorem dX4_part_40 : decode cX4_part 40 = .ok (.ireturn, 1) := by decide +kernel
theorem dX4_part_41 : decode cX4_part 41 = .ok (.aload_n 0, 1) := by decide +kernel
theorem dX4_part_42 : decode cX4_part 42 = .ok (.getfield 28, 3) := by decide +kernel
theorem dX4_part_45 : decode cX4_part 45 = .ok (.ireturn, 1) := by decide +kernel
theorem dX4_part_46 : decode cX4_part 46 = .ok (.aload_n 0, 1) := by decide +kernel
theorem dX4_part_47 : decode cX4_part 47 = .ok (.getfield 31, 3) := by decide +kernel
theorem dX4_part_50 : decode cX4_part 50 = .ok (.ireturn, 1) := by decide +kernel
theorem dX4_part_51 : decode cX4_part 51 = .ok (.aload_n 0, 1) := by decide +kernel
theorem dX4_part_52 : decode cX4_part 52 = .ok (.getfield 12, 3) := by decide +kernel
theorem dX4_part_55 : decode cX4_part 55 = .ok (.invokevirtual 34, 3) := by decide +kernel
theorem dX4_part_58 : decode cX4_part 58 = .ok (.ireturn, 1) := by decide +kernel
theorem dX4_part_59 : decode cX4_part 59 = .ok (.aload_n 0, 1) := by decide +kernel
theorem dX4_part_60 : decode cX4_part 60 = .ok (.getfield 61, 3) := by decide +kernel
theorem dX4_part_63 : decode cX4_part 63 = .ok (.ireturn, 1) := by decide +kernel
theorem dX4_part_64 : decode cX4_part 64 = .ok (.aload_n 0, 1) := by decide +kernel
theorem dX4_part_65 : decode cX4_part 65 = .ok (.getfield 64, 3) := by decide +kernel
theorem dX4_part_68 : decode cX4_part 68 = .ok (.ireturn, 1) := by decide +kernel
set_option maxRecDepth 20000 in
theorem ggX5_init_Jx4a65c_init_da8c8 : GoodIn wsX5_init wsJx4a65c_init_da8c8 := goodIn_r _ [11, 12, 13, 14, 15, 16, 17, 18, 19, 20, 21, 22, 23, 2, 3, 24, 25, 26] (by decide +kernel) (by decide +kernel)
theorem dX5_init_0 : decode cX5_init 0 = .ok (.aload_n 0, 1) := by decide +kernel
theorem dX5_init_1 : decode cX5_init 1 = .ok (.invokespecial 3, 3) := by decide +kernel
theorem dX5_init_4 : decode cX5_init 4 = .ok (.aload_n 0, 1) := by decide +kernel
theorem dX5_init_5 : decode cX5_init 5 = .ok (.new 9, 3) := by decide +kernel
theorem dX5_init_8 : decode cX5_init 8 = .ok (.dup, 1) := by decide +kernel
theorem dX5_init_9 : decode cX5_init 9 = .ok (.invokespecial 11, 3) := by decide +kernel
theorem dX5_init_12 : decode cX5_init 12 = .ok (.putfield 12, 3) := by decide +kernel
theorem dX5_init_15 : decode cX5_init 15 = .ok (.aload_n 0, 1) := by decide +kernel
theorem dX5_init_16 : decode cX5_init 16 = .ok (.new 9, 3) := by decide +kernel
theorem dX5_init_19 : decode cX5_init 19 = .ok (.dup, 1) := by decide +kernel
theorem dX5_init_20 : decode cX5_init 20 = .ok (.invokespecial 11, 3) := by decide +kernel
theorem dX5_init_23 : decode cX5_init 23 = .ok (.putfield 18, 3) := by decide +kernel
theorem dX5_init_26 : decode cX5_init 26 = .ok (.return_, 1) := by decide +kernel
set_option maxRecDepth 20000 in
theorem ggX5_at_Jx4a65c_size_8abf5 : GoodIn wsX5_at wsJx4a65c_size_8abf5 := goodIn_r _ [9, 10, 33, 34, 35] (by decide +kernel) (by decide +kernel)
set_option maxRecDepth 20000 in
theorem ggX5_at_X6_isOutside : GoodIn wsX5_at wsX6_isOutside := goodIn_r _ [13] (by decide +kernel) (by decide +kernel)
set_option maxRecDepth 20000 in
theorem ggX5_at_Jx4a65c_get_915e3 : GoodIn wsX5_at wsJx4a65c_get_915e3 := goodIn_r _ [17, 10, 18, 19, 20, 21, 22, 23, 24, 25, 26, 27, 28, 8, 29, 30, 33, 34, 35] (by decide +kernel) (by decide +kernel)
theorem dX5_at_0 : decode cX5_at 0 = .ok (.iload_n 1, 1) := by decide +kernel
theorem dX5_at_1 : decode cX5_at 1 = .ok (.iconst 0, 1) := by decide +kernel
theorem dX5_at_2 : decode cX5_at 2 = .ok (.aload_n 0, 1) := by decide +kernel
theorem dX5_at_3 : decode cX5_at 3 = .ok (.getfield 12, 3) := by decide +kernel
theorem dX5_at_6 : decode cX5_at 6 = .ok (.invokevirtual 21, 3) := by decide +kernel
theorem dX5_at_9 : decode cX5_at 9 = .ok (.iconst 1, 1) := by decide +kernel
theorem dX5_at_10 : decode cX5_at 10 = .ok (.isub, 1) := by decide +kernel
theorem dX5_at_11 : decode cX5_at 11 = .ok (.invokestatic 25, 3) := by decide +kernel
theorem dX5_at_14 : decode cX5_at 14 = .ok (.ifCond .eq 11, 3) := by decide +kernel
theorem dX5_at_17 : decode cX5_at 17 = .ok (.new 29, 3) := by decide +kernel
theorem dX5_at_20 : decode cX5_at 20 = .ok (.dup, 1) := by decide +kernel
theorem dX5_at_21 : decode cX5_at 21 = .ok (.invokespecial 31, 3) := by decide +kernel
theorem dX5_at_24 : decode cX5_at 24 = .ok (.athrow, 1) := by decide +kernel
theorem dX5_at_25 : decode cX5_at 25 = .ok (.aload_n 0, 1) := by decide +kernel
theorem dX5_at_26 : decode cX5_at 26 = .ok (.getfield 12, 3) := by decide +kernel
theorem dX5_at_29 : decode cX5_at 29 = .ok (.iload_n 1, 1) := by decide +kernel
theorem dX5_at_30 : decode cX5_at 30 = .ok (.invokevirtual 32, 3) := by decide +kernel
theorem dX5_at_33 : decode cX5_at 33 = .ok (.checkcast 36, 3) := by decide +kernel
theorem dX5_at_36 : decode cX5_at 36 = .ok (.areturn, 1) := by decide +kernel
set_option maxRecDepth 20000 in
theorem ggX5_takeDue_Jx4a65c_isEmpty_aae02 : GoodIn wsX5_takeDue wsJx4a65c_isEmpty_aae02 := goodIn_r _ [8, 9, 49, 50, 51] (by decide +kernel) (by decide +kernel)
set_option maxRecDepth 20000 in
theorem ggX5_takeDue_Jx4a65c_get_915e3 : GoodIn wsX5_takeDue wsJx4a65c_get_915e3 := goodIn_r _ [13, 9, 14, 15, 16, 17, 18, 19, 20, 21, 22, 23, 24, 7, 25, 26, 49, 50, 51] (by decide +kernel) (by decide +kernel)
set_option maxRecDepth 20000 in
theorem ggX5_takeDue_Jx4a65c_remove_915e3 : GoodIn wsX5_takeDue wsJx4a65c_remove_915e3 := goodIn_r _ [30, 9, 26, 14, 15, 16, 17, 18, 19, 20, 21, 31, 32, 33, 7, 34, 35, 36, 37, 38, 39, 40, 49, 50, 51] (by decide +kernel) (by decide +kernel)
theorem dX5_takeDue_0 : decode cX5_takeDue 0 = .ok (.aload_n 0, 1) := by decide +kernel
theorem dX5_takeDue_1 : decode cX5_takeDue 1 = .ok (.getfield 12, 3) := by decide +kernel
theorem dX5_takeDue_4 : decode cX5_takeDue 4 = .ok (.invokevirtual 38, 3) := by decide +kernel
theorem dX5_takeDue_7 : decode cX5_takeDue 7 = .ok (.ifCond .ne 21, 3) := by decide +kernel
theorem dX5_takeDue_10 : decode cX5_takeDue 10 = .ok (.aload_n 0, 1) := by decide +kernel
theorem dX5_takeDue_11 : decode cX5_takeDue 11 = .ok (.getfield 12, 3) := by decide +kernel
theorem dX5_takeDue_14 : decode cX5_takeDue 14 = .ok (.iconst 0, 1) := by decide +kernel
theorem dX5_takeDue_15 : decode cX5_takeDue 15 = .ok (.invokevirtual 32, 3) := by decide +kernel
theorem dX5_takeDue_18 : decode cX5_takeDue 18 = .ok (.checkcast 36, 3) := by decide +kernel
theorem dX5_takeDue_21 : decode cX5_takeDue 21 = .ok (.getfield 42, 3) := by decide +kernel
theorem dX5_takeDue_24 : decode cX5_takeDue 24 = .ok (.iload_n 1, 1) := by decide +kernel
theorem dX5_takeDue_25 : decode cX5_takeDue 25 = .ok (.if_icmp .eq 5, 3) := by decide +kernel
theorem dX5_takeDue_28 : decode cX5_takeDue 28 = .ok (.aconst_null, 1) := by decide +kernel
theorem dX5_takeDue_29 : decode cX5_takeDue 29 = .ok (.areturn, 1) := by decide +kernel
theorem dX5_takeDue_30 : decode cX5_takeDue 30 = .ok (.aload_n 0, 1) := by decide +kernel
theorem dX5_takeDue_31 : decode cX5_takeDue 31 = .ok (.getfield 12, 3) := by decide +kernel
theorem dX5_takeDue_34 : decode cX5_takeDue 34 = .ok (.iconst 0, 1) := by decide +kernel
theorem dX5_takeDue_35 : decode cX5_takeDue 35 = .ok (.invokevirtual 46, 3) := by decide +kernel
theorem dX5_takeDue_38 : decode cX5_takeDue 38 = .ok (.checkcast 36, 3) := by decide +kernel
theorem dX5_takeDue_41 : decode cX5_takeDue 41 = .ok (.areturn, 1) := by decide +kernel
set_option maxRecDepth 20000 in
theorem ggX5_giveBack_Jx4a65c_add_9ea2d : GoodIn wsX5_giveBack wsJx4a65c_add_9ea2d := goodIn_r _ [6, 7, 8, 9, 10, 11, 12, 13, 5, 14, 15, 16, 17, 18, 19, 20, 21, 22, 23, 24, 25, 26, 27, 28, 29, 30, 31, 32, 33, 34, 35, 36, 37, 38, 39, 40, 41, 42, 43, 44, 45, 46, 47, 48, 49, 50, 51, 52, 53, 54, 55, 56, 57, 60, 61, 62] (by decide +kernel) (by decide +kernel)
theorem dX5_giveBack_0 : decode cX5_giveBack 0 = .ok (.aload_n 0, 1) := by decide +kernel
theorem dX5_giveBack_1 : decode cX5_giveBack 1 = .ok (.getfield 18, 3) := by decide +kernel
theorem dX5_giveBack_4 : decode cX5_giveBack 4 = .ok (.aload_n 1, 1) := by decide +kernel
theorem dX5_giveBack_5 : decode cX5_giveBack 5 = .ok (.invokevirtual 49, 3) := by decide +kernel
theorem dX5_giveBack_8 : decode cX5_giveBack 8 = .ok (.pop, 1) := by decide +kernel
theorem dX5_giveBack_9 : decode cX5_giveBack 9 = .ok (.return_, 1) := by decide +kernel
set_option maxRecDepth 20000 in
theorem ggX5_add_Jx4a65c_size_8abf5 : GoodIn wsX5_add wsJx4a65c_size_8abf5 := goodIn_r _ [11, 12, 123, 124, 125] (by decide +kernel) (by decide +kernel)
set_option maxRecDepth 20000 in
theorem ggX5_add_Jx4a65c_isEmpty_aae02 : GoodIn wsX5_add wsJx4a65c_isEmpty_aae02 := goodIn_r _ [16, 12, 123, 124, 125] (by decide +kernel) (by decide +kernel)
set_option maxRecDepth 20000 in
theorem ggX5_add_X2_init : GoodIn wsX5_add wsX2_init := goodIn_r _ [18, 19, 20, 21] (by decide +kernel) (by decide +kernel)
set_option maxRecDepth 20000 in
theorem ggX5_add_Jx4a65c_remove_915e3 : GoodIn wsX5_add wsJx4a65c_remove_915e3 := goodIn_r _ [25, 12, 26, 27, 28, 29, 30, 31, 32, 33, 34, 35, 36, 37, 10, 38, 39, 40, 41, 42, 43, 44, 123, 124, 125] (by decide +kernel) (by decide +kernel)
set_option maxRecDepth 20000 in
theorem ggX5_add_X2_goOn : GoodIn wsX5_add wsX2_goOn := goodIn_r _ [48, 49, 50, 51, 52, 53, 54, 117, 118, 119, 120, 121, 122] (by decide +kernel) (by decide +kernel)
set_option maxRecDepth 20000 in
theorem ggX5_add_Jx4a65c_get_915e3 : GoodIn wsX5_add wsJx4a65c_get_915e3 := goodIn_r _ [58, 12, 27, 28, 29, 30, 31, 32, 33, 34, 59, 60, 61, 10, 62, 26, 123, 124, 125] (by decide +kernel) (by decide +kernel)
set_option maxRecDepth 20000 in
theorem ggX5_add_X2_isLaterThan : GoodIn wsX5_add wsX2_isLaterThan := goodIn_r _ [66, 49, 50, 117, 118, 119, 120, 121, 122] (by decide +kernel) (by decide +kernel)
set_option maxRecDepth 20000 in
theorem ggX5_add_Jx4a65c_add_7a177 : GoodIn wsX5_add wsJx4a65c_add_7a177 := goodIn_r _ [70, 39, 40, 12, 26, 41, 42, 43, 44, 71, 72, 73, 10, 74, 75, 76, 77, 78, 79, 80, 81, 82, 83, 84, 85, 86, 87, 88, 89, 90, 91, 92, 93, 94, 95, 96, 97, 98, 99, 100, 101, 102, 103, 104, 105, 106, 107, 108, 109, 110, 111, 112, 113, 114, 123, 124, 125] (by decide +kernel) (by decide +kernel)
theorem dX5_add_0 : decode cX5_add 0 = .ok (.aload_n 0, 1) := by decide +kernel
theorem dX5_add_1 : decode cX5_add 1 = .ok (.getfield 12, 3) := by decide +kernel
theorem dX5_add_4 : decode cX5_add 4 = .ok (.invokevirtual 21, 3) := by decide +kernel
theorem dX5_add_7 : decode cX5_add 7 = .ok (.bipush 60, 2) := by decide +kernel
theorem dX5_add_9 : decode cX5_add 9 = .ok (.if_icmp .lt 5, 3) := by decide +kernel
theorem dX5_add_12 : decode cX5_add 12 = .ok (.iconst 0, 1) := by decide +kernel
theorem dX5_add_13 : decode cX5_add 13 = .ok (.ireturn, 1) := by decide +kernel
theorem dX5_add_14 : decode cX5_add 14 = .ok (.aload_n 0, 1) := by decide +kernel
theorem dX5_add_15 : decode cX5_add 15 = .ok (.getfield 18, 3) := by decide +kernel
theorem dX5_add_18 : decode cX5_add 18 = .ok (.invokevirtual 38, 3) := by decide +kernel
theorem dX5_add_21 : decode cX5_add 21 = .ok (.ifCond .eq 13, 3) := by decide +kernel
theorem dX5_add_24 : decode cX5_add 24 = .ok (.new 36, 3) := by decide +kernel
theorem dX5_add_27 : decode cX5_add 27 = .ok (.dup, 1) := by decide +kernel
theorem dX5_add_28 : decode cX5_add 28 = .ok (.invokespecial 53, 3) := by decide +kernel
theorem dX5_add_31 : decode cX5_add 31 = .ok (.goto 22, 3) := by decide +kernel
theorem dX5_add_34 : decode cX5_add 34 = .ok (.aload_n 0, 1) := by decide +kernel
theorem dX5_add_35 : decode cX5_add 35 = .ok (.getfield 18, 3) := by decide +kernel
theorem dX5_add_38 : decode cX5_add 38 = .ok (.aload_n 0, 1) := by decide +kernel
theorem dX5_add_39 : decode cX5_add 39 = .ok (.getfield 18, 3) := by decide +kernel
theorem dX5_add_42 : decode cX5_add 42 = .ok (.invokevirtual 21, 3) := by decide +kernel
theorem dX5_add_45 : decode cX5_add 45 = .ok (.iconst 1, 1) := by decide +kernel
theorem dX5_add_46 : decode cX5_add 46 = .ok (.isub, 1) := by decide +kernel
theorem dX5_add_47 : decode cX5_add 47 = .ok (.invokevirtual 46, 3) := by decide +kernel
theorem dX5_add_50 : decode cX5_add 50 = .ok (.checkcast 36, 3) := by decide +kernel
theorem dX5_add_53 : decode cX5_add 53 = .ok (.astore 5, 2) := by decide +kernel
theorem dX5_add_55 : decode cX5_add 55 = .ok (.aload 5, 2) := by decide +kernel
theorem dX5_add_57 : decode cX5_add 57 = .ok (.aload_n 1, 1) := by decide +kernel
theorem dX5_add_58 : decode cX5_add 58 = .ok (.iload_n 2, 1) := by decide +kernel
theorem dX5_add_59 : decode cX5_add 59 = .ok (.iload_n 3, 1) := by decide +kernel
theorem dX5_add_60 : decode cX5_add 60 = .ok (.iload 4, 2) := by decide +kernel
theorem dX5_add_62 : decode cX5_add 62 = .ok (.invokevirtual 54, 3) := by decide +kernel
theorem dX5_add_65 : decode cX5_add 65 = .ok (.aload_n 0, 1) := by decide +kernel
theorem dX5_add_66 : decode cX5_add 66 = .ok (.getfield 12, 3) := by decide +kernel
theorem dX5_add_69 : decode cX5_add 69 = .ok (.invokevirtual 21, 3) := by decide +kernel
theorem dX5_add_72 : decode cX5_add 72 = .ok (.istore 6, 2) := by decide +kernel
theorem dX5_add_74 : decode cX5_add 74 = .ok (.iload 6, 2) := by decide +kernel
theorem dX5_add_76 : decode cX5_add 76 = .ok (.ifCond .le 31, 3) := by decide +kernel
theorem dX5_add_79 : decode cX5_add 79 = .ok (.aload_n 0, 1) := by decide +kernel
theorem dX5_add_80 : decode cX5_add 80 = .ok (.getfield 12, 3) := by decide +kernel
theorem dX5_add_83 : decode cX5_add 83 = .ok (.iload 6, 2) := by decide +kernel
theorem dX5_add_85 : decode cX5_add 85 = .ok (.iconst 1, 1) := by decide +kernel
theorem dX5_add_86 : decode cX5_add 86 = .ok (.isub, 1) := by decide +kernel
theorem dX5_add_87 : decode cX5_add 87 = .ok (.invokevirtual 32, 3) := by decide +kernel
theorem dX5_add_90 : decode cX5_add 90 = .ok (.checkcast 36, 3) := by decide +kernel
theorem dX5_add_93 : decode cX5_add 93 = .ok (.iload_n 2, 1) := by decide +kernel
theorem dX5_add_94 : decode cX5_add 94 = .ok (.iload_n 3, 1) := by decide +kernel
theorem dX5_add_95 : decode cX5_add 95 = .ok (.invokevirtual 58, 3) := by decide +kernel
theorem dX5_add_98 : decode cX5_add 98 = .ok (.ifCond .eq 9, 3) := by decide +kernel
theorem dX5_add_101 : decode cX5_add 101 = .ok (.iinc 6 (-1), 3) := by decide +kernel
theorem dX5_add_104 : decode cX5_add 104 = .ok (.goto (-30), 3) := by decide +kernel
theorem dX5_add_107 : decode cX5_add 107 = .ok (.aload_n 0, 1) := by decide +kernel
theorem dX5_add_108 : decode cX5_add 108 = .ok (.getfield 12, 3) := by decide +kernel
theorem dX5_add_111 : decode cX5_add 111 = .ok (.iload 6, 2) := by decide +kernel
theorem dX5_add_113 : decode cX5_add 113 = .ok (.aload 5, 2) := by decide +kernel
theorem dX5_add_115 : decode cX5_add 115 = .ok (.invokevirtual 62, 3) := by decide +kernel
theorem dX5_add_118 : decode cX5_add 118 = .ok (.iconst 1, 1) := by decide +kernel
theorem dX5_add_119 : decode cX5_add 119 = .ok (.ireturn, 1) := by decide +kernel
set_option maxRecDepth 20000 in
theorem ggX3_init_Jx4a65c_init_da8c8 : GoodIn wsX3_init wsJx4a65c_init_da8c8 := goodIn_r _ [12, 13, 14, 15, 16, 17, 18, 19, 20, 21, 22, 23, 24, 2, 3, 25, 26, 27] (by decide +kernel) (by decide +kernel)
theorem dX3_init_0 : decode cX3_init 0 = .ok (.aload_n 0, 1) := by decide +kernel
theorem dX3_init_1 : decode cX3_init 1 = .ok (.invokespecial 3, 3) := by decide +kernel
theorem dX3_init_4 : decode cX3_init 4 = .ok (.aload_n 0, 1) := by decide +kernel
theorem dX3_init_5 : decode cX3_init 5 = .ok (.new 9, 3) := by decide +kernel
theorem dX3_init_8 : decode cX3_init 8 = .ok (.dup, 1) := by decide +kernel
theorem dX3_init_9 : decode cX3_init 9 = .ok (.invokespecial 11, 3) := by decide +kernel
theorem dX3_init_12 : decode cX3_init 12 = .ok (.putfield 12, 3) := by decide +kernel
theorem dX3_init_15 : decode cX3_init 15 = .ok (.aload_n 0, 1) := by decide +kernel
theorem dX3_init_16 : decode cX3_init 16 = .ok (.bipush 12, 2) := by decide +kernel
theorem dX3_init_18 : decode cX3_init 18 = .ok (.newarray .int, 2) := by decide +kernel
theorem dX3_init_20 : decode cX3_init 20 = .ok (.putfield 18, 3) := by decide +kernel
theorem dX3_init_23 : decode cX3_init 23 = .ok (.return_, 1) := by decide +kernel
set_option maxRecDepth 20000 in
theorem ggX3_at_X6_isOutside : GoodIn wsX3_at wsX6_isOutside := goodIn_r _ [8] (by decide +kernel) (by decide +kernel)
set_option maxRecDepth 20000 in
theorem ggX3_at_Jx4a65c_size_8abf5 : GoodIn wsX3_at wsJx4a65c_size_8abf5 := goodIn_r _ [13, 14, 36, 37, 38] (by decide +kernel) (by decide +kernel)
set_option maxRecDepth 20000 in
theorem ggX3_at_Jx4a65c_get_915e3 : GoodIn wsX3_at wsJx4a65c_get_915e3 := goodIn_r _ [18, 14, 19, 20, 21, 22, 23, 24, 25, 26, 27, 28, 29, 12, 30, 31, 36, 37, 38] (by decide +kernel) (by decide +kernel)
theorem dX3_at_0 : decode cX3_at 0 = .ok (.iload_n 1, 1) := by decide +kernel
theorem dX3_at_1 : decode cX3_at 1 = .ok (.iconst 0, 1) := by decide +kernel
theorem dX3_at_2 : decode cX3_at 2 = .ok (.aload_n 0, 1) := by decide +kernel
theorem dX3_at_3 : decode cX3_at 3 = .ok (.getfield 22, 3) := by decide +kernel
theorem dX3_at_6 : decode cX3_at 6 = .ok (.iconst 1, 1) := by decide +kernel
theorem dX3_at_7 : decode cX3_at 7 = .ok (.isub, 1) := by decide +kernel
theorem dX3_at_8 : decode cX3_at 8 = .ok (.invokestatic 26, 3) := by decide +kernel
theorem dX3_at_11 : decode cX3_at 11 = .ok (.ifCond .ne 14, 3) := by decide +kernel
theorem dX3_at_14 : decode cX3_at 14 = .ok (.iload_n 1, 1) := by decide +kernel
theorem dX3_at_15 : decode cX3_at 15 = .ok (.aload_n 0, 1) := by decide +kernel
theorem dX3_at_16 : decode cX3_at 16 = .ok (.getfield 12, 3) := by decide +kernel
theorem dX3_at_19 : decode cX3_at 19 = .ok (.invokevirtual 30, 3) := by decide +kernel
theorem dX3_at_22 : decode cX3_at 22 = .ok (.if_icmp .lt 11, 3) := by decide +kernel
theorem dX3_at_25 : decode cX3_at 25 = .ok (.new 34, 3) := by decide +kernel
theorem dX3_at_28 : decode cX3_at 28 = .ok (.dup, 1) := by decide +kernel
theorem dX3_at_29 : decode cX3_at 29 = .ok (.invokespecial 36, 3) := by decide +kernel
theorem dX3_at_32 : decode cX3_at 32 = .ok (.athrow, 1) := by decide +kernel
theorem dX3_at_33 : decode cX3_at 33 = .ok (.aload_n 0, 1) := by decide +kernel
theorem dX3_at_34 : decode cX3_at 34 = .ok (.getfield 12, 3) := by decide +kernel
theorem dX3_at_37 : decode cX3_at 37 = .ok (.iload_n 1, 1) := by decide +kernel
theorem dX3_at_38 : decode cX3_at 38 = .ok (.invokevirtual 37, 3) := by decide +kernel
theorem dX3_at_41 : decode cX3_at 41 = .ok (.checkcast 41, 3) := by decide +kernel
theorem dX3_at_44 : decode cX3_at 44 = .ok (.areturn, 1) := by decide +kernel
set_option maxRecDepth 20000 in
theorem ggX3_add_Jx4a65c_size_8abf5 : GoodIn wsX3_add wsJx4a65c_size_8abf5 := goodIn_r _ [23, 24, 128, 129, 130] (by decide +kernel) (by decide +kernel)
set_option maxRecDepth 20000 in
theorem ggX3_add_X1_init : GoodIn wsX3_add wsX1_init := goodIn_r _ [26, 27, 28, 29] (by decide +kernel) (by decide +kernel)
set_option maxRecDepth 20000 in
theorem ggX3_add_Jx4a65c_add_9ea2d : GoodIn wsX3_add wsJx4a65c_add_9ea2d := goodIn_r _ [33, 34, 35, 36, 24, 37, 38, 39, 22, 40, 41, 42, 43, 44, 45, 46, 47, 48, 49, 50, 51, 52, 53, 54, 55, 56, 57, 58, 59, 60, 61, 62, 63, 64, 65, 66, 67, 68, 69, 70, 71, 72, 73, 74, 75, 76, 77, 78, 79, 80, 81, 82, 83, 128, 129, 130] (by decide +kernel) (by decide +kernel)
set_option maxRecDepth 20000 in
theorem ggX3_add_X3_at : GoodIn wsX3_add wsX3_at := goodIn_ca (goodIn_r _ [88, 89, 90, 2, 3, 91, 92, 93, 94, 19, 20, 21, 22, 23, 24, 95, 96, 97, 98, 99, 100, 101, 102, 103, 104, 105, 106, 107, 108, 109, 110, 36, 111, 112, 113, 114, 128, 129, 130] (by decide +kernel) (by decide +kernel)) (goodIn_sub (fun _ h => List.mem_cons_of_mem _ (List.mem_append_right _ h)) (by decide +kernel))
theorem dX3_add_0 : decode cX3_add 0 = .ok (.aload_n 0, 1) := by decide +kernel
theorem dX3_add_1 : decode cX3_add 1 = .ok (.dup, 1) := by decide +kernel
theorem dX3_add_2 : decode cX3_add 2 = .ok (.getfield 43, 3) := by decide +kernel
theorem dX3_add_5 : decode cX3_add 5 = .ok (.iconst 1, 1) := by decide +kernel
theorem dX3_add_6 : decode cX3_add 6 = .ok (.iadd, 1) := by decide +kernel
theorem dX3_add_7 : decode cX3_add 7 = .ok (.putfield 43, 3) := by decide +kernel
theorem dX3_add_10 : decode cX3_add 10 = .ok (.aload_n 0, 1) := by decide +kernel
theorem dX3_add_11 : decode cX3_add 11 = .ok (.getfield 22, 3) := by decide +kernel
theorem dX3_add_14 : decode cX3_add 14 = .ok (.sipush 200, 3) := by decide +kernel
theorem dX3_add_17 : decode cX3_add 17 = .ok (.if_icmp .lt 4, 3) := by decide +kernel
theorem dX3_add_20 : decode cX3_add 20 = .ok (.return_, 1) := by decide +kernel
theorem dX3_add_21 : decode cX3_add 21 = .ok (.aload_n 0, 1) := by decide +kernel
theorem dX3_add_22 : decode cX3_add 22 = .ok (.getfield 22, 3) := by decide +kernel
theorem dX3_add_25 : decode cX3_add 25 = .ok (.aload_n 0, 1) := by decide +kernel
theorem dX3_add_26 : decode cX3_add 26 = .ok (.getfield 12, 3) := by decide +kernel
theorem dX3_add_29 : decode cX3_add 29 = .ok (.invokevirtual 30, 3) := by decide +kernel
theorem dX3_add_32 : decode cX3_add 32 = .ok (.if_icmp .lt 18, 3) := by decide +kernel
theorem dX3_add_35 : decode cX3_add 35 = .ok (.aload_n 0, 1) := by decide +kernel
theorem dX3_add_36 : decode cX3_add 36 = .ok (.getfield 12, 3) := by decide +kernel
theorem dX3_add_39 : decode cX3_add 39 = .ok (.new 41, 3) := by decide +kernel
theorem dX3_add_42 : decode cX3_add 42 = .ok (.dup, 1) := by decide +kernel
theorem dX3_add_43 : decode cX3_add 43 = .ok (.invokespecial 46, 3) := by decide +kernel
theorem dX3_add_46 : decode cX3_add 46 = .ok (.invokevirtual 47, 3) := by decide +kernel
theorem dX3_add_49 : decode cX3_add 49 = .ok (.pop, 1) := by decide +kernel
theorem dX3_add_50 : decode cX3_add 50 = .ok (.aload_n 0, 1) := by decide +kernel
theorem dX3_add_51 : decode cX3_add 51 = .ok (.dup, 1) := by decide +kernel
theorem dX3_add_52 : decode cX3_add 52 = .ok (.getfield 22, 3) := by decide +kernel
theorem dX3_add_55 : decode cX3_add 55 = .ok (.iconst 1, 1) := by decide +kernel
theorem dX3_add_56 : decode cX3_add 56 = .ok (.iadd, 1) := by decide +kernel
theorem dX3_add_57 : decode cX3_add 57 = .ok (.putfield 22, 3) := by decide +kernel
theorem dX3_add_60 : decode cX3_add 60 = .ok (.aload_n 0, 1) := by decide +kernel
theorem dX3_add_61 : decode cX3_add 61 = .ok (.aload_n 0, 1) := by decide +kernel
theorem dX3_add_62 : decode cX3_add 62 = .ok (.getfield 22, 3) := by decide +kernel
theorem dX3_add_65 : decode cX3_add 65 = .ok (.iconst 1, 1) := by decide +kernel
theorem dX3_add_66 : decode cX3_add 66 = .ok (.isub, 1) := by decide +kernel
theorem dX3_add_67 : decode cX3_add 67 = .ok (.invokevirtual 51, 3) := by decide +kernel
theorem dX3_add_70 : decode cX3_add 70 = .ok (.astore 4, 2) := by decide +kernel
theorem dX3_add_72 : decode cX3_add 72 = .ok (.aload 4, 2) := by decide +kernel
theorem dX3_add_74 : decode cX3_add 74 = .ok (.aload_n 3, 1) := by decide +kernel
theorem dX3_add_75 : decode cX3_add 75 = .ok (.getfield 55, 3) := by decide +kernel
theorem dX3_add_78 : decode cX3_add 78 = .ok (.putfield 60, 3) := by decide +kernel
theorem dX3_add_81 : decode cX3_add 81 = .ok (.aload 4, 2) := by decide +kernel
theorem dX3_add_83 : decode cX3_add 83 = .ok (.iload_n 2, 1) := by decide +kernel
theorem dX3_add_84 : decode cX3_add 84 = .ok (.putfield 61, 3) := by decide +kernel
theorem dX3_add_87 : decode cX3_add 87 = .ok (.aload 4, 2) := by decide +kernel
theorem dX3_add_89 : decode cX3_add 89 = .ok (.iload_n 1, 1) := by decide +kernel
theorem dX3_add_90 : decode cX3_add 90 = .ok (.putfield 64, 3) := by decide +kernel
theorem dX3_add_93 : decode cX3_add 93 = .ok (.aload 4, 2) := by decide +kernel
theorem dX3_add_95 : decode cX3_add 95 = .ok (.aload_n 3, 1) := by decide +kernel
theorem dX3_add_96 : decode cX3_add 96 = .ok (.getfield 67, 3) := by decide +kernel
theorem dX3_add_99 : decode cX3_add 99 = .ok (.putfield 69, 3) := by decide +kernel
theorem dX3_add_102 : decode cX3_add 102 = .ok (.aload 4, 2) := by decide +kernel
theorem dX3_add_104 : decode cX3_add 104 = .ok (.aload_n 3, 1) := by decide +kernel
theorem dX3_add_105 : decode cX3_add 105 = .ok (.getfield 72, 3) := by decide +kernel
theorem dX3_add_108 : decode cX3_add 108 = .ok (.putfield 75, 3) := by decide +kernel
theorem dX3_add_111 : decode cX3_add 111 = .ok (.aload 4, 2) := by decide +kernel
theorem dX3_add_113 : decode cX3_add 113 = .ok (.aload_n 3, 1) := by decide +kernel
theorem dX3_add_114 : decode cX3_add 114 = .ok (.getfield 76, 3) := by decide +kernel
theorem dX3_add_117 : decode cX3_add 117 = .ok (.putfield 79, 3) := by decide +kernel
theorem dX3_add_120 : decode cX3_add 120 = .ok (.aload 4, 2) := by decide +kernel
theorem dX3_add_122 : decode cX3_add 122 = .ok (.aload_n 3, 1) := by decide +kernel
theorem dX3_add_123 : decode cX3_add 123 = .ok (.getfield 80, 3) := by decide +kernel
theorem dX3_add_126 : decode cX3_add 126 = .ok (.putfield 84, 3) := by decide +kernel
theorem dX3_add_129 : decode cX3_add 129 = .ok (.return_, 1) := by decide +kernel
set_option maxRecDepth 20000 in
theorem ggX3_soundingAt_X3_at : GoodIn wsX3_soundingAt wsX3_at := goodIn_ca (goodIn_r _ [6, 7, 8, 1, 9, 10, 11, 12, 13, 14, 15, 16, 17, 18, 19, 20, 21, 22, 23, 24, 25, 26, 27, 28, 29, 30, 31, 32, 33, 34, 35, 36, 44, 45, 46, 47, 48, 49, 50] (by decide +kernel) (by decide +kernel)) (goodIn_sub (fun _ h => List.mem_cons_of_mem _ (List.mem_append_right _ h)) (by decide +kernel))
set_option maxRecDepth 20000 in
theorem ggX3_soundingAt_X1_soundsAt : GoodIn wsX3_soundingAt wsX1_soundsAt := goodIn_r _ [41, 42, 43, 51, 52, 53, 54, 55, 56, 57] (by decide +kernel) (by decide +kernel)
theorem dX3_soundingAt_0 : decode cX3_soundingAt 0 = .ok (.iconst 0, 1) := by decide +kernel
theorem dX3_soundingAt_1 : decode cX3_soundingAt 1 = .ok (.istore_n 2, 1) := by decide +kernel
theorem dX3_soundingAt_2 : decode cX3_soundingAt 2 = .ok (.iconst 0, 1) := by decide +kernel
theorem dX3_soundingAt_3 : decode cX3_soundingAt 3 = .ok (.istore_n 3, 1) := by decide +kernel
theorem dX3_soundingAt_4 : decode cX3_soundingAt 4 = .ok (.iload_n 3, 1) := by decide +kernel
theorem dX3_soundingAt_5 : decode cX3_soundingAt 5 = .ok (.aload_n 0, 1) := by decide +kernel
theorem dX3_soundingAt_6 : decode cX3_soundingAt 6 = .ok (.getfield 22, 3) := by decide +kernel
theorem dX3_soundingAt_9 : decode cX3_soundingAt 9 = .ok (.if_icmp .ge 24, 3) := by decide +kernel
theorem dX3_soundingAt_12 : decode cX3_soundingAt 12 = .ok (.aload_n 0, 1) := by decide +kernel
theorem dX3_soundingAt_13 : decode cX3_soundingAt 13 = .ok (.iload_n 3, 1) := by decide +kernel
theorem dX3_soundingAt_14 : decode cX3_soundingAt 14 = .ok (.invokevirtual 51, 3) := by decide +kernel
theorem dX3_soundingAt_17 : decode cX3_soundingAt 17 = .ok (.iload_n 1, 1) := by decide +kernel
theorem dX3_soundingAt_18 : decode cX3_soundingAt 18 = .ok (.invokevirtual 85, 3) := by decide +kernel
theorem dX3_soundingAt_21 : decode cX3_soundingAt 21 = .ok (.ifCond .eq 6, 3) := by decide +kernel
theorem dX3_soundingAt_24 : decode cX3_soundingAt 24 = .ok (.iinc 2 1, 3) := by decide +kernel
theorem dX3_soundingAt_27 : decode cX3_soundingAt 27 = .ok (.iinc 3 1, 3) := by decide +kernel
theorem dX3_soundingAt_30 : decode cX3_soundingAt 30 = .ok (.goto (-26), 3) := by decide +kernel
theorem dX3_soundingAt_33 : decode cX3_soundingAt 33 = .ok (.iload_n 2, 1) := by decide +kernel
theorem dX3_soundingAt_34 : decode cX3_soundingAt 34 = .ok (.ireturn, 1) := by decide +kernel
set_option maxRecDepth 20000 in
theorem ggX3_leastNoteAt_X3_at : GoodIn wsX3_leastNoteAt wsX3_at := goodIn_ca (goodIn_r _ [7, 8, 9, 1, 10, 11, 12, 13, 14, 15, 16, 17, 18, 19, 20, 21, 22, 23, 24, 25, 26, 27, 28, 29, 30, 31, 32, 33, 34, 35, 36, 37, 45, 46, 47, 48, 56, 57, 58] (by decide +kernel) (by decide +kernel)) (goodIn_sub (fun _ h => List.mem_cons_of_mem _ (List.mem_append_right _ h)) (by decide +kernel))
set_option maxRecDepth 20000 in
theorem ggX3_leastNoteAt_X1_soundsAt : GoodIn wsX3_leastNoteAt wsX1_soundsAt := goodIn_r _ [42, 43, 44, 49, 50, 51, 52, 53, 54, 55] (by decide +kernel) (by decide +kernel)
theorem dX3_leastNoteAt_0 : decode cX3_leastNoteAt 0 = .ok (.iconst (-1), 1) := by decide +kernel
theorem dX3_leastNoteAt_1 : decode cX3_leastNoteAt 1 = .ok (.istore_n 2, 1) := by decide +kernel
theorem dX3_leastNoteAt_2 : decode cX3_leastNoteAt 2 = .ok (.iconst 0, 1) := by decide +kernel
theorem dX3_leastNoteAt_3 : decode cX3_leastNoteAt 3 = .ok (.istore_n 3, 1) := by decide +kernel
theorem dX3_leastNoteAt_4 : decode cX3_leastNoteAt 4 = .ok (.iload_n 3, 1) := by decide +kernel
theorem dX3_leastNoteAt_5 : decode cX3_leastNoteAt 5 = .ok (.aload_n 0, 1) := by decide +kernel
theorem dX3_leastNoteAt_6 : decode cX3_leastNoteAt 6 = .ok (.getfield 22, 3) := by decide +kernel
theorem dX3_leastNoteAt_9 : decode cX3_leastNoteAt 9 = .ok (.if_icmp .ge 45, 3) := by decide +kernel
theorem dX3_leastNoteAt_12 : decode cX3_leastNoteAt 12 = .ok (.aload_n 0, 1) := by decide +kernel
theorem dX3_leastNoteAt_13 : decode cX3_leastNoteAt 13 = .ok (.iload_n 3, 1) := by decide +kernel
theorem dX3_leastNoteAt_14 : decode cX3_leastNoteAt 14 = .ok (.invokevirtual 51, 3) := by decide +kernel
theorem dX3_leastNoteAt_17 : decode cX3_leastNoteAt 17 = .ok (.astore 4, 2) := by decide +kernel
theorem dX3_leastNoteAt_19 : decode cX3_leastNoteAt 19 = .ok (.aload 4, 2) := by decide +kernel
theorem dX3_leastNoteAt_21 : decode cX3_leastNoteAt 21 = .ok (.iload_n 1, 1) := by decide +kernel
theorem dX3_leastNoteAt_22 : decode cX3_leastNoteAt 22 = .ok (.invokevirtual 85, 3) := by decide +kernel
theorem dX3_leastNoteAt_25 : decode cX3_leastNoteAt 25 = .ok (.ifCond .eq 23, 3) := by decide +kernel
theorem dX3_leastNoteAt_28 : decode cX3_leastNoteAt 28 = .ok (.iload_n 2, 1) := by decide +kernel
theorem dX3_leastNoteAt_29 : decode cX3_leastNoteAt 29 = .ok (.iconst (-1), 1) := by decide +kernel
theorem dX3_leastNoteAt_30 : decode cX3_leastNoteAt 30 = .ok (.if_icmp .eq 12, 3) := by decide +kernel
theorem dX3_leastNoteAt_33 : decode cX3_leastNoteAt 33 = .ok (.aload 4, 2) := by decide +kernel
theorem dX3_leastNoteAt_35 : decode cX3_leastNoteAt 35 = .ok (.getfield 64, 3) := by decide +kernel
theorem dX3_leastNoteAt_38 : decode cX3_leastNoteAt 38 = .ok (.iload_n 2, 1) := by decide +kernel
theorem dX3_leastNoteAt_39 : decode cX3_leastNoteAt 39 = .ok (.if_icmp .ge 9, 3) := by decide +kernel
theorem dX3_leastNoteAt_42 : decode cX3_leastNoteAt 42 = .ok (.aload 4, 2) := by decide +kernel
theorem dX3_leastNoteAt_44 : decode cX3_leastNoteAt 44 = .ok (.getfield 64, 3) := by decide +kernel
theorem dX3_leastNoteAt_47 : decode cX3_leastNoteAt 47 = .ok (.istore_n 2, 1) := by decide +kernel
theorem dX3_leastNoteAt_48 : decode cX3_leastNoteAt 48 = .ok (.iinc 3 1, 3) := by decide +kernel
theorem dX3_leastNoteAt_51 : decode cX3_leastNoteAt 51 = .ok (.goto (-47), 3) := by decide +kernel
theorem dX3_leastNoteAt_54 : decode cX3_leastNoteAt 54 = .ok (.iload_n 2, 1) := by decide +kernel
theorem dX3_leastNoteAt_55 : decode cX3_leastNoteAt 55 = .ok (.ireturn, 1) := by decide +kernel
set_option maxRecDepth 20000 in
theorem ggX3_greatestNoteAt_X3_at : GoodIn wsX3_greatestNoteAt wsX3_at := goodIn_ca (goodIn_r _ [7, 8, 9, 1, 10, 11, 12, 13, 14, 15, 16, 17, 18, 19, 20, 21, 22, 23, 24, 25, 26, 27, 28, 29, 30, 31, 32, 33, 34, 35, 36, 37, 45, 46, 47, 48, 56, 57, 58] (by decide +kernel) (by decide +kernel)) (goodIn_sub (fun _ h => List.mem_cons_of_mem _ (List.mem_append_right _ h)) (by decide +kernel))
set_option maxRecDepth 20000 in
theorem ggX3_greatestNoteAt_X1_soundsAt : GoodIn wsX3_greatestNoteAt wsX1_soundsAt := goodIn_r _ [42, 43, 44, 49, 50, 51, 52, 53, 54, 55] (by decide +kernel) (by decide +kernel)
theorem dX3_greatestNoteAt_0 : decode cX3_greatestNoteAt 0 = .ok (.iconst (-1), 1) := by decide +kernel
theorem dX3_greatestNoteAt_1 : decode cX3_greatestNoteAt 1 = .ok (.istore_n 2, 1) := by decide +kernel
theorem dX3_greatestNoteAt_2 : decode cX3_greatestNoteAt 2 = .ok (.iconst 0, 1) := by decide +kernel
theorem dX3_greatestNoteAt_3 : decode cX3_greatestNoteAt 3 = .ok (.istore_n 3, 1) := by decide +kernel
theorem dX3_greatestNoteAt_4 : decode cX3_greatestNoteAt 4 = .ok (.iload_n 3, 1) := by decide +kernel
theorem dX3_greatestNoteAt_5 : decode cX3_greatestNoteAt 5 = .ok (.aload_n 0, 1) := by decide +kernel
theorem dX3_greatestNoteAt_6 : decode cX3_greatestNoteAt 6 = .ok (.getfield 22, 3) := by decide +kernel
theorem dX3_greatestNoteAt_9 : decode cX3_greatestNoteAt 9 = .ok (.if_icmp .ge 40, 3) := by decide +kernel
theorem dX3_greatestNoteAt_12 : decode cX3_greatestNoteAt 12 = .ok (.aload_n 0, 1) := by decide +kernel
theorem dX3_greatestNoteAt_13 : decode cX3_greatestNoteAt 13 = .ok (.iload_n 3, 1) := by decide +kernel
theorem dX3_greatestNoteAt_14 : decode cX3_greatestNoteAt 14 = .ok (.invokevirtual 51, 3) := by decide +kernel
theorem dX3_greatestNoteAt_17 : decode cX3_greatestNoteAt 17 = .ok (.astore 4, 2) := by decide +kernel
theorem dX3_greatestNoteAt_19 : decode cX3_greatestNoteAt 19 = .ok (.aload 4, 2) := by decide +kernel
theorem dX3_greatestNoteAt_21 : decode cX3_greatestNoteAt 21 = .ok (.iload_n 1, 1) := by decide +kernel
theorem dX3_greatestNoteAt_22 : decode cX3_greatestNoteAt 22 = .ok (.invokevirtual 85, 3) := by decide +kernel
theorem dX3_greatestNoteAt_25 : decode cX3_greatestNoteAt 25 = .ok (.ifCond .eq 18, 3) := by decide +kernel
theorem dX3_greatestNoteAt_28 : decode cX3_greatestNoteAt 28 = .ok (.aload 4, 2) := by decide +kernel
theorem dX3_greatestNoteAt_30 : decode cX3_greatestNoteAt 30 = .ok (.getfield 64, 3) := by decide +kernel
theorem dX3_greatestNoteAt_33 : decode cX3_greatestNoteAt 33 = .ok (.iload_n 2, 1) := by decide +kernel
theorem dX3_greatestNoteAt_34 : decode cX3_greatestNoteAt 34 = .ok (.if_icmp .le 9, 3) := by decide +kernel
theorem dX3_greatestNoteAt_37 : decode cX3_greatestNoteAt 37 = .ok (.aload 4, 2) := by decide +kernel
theorem dX3_greatestNoteAt_39 : decode cX3_greatestNoteAt 39 = .ok (.getfield 64, 3) := by decide +kernel
theorem dX3_greatestNoteAt_42 : decode cX3_greatestNoteAt 42 = .ok (.istore_n 2, 1) := by decide +kernel
theorem dX3_greatestNoteAt_43 : decode cX3_greatestNoteAt 43 = .ok (.iinc 3 1, 3) := by decide +kernel
theorem dX3_greatestNoteAt_46 : decode cX3_greatestNoteAt 46 = .ok (.goto (-42), 3) := by decide +kernel
theorem dX3_greatestNoteAt_49 : decode cX3_greatestNoteAt 49 = .ok (.iload_n 2, 1) := by decide +kernel
theorem dX3_greatestNoteAt_50 : decode cX3_greatestNoteAt 50 = .ok (.ireturn, 1) := by decide +kernel
set_option maxRecDepth 20000 in
theorem ggX3_harmonyAt_J7_fill_53178 : GoodIn wsX3_harmonyAt wsJ7_fill_53178 := goodIn_r _ [7] (by decide +kernel) (by decide +kernel)
set_option maxRecDepth 20000 in
theorem ggX3_harmonyAt_X3_at : GoodIn wsX3_harmonyAt wsX3_at := goodIn_ca (goodIn_r _ [12, 13, 14, 2, 15, 16, 17, 18, 19, 20, 21, 22, 23, 24, 25, 26, 27, 28, 29, 30, 31, 32, 33, 34, 35, 36, 37, 38, 39, 40, 41, 42, 56, 57, 58, 59, 67, 68, 69] (by decide +kernel) (by decide +kernel)) (goodIn_sub (fun _ h => List.mem_cons_of_mem _ (List.mem_append_right _ h)) (by decide +kernel))
set_option maxRecDepth 20000 in
theorem ggX3_harmonyAt_X1_soundsAt : GoodIn wsX3_harmonyAt wsX1_soundsAt := goodIn_r _ [47, 48, 49, 60, 61, 62, 63, 64, 65, 66] (by decide +kernel) (by decide +kernel)
set_option maxRecDepth 20000 in
theorem ggX3_harmonyAt_J9_floorMod_7cf53 : GoodIn wsX3_harmonyAt wsJ9_floorMod_7cf53 := goodIn_r _ [53] (by decide +kernel) (by decide +kernel)
set_option maxRecDepth 20000 in
theorem ggX3_harmonyAt_X6_contains : GoodIn wsX3_harmonyAt wsX6_contains := goodIn_r _ [55] (by decide +kernel) (by decide +kernel)
theorem dX3_harmonyAt_0 : decode cX3_harmonyAt 0 = .ok (.aload_n 0, 1) := by decide +kernel
theorem dX3_harmonyAt_1 : decode cX3_harmonyAt 1 = .ok (.getfield 18, 3) := by decide +kernel
theorem dX3_harmonyAt_4 : decode cX3_harmonyAt 4 = .ok (.iconst 0, 1) := by decide +kernel
theorem dX3_harmonyAt_5 : decode cX3_harmonyAt 5 = .ok (.invokestatic 89, 3) := by decide +kernel
theorem dX3_harmonyAt_8 : decode cX3_harmonyAt 8 = .ok (.iconst 0, 1) := by decide +kernel
theorem dX3_harmonyAt_9 : decode cX3_harmonyAt 9 = .ok (.istore_n 2, 1) := by decide +kernel
theorem dX3_harmonyAt_10 : decode cX3_harmonyAt 10 = .ok (.iload_n 2, 1) := by decide +kernel
theorem dX3_harmonyAt_11 : decode cX3_harmonyAt 11 = .ok (.aload_n 0, 1) := by decide +kernel
theorem dX3_harmonyAt_12 : decode cX3_harmonyAt 12 = .ok (.getfield 22, 3) := by decide +kernel
theorem dX3_harmonyAt_15 : decode cX3_harmonyAt 15 = .ok (.if_icmp .ge 41, 3) := by decide +kernel
theorem dX3_harmonyAt_18 : decode cX3_harmonyAt 18 = .ok (.aload_n 0, 1) := by decide +kernel
theorem dX3_harmonyAt_19 : decode cX3_harmonyAt 19 = .ok (.iload_n 2, 1) := by decide +kernel
theorem dX3_harmonyAt_20 : decode cX3_harmonyAt 20 = .ok (.invokevirtual 51, 3) := by decide +kernel
theorem dX3_harmonyAt_23 : decode cX3_harmonyAt 23 = .ok (.astore_n 3, 1) := by decide +kernel
theorem dX3_harmonyAt_24 : decode cX3_harmonyAt 24 = .ok (.aload_n 3, 1) := by decide +kernel
theorem dX3_harmonyAt_25 : decode cX3_harmonyAt 25 = .ok (.iload_n 1, 1) := by decide +kernel
theorem dX3_harmonyAt_26 : decode cX3_harmonyAt 26 = .ok (.invokevirtual 85, 3) := by decide +kernel
theorem dX3_harmonyAt_29 : decode cX3_harmonyAt 29 = .ok (.ifCond .eq 21, 3) := by decide +kernel
theorem dX3_harmonyAt_32 : decode cX3_harmonyAt 32 = .ok (.aload_n 0, 1) := by decide +kernel
theorem dX3_harmonyAt_33 : decode cX3_harmonyAt 33 = .ok (.getfield 18, 3) := by decide +kernel
theorem dX3_harmonyAt_36 : decode cX3_harmonyAt 36 = .ok (.aload_n 3, 1) := by decide +kernel
theorem dX3_harmonyAt_37 : decode cX3_harmonyAt 37 = .ok (.getfield 64, 3) := by decide +kernel
theorem dX3_harmonyAt_40 : decode cX3_harmonyAt 40 = .ok (.bipush 12, 2) := by decide +kernel
theorem dX3_harmonyAt_42 : decode cX3_harmonyAt 42 = .ok (.invokestatic 95, 3) := by decide +kernel
theorem dX3_harmonyAt_45 : decode cX3_harmonyAt 45 = .ok (.dup2, 1) := by decide +kernel
theorem dX3_harmonyAt_46 : decode cX3_harmonyAt 46 = .ok (.iaload, 1) := by decide +kernel
theorem dX3_harmonyAt_47 : decode cX3_harmonyAt 47 = .ok (.iconst 1, 1) := by decide +kernel
theorem dX3_harmonyAt_48 : decode cX3_harmonyAt 48 = .ok (.iadd, 1) := by decide +kernel
theorem dX3_harmonyAt_49 : decode cX3_harmonyAt 49 = .ok (.iastore, 1) := by decide +kernel
theorem dX3_harmonyAt_50 : decode cX3_harmonyAt 50 = .ok (.iinc 2 1, 3) := by decide +kernel
theorem dX3_harmonyAt_53 : decode cX3_harmonyAt 53 = .ok (.goto (-43), 3) := by decide +kernel
theorem dX3_harmonyAt_56 : decode cX3_harmonyAt 56 = .ok (.iconst 0, 1) := by decide +kernel
theorem dX3_harmonyAt_57 : decode cX3_harmonyAt 57 = .ok (.istore_n 2, 1) := by decide +kernel
theorem dX3_harmonyAt_58 : decode cX3_harmonyAt 58 = .ok (.iconst 0, 1) := by decide +kernel
theorem dX3_harmonyAt_59 : decode cX3_harmonyAt 59 = .ok (.istore_n 3, 1) := by decide +kernel
theorem dX3_harmonyAt_60 : decode cX3_harmonyAt 60 = .ok (.iload_n 3, 1) := by decide +kernel
theorem dX3_harmonyAt_61 : decode cX3_harmonyAt 61 = .ok (.bipush 12, 2) := by decide +kernel
theorem dX3_harmonyAt_63 : decode cX3_harmonyAt 63 = .ok (.if_icmp .ge 87, 3) := by decide +kernel
theorem dX3_harmonyAt_66 : decode cX3_harmonyAt 66 = .ok (.iload_n 2, 1) := by decide +kernel
theorem dX3_harmonyAt_67 : decode cX3_harmonyAt 67 = .ok (.aload_n 0, 1) := by decide +kernel
theorem dX3_harmonyAt_68 : decode cX3_harmonyAt 68 = .ok (.getfield 18, 3) := by decide +kernel
theorem dX3_harmonyAt_71 : decode cX3_harmonyAt 71 = .ok (.iload_n 3, 1) := by decide +kernel
theorem dX3_harmonyAt_72 : decode cX3_harmonyAt 72 = .ok (.iaload, 1) := by decide +kernel
theorem dX3_harmonyAt_73 : decode cX3_harmonyAt 73 = .ok (.aload_n 0, 1) := by decide +kernel
theorem dX3_harmonyAt_74 : decode cX3_harmonyAt 74 = .ok (.getfield 18, 3) := by decide +kernel
theorem dX3_harmonyAt_77 : decode cX3_harmonyAt 77 = .ok (.iload_n 3, 1) := by decide +kernel
theorem dX3_harmonyAt_78 : decode cX3_harmonyAt 78 = .ok (.iaload, 1) := by decide +kernel
theorem dX3_harmonyAt_79 : decode cX3_harmonyAt 79 = .ok (.iconst 1, 1) := by decide +kernel
theorem dX3_harmonyAt_80 : decode cX3_harmonyAt 80 = .ok (.isub, 1) := by decide +kernel
theorem dX3_harmonyAt_81 : decode cX3_harmonyAt 81 = .ok (.imul, 1) := by decide +kernel
theorem dX3_harmonyAt_82 : decode cX3_harmonyAt 82 = .ok (.iconst 2, 1) := by decide +kernel
theorem dX3_harmonyAt_83 : decode cX3_harmonyAt 83 = .ok (.idiv, 1) := by decide +kernel
theorem dX3_harmonyAt_84 : decode cX3_harmonyAt 84 = .ok (.iadd, 1) := by decide +kernel
theorem dX3_harmonyAt_85 : decode cX3_harmonyAt 85 = .ok (.istore_n 2, 1) := by decide +kernel
theorem dX3_harmonyAt_86 : decode cX3_harmonyAt 86 = .ok (.iload_n 3, 1) := by decide +kernel
theorem dX3_harmonyAt_87 : decode cX3_harmonyAt 87 = .ok (.iconst 1, 1) := by decide +kernel
theorem dX3_harmonyAt_88 : decode cX3_harmonyAt 88 = .ok (.iadd, 1) := by decide +kernel
theorem dX3_harmonyAt_89 : decode cX3_harmonyAt 89 = .ok (.istore 4, 2) := by decide +kernel
theorem dX3_harmonyAt_91 : decode cX3_harmonyAt 91 = .ok (.iload 4, 2) := by decide +kernel
theorem dX3_harmonyAt_93 : decode cX3_harmonyAt 93 = .ok (.bipush 12, 2) := by decide +kernel
theorem dX3_harmonyAt_95 : decode cX3_harmonyAt 95 = .ok (.if_icmp .ge 49, 3) := by decide +kernel
theorem dX3_harmonyAt_98 : decode cX3_harmonyAt 98 = .ok (.aload_n 0, 1) := by decide +kernel
theorem dX3_harmonyAt_99 : decode cX3_harmonyAt 99 = .ok (.getfield 18, 3) := by decide +kernel
theorem dX3_harmonyAt_102 : decode cX3_harmonyAt 102 = .ok (.iload_n 3, 1) := by decide +kernel
theorem dX3_harmonyAt_103 : decode cX3_harmonyAt 103 = .ok (.iaload, 1) := by decide +kernel
theorem dX3_harmonyAt_104 : decode cX3_harmonyAt 104 = .ok (.aload_n 0, 1) := by decide +kernel
theorem dX3_harmonyAt_105 : decode cX3_harmonyAt 105 = .ok (.getfield 18, 3) := by decide +kernel
theorem dX3_harmonyAt_108 : decode cX3_harmonyAt 108 = .ok (.iload 4, 2) := by decide +kernel
theorem dX3_harmonyAt_110 : decode cX3_harmonyAt 110 = .ok (.iaload, 1) := by decide +kernel
theorem dX3_harmonyAt_111 : decode cX3_harmonyAt 111 = .ok (.imul, 1) := by decide +kernel
theorem dX3_harmonyAt_112 : decode cX3_harmonyAt 112 = .ok (.istore 5, 2) := by decide +kernel
theorem dX3_harmonyAt_114 : decode cX3_harmonyAt 114 = .ok (.iload_n 2, 1) := by decide +kernel
theorem dX3_harmonyAt_115 : decode cX3_harmonyAt 115 = .ok (.sipush 953, 3) := by decide +kernel
theorem dX3_harmonyAt_118 : decode cX3_harmonyAt 118 = .ok (.iload 4, 2) := by decide +kernel
theorem dX3_harmonyAt_120 : decode cX3_harmonyAt 120 = .ok (.iload_n 3, 1) := by decide +kernel
theorem dX3_harmonyAt_121 : decode cX3_harmonyAt 121 = .ok (.isub, 1) := by decide +kernel
theorem dX3_harmonyAt_122 : decode cX3_harmonyAt 122 = .ok (.invokestatic 101, 3) := by decide +kernel
theorem dX3_harmonyAt_125 : decode cX3_harmonyAt 125 = .ok (.ifCond .eq 8, 3) := by decide +kernel
theorem dX3_harmonyAt_128 : decode cX3_harmonyAt 128 = .ok (.iload 5, 2) := by decide +kernel
theorem dX3_harmonyAt_130 : decode cX3_harmonyAt 130 = .ok (.goto 6, 3) := by decide +kernel
theorem dX3_harmonyAt_133 : decode cX3_harmonyAt 133 = .ok (.iload 5, 2) := by decide +kernel
theorem dX3_harmonyAt_135 : decode cX3_harmonyAt 135 = .ok (.ineg, 1) := by decide +kernel
theorem dX3_harmonyAt_136 : decode cX3_harmonyAt 136 = .ok (.iadd, 1) := by decide +kernel
theorem dX3_harmonyAt_137 : decode cX3_harmonyAt 137 = .ok (.istore_n 2, 1) := by decide +kernel
theorem dX3_harmonyAt_138 : decode cX3_harmonyAt 138 = .ok (.iinc 4 1, 3) := by decide +kernel
theorem dX3_harmonyAt_141 : decode cX3_harmonyAt 141 = .ok (.goto (-50), 3) := by decide +kernel
theorem dX3_harmonyAt_144 : decode cX3_harmonyAt 144 = .ok (.iinc 3 1, 3) := by decide +kernel
theorem dX3_harmonyAt_147 : decode cX3_harmonyAt 147 = .ok (.goto (-87), 3) := by decide +kernel
theorem dX3_harmonyAt_150 : decode cX3_harmonyAt 150 = .ok (.iload_n 2, 1) := by decide +kernel
theorem dX3_harmonyAt_151 : decode cX3_harmonyAt 151 = .ok (.ireturn, 1) := by decide +kernel
set_option maxRecDepth 20000 in
theorem ggX3_bestTick_X3_at : GoodIn wsX3_bestTick wsX3_at := goodIn_ca (goodIn_r _ [7, 8, 9, 1, 10, 11, 12, 13, 14, 15, 16, 17, 18, 19, 20, 21, 22, 23, 24, 25, 26, 27, 28, 29, 30, 31, 32, 33, 34, 35, 36, 37, 61, 62, 63, 64, 72, 73, 74] (by decide +kernel) (by decide +kernel)) (goodIn_sub (fun _ h => List.mem_cons_of_mem _ (List.mem_append_right _ h)) (by decide +kernel))
set_option maxRecDepth 20000 in
theorem ggX3_bestTick_X3_harmonyAt : GoodIn wsX3_bestTick wsX3_harmonyAt := goodIn_ca (goodIn_r _ [41, 42, 1, 43, 44, 45, 46, 47, 3, 4, 5, 6, 7, 8, 9, 10, 11, 12, 13, 14, 15, 16, 17, 18, 19, 20, 21, 22, 23, 24, 25, 26, 27, 28, 29, 30, 31, 32, 33, 34, 35, 36, 37, 48, 49, 50, 51, 52, 53, 54, 55, 56, 57, 58, 59, 60, 61, 62, 63, 64, 65, 66, 67, 68, 69, 70, 71, 72, 73, 74] (by decide +kernel) (by decide +kernel)) (goodIn_sub (fun _ h => List.mem_cons_of_mem _ (List.mem_append_right _ h)) (by decide +kernel))
theorem dX3_bestTick_0 : decode cX3_bestTick 0 = .ok (.iconst (-1), 1) := by decide +kernel
theorem dX3_bestTick_1 : decode cX3_bestTick 1 = .ok (.istore_n 1, 1) := by decide +kernel
theorem dX3_bestTick_2 : decode cX3_bestTick 2 = .ok (.iconst 0, 1) := by decide +kernel
theorem dX3_bestTick_3 : decode cX3_bestTick 3 = .ok (.istore_n 2, 1) := by decide +kernel
theorem dX3_bestTick_4 : decode cX3_bestTick 4 = .ok (.iconst 0, 1) := by decide +kernel
theorem dX3_bestTick_5 : decode cX3_bestTick 5 = .ok (.istore_n 3, 1) := by decide +kernel
theorem dX3_bestTick_6 : decode cX3_bestTick 6 = .ok (.iload_n 3, 1) := by decide +kernel
theorem dX3_bestTick_7 : decode cX3_bestTick 7 = .ok (.aload_n 0, 1) := by decide +kernel
theorem dX3_bestTick_8 : decode cX3_bestTick 8 = .ok (.getfield 22, 3) := by decide +kernel
theorem dX3_bestTick_11 : decode cX3_bestTick 11 = .ok (.if_icmp .ge 44, 3) := by decide +kernel
theorem dX3_bestTick_14 : decode cX3_bestTick 14 = .ok (.aload_n 0, 1) := by decide +kernel
theorem dX3_bestTick_15 : decode cX3_bestTick 15 = .ok (.iload_n 3, 1) := by decide +kernel
theorem dX3_bestTick_16 : decode cX3_bestTick 16 = .ok (.invokevirtual 51, 3) := by decide +kernel
theorem dX3_bestTick_19 : decode cX3_bestTick 19 = .ok (.getfield 60, 3) := by decide +kernel
theorem dX3_bestTick_22 : decode cX3_bestTick 22 = .ok (.istore 4, 2) := by decide +kernel
theorem dX3_bestTick_24 : decode cX3_bestTick 24 = .ok (.aload_n 0, 1) := by decide +kernel
theorem dX3_bestTick_25 : decode cX3_bestTick 25 = .ok (.iload 4, 2) := by decide +kernel
theorem dX3_bestTick_27 : decode cX3_bestTick 27 = .ok (.invokevirtual 105, 3) := by decide +kernel
theorem dX3_bestTick_30 : decode cX3_bestTick 30 = .ok (.istore 5, 2) := by decide +kernel
theorem dX3_bestTick_32 : decode cX3_bestTick 32 = .ok (.iload_n 1, 1) := by decide +kernel
theorem dX3_bestTick_33 : decode cX3_bestTick 33 = .ok (.iconst (-1), 1) := by decide +kernel
theorem dX3_bestTick_34 : decode cX3_bestTick 34 = .ok (.if_icmp .eq 9, 3) := by decide +kernel
theorem dX3_bestTick_37 : decode cX3_bestTick 37 = .ok (.iload 5, 2) := by decide +kernel
theorem dX3_bestTick_39 : decode cX3_bestTick 39 = .ok (.iload_n 2, 1) := by decide +kernel
theorem dX3_bestTick_40 : decode cX3_bestTick 40 = .ok (.if_icmp .le 9, 3) := by decide +kernel
theorem dX3_bestTick_43 : decode cX3_bestTick 43 = .ok (.iload 4, 2) := by decide +kernel
theorem dX3_bestTick_45 : decode cX3_bestTick 45 = .ok (.istore_n 1, 1) := by decide +kernel
theorem dX3_bestTick_46 : decode cX3_bestTick 46 = .ok (.iload 5, 2) := by decide +kernel
theorem dX3_bestTick_48 : decode cX3_bestTick 48 = .ok (.istore_n 2, 1) := by decide +kernel
theorem dX3_bestTick_49 : decode cX3_bestTick 49 = .ok (.iinc 3 1, 3) := by decide +kernel
theorem dX3_bestTick_52 : decode cX3_bestTick 52 = .ok (.goto (-46), 3) := by decide +kernel
theorem dX3_bestTick_55 : decode cX3_bestTick 55 = .ok (.iload_n 1, 1) := by decide +kernel
theorem dX3_bestTick_56 : decode cX3_bestTick 56 = .ok (.ireturn, 1) := by decide +kernel
