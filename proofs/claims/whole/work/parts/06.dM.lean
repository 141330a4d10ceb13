theorem dX7_init_0 : decode cX7_init 0 = .ok (.aload_n 0, 1) := by decide +kernel
theorem dX7_init_1 : decode cX7_init 1 = .ok (.invokespecial 3, 3) := by decide +kernel
theorem dX7_init_4 : decode cX7_init 4 = .ok (.aload_n 0, 1) := by decide +kernel
theorem dX7_init_5 : decode cX7_init 5 = .ok (.bipush 60, 2) := by decide +kernel
theorem dX7_init_7 : decode cX7_init 7 = .ok (.putfield 9, 3) := by decide +kernel
theorem dX7_init_10 : decode cX7_init 10 = .ok (.aload_n 0, 1) := by decide +kernel
theorem dX7_init_11 : decode cX7_init 11 = .ok (.bipush 112, 2) := by decide +kernel
theorem dX7_init_13 : decode cX7_init 13 = .ok (.newarray .int, 2) := by decide +kernel
theorem dX7_init_15 : decode cX7_init 15 = .ok (.putfield 13, 3) := by decide +kernel
theorem dX7_init_18 : decode cX7_init 18 = .ok (.aload_n 0, 1) := by decide +kernel
theorem dX7_init_19 : decode cX7_init 19 = .ok (.sipush 1152, 3) := by decide +kernel
theorem dX7_init_22 : decode cX7_init 22 = .ok (.newarray .int, 2) := by decide +kernel
theorem dX7_init_24 : decode cX7_init 24 = .ok (.putfield 17, 3) := by decide +kernel
theorem dX7_init_27 : decode cX7_init 27 = .ok (.aload_n 0, 1) := by decide +kernel
theorem dX7_init_28 : decode cX7_init 28 = .ok (.sipush 840, 3) := by decide +kernel
theorem dX7_init_31 : decode cX7_init 31 = .ok (.newarray .int, 2) := by decide +kernel
theorem dX7_init_33 : decode cX7_init 33 = .ok (.putfield 20, 3) := by decide +kernel
theorem dX7_init_36 : decode cX7_init 36 = .ok (.aload_n 0, 1) := by decide +kernel
theorem dX7_init_37 : decode cX7_init 37 = .ok (.sipush 3000, 3) := by decide +kernel
theorem dX7_init_40 : decode cX7_init 40 = .ok (.newarray .int, 2) := by decide +kernel
theorem dX7_init_42 : decode cX7_init 42 = .ok (.putfield 23, 3) := by decide +kernel
theorem dX7_init_45 : decode cX7_init 45 = .ok (.aload_n 0, 1) := by decide +kernel
theorem dX7_init_46 : decode cX7_init 46 = .ok (.bipush 14, 2) := by decide +kernel
theorem dX7_init_48 : decode cX7_init 48 = .ok (.newarray .int, 2) := by decide +kernel
theorem dX7_init_50 : decode cX7_init 50 = .ok (.putfield 26, 3) := by decide +kernel
theorem dX7_init_53 : decode cX7_init 53 = .ok (.return_, 1) := by decide +kernel
theorem dX7_thrown_0 : decode cX7_thrown 0 = .ok (.aload_n 0, 1) := by decide +kernel
theorem dX7_thrown_1 : decode cX7_thrown 1 = .ok (.getfield 29, 3) := by decide +kernel
theorem dX7_thrown_4 : decode cX7_thrown 4 = .ok (.ireturn, 1) := by decide +kernel
theorem dX7_fail_0 : decode cX7_fail 0 = .ok (.aload_n 0, 1) := by decide +kernel
theorem dX7_fail_1 : decode cX7_fail 1 = .ok (.iload_n 1, 1) := by decide +kernel
theorem dX7_fail_2 : decode cX7_fail 2 = .ok (.putfield 29, 3) := by decide +kernel
theorem dX7_fail_5 : decode cX7_fail 5 = .ok (.iconst 0, 1) := by decide +kernel
theorem dX7_fail_6 : decode cX7_fail 6 = .ok (.ireturn, 1) := by decide +kernel
theorem dX7_isIn_0 : decode cX7_isIn 0 = .ok (.iload_n 0, 1) := by decide +kernel
theorem dX7_isIn_1 : decode cX7_isIn 1 = .ok (.iload_n 1, 1) := by decide +kernel
theorem dX7_isIn_2 : decode cX7_isIn 2 = .ok (.if_icmp .lt 12, 3) := by decide +kernel
theorem dX7_isIn_5 : decode cX7_isIn 5 = .ok (.iload_n 0, 1) := by decide +kernel
theorem dX7_isIn_6 : decode cX7_isIn 6 = .ok (.iload_n 2, 1) := by decide +kernel
theorem dX7_isIn_7 : decode cX7_isIn 7 = .ok (.if_icmp .gt 7, 3) := by decide +kernel
theorem dX7_isIn_10 : decode cX7_isIn 10 = .ok (.iconst 1, 1) := by decide +kernel
theorem dX7_isIn_11 : decode cX7_isIn 11 = .ok (.goto 4, 3) := by decide +kernel
theorem dX7_isIn_14 : decode cX7_isIn 14 = .ok (.iconst 0, 1) := by decide +kernel
theorem dX7_isIn_15 : decode cX7_isIn 15 = .ok (.ireturn, 1) := by decide +kernel
set_option maxRecDepth 20000 in
theorem ggX7_isTenant_X7_isIn : GoodIn wsX7_isTenant wsX7_isIn := goodIn_r _ [5] (by decide +kernel) (by decide +kernel)
set_option maxRecDepth 20000 in
theorem gX7_isTenant_X7_isIn : GoodIn wsX7_isTenant (va_wsS RX7 35 yX7_isIn wsX7_isIn) := goodIn_app (goodIn_of _ (by decide +kernel)) ggX7_isTenant_X7_isIn
theorem dX7_isTenant_0 : decode cX7_isTenant 0 = .ok (.iload_n 1, 1) := by decide +kernel
theorem dX7_isTenant_1 : decode cX7_isTenant 1 = .ok (.iconst 0, 1) := by decide +kernel
theorem dX7_isTenant_2 : decode cX7_isTenant 2 = .ok (.aload_n 0, 1) := by decide +kernel
theorem dX7_isTenant_3 : decode cX7_isTenant 3 = .ok (.getfield 32, 3) := by decide +kernel
theorem dX7_isTenant_6 : decode cX7_isTenant 6 = .ok (.iconst 1, 1) := by decide +kernel
theorem dX7_isTenant_7 : decode cX7_isTenant 7 = .ok (.isub, 1) := by decide +kernel
theorem dX7_isTenant_8 : decode cX7_isTenant 8 = .ok (.invokestatic 35, 3) := by decide +kernel
theorem dX7_isTenant_11 : decode cX7_isTenant 11 = .ok (.ireturn, 1) := by decide +kernel
theorem dX7_get_0 : decode cX7_get 0 = .ok (.aload_n 0, 1) := by decide +kernel
theorem dX7_get_1 : decode cX7_get 1 = .ok (.getfield 13, 3) := by decide +kernel
theorem dX7_get_4 : decode cX7_get 4 = .ok (.bipush 7, 2) := by decide +kernel
theorem dX7_get_6 : decode cX7_get 6 = .ok (.iload_n 1, 1) := by decide +kernel
theorem dX7_get_7 : decode cX7_get 7 = .ok (.imul, 1) := by decide +kernel
theorem dX7_get_8 : decode cX7_get 8 = .ok (.iload_n 2, 1) := by decide +kernel
theorem dX7_get_9 : decode cX7_get 9 = .ok (.iadd, 1) := by decide +kernel
theorem dX7_get_10 : decode cX7_get 10 = .ok (.iaload, 1) := by decide +kernel
theorem dX7_get_11 : decode cX7_get 11 = .ok (.ireturn, 1) := by decide +kernel
theorem dX7_set_0 : decode cX7_set 0 = .ok (.aload_n 0, 1) := by decide +kernel
theorem dX7_set_1 : decode cX7_set 1 = .ok (.getfield 13, 3) := by decide +kernel
theorem dX7_set_4 : decode cX7_set 4 = .ok (.bipush 7, 2) := by decide +kernel
theorem dX7_set_6 : decode cX7_set 6 = .ok (.iload_n 1, 1) := by decide +kernel
theorem dX7_set_7 : decode cX7_set 7 = .ok (.imul, 1) := by decide +kernel
theorem dX7_set_8 : decode cX7_set 8 = .ok (.iload_n 2, 1) := by decide +kernel
theorem dX7_set_9 : decode cX7_set 9 = .ok (.iadd, 1) := by decide +kernel
theorem dX7_set_10 : decode cX7_set 10 = .ok (.iload_n 3, 1) := by decide +kernel
theorem dX7_set_11 : decode cX7_set 11 = .ok (.iastore, 1) := by decide +kernel
theorem dX7_set_12 : decode cX7_set 12 = .ok (.return_, 1) := by decide +kernel
set_option maxRecDepth 20000 in
theorem ggX7_isHabit_X7_isTenant : GoodIn wsX7_isHabit wsX7_isTenant := goodIn_r _ [5, 6, 7, 8, 4, 9, 15, 16, 17, 18, 19, 20, 21, 22, 23, 24, 25, 26, 27, 28, 29] (by decide +kernel) (by decide +kernel)
set_option maxRecDepth 20000 in
theorem gX7_isHabit_X7_isTenant : GoodIn wsX7_isHabit (wsV RX7 39 RX7 yX7_isTenant wsX7_isTenant) := goodIn_app (goodIn_of _ (by decide +kernel)) ggX7_isHabit_X7_isTenant
set_option maxRecDepth 20000 in
theorem ggX7_isHabit_X7_get : GoodIn wsX7_isHabit wsX7_get := goodIn_r _ [13, 14, 15, 16, 17, 18, 19, 20, 21, 22, 23, 24, 25, 26, 27, 28, 29] (by decide +kernel) (by decide +kernel)
set_option maxRecDepth 20000 in
theorem gX7_isHabit_X7_get : GoodIn wsX7_isHabit (wsV RX7 43 RX7 yX7_get wsX7_get) := goodIn_app (goodIn_of _ (by decide +kernel)) ggX7_isHabit_X7_get
set_option maxRecDepth 20000 in
theorem ggX7_isHabit_X7_isIn : GoodIn wsX7_isHabit wsX7_isIn := goodIn_r _ [9] (by decide +kernel) (by decide +kernel)
set_option maxRecDepth 20000 in
theorem gX7_isHabit_X7_isIn : GoodIn wsX7_isHabit (va_wsS RX7 35 yX7_isIn wsX7_isIn) := goodIn_app (goodIn_of _ (by decide +kernel)) ggX7_isHabit_X7_isIn
theorem dX7_isHabit_0 : decode cX7_isHabit 0 = .ok (.aload_n 0, 1) := by decide +kernel
theorem dX7_isHabit_1 : decode cX7_isHabit 1 = .ok (.iload_n 1, 1) := by decide +kernel
theorem dX7_isHabit_2 : decode cX7_isHabit 2 = .ok (.invokevirtual 39, 3) := by decide +kernel
theorem dX7_isHabit_5 : decode cX7_isHabit 5 = .ok (.ifCond .eq 23, 3) := by decide +kernel
theorem dX7_isHabit_8 : decode cX7_isHabit 8 = .ok (.iload_n 2, 1) := by decide +kernel
theorem dX7_isHabit_9 : decode cX7_isHabit 9 = .ok (.iconst 0, 1) := by decide +kernel
theorem dX7_isHabit_10 : decode cX7_isHabit 10 = .ok (.aload_n 0, 1) := by decide +kernel
theorem dX7_isHabit_11 : decode cX7_isHabit 11 = .ok (.iload_n 1, 1) := by decide +kernel
theorem dX7_isHabit_12 : decode cX7_isHabit 12 = .ok (.iconst 3, 1) := by decide +kernel
theorem dX7_isHabit_13 : decode cX7_isHabit 13 = .ok (.invokevirtual 43, 3) := by decide +kernel
theorem dX7_isHabit_16 : decode cX7_isHabit 16 = .ok (.iconst 1, 1) := by decide +kernel
theorem dX7_isHabit_17 : decode cX7_isHabit 17 = .ok (.isub, 1) := by decide +kernel
theorem dX7_isHabit_18 : decode cX7_isHabit 18 = .ok (.invokestatic 35, 3) := by decide +kernel
theorem dX7_isHabit_21 : decode cX7_isHabit 21 = .ok (.ifCond .eq 7, 3) := by decide +kernel
theorem dX7_isHabit_24 : decode cX7_isHabit 24 = .ok (.iconst 1, 1) := by decide +kernel
theorem dX7_isHabit_25 : decode cX7_isHabit 25 = .ok (.goto 4, 3) := by decide +kernel
theorem dX7_isHabit_28 : decode cX7_isHabit 28 = .ok (.iconst 0, 1) := by decide +kernel
theorem dX7_isHabit_29 : decode cX7_isHabit 29 = .ok (.ireturn, 1) := by decide +kernel
theorem dX7_at_0 : decode cX7_at 0 = .ok (.bipush 9, 2) := by decide +kernel
theorem dX7_at_2 : decode cX7_at 2 = .ok (.bipush 8, 2) := by decide +kernel
theorem dX7_at_4 : decode cX7_at 4 = .ok (.iload_n 0, 1) := by decide +kernel
theorem dX7_at_5 : decode cX7_at 5 = .ok (.imul, 1) := by decide +kernel
theorem dX7_at_6 : decode cX7_at 6 = .ok (.iload_n 1, 1) := by decide +kernel
theorem dX7_at_7 : decode cX7_at 7 = .ok (.iadd, 1) := by decide +kernel
theorem dX7_at_8 : decode cX7_at 8 = .ok (.imul, 1) := by decide +kernel
theorem dX7_at_9 : decode cX7_at 9 = .ok (.ireturn, 1) := by decide +kernel
theorem dX7_hour_0 : decode cX7_hour 0 = .ok (.aload_n 0, 1) := by decide +kernel
theorem dX7_hour_1 : decode cX7_hour 1 = .ok (.getfield 47, 3) := by decide +kernel
theorem dX7_hour_4 : decode cX7_hour 4 = .ok (.aload_n 0, 1) := by decide +kernel
theorem dX7_hour_5 : decode cX7_hour 5 = .ok (.getfield 9, 3) := by decide +kernel
theorem dX7_hour_8 : decode cX7_hour 8 = .ok (.idiv, 1) := by decide +kernel
theorem dX7_hour_9 : decode cX7_hour 9 = .ok (.bipush 24, 2) := by decide +kernel
theorem dX7_hour_11 : decode cX7_hour 11 = .ok (.irem, 1) := by decide +kernel
theorem dX7_hour_12 : decode cX7_hour 12 = .ok (.ireturn, 1) := by decide +kernel
set_option maxRecDepth 20000 in
theorem ggX7_moveIn_X7_isIn : GoodIn wsX7_moveIn wsX7_isIn := goodIn_r _ [12] (by decide +kernel) (by decide +kernel)
set_option maxRecDepth 20000 in
theorem gX7_moveIn_X7_isIn : GoodIn wsX7_moveIn (va_wsS RX7 35 yX7_isIn wsX7_isIn) := goodIn_app (goodIn_of _ (by decide +kernel)) ggX7_moveIn_X7_isIn
set_option maxRecDepth 20000 in
theorem ggX7_moveIn_X7_fail : GoodIn wsX7_moveIn wsX7_fail := goodIn_r _ [16, 1, 17, 18, 19, 20, 21, 22, 23, 24, 25, 26, 27, 28, 29, 30, 31] (by decide +kernel) (by decide +kernel)
set_option maxRecDepth 20000 in
theorem gX7_moveIn_X7_fail : GoodIn wsX7_moveIn (wsV RX7 50 RX7 yX7_fail wsX7_fail) := goodIn_app (goodIn_of _ (by decide +kernel)) ggX7_moveIn_X7_fail
theorem dX7_moveIn_0 : decode cX7_moveIn 0 = .ok (.aload_n 0, 1) := by decide +kernel
theorem dX7_moveIn_1 : decode cX7_moveIn 1 = .ok (.iconst 0, 1) := by decide +kernel
theorem dX7_moveIn_2 : decode cX7_moveIn 2 = .ok (.putfield 29, 3) := by decide +kernel
theorem dX7_moveIn_5 : decode cX7_moveIn 5 = .ok (.iload_n 1, 1) := by decide +kernel
theorem dX7_moveIn_6 : decode cX7_moveIn 6 = .ok (.iconst 0, 1) := by decide +kernel
theorem dX7_moveIn_7 : decode cX7_moveIn 7 = .ok (.bipush 87, 2) := by decide +kernel
theorem dX7_moveIn_9 : decode cX7_moveIn 9 = .ok (.invokestatic 35, 3) := by decide +kernel
theorem dX7_moveIn_12 : decode cX7_moveIn 12 = .ok (.ifCond .eq 13, 3) := by decide +kernel
theorem dX7_moveIn_15 : decode cX7_moveIn 15 = .ok (.iload_n 2, 1) := by decide +kernel
theorem dX7_moveIn_16 : decode cX7_moveIn 16 = .ok (.iconst 0, 1) := by decide +kernel
theorem dX7_moveIn_17 : decode cX7_moveIn 17 = .ok (.bipush 9, 2) := by decide +kernel
theorem dX7_moveIn_19 : decode cX7_moveIn 19 = .ok (.invokestatic 35, 3) := by decide +kernel
theorem dX7_moveIn_22 : decode cX7_moveIn 22 = .ok (.ifCond .ne 9, 3) := by decide +kernel
theorem dX7_moveIn_25 : decode cX7_moveIn 25 = .ok (.aload_n 0, 1) := by decide +kernel
theorem dX7_moveIn_26 : decode cX7_moveIn 26 = .ok (.iconst 1, 1) := by decide +kernel
theorem dX7_moveIn_27 : decode cX7_moveIn 27 = .ok (.invokevirtual 50, 3) := by decide +kernel
theorem dX7_moveIn_30 : decode cX7_moveIn 30 = .ok (.ireturn, 1) := by decide +kernel
theorem dX7_moveIn_31 : decode cX7_moveIn 31 = .ok (.aload_n 0, 1) := by decide +kernel
theorem dX7_moveIn_32 : decode cX7_moveIn 32 = .ok (.getfield 32, 3) := by decide +kernel
theorem dX7_moveIn_35 : decode cX7_moveIn 35 = .ok (.bipush 16, 2) := by decide +kernel
theorem dX7_moveIn_37 : decode cX7_moveIn 37 = .ok (.if_icmp .ne 9, 3) := by decide +kernel
theorem dX7_moveIn_40 : decode cX7_moveIn 40 = .ok (.aload_n 0, 1) := by decide +kernel
theorem dX7_moveIn_41 : decode cX7_moveIn 41 = .ok (.iconst 2, 1) := by decide +kernel
theorem dX7_moveIn_42 : decode cX7_moveIn 42 = .ok (.invokevirtual 50, 3) := by decide +kernel
theorem dX7_moveIn_45 : decode cX7_moveIn 45 = .ok (.ireturn, 1) := by decide +kernel
theorem dX7_moveIn_46 : decode cX7_moveIn 46 = .ok (.bipush 7, 2) := by decide +kernel
theorem dX7_moveIn_48 : decode cX7_moveIn 48 = .ok (.newarray .int, 2) := by decide +kernel
theorem dX7_moveIn_50 : decode cX7_moveIn 50 = .ok (.dup, 1) := by decide +kernel
theorem dX7_moveIn_51 : decode cX7_moveIn 51 = .ok (.iconst 0, 1) := by decide +kernel
theorem dX7_moveIn_52 : decode cX7_moveIn 52 = .ok (.iload_n 1, 1) := by decide +kernel
theorem dX7_moveIn_53 : decode cX7_moveIn 53 = .ok (.iastore, 1) := by decide +kernel
theorem dX7_moveIn_54 : decode cX7_moveIn 54 = .ok (.dup, 1) := by decide +kernel
theorem dX7_moveIn_55 : decode cX7_moveIn 55 = .ok (.iconst 1, 1) := by decide +kernel
theorem dX7_moveIn_56 : decode cX7_moveIn 56 = .ok (.iload_n 2, 1) := by decide +kernel
theorem dX7_moveIn_57 : decode cX7_moveIn 57 = .ok (.iastore, 1) := by decide +kernel
theorem dX7_moveIn_58 : decode cX7_moveIn 58 = .ok (.dup, 1) := by decide +kernel
theorem dX7_moveIn_59 : decode cX7_moveIn 59 = .ok (.iconst 2, 1) := by decide +kernel
theorem dX7_moveIn_60 : decode cX7_moveIn 60 = .ok (.iload_n 2, 1) := by decide +kernel
theorem dX7_moveIn_61 : decode cX7_moveIn 61 = .ok (.iastore, 1) := by decide +kernel
theorem dX7_moveIn_62 : decode cX7_moveIn 62 = .ok (.dup, 1) := by decide +kernel
theorem dX7_moveIn_63 : decode cX7_moveIn 63 = .ok (.iconst 3, 1) := by decide +kernel
theorem dX7_moveIn_64 : decode cX7_moveIn 64 = .ok (.iconst 0, 1) := by decide +kernel
theorem dX7_moveIn_65 : decode cX7_moveIn 65 = .ok (.iastore, 1) := by decide +kernel
theorem dX7_moveIn_66 : decode cX7_moveIn 66 = .ok (.dup, 1) := by decide +kernel
theorem dX7_moveIn_67 : decode cX7_moveIn 67 = .ok (.iconst 4, 1) := by decide +kernel
theorem dX7_moveIn_68 : decode cX7_moveIn 68 = .ok (.iconst 0, 1) := by decide +kernel
theorem dX7_moveIn_69 : decode cX7_moveIn 69 = .ok (.iastore, 1) := by decide +kernel
theorem dX7_moveIn_70 : decode cX7_moveIn 70 = .ok (.dup, 1) := by decide +kernel
theorem dX7_moveIn_71 : decode cX7_moveIn 71 = .ok (.iconst 5, 1) := by decide +kernel
theorem dX7_moveIn_72 : decode cX7_moveIn 72 = .ok (.iconst 0, 1) := by decide +kernel
theorem dX7_moveIn_73 : decode cX7_moveIn 73 = .ok (.iastore, 1) := by decide +kernel
theorem dX7_moveIn_74 : decode cX7_moveIn 74 = .ok (.dup, 1) := by decide +kernel
theorem dX7_moveIn_75 : decode cX7_moveIn 75 = .ok (.bipush 6, 2) := by decide +kernel
theorem dX7_moveIn_77 : decode cX7_moveIn 77 = .ok (.iconst (-1), 1) := by decide +kernel
theorem dX7_moveIn_78 : decode cX7_moveIn 78 = .ok (.iastore, 1) := by decide +kernel
theorem dX7_moveIn_79 : decode cX7_moveIn 79 = .ok (.astore_n 3, 1) := by decide +kernel
theorem dX7_moveIn_80 : decode cX7_moveIn 80 = .ok (.aload_n 3, 1) := by decide +kernel
theorem dX7_moveIn_81 : decode cX7_moveIn 81 = .ok (.iconst 0, 1) := by decide +kernel
theorem dX7_moveIn_82 : decode cX7_moveIn 82 = .ok (.aload_n 0, 1) := by decide +kernel
theorem dX7_moveIn_83 : decode cX7_moveIn 83 = .ok (.getfield 13, 3) := by decide +kernel
theorem dX7_moveIn_86 : decode cX7_moveIn 86 = .ok (.bipush 7, 2) := by decide +kernel
theorem dX7_moveIn_88 : decode cX7_moveIn 88 = .ok (.aload_n 0, 1) := by decide +kernel
theorem dX7_moveIn_89 : decode cX7_moveIn 89 = .ok (.getfield 32, 3) := by decide +kernel
theorem dX7_moveIn_92 : decode cX7_moveIn 92 = .ok (.imul, 1) := by decide +kernel
theorem dX7_moveIn_93 : decode cX7_moveIn 93 = .ok (.bipush 7, 2) := by decide +kernel
theorem dX7_moveIn_95 : decode cX7_moveIn 95 = .ok (.invokestatic 54, 3) := by decide +kernel
theorem dX7_moveIn_98 : decode cX7_moveIn 98 = .ok (.aload_n 0, 1) := by decide +kernel
theorem dX7_moveIn_99 : decode cX7_moveIn 99 = .ok (.dup, 1) := by decide +kernel
theorem dX7_moveIn_100 : decode cX7_moveIn 100 = .ok (.getfield 32, 3) := by decide +kernel
theorem dX7_moveIn_103 : decode cX7_moveIn 103 = .ok (.iconst 1, 1) := by decide +kernel
theorem dX7_moveIn_104 : decode cX7_moveIn 104 = .ok (.iadd, 1) := by decide +kernel
theorem dX7_moveIn_105 : decode cX7_moveIn 105 = .ok (.putfield 32, 3) := by decide +kernel
theorem dX7_moveIn_108 : decode cX7_moveIn 108 = .ok (.aload_n 0, 1) := by decide +kernel
theorem dX7_moveIn_109 : decode cX7_moveIn 109 = .ok (.getfield 32, 3) := by decide +kernel
theorem dX7_moveIn_112 : decode cX7_moveIn 112 = .ok (.iconst 1, 1) := by decide +kernel
theorem dX7_moveIn_113 : decode cX7_moveIn 113 = .ok (.isub, 1) := by decide +kernel
theorem dX7_moveIn_114 : decode cX7_moveIn 114 = .ok (.ireturn, 1) := by decide +kernel
set_option maxRecDepth 20000 in
theorem ggX7_setHour_X7_isIn : GoodIn wsX7_setHour wsX7_isIn := goodIn_r _ [6] (by decide +kernel) (by decide +kernel)
set_option maxRecDepth 20000 in
theorem gX7_setHour_X7_isIn : GoodIn wsX7_setHour (va_wsS RX7 35 yX7_isIn wsX7_isIn) := goodIn_app (goodIn_of _ (by decide +kernel)) ggX7_setHour_X7_isIn
set_option maxRecDepth 20000 in
theorem ggX7_setHour_X7_fail : GoodIn wsX7_setHour wsX7_fail := goodIn_r _ [10, 1, 11, 12, 13, 14, 15, 16, 17, 18, 19, 20, 21, 22, 23, 24, 25] (by decide +kernel) (by decide +kernel)
set_option maxRecDepth 20000 in
theorem gX7_setHour_X7_fail : GoodIn wsX7_setHour (wsV RX7 50 RX7 yX7_fail wsX7_fail) := goodIn_app (goodIn_of _ (by decide +kernel)) ggX7_setHour_X7_fail
theorem dX7_setHour_0 : decode cX7_setHour 0 = .ok (.aload_n 0, 1) := by decide +kernel
theorem dX7_setHour_1 : decode cX7_setHour 1 = .ok (.iconst 0, 1) := by decide +kernel
theorem dX7_setHour_2 : decode cX7_setHour 2 = .ok (.putfield 29, 3) := by decide +kernel
theorem dX7_setHour_5 : decode cX7_setHour 5 = .ok (.iload_n 1, 1) := by decide +kernel
theorem dX7_setHour_6 : decode cX7_setHour 6 = .ok (.iconst 5, 1) := by decide +kernel
theorem dX7_setHour_7 : decode cX7_setHour 7 = .ok (.sipush 500, 3) := by decide +kernel
theorem dX7_setHour_10 : decode cX7_setHour 10 = .ok (.invokestatic 35, 3) := by decide +kernel
theorem dX7_setHour_13 : decode cX7_setHour 13 = .ok (.ifCond .ne 9, 3) := by decide +kernel
theorem dX7_setHour_16 : decode cX7_setHour 16 = .ok (.aload_n 0, 1) := by decide +kernel
theorem dX7_setHour_17 : decode cX7_setHour 17 = .ok (.iconst 1, 1) := by decide +kernel
theorem dX7_setHour_18 : decode cX7_setHour 18 = .ok (.invokevirtual 50, 3) := by decide +kernel
theorem dX7_setHour_21 : decode cX7_setHour 21 = .ok (.ireturn, 1) := by decide +kernel
theorem dX7_setHour_22 : decode cX7_setHour 22 = .ok (.aload_n 0, 1) := by decide +kernel
theorem dX7_setHour_23 : decode cX7_setHour 23 = .ok (.getfield 9, 3) := by decide +kernel
theorem dX7_setHour_26 : decode cX7_setHour 26 = .ok (.istore_n 2, 1) := by decide +kernel
theorem dX7_setHour_27 : decode cX7_setHour 27 = .ok (.aload_n 0, 1) := by decide +kernel
theorem dX7_setHour_28 : decode cX7_setHour 28 = .ok (.iload_n 1, 1) := by decide +kernel
theorem dX7_setHour_29 : decode cX7_setHour 29 = .ok (.putfield 9, 3) := by decide +kernel
theorem dX7_setHour_32 : decode cX7_setHour 32 = .ok (.iload_n 2, 1) := by decide +kernel
theorem dX7_setHour_33 : decode cX7_setHour 33 = .ok (.ireturn, 1) := by decide +kernel
set_option maxRecDepth 20000 in
theorem ggX7_addHabit_X7_isTenant : GoodIn wsX7_addHabit wsX7_isTenant := goodIn_r _ [12, 13, 14, 15, 11, 16, 33, 34, 35, 36, 37, 38, 39, 40, 41, 42, 43, 44, 45, 46, 47] (by decide +kernel) (by decide +kernel)
set_option maxRecDepth 20000 in
theorem gX7_addHabit_X7_isTenant : GoodIn wsX7_addHabit (wsV RX7 39 RX7 yX7_isTenant wsX7_isTenant) := goodIn_app (goodIn_of _ (by decide +kernel)) ggX7_addHabit_X7_isTenant
set_option maxRecDepth 20000 in
theorem ggX7_addHabit_X7_fail : GoodIn wsX7_addHabit wsX7_fail := goodIn_r _ [20, 1, 33, 34, 35, 36, 37, 38, 39, 40, 41, 42, 43, 44, 45, 46, 47] (by decide +kernel) (by decide +kernel)
set_option maxRecDepth 20000 in
theorem gX7_addHabit_X7_fail : GoodIn wsX7_addHabit (wsV RX7 50 RX7 yX7_fail wsX7_fail) := goodIn_app (goodIn_of _ (by decide +kernel)) ggX7_addHabit_X7_fail
set_option maxRecDepth 20000 in
theorem ggX7_addHabit_X7_get : GoodIn wsX7_addHabit wsX7_get := goodIn_r _ [24, 25, 33, 34, 35, 36, 37, 38, 39, 40, 41, 42, 43, 44, 45, 46, 47] (by decide +kernel) (by decide +kernel)
set_option maxRecDepth 20000 in
theorem gX7_addHabit_X7_get : GoodIn wsX7_addHabit (wsV RX7 43 RX7 yX7_get wsX7_get) := goodIn_app (goodIn_of _ (by decide +kernel)) ggX7_addHabit_X7_get
set_option maxRecDepth 20000 in
theorem ggX7_addHabit_X7_at : GoodIn wsX7_addHabit wsX7_at := goodIn_r _ [28] (by decide +kernel) (by decide +kernel)
set_option maxRecDepth 20000 in
theorem gX7_addHabit_X7_at : GoodIn wsX7_addHabit (va_wsS RX7 60 yX7_at wsX7_at) := goodIn_app (goodIn_of _ (by decide +kernel)) ggX7_addHabit_X7_at
set_option maxRecDepth 20000 in
theorem ggX7_addHabit_X7_set : GoodIn wsX7_addHabit wsX7_set := goodIn_r _ [32, 25, 33, 34, 35, 36, 37, 38, 39, 40, 41, 42, 43, 44, 45, 46, 47] (by decide +kernel) (by decide +kernel)
set_option maxRecDepth 20000 in
theorem gX7_addHabit_X7_set : GoodIn wsX7_addHabit (wsV RX7 63 RX7 yX7_set wsX7_set) := goodIn_app (goodIn_of _ (by decide +kernel)) ggX7_addHabit_X7_set
theorem dX7_addHabit_0 : decode cX7_addHabit 0 = .ok (.aload_n 0, 1) := by decide +kernel
theorem dX7_addHabit_1 : decode cX7_addHabit 1 = .ok (.iconst 0, 1) := by decide +kernel
theorem dX7_addHabit_2 : decode cX7_addHabit 2 = .ok (.putfield 29, 3) := by decide +kernel
theorem dX7_addHabit_5 : decode cX7_addHabit 5 = .ok (.aload_n 0, 1) := by decide +kernel
theorem dX7_addHabit_6 : decode cX7_addHabit 6 = .ok (.iload_n 1, 1) := by decide +kernel
theorem dX7_addHabit_7 : decode cX7_addHabit 7 = .ok (.invokevirtual 39, 3) := by decide +kernel
theorem dX7_addHabit_10 : decode cX7_addHabit 10 = .ok (.ifCond .ne 9, 3) := by decide +kernel
theorem dX7_addHabit_13 : decode cX7_addHabit 13 = .ok (.aload_n 0, 1) := by decide +kernel
theorem dX7_addHabit_14 : decode cX7_addHabit 14 = .ok (.iconst 1, 1) := by decide +kernel
theorem dX7_addHabit_15 : decode cX7_addHabit 15 = .ok (.invokevirtual 50, 3) := by decide +kernel
theorem dX7_addHabit_18 : decode cX7_addHabit 18 = .ok (.ireturn, 1) := by decide +kernel
theorem dX7_addHabit_19 : decode cX7_addHabit 19 = .ok (.aload_n 0, 1) := by decide +kernel
theorem dX7_addHabit_20 : decode cX7_addHabit 20 = .ok (.iload_n 1, 1) := by decide +kernel
theorem dX7_addHabit_21 : decode cX7_addHabit 21 = .ok (.iconst 3, 1) := by decide +kernel
theorem dX7_addHabit_22 : decode cX7_addHabit 22 = .ok (.invokevirtual 43, 3) := by decide +kernel
theorem dX7_addHabit_25 : decode cX7_addHabit 25 = .ok (.bipush 8, 2) := by decide +kernel
theorem dX7_addHabit_27 : decode cX7_addHabit 27 = .ok (.if_icmp .ne 9, 3) := by decide +kernel
theorem dX7_addHabit_30 : decode cX7_addHabit 30 = .ok (.aload_n 0, 1) := by decide +kernel
theorem dX7_addHabit_31 : decode cX7_addHabit 31 = .ok (.iconst 2, 1) := by decide +kernel
theorem dX7_addHabit_32 : decode cX7_addHabit 32 = .ok (.invokevirtual 50, 3) := by decide +kernel
theorem dX7_addHabit_35 : decode cX7_addHabit 35 = .ok (.ireturn, 1) := by decide +kernel
theorem dX7_addHabit_36 : decode cX7_addHabit 36 = .ok (.bipush 9, 2) := by decide +kernel
theorem dX7_addHabit_38 : decode cX7_addHabit 38 = .ok (.newarray .int, 2) := by decide +kernel
theorem dX7_addHabit_40 : decode cX7_addHabit 40 = .ok (.dup, 1) := by decide +kernel
theorem dX7_addHabit_41 : decode cX7_addHabit 41 = .ok (.iconst 0, 1) := by decide +kernel
theorem dX7_addHabit_42 : decode cX7_addHabit 42 = .ok (.iconst 0, 1) := by decide +kernel
theorem dX7_addHabit_43 : decode cX7_addHabit 43 = .ok (.iastore, 1) := by decide +kernel
theorem dX7_addHabit_44 : decode cX7_addHabit 44 = .ok (.dup, 1) := by decide +kernel
theorem dX7_addHabit_45 : decode cX7_addHabit 45 = .ok (.iconst 1, 1) := by decide +kernel
theorem dX7_addHabit_46 : decode cX7_addHabit 46 = .ok (.bipush 23, 2) := by decide +kernel
theorem dX7_addHabit_48 : decode cX7_addHabit 48 = .ok (.iastore, 1) := by decide +kernel
theorem dX7_addHabit_49 : decode cX7_addHabit 49 = .ok (.dup, 1) := by decide +kernel
theorem dX7_addHabit_50 : decode cX7_addHabit 50 = .ok (.iconst 2, 1) := by decide +kernel
theorem dX7_addHabit_51 : decode cX7_addHabit 51 = .ok (.iconst 2, 1) := by decide +kernel
theorem dX7_addHabit_52 : decode cX7_addHabit 52 = .ok (.iastore, 1) := by decide +kernel
theorem dX7_addHabit_53 : decode cX7_addHabit 53 = .ok (.dup, 1) := by decide +kernel
theorem dX7_addHabit_54 : decode cX7_addHabit 54 = .ok (.iconst 3, 1) := by decide +kernel
theorem dX7_addHabit_55 : decode cX7_addHabit 55 = .ok (.iconst 0, 1) := by decide +kernel
theorem dX7_addHabit_56 : decode cX7_addHabit 56 = .ok (.iastore, 1) := by decide +kernel
theorem dX7_addHabit_57 : decode cX7_addHabit 57 = .ok (.dup, 1) := by decide +kernel
theorem dX7_addHabit_58 : decode cX7_addHabit 58 = .ok (.iconst 4, 1) := by decide +kernel
theorem dX7_addHabit_59 : decode cX7_addHabit 59 = .ok (.iconst 1, 1) := by decide +kernel
theorem dX7_addHabit_60 : decode cX7_addHabit 60 = .ok (.iastore, 1) := by decide +kernel
theorem dX7_addHabit_61 : decode cX7_addHabit 61 = .ok (.dup, 1) := by decide +kernel
theorem dX7_addHabit_62 : decode cX7_addHabit 62 = .ok (.iconst 5, 1) := by decide +kernel
theorem dX7_addHabit_63 : decode cX7_addHabit 63 = .ok (.iload_n 1, 1) := by decide +kernel
theorem dX7_addHabit_64 : decode cX7_addHabit 64 = .ok (.iastore, 1) := by decide +kernel
theorem dX7_addHabit_65 : decode cX7_addHabit 65 = .ok (.dup, 1) := by decide +kernel
theorem dX7_addHabit_66 : decode cX7_addHabit 66 = .ok (.bipush 6, 2) := by decide +kernel
theorem dX7_addHabit_68 : decode cX7_addHabit 68 = .ok (.iconst 1, 1) := by decide +kernel
theorem dX7_addHabit_69 : decode cX7_addHabit 69 = .ok (.iastore, 1) := by decide +kernel
theorem dX7_addHabit_70 : decode cX7_addHabit 70 = .ok (.dup, 1) := by decide +kernel
theorem dX7_addHabit_71 : decode cX7_addHabit 71 = .ok (.bipush 7, 2) := by decide +kernel
theorem dX7_addHabit_73 : decode cX7_addHabit 73 = .ok (.iconst 0, 1) := by decide +kernel
theorem dX7_addHabit_74 : decode cX7_addHabit 74 = .ok (.iastore, 1) := by decide +kernel
theorem dX7_addHabit_75 : decode cX7_addHabit 75 = .ok (.dup, 1) := by decide +kernel
theorem dX7_addHabit_76 : decode cX7_addHabit 76 = .ok (.bipush 8, 2) := by decide +kernel
theorem dX7_addHabit_78 : decode cX7_addHabit 78 = .ok (.iconst 0, 1) := by decide +kernel
theorem dX7_addHabit_79 : decode cX7_addHabit 79 = .ok (.iastore, 1) := by decide +kernel
theorem dX7_addHabit_80 : decode cX7_addHabit 80 = .ok (.astore_n 2, 1) := by decide +kernel
theorem dX7_addHabit_81 : decode cX7_addHabit 81 = .ok (.aload_n 2, 1) := by decide +kernel
theorem dX7_addHabit_82 : decode cX7_addHabit 82 = .ok (.iconst 0, 1) := by decide +kernel
theorem dX7_addHabit_83 : decode cX7_addHabit 83 = .ok (.aload_n 0, 1) := by decide +kernel
theorem dX7_addHabit_84 : decode cX7_addHabit 84 = .ok (.getfield 17, 3) := by decide +kernel
theorem dX7_addHabit_87 : decode cX7_addHabit 87 = .ok (.iload_n 1, 1) := by decide +kernel
theorem dX7_addHabit_88 : decode cX7_addHabit 88 = .ok (.aload_n 0, 1) := by decide +kernel
theorem dX7_addHabit_89 : decode cX7_addHabit 89 = .ok (.iload_n 1, 1) := by decide +kernel
theorem dX7_addHabit_90 : decode cX7_addHabit 90 = .ok (.iconst 3, 1) := by decide +kernel
theorem dX7_addHabit_91 : decode cX7_addHabit 91 = .ok (.invokevirtual 43, 3) := by decide +kernel
theorem dX7_addHabit_94 : decode cX7_addHabit 94 = .ok (.invokestatic 60, 3) := by decide +kernel
theorem dX7_addHabit_97 : decode cX7_addHabit 97 = .ok (.bipush 9, 2) := by decide +kernel
theorem dX7_addHabit_99 : decode cX7_addHabit 99 = .ok (.invokestatic 54, 3) := by decide +kernel
theorem dX7_addHabit_102 : decode cX7_addHabit 102 = .ok (.aload_n 0, 1) := by decide +kernel
theorem dX7_addHabit_103 : decode cX7_addHabit 103 = .ok (.iload_n 1, 1) := by decide +kernel
theorem dX7_addHabit_104 : decode cX7_addHabit 104 = .ok (.iconst 3, 1) := by decide +kernel
theorem dX7_addHabit_105 : decode cX7_addHabit 105 = .ok (.aload_n 0, 1) := by decide +kernel
theorem dX7_addHabit_106 : decode cX7_addHabit 106 = .ok (.iload_n 1, 1) := by decide +kernel
theorem dX7_addHabit_107 : decode cX7_addHabit 107 = .ok (.iconst 3, 1) := by decide +kernel
theorem dX7_addHabit_108 : decode cX7_addHabit 108 = .ok (.invokevirtual 43, 3) := by decide +kernel
theorem dX7_addHabit_111 : decode cX7_addHabit 111 = .ok (.iconst 1, 1) := by decide +kernel
theorem dX7_addHabit_112 : decode cX7_addHabit 112 = .ok (.iadd, 1) := by decide +kernel
theorem dX7_addHabit_113 : decode cX7_addHabit 113 = .ok (.invokevirtual 63, 3) := by decide +kernel
theorem dX7_addHabit_116 : decode cX7_addHabit 116 = .ok (.aload_n 0, 1) := by decide +kernel
theorem dX7_addHabit_117 : decode cX7_addHabit 117 = .ok (.iload_n 1, 1) := by decide +kernel
theorem dX7_addHabit_118 : decode cX7_addHabit 118 = .ok (.iconst 3, 1) := by decide +kernel
theorem dX7_addHabit_119 : decode cX7_addHabit 119 = .ok (.invokevirtual 43, 3) := by decide +kernel
theorem dX7_addHabit_122 : decode cX7_addHabit 122 = .ok (.ireturn, 1) := by decide +kernel
set_option maxRecDepth 20000 in
theorem ggX7_setWhen_X7_isHabit : GoodIn wsX7_setWhen wsX7_isHabit := goodIn_r _ [12, 13, 14, 15, 11, 16, 17, 18, 19, 20, 21, 22, 23, 24, 25, 33, 34, 35, 36, 37, 38, 39, 40, 41, 42, 43, 44, 45, 46, 47] (by decide +kernel) (by decide +kernel)
set_option maxRecDepth 20000 in
theorem gX7_setWhen_X7_isHabit : GoodIn wsX7_setWhen (wsV RX7 67 RX7 yX7_isHabit wsX7_isHabit) := goodIn_app (goodIn_of _ (by decide +kernel)) ggX7_setWhen_X7_isHabit
set_option maxRecDepth 20000 in
theorem ggX7_setWhen_X7_fail : GoodIn wsX7_setWhen wsX7_fail := goodIn_r _ [29, 1, 33, 34, 35, 36, 37, 38, 39, 40, 41, 42, 43, 44, 45, 46, 47] (by decide +kernel) (by decide +kernel)
set_option maxRecDepth 20000 in
theorem gX7_setWhen_X7_fail : GoodIn wsX7_setWhen (wsV RX7 50 RX7 yX7_fail wsX7_fail) := goodIn_app (goodIn_of _ (by decide +kernel)) ggX7_setWhen_X7_fail
set_option maxRecDepth 20000 in
theorem ggX7_setWhen_X7_isIn : GoodIn wsX7_setWhen wsX7_isIn := goodIn_r _ [20] (by decide +kernel) (by decide +kernel)
set_option maxRecDepth 20000 in
theorem gX7_setWhen_X7_isIn : GoodIn wsX7_setWhen (va_wsS RX7 35 yX7_isIn wsX7_isIn) := goodIn_app (goodIn_of _ (by decide +kernel)) ggX7_setWhen_X7_isIn
set_option maxRecDepth 20000 in
theorem ggX7_setWhen_X7_at : GoodIn wsX7_setWhen wsX7_at := goodIn_r _ [32] (by decide +kernel) (by decide +kernel)
set_option maxRecDepth 20000 in
theorem gX7_setWhen_X7_at : GoodIn wsX7_setWhen (va_wsS RX7 60 yX7_at wsX7_at) := goodIn_app (goodIn_of _ (by decide +kernel)) ggX7_setWhen_X7_at
theorem dX7_setWhen_0 : decode cX7_setWhen 0 = .ok (.aload_n 0, 1) := by decide +kernel
theorem dX7_setWhen_1 : decode cX7_setWhen 1 = .ok (.iconst 0, 1) := by decide +kernel
theorem dX7_setWhen_2 : decode cX7_setWhen 2 = .ok (.putfield 29, 3) := by decide +kernel
theorem dX7_setWhen_5 : decode cX7_setWhen 5 = .ok (.aload_n 0, 1) := by decide +kernel
theorem dX7_setWhen_6 : decode cX7_setWhen 6 = .ok (.iload_n 1, 1) := by decide +kernel
theorem dX7_setWhen_7 : decode cX7_setWhen 7 = .ok (.iload_n 2, 1) := by decide +kernel
theorem dX7_setWhen_8 : decode cX7_setWhen 8 = .ok (.invokevirtual 67, 3) := by decide +kernel
theorem dX7_setWhen_11 : decode cX7_setWhen 11 = .ok (.ifCond .ne 9, 3) := by decide +kernel
theorem dX7_setWhen_14 : decode cX7_setWhen 14 = .ok (.aload_n 0, 1) := by decide +kernel
theorem dX7_setWhen_15 : decode cX7_setWhen 15 = .ok (.iconst 1, 1) := by decide +kernel
theorem dX7_setWhen_16 : decode cX7_setWhen 16 = .ok (.invokevirtual 50, 3) := by decide +kernel
theorem dX7_setWhen_19 : decode cX7_setWhen 19 = .ok (.ireturn, 1) := by decide +kernel
theorem dX7_setWhen_20 : decode cX7_setWhen 20 = .ok (.iload_n 3, 1) := by decide +kernel
theorem dX7_setWhen_21 : decode cX7_setWhen 21 = .ok (.iconst 0, 1) := by decide +kernel
theorem dX7_setWhen_22 : decode cX7_setWhen 22 = .ok (.bipush 23, 2) := by decide +kernel
theorem dX7_setWhen_24 : decode cX7_setWhen 24 = .ok (.invokestatic 35, 3) := by decide +kernel
theorem dX7_setWhen_27 : decode cX7_setWhen 27 = .ok (.ifCond .eq 35, 3) := by decide +kernel
theorem dX7_setWhen_30 : decode cX7_setWhen 30 = .ok (.iload 4, 2) := by decide +kernel
theorem dX7_setWhen_32 : decode cX7_setWhen 32 = .ok (.iconst 0, 1) := by decide +kernel
theorem dX7_setWhen_33 : decode cX7_setWhen 33 = .ok (.bipush 23, 2) := by decide +kernel
theorem dX7_setWhen_35 : decode cX7_setWhen 35 = .ok (.invokestatic 35, 3) := by decide +kernel
theorem dX7_setWhen_38 : decode cX7_setWhen 38 = .ok (.ifCond .eq 24, 3) := by decide +kernel
theorem dX7_setWhen_41 : decode cX7_setWhen 41 = .ok (.iload 5, 2) := by decide +kernel
theorem dX7_setWhen_43 : decode cX7_setWhen 43 = .ok (.iconst 0, 1) := by decide +kernel
theorem dX7_setWhen_44 : decode cX7_setWhen 44 = .ok (.iconst 2, 1) := by decide +kernel
theorem dX7_setWhen_45 : decode cX7_setWhen 45 = .ok (.invokestatic 35, 3) := by decide +kernel
theorem dX7_setWhen_48 : decode cX7_setWhen 48 = .ok (.ifCond .eq 14, 3) := by decide +kernel
theorem dX7_setWhen_51 : decode cX7_setWhen 51 = .ok (.iload 6, 2) := by decide +kernel
theorem dX7_setWhen_53 : decode cX7_setWhen 53 = .ok (.iconst 0, 1) := by decide +kernel
theorem dX7_setWhen_54 : decode cX7_setWhen 54 = .ok (.bipush 9, 2) := by decide +kernel
theorem dX7_setWhen_56 : decode cX7_setWhen 56 = .ok (.invokestatic 35, 3) := by decide +kernel
theorem dX7_setWhen_59 : decode cX7_setWhen 59 = .ok (.ifCond .ne 9, 3) := by decide +kernel
theorem dX7_setWhen_62 : decode cX7_setWhen 62 = .ok (.aload_n 0, 1) := by decide +kernel
theorem dX7_setWhen_63 : decode cX7_setWhen 63 = .ok (.iconst 2, 1) := by decide +kernel
theorem dX7_setWhen_64 : decode cX7_setWhen 64 = .ok (.invokevirtual 50, 3) := by decide +kernel
theorem dX7_setWhen_67 : decode cX7_setWhen 67 = .ok (.ireturn, 1) := by decide +kernel
theorem dX7_setWhen_68 : decode cX7_setWhen 68 = .ok (.iload_n 1, 1) := by decide +kernel
theorem dX7_setWhen_69 : decode cX7_setWhen 69 = .ok (.iload_n 2, 1) := by decide +kernel
theorem dX7_setWhen_70 : decode cX7_setWhen 70 = .ok (.invokestatic 60, 3) := by decide +kernel
theorem dX7_setWhen_73 : decode cX7_setWhen 73 = .ok (.istore 7, 2) := by decide +kernel
theorem dX7_setWhen_75 : decode cX7_setWhen 75 = .ok (.aload_n 0, 1) := by decide +kernel
theorem dX7_setWhen_76 : decode cX7_setWhen 76 = .ok (.getfield 17, 3) := by decide +kernel
theorem dX7_setWhen_79 : decode cX7_setWhen 79 = .ok (.iload 7, 2) := by decide +kernel
theorem dX7_setWhen_81 : decode cX7_setWhen 81 = .ok (.iconst 2, 1) := by decide +kernel
theorem dX7_setWhen_82 : decode cX7_setWhen 82 = .ok (.iadd, 1) := by decide +kernel
theorem dX7_setWhen_83 : decode cX7_setWhen 83 = .ok (.iaload, 1) := by decide +kernel
theorem dX7_setWhen_84 : decode cX7_setWhen 84 = .ok (.istore 8, 2) := by decide +kernel
theorem dX7_setWhen_86 : decode cX7_setWhen 86 = .ok (.iconst 4, 1) := by decide +kernel
theorem dX7_setWhen_87 : decode cX7_setWhen 87 = .ok (.newarray .int, 2) := by decide +kernel
theorem dX7_setWhen_89 : decode cX7_setWhen 89 = .ok (.dup, 1) := by decide +kernel
theorem dX7_setWhen_90 : decode cX7_setWhen 90 = .ok (.iconst 0, 1) := by decide +kernel
theorem dX7_setWhen_91 : decode cX7_setWhen 91 = .ok (.iload_n 3, 1) := by decide +kernel
theorem dX7_setWhen_92 : decode cX7_setWhen 92 = .ok (.iastore, 1) := by decide +kernel
theorem dX7_setWhen_93 : decode cX7_setWhen 93 = .ok (.dup, 1) := by decide +kernel
theorem dX7_setWhen_94 : decode cX7_setWhen 94 = .ok (.iconst 1, 1) := by decide +kernel
theorem dX7_setWhen_95 : decode cX7_setWhen 95 = .ok (.iload 4, 2) := by decide +kernel
theorem dX7_setWhen_97 : decode cX7_setWhen 97 = .ok (.iastore, 1) := by decide +kernel
theorem dX7_setWhen_98 : decode cX7_setWhen 98 = .ok (.dup, 1) := by decide +kernel
theorem dX7_setWhen_99 : decode cX7_setWhen 99 = .ok (.iconst 2, 1) := by decide +kernel
theorem dX7_setWhen_100 : decode cX7_setWhen 100 = .ok (.iload 5, 2) := by decide +kernel
theorem dX7_setWhen_102 : decode cX7_setWhen 102 = .ok (.iastore, 1) := by decide +kernel
theorem dX7_setWhen_103 : decode cX7_setWhen 103 = .ok (.dup, 1) := by decide +kernel
theorem dX7_setWhen_104 : decode cX7_setWhen 104 = .ok (.iconst 3, 1) := by decide +kernel
theorem dX7_setWhen_105 : decode cX7_setWhen 105 = .ok (.iload 6, 2) := by decide +kernel
theorem dX7_setWhen_107 : decode cX7_setWhen 107 = .ok (.iastore, 1) := by decide +kernel
theorem dX7_setWhen_108 : decode cX7_setWhen 108 = .ok (.astore 9, 2) := by decide +kernel
theorem dX7_setWhen_110 : decode cX7_setWhen 110 = .ok (.aload 9, 2) := by decide +kernel
theorem dX7_setWhen_112 : decode cX7_setWhen 112 = .ok (.iconst 0, 1) := by decide +kernel
theorem dX7_setWhen_113 : decode cX7_setWhen 113 = .ok (.aload_n 0, 1) := by decide +kernel
theorem dX7_setWhen_114 : decode cX7_setWhen 114 = .ok (.getfield 17, 3) := by decide +kernel
theorem dX7_setWhen_117 : decode cX7_setWhen 117 = .ok (.iload 7, 2) := by decide +kernel
theorem dX7_setWhen_119 : decode cX7_setWhen 119 = .ok (.iconst 4, 1) := by decide +kernel
theorem dX7_setWhen_120 : decode cX7_setWhen 120 = .ok (.invokestatic 54, 3) := by decide +kernel
theorem dX7_setWhen_123 : decode cX7_setWhen 123 = .ok (.iload 8, 2) := by decide +kernel
theorem dX7_setWhen_125 : decode cX7_setWhen 125 = .ok (.ireturn, 1) := by decide +kernel
set_option maxRecDepth 20000 in
theorem ggX7_setWhat_X7_isHabit : GoodIn wsX7_setWhat wsX7_isHabit := goodIn_r _ [12, 13, 14, 15, 11, 16, 17, 18, 19, 20, 21, 22, 23, 24, 25, 33, 34, 35, 36, 37, 38, 39, 40, 41, 42, 43, 44, 45, 46, 47] (by decide +kernel) (by decide +kernel)
set_option maxRecDepth 20000 in
theorem gX7_setWhat_X7_isHabit : GoodIn wsX7_setWhat (wsV RX7 67 RX7 yX7_isHabit wsX7_isHabit) := goodIn_app (goodIn_of _ (by decide +kernel)) ggX7_setWhat_X7_isHabit
set_option maxRecDepth 20000 in
theorem ggX7_setWhat_X7_isTenant : GoodIn wsX7_setWhat wsX7_isTenant := goodIn_r _ [16, 17, 18, 19, 11, 20, 33, 34, 35, 36, 37, 38, 39, 40, 41, 42, 43, 44, 45, 46, 47] (by decide +kernel) (by decide +kernel)
set_option maxRecDepth 20000 in
theorem gX7_setWhat_X7_isTenant : GoodIn wsX7_setWhat (wsV RX7 39 RX7 yX7_isTenant wsX7_isTenant) := goodIn_app (goodIn_of _ (by decide +kernel)) ggX7_setWhat_X7_isTenant
set_option maxRecDepth 20000 in
theorem ggX7_setWhat_X7_fail : GoodIn wsX7_setWhat wsX7_fail := goodIn_r _ [29, 1, 33, 34, 35, 36, 37, 38, 39, 40, 41, 42, 43, 44, 45, 46, 47] (by decide +kernel) (by decide +kernel)
set_option maxRecDepth 20000 in
theorem gX7_setWhat_X7_fail : GoodIn wsX7_setWhat (wsV RX7 50 RX7 yX7_fail wsX7_fail) := goodIn_app (goodIn_of _ (by decide +kernel)) ggX7_setWhat_X7_fail
set_option maxRecDepth 20000 in
theorem ggX7_setWhat_X7_isIn : GoodIn wsX7_setWhat wsX7_isIn := goodIn_r _ [20] (by decide +kernel) (by decide +kernel)
set_option maxRecDepth 20000 in
theorem gX7_setWhat_X7_isIn : GoodIn wsX7_setWhat (va_wsS RX7 35 yX7_isIn wsX7_isIn) := goodIn_app (goodIn_of _ (by decide +kernel)) ggX7_setWhat_X7_isIn
set_option maxRecDepth 20000 in
theorem ggX7_setWhat_X7_at : GoodIn wsX7_setWhat wsX7_at := goodIn_r _ [32] (by decide +kernel) (by decide +kernel)
set_option maxRecDepth 20000 in
theorem gX7_setWhat_X7_at : GoodIn wsX7_setWhat (va_wsS RX7 60 yX7_at wsX7_at) := goodIn_app (goodIn_of _ (by decide +kernel)) ggX7_setWhat_X7_at
theorem dX7_setWhat_0 : decode cX7_setWhat 0 = .ok (.aload_n 0, 1) := by decide +kernel
theorem dX7_setWhat_1 : decode cX7_setWhat 1 = .ok (.iconst 0, 1) := by decide +kernel
theorem dX7_setWhat_2 : decode cX7_setWhat 2 = .ok (.putfield 29, 3) := by decide +kernel
theorem dX7_setWhat_5 : decode cX7_setWhat 5 = .ok (.aload_n 0, 1) := by decide +kernel
theorem dX7_setWhat_6 : decode cX7_setWhat 6 = .ok (.iload_n 1, 1) := by decide +kernel
theorem dX7_setWhat_7 : decode cX7_setWhat 7 = .ok (.iload_n 2, 1) := by decide +kernel
theorem dX7_setWhat_8 : decode cX7_setWhat 8 = .ok (.invokevirtual 67, 3) := by decide +kernel
theorem dX7_setWhat_11 : decode cX7_setWhat 11 = .ok (.ifCond .eq 12, 3) := by decide +kernel
theorem dX7_setWhat_14 : decode cX7_setWhat 14 = .ok (.aload_n 0, 1) := by decide +kernel
theorem dX7_setWhat_15 : decode cX7_setWhat 15 = .ok (.iload 4, 2) := by decide +kernel
theorem dX7_setWhat_17 : decode cX7_setWhat 17 = .ok (.invokevirtual 39, 3) := by decide +kernel
theorem dX7_setWhat_20 : decode cX7_setWhat 20 = .ok (.ifCond .ne 9, 3) := by decide +kernel
theorem dX7_setWhat_23 : decode cX7_setWhat 23 = .ok (.aload_n 0, 1) := by decide +kernel
theorem dX7_setWhat_24 : decode cX7_setWhat 24 = .ok (.iconst 1, 1) := by decide +kernel
theorem dX7_setWhat_25 : decode cX7_setWhat 25 = .ok (.invokevirtual 50, 3) := by decide +kernel
theorem dX7_setWhat_28 : decode cX7_setWhat 28 = .ok (.ireturn, 1) := by decide +kernel
theorem dX7_setWhat_29 : decode cX7_setWhat 29 = .ok (.iload_n 3, 1) := by decide +kernel
theorem dX7_setWhat_30 : decode cX7_setWhat 30 = .ok (.iconst 0, 1) := by decide +kernel
theorem dX7_setWhat_31 : decode cX7_setWhat 31 = .ok (.iconst 5, 1) := by decide +kernel
theorem dX7_setWhat_32 : decode cX7_setWhat 32 = .ok (.invokestatic 35, 3) := by decide +kernel
theorem dX7_setWhat_35 : decode cX7_setWhat 35 = .ok (.ifCond .eq 26, 3) := by decide +kernel
theorem dX7_setWhat_38 : decode cX7_setWhat 38 = .ok (.iload 5, 2) := by decide +kernel
theorem dX7_setWhat_40 : decode cX7_setWhat 40 = .ok (.iconst 1, 1) := by decide +kernel
theorem dX7_setWhat_41 : decode cX7_setWhat 41 = .ok (.bipush 99, 2) := by decide +kernel
theorem dX7_setWhat_43 : decode cX7_setWhat 43 = .ok (.invokestatic 35, 3) := by decide +kernel
theorem dX7_setWhat_46 : decode cX7_setWhat 46 = .ok (.ifCond .eq 15, 3) := by decide +kernel
theorem dX7_setWhat_49 : decode cX7_setWhat 49 = .ok (.iload 6, 2) := by decide +kernel
theorem dX7_setWhat_51 : decode cX7_setWhat 51 = .ok (.bipush (-12), 2) := by decide +kernel
theorem dX7_setWhat_53 : decode cX7_setWhat 53 = .ok (.bipush 12, 2) := by decide +kernel
theorem dX7_setWhat_55 : decode cX7_setWhat 55 = .ok (.invokestatic 35, 3) := by decide +kernel
theorem dX7_setWhat_58 : decode cX7_setWhat 58 = .ok (.ifCond .ne 9, 3) := by decide +kernel
theorem dX7_setWhat_61 : decode cX7_setWhat 61 = .ok (.aload_n 0, 1) := by decide +kernel
theorem dX7_setWhat_62 : decode cX7_setWhat 62 = .ok (.iconst 2, 1) := by decide +kernel
theorem dX7_setWhat_63 : decode cX7_setWhat 63 = .ok (.invokevirtual 50, 3) := by decide +kernel
theorem dX7_setWhat_66 : decode cX7_setWhat 66 = .ok (.ireturn, 1) := by decide +kernel
theorem dX7_setWhat_67 : decode cX7_setWhat 67 = .ok (.iload_n 1, 1) := by decide +kernel
theorem dX7_setWhat_68 : decode cX7_setWhat 68 = .ok (.iload_n 2, 1) := by decide +kernel
theorem dX7_setWhat_69 : decode cX7_setWhat 69 = .ok (.invokestatic 60, 3) := by decide +kernel
theorem dX7_setWhat_72 : decode cX7_setWhat 72 = .ok (.iconst 4, 1) := by decide +kernel
theorem dX7_setWhat_73 : decode cX7_setWhat 73 = .ok (.iadd, 1) := by decide +kernel
theorem dX7_setWhat_74 : decode cX7_setWhat 74 = .ok (.istore 7, 2) := by decide +kernel
theorem dX7_setWhat_76 : decode cX7_setWhat 76 = .ok (.aload_n 0, 1) := by decide +kernel
theorem dX7_setWhat_77 : decode cX7_setWhat 77 = .ok (.getfield 17, 3) := by decide +kernel
theorem dX7_setWhat_80 : decode cX7_setWhat 80 = .ok (.iload 7, 2) := by decide +kernel
theorem dX7_setWhat_82 : decode cX7_setWhat 82 = .ok (.iaload, 1) := by decide +kernel
theorem dX7_setWhat_83 : decode cX7_setWhat 83 = .ok (.istore 8, 2) := by decide +kernel
theorem dX7_setWhat_85 : decode cX7_setWhat 85 = .ok (.iconst 4, 1) := by decide +kernel
theorem dX7_setWhat_86 : decode cX7_setWhat 86 = .ok (.newarray .int, 2) := by decide +kernel
theorem dX7_setWhat_88 : decode cX7_setWhat 88 = .ok (.dup, 1) := by decide +kernel
theorem dX7_setWhat_89 : decode cX7_setWhat 89 = .ok (.iconst 0, 1) := by decide +kernel
theorem dX7_setWhat_90 : decode cX7_setWhat 90 = .ok (.iload_n 3, 1) := by decide +kernel
theorem dX7_setWhat_91 : decode cX7_setWhat 91 = .ok (.iastore, 1) := by decide +kernel
theorem dX7_setWhat_92 : decode cX7_setWhat 92 = .ok (.dup, 1) := by decide +kernel
theorem dX7_setWhat_93 : decode cX7_setWhat 93 = .ok (.iconst 1, 1) := by decide +kernel
theorem dX7_setWhat_94 : decode cX7_setWhat 94 = .ok (.iload 4, 2) := by decide +kernel
theorem dX7_setWhat_96 : decode cX7_setWhat 96 = .ok (.iastore, 1) := by decide +kernel
theorem dX7_setWhat_97 : decode cX7_setWhat 97 = .ok (.dup, 1) := by decide +kernel
theorem dX7_setWhat_98 : decode cX7_setWhat 98 = .ok (.iconst 2, 1) := by decide +kernel
theorem dX7_setWhat_99 : decode cX7_setWhat 99 = .ok (.iload 5, 2) := by decide +kernel
theorem dX7_setWhat_101 : decode cX7_setWhat 101 = .ok (.iastore, 1) := by decide +kernel
theorem dX7_setWhat_102 : decode cX7_setWhat 102 = .ok (.dup, 1) := by decide +kernel
theorem dX7_setWhat_103 : decode cX7_setWhat 103 = .ok (.iconst 3, 1) := by decide +kernel
theorem dX7_setWhat_104 : decode cX7_setWhat 104 = .ok (.iload 6, 2) := by decide +kernel
theorem dX7_setWhat_106 : decode cX7_setWhat 106 = .ok (.iastore, 1) := by decide +kernel
theorem dX7_setWhat_107 : decode cX7_setWhat 107 = .ok (.astore 9, 2) := by decide +kernel
theorem dX7_setWhat_109 : decode cX7_setWhat 109 = .ok (.aload 9, 2) := by decide +kernel
theorem dX7_setWhat_111 : decode cX7_setWhat 111 = .ok (.iconst 0, 1) := by decide +kernel
theorem dX7_setWhat_112 : decode cX7_setWhat 112 = .ok (.aload_n 0, 1) := by decide +kernel
theorem dX7_setWhat_113 : decode cX7_setWhat 113 = .ok (.getfield 17, 3) := by decide +kernel
theorem dX7_setWhat_116 : decode cX7_setWhat 116 = .ok (.iload 7, 2) := by decide +kernel
theorem dX7_setWhat_118 : decode cX7_setWhat 118 = .ok (.iconst 4, 1) := by decide +kernel
theorem dX7_setWhat_119 : decode cX7_setWhat 119 = .ok (.invokestatic 54, 3) := by decide +kernel
theorem dX7_setWhat_122 : decode cX7_setWhat 122 = .ok (.iload 8, 2) := by decide +kernel
theorem dX7_setWhat_124 : decode cX7_setWhat 124 = .ok (.ireturn, 1) := by decide +kernel
set_option maxRecDepth 20000 in
theorem ggX7_dropHabit_X7_isHabit : GoodIn wsX7_dropHabit wsX7_isHabit := goodIn_r _ [11, 12, 13, 14, 10, 15, 16, 17, 18, 19, 20, 21, 22, 23, 24, 36, 37, 38, 39, 40, 41, 42, 43, 44, 45, 46, 47, 48, 49, 50] (by decide +kernel) (by decide +kernel)
set_option maxRecDepth 20000 in
theorem gX7_dropHabit_X7_isHabit : GoodIn wsX7_dropHabit (wsV RX7 67 RX7 yX7_isHabit wsX7_isHabit) := goodIn_app (goodIn_of _ (by decide +kernel)) ggX7_dropHabit_X7_isHabit
set_option maxRecDepth 20000 in
theorem ggX7_dropHabit_X7_fail : GoodIn wsX7_dropHabit wsX7_fail := goodIn_r _ [28, 1, 36, 37, 38, 39, 40, 41, 42, 43, 44, 45, 46, 47, 48, 49, 50] (by decide +kernel) (by decide +kernel)
set_option maxRecDepth 20000 in
theorem gX7_dropHabit_X7_fail : GoodIn wsX7_dropHabit (wsV RX7 50 RX7 yX7_fail wsX7_fail) := goodIn_app (goodIn_of _ (by decide +kernel)) ggX7_dropHabit_X7_fail
set_option maxRecDepth 20000 in
theorem ggX7_dropHabit_X7_get : GoodIn wsX7_dropHabit wsX7_get := goodIn_r _ [23, 24, 36, 37, 38, 39, 40, 41, 42, 43, 44, 45, 46, 47, 48, 49, 50] (by decide +kernel) (by decide +kernel)
set_option maxRecDepth 20000 in
theorem gX7_dropHabit_X7_get : GoodIn wsX7_dropHabit (wsV RX7 43 RX7 yX7_get wsX7_get) := goodIn_app (goodIn_of _ (by decide +kernel)) ggX7_dropHabit_X7_get
set_option maxRecDepth 20000 in
theorem ggX7_dropHabit_X7_at : GoodIn wsX7_dropHabit wsX7_at := goodIn_r _ [31] (by decide +kernel) (by decide +kernel)
set_option maxRecDepth 20000 in
theorem gX7_dropHabit_X7_at : GoodIn wsX7_dropHabit (va_wsS RX7 60 yX7_at wsX7_at) := goodIn_app (goodIn_of _ (by decide +kernel)) ggX7_dropHabit_X7_at
set_option maxRecDepth 20000 in
theorem ggX7_dropHabit_X7_set : GoodIn wsX7_dropHabit wsX7_set := goodIn_r _ [35, 24, 36, 37, 38, 39, 40, 41, 42, 43, 44, 45, 46, 47, 48, 49, 50] (by decide +kernel) (by decide +kernel)
set_option maxRecDepth 20000 in
theorem gX7_dropHabit_X7_set : GoodIn wsX7_dropHabit (wsV RX7 63 RX7 yX7_set wsX7_set) := goodIn_app (goodIn_of _ (by decide +kernel)) ggX7_dropHabit_X7_set
theorem dX7_dropHabit_0 : decode cX7_dropHabit 0 = .ok (.aload_n 0, 1) := by decide +kernel
theorem dX7_dropHabit_1 : decode cX7_dropHabit 1 = .ok (.iconst 0, 1) := by decide +kernel
theorem dX7_dropHabit_2 : decode cX7_dropHabit 2 = .ok (.putfield 29, 3) := by decide +kernel
theorem dX7_dropHabit_5 : decode cX7_dropHabit 5 = .ok (.aload_n 0, 1) := by decide +kernel
theorem dX7_dropHabit_6 : decode cX7_dropHabit 6 = .ok (.iload_n 1, 1) := by decide +kernel
theorem dX7_dropHabit_7 : decode cX7_dropHabit 7 = .ok (.iload_n 2, 1) := by decide +kernel
theorem dX7_dropHabit_8 : decode cX7_dropHabit 8 = .ok (.invokevirtual 67, 3) := by decide +kernel
theorem dX7_dropHabit_11 : decode cX7_dropHabit 11 = .ok (.ifCond .ne 9, 3) := by decide +kernel
theorem dX7_dropHabit_14 : decode cX7_dropHabit 14 = .ok (.aload_n 0, 1) := by decide +kernel
theorem dX7_dropHabit_15 : decode cX7_dropHabit 15 = .ok (.iconst 1, 1) := by decide +kernel
theorem dX7_dropHabit_16 : decode cX7_dropHabit 16 = .ok (.invokevirtual 50, 3) := by decide +kernel
theorem dX7_dropHabit_19 : decode cX7_dropHabit 19 = .ok (.ireturn, 1) := by decide +kernel
theorem dX7_dropHabit_20 : decode cX7_dropHabit 20 = .ok (.aload_n 0, 1) := by decide +kernel
theorem dX7_dropHabit_21 : decode cX7_dropHabit 21 = .ok (.iload_n 1, 1) := by decide +kernel
theorem dX7_dropHabit_22 : decode cX7_dropHabit 22 = .ok (.iconst 3, 1) := by decide +kernel
theorem dX7_dropHabit_23 : decode cX7_dropHabit 23 = .ok (.invokevirtual 43, 3) := by decide +kernel
theorem dX7_dropHabit_26 : decode cX7_dropHabit 26 = .ok (.iconst 1, 1) := by decide +kernel
theorem dX7_dropHabit_27 : decode cX7_dropHabit 27 = .ok (.isub, 1) := by decide +kernel
theorem dX7_dropHabit_28 : decode cX7_dropHabit 28 = .ok (.istore_n 3, 1) := by decide +kernel
theorem dX7_dropHabit_29 : decode cX7_dropHabit 29 = .ok (.aload_n 0, 1) := by decide +kernel
theorem dX7_dropHabit_30 : decode cX7_dropHabit 30 = .ok (.getfield 17, 3) := by decide +kernel
theorem dX7_dropHabit_33 : decode cX7_dropHabit 33 = .ok (.iload_n 1, 1) := by decide +kernel
theorem dX7_dropHabit_34 : decode cX7_dropHabit 34 = .ok (.iload_n 2, 1) := by decide +kernel
theorem dX7_dropHabit_35 : decode cX7_dropHabit 35 = .ok (.iconst 1, 1) := by decide +kernel
theorem dX7_dropHabit_36 : decode cX7_dropHabit 36 = .ok (.iadd, 1) := by decide +kernel
theorem dX7_dropHabit_37 : decode cX7_dropHabit 37 = .ok (.invokestatic 60, 3) := by decide +kernel
theorem dX7_dropHabit_40 : decode cX7_dropHabit 40 = .ok (.aload_n 0, 1) := by decide +kernel
theorem dX7_dropHabit_41 : decode cX7_dropHabit 41 = .ok (.getfield 17, 3) := by decide +kernel
theorem dX7_dropHabit_44 : decode cX7_dropHabit 44 = .ok (.iload_n 1, 1) := by decide +kernel
theorem dX7_dropHabit_45 : decode cX7_dropHabit 45 = .ok (.iload_n 2, 1) := by decide +kernel
theorem dX7_dropHabit_46 : decode cX7_dropHabit 46 = .ok (.invokestatic 60, 3) := by decide +kernel
theorem dX7_dropHabit_49 : decode cX7_dropHabit 49 = .ok (.bipush 9, 2) := by decide +kernel
theorem dX7_dropHabit_51 : decode cX7_dropHabit 51 = .ok (.iload_n 3, 1) := by decide +kernel
theorem dX7_dropHabit_52 : decode cX7_dropHabit 52 = .ok (.iload_n 2, 1) := by decide +kernel
theorem dX7_dropHabit_53 : decode cX7_dropHabit 53 = .ok (.isub, 1) := by decide +kernel
theorem dX7_dropHabit_54 : decode cX7_dropHabit 54 = .ok (.imul, 1) := by decide +kernel
theorem dX7_dropHabit_55 : decode cX7_dropHabit 55 = .ok (.invokestatic 54, 3) := by decide +kernel
theorem dX7_dropHabit_58 : decode cX7_dropHabit 58 = .ok (.aload_n 0, 1) := by decide +kernel
theorem dX7_dropHabit_59 : decode cX7_dropHabit 59 = .ok (.iload_n 1, 1) := by decide +kernel
theorem dX7_dropHabit_60 : decode cX7_dropHabit 60 = .ok (.iconst 3, 1) := by decide +kernel
theorem dX7_dropHabit_61 : decode cX7_dropHabit 61 = .ok (.iload_n 3, 1) := by decide +kernel
theorem dX7_dropHabit_62 : decode cX7_dropHabit 62 = .ok (.invokevirtual 63, 3) := by decide +kernel
theorem dX7_dropHabit_65 : decode cX7_dropHabit 65 = .ok (.iload_n 3, 1) := by decide +kernel
theorem dX7_dropHabit_66 : decode cX7_dropHabit 66 = .ok (.ireturn, 1) := by decide +kernel
set_option maxRecDepth 20000 in
theorem ggX7_tenant_X7_isTenant : GoodIn wsX7_tenant wsX7_isTenant := goodIn_r _ [6, 7, 8, 9, 5, 10, 20, 21, 22, 23, 24, 25, 26, 27, 28, 29, 30, 31, 32, 33, 34] (by decide +kernel) (by decide +kernel)
set_option maxRecDepth 20000 in
theorem gX7_tenant_X7_isTenant : GoodIn wsX7_tenant (wsV RX7 39 RX7 yX7_isTenant wsX7_isTenant) := goodIn_app (goodIn_of _ (by decide +kernel)) ggX7_tenant_X7_isTenant
set_option maxRecDepth 20000 in
theorem ggX7_tenant_X7_isIn : GoodIn wsX7_tenant wsX7_isIn := goodIn_r _ [10] (by decide +kernel) (by decide +kernel)
set_option maxRecDepth 20000 in
theorem gX7_tenant_X7_isIn : GoodIn wsX7_tenant (va_wsS RX7 35 yX7_isIn wsX7_isIn) := goodIn_app (goodIn_of _ (by decide +kernel)) ggX7_tenant_X7_isIn
set_option maxRecDepth 20000 in
theorem ggX7_tenant_X7_get : GoodIn wsX7_tenant wsX7_get := goodIn_r _ [14, 15, 20, 21, 22, 23, 24, 25, 26, 27, 28, 29, 30, 31, 32, 33, 34] (by decide +kernel) (by decide +kernel)
set_option maxRecDepth 20000 in
theorem gX7_tenant_X7_get : GoodIn wsX7_tenant (wsV RX7 43 RX7 yX7_get wsX7_get) := goodIn_app (goodIn_of _ (by decide +kernel)) ggX7_tenant_X7_get
set_option maxRecDepth 20000 in
theorem ggX7_tenant_X7_fail : GoodIn wsX7_tenant wsX7_fail := goodIn_r _ [19, 1, 20, 21, 22, 23, 24, 25, 26, 27, 28, 29, 30, 31, 32, 33, 34] (by decide +kernel) (by decide +kernel)
set_option maxRecDepth 20000 in
theorem gX7_tenant_X7_fail : GoodIn wsX7_tenant (wsV RX7 50 RX7 yX7_fail wsX7_fail) := goodIn_app (goodIn_of _ (by decide +kernel)) ggX7_tenant_X7_fail
theorem dX7_tenant_0 : decode cX7_tenant 0 = .ok (.aload_n 0, 1) := by decide +kernel
theorem dX7_tenant_1 : decode cX7_tenant 1 = .ok (.iconst 0, 1) := by decide +kernel
theorem dX7_tenant_2 : decode cX7_tenant 2 = .ok (.putfield 29, 3) := by decide +kernel
theorem dX7_tenant_5 : decode cX7_tenant 5 = .ok (.aload_n 0, 1) := by decide +kernel
theorem dX7_tenant_6 : decode cX7_tenant 6 = .ok (.iload_n 1, 1) := by decide +kernel
theorem dX7_tenant_7 : decode cX7_tenant 7 = .ok (.invokevirtual 39, 3) := by decide +kernel
theorem dX7_tenant_10 : decode cX7_tenant 10 = .ok (.ifCond .eq 21, 3) := by decide +kernel
theorem dX7_tenant_13 : decode cX7_tenant 13 = .ok (.iload_n 2, 1) := by decide +kernel
theorem dX7_tenant_14 : decode cX7_tenant 14 = .ok (.iconst 0, 1) := by decide +kernel
theorem dX7_tenant_15 : decode cX7_tenant 15 = .ok (.iconst 5, 1) := by decide +kernel
theorem dX7_tenant_16 : decode cX7_tenant 16 = .ok (.invokestatic 35, 3) := by decide +kernel
theorem dX7_tenant_19 : decode cX7_tenant 19 = .ok (.ifCond .eq 12, 3) := by decide +kernel
theorem dX7_tenant_22 : decode cX7_tenant 22 = .ok (.aload_n 0, 1) := by decide +kernel
theorem dX7_tenant_23 : decode cX7_tenant 23 = .ok (.iload_n 1, 1) := by decide +kernel
theorem dX7_tenant_24 : decode cX7_tenant 24 = .ok (.iload_n 2, 1) := by decide +kernel
theorem dX7_tenant_25 : decode cX7_tenant 25 = .ok (.invokevirtual 43, 3) := by decide +kernel
theorem dX7_tenant_28 : decode cX7_tenant 28 = .ok (.goto 8, 3) := by decide +kernel
theorem dX7_tenant_31 : decode cX7_tenant 31 = .ok (.aload_n 0, 1) := by decide +kernel
theorem dX7_tenant_32 : decode cX7_tenant 32 = .ok (.iconst 1, 1) := by decide +kernel
theorem dX7_tenant_33 : decode cX7_tenant 33 = .ok (.invokevirtual 50, 3) := by decide +kernel
theorem dX7_tenant_36 : decode cX7_tenant 36 = .ok (.ireturn, 1) := by decide +kernel
set_option maxRecDepth 20000 in
theorem ggX7_habit_X7_isHabit : GoodIn wsX7_habit wsX7_isHabit := goodIn_r _ [7, 8, 9, 10, 6, 11, 12, 13, 14, 15, 16, 17, 18, 19, 20, 28, 29, 30, 31, 32, 33, 34, 35, 36, 37, 38, 39, 40, 41, 42] (by decide +kernel) (by decide +kernel)
set_option maxRecDepth 20000 in
theorem gX7_habit_X7_isHabit : GoodIn wsX7_habit (wsV RX7 67 RX7 yX7_isHabit wsX7_isHabit) := goodIn_app (goodIn_of _ (by decide +kernel)) ggX7_habit_X7_isHabit
set_option maxRecDepth 20000 in
theorem ggX7_habit_X7_isIn : GoodIn wsX7_habit wsX7_isIn := goodIn_r _ [15] (by decide +kernel) (by decide +kernel)
set_option maxRecDepth 20000 in
theorem gX7_habit_X7_isIn : GoodIn wsX7_habit (va_wsS RX7 35 yX7_isIn wsX7_isIn) := goodIn_app (goodIn_of _ (by decide +kernel)) ggX7_habit_X7_isIn
set_option maxRecDepth 20000 in
theorem ggX7_habit_X7_at : GoodIn wsX7_habit wsX7_at := goodIn_r _ [23] (by decide +kernel) (by decide +kernel)
set_option maxRecDepth 20000 in
theorem gX7_habit_X7_at : GoodIn wsX7_habit (va_wsS RX7 60 yX7_at wsX7_at) := goodIn_app (goodIn_of _ (by decide +kernel)) ggX7_habit_X7_at
set_option maxRecDepth 20000 in
theorem ggX7_habit_X7_fail : GoodIn wsX7_habit wsX7_fail := goodIn_r _ [27, 1, 28, 29, 30, 31, 32, 33, 34, 35, 36, 37, 38, 39, 40, 41, 42] (by decide +kernel) (by decide +kernel)
set_option maxRecDepth 20000 in
theorem gX7_habit_X7_fail : GoodIn wsX7_habit (wsV RX7 50 RX7 yX7_fail wsX7_fail) := goodIn_app (goodIn_of _ (by decide +kernel)) ggX7_habit_X7_fail
theorem dX7_habit_0 : decode cX7_habit 0 = .ok (.aload_n 0, 1) := by decide +kernel
theorem dX7_habit_1 : decode cX7_habit 1 = .ok (.iconst 0, 1) := by decide +kernel
theorem dX7_habit_2 : decode cX7_habit 2 = .ok (.putfield 29, 3) := by decide +kernel
theorem dX7_habit_5 : decode cX7_habit 5 = .ok (.aload_n 0, 1) := by decide +kernel
theorem dX7_habit_6 : decode cX7_habit 6 = .ok (.iload_n 1, 1) := by decide +kernel
theorem dX7_habit_7 : decode cX7_habit 7 = .ok (.iload_n 2, 1) := by decide +kernel
theorem dX7_habit_8 : decode cX7_habit 8 = .ok (.invokevirtual 67, 3) := by decide +kernel
theorem dX7_habit_11 : decode cX7_habit 11 = .ok (.ifCond .eq 28, 3) := by decide +kernel
theorem dX7_habit_14 : decode cX7_habit 14 = .ok (.iload_n 3, 1) := by decide +kernel
theorem dX7_habit_15 : decode cX7_habit 15 = .ok (.iconst 0, 1) := by decide +kernel
theorem dX7_habit_16 : decode cX7_habit 16 = .ok (.bipush 8, 2) := by decide +kernel
theorem dX7_habit_18 : decode cX7_habit 18 = .ok (.invokestatic 35, 3) := by decide +kernel
theorem dX7_habit_21 : decode cX7_habit 21 = .ok (.ifCond .eq 18, 3) := by decide +kernel
theorem dX7_habit_24 : decode cX7_habit 24 = .ok (.aload_n 0, 1) := by decide +kernel
theorem dX7_habit_25 : decode cX7_habit 25 = .ok (.getfield 17, 3) := by decide +kernel
theorem dX7_habit_28 : decode cX7_habit 28 = .ok (.iload_n 1, 1) := by decide +kernel
theorem dX7_habit_29 : decode cX7_habit 29 = .ok (.iload_n 2, 1) := by decide +kernel
theorem dX7_habit_30 : decode cX7_habit 30 = .ok (.invokestatic 60, 3) := by decide +kernel
theorem dX7_habit_33 : decode cX7_habit 33 = .ok (.iload_n 3, 1) := by decide +kernel
theorem dX7_habit_34 : decode cX7_habit 34 = .ok (.iadd, 1) := by decide +kernel
theorem dX7_habit_35 : decode cX7_habit 35 = .ok (.iaload, 1) := by decide +kernel
theorem dX7_habit_36 : decode cX7_habit 36 = .ok (.goto 8, 3) := by decide +kernel
theorem dX7_habit_39 : decode cX7_habit 39 = .ok (.aload_n 0, 1) := by decide +kernel
theorem dX7_habit_40 : decode cX7_habit 40 = .ok (.iconst 1, 1) := by decide +kernel
theorem dX7_habit_41 : decode cX7_habit 41 = .ok (.invokevirtual 50, 3) := by decide +kernel
theorem dX7_habit_44 : decode cX7_habit 44 = .ok (.ireturn, 1) := by decide +kernel
set_option maxRecDepth 20000 in
theorem ggX7_fitting_X7_get : GoodIn wsX7_fitting wsX7_get := goodIn_r _ [6, 7, 14, 15, 16, 17, 18, 19, 20, 21, 22, 23, 24, 25, 26, 27, 28] (by decide +kernel) (by decide +kernel)
set_option maxRecDepth 20000 in
theorem gX7_fitting_X7_get : GoodIn wsX7_fitting (wsV RX7 43 RX7 yX7_get wsX7_get) := goodIn_app (goodIn_of _ (by decide +kernel)) ggX7_fitting_X7_get
set_option maxRecDepth 20000 in
theorem ggX7_fitting_X7_at : GoodIn wsX7_fitting wsX7_at := goodIn_r _ [10] (by decide +kernel) (by decide +kernel)
set_option maxRecDepth 20000 in
theorem gX7_fitting_X7_at : GoodIn wsX7_fitting (va_wsS RX7 60 yX7_at wsX7_at) := goodIn_app (goodIn_of _ (by decide +kernel)) ggX7_fitting_X7_at
set_option maxRecDepth 20000 in
theorem ggX7_fitting_X7_isIn : GoodIn wsX7_fitting wsX7_isIn := goodIn_r _ [13] (by decide +kernel) (by decide +kernel)
set_option maxRecDepth 20000 in
theorem gX7_fitting_X7_isIn : GoodIn wsX7_fitting (va_wsS RX7 35 yX7_isIn wsX7_isIn) := goodIn_app (goodIn_of _ (by decide +kernel)) ggX7_fitting_X7_isIn
theorem dX7_fitting_0 : decode cX7_fitting 0 = .ok (.iconst 0, 1) := by decide +kernel
theorem dX7_fitting_1 : decode cX7_fitting 1 = .ok (.istore 4, 2) := by decide +kernel
theorem dX7_fitting_3 : decode cX7_fitting 3 = .ok (.iload 4, 2) := by decide +kernel
theorem dX7_fitting_5 : decode cX7_fitting 5 = .ok (.aload_n 0, 1) := by decide +kernel
theorem dX7_fitting_6 : decode cX7_fitting 6 = .ok (.iload_n 1, 1) := by decide +kernel
theorem dX7_fitting_7 : decode cX7_fitting 7 = .ok (.iconst 3, 1) := by decide +kernel
theorem dX7_fitting_8 : decode cX7_fitting 8 = .ok (.invokevirtual 43, 3) := by decide +kernel
theorem dX7_fitting_11 : decode cX7_fitting 11 = .ok (.if_icmp .ge 133, 3) := by decide +kernel
theorem dX7_fitting_14 : decode cX7_fitting 14 = .ok (.aload_n 0, 1) := by decide +kernel
theorem dX7_fitting_15 : decode cX7_fitting 15 = .ok (.getfield 17, 3) := by decide +kernel
theorem dX7_fitting_18 : decode cX7_fitting 18 = .ok (.iload_n 1, 1) := by decide +kernel
theorem dX7_fitting_19 : decode cX7_fitting 19 = .ok (.iload 4, 2) := by decide +kernel
theorem dX7_fitting_21 : decode cX7_fitting 21 = .ok (.invokestatic 60, 3) := by decide +kernel
theorem dX7_fitting_24 : decode cX7_fitting 24 = .ok (.iconst 0, 1) := by decide +kernel
theorem dX7_fitting_25 : decode cX7_fitting 25 = .ok (.iadd, 1) := by decide +kernel
theorem dX7_fitting_26 : decode cX7_fitting 26 = .ok (.iaload, 1) := by decide +kernel
theorem dX7_fitting_27 : decode cX7_fitting 27 = .ok (.istore 5, 2) := by decide +kernel
theorem dX7_fitting_29 : decode cX7_fitting 29 = .ok (.aload_n 0, 1) := by decide +kernel
theorem dX7_fitting_30 : decode cX7_fitting 30 = .ok (.getfield 17, 3) := by decide +kernel
theorem dX7_fitting_33 : decode cX7_fitting 33 = .ok (.iload_n 1, 1) := by decide +kernel
theorem dX7_fitting_34 : decode cX7_fitting 34 = .ok (.iload 4, 2) := by decide +kernel
theorem dX7_fitting_36 : decode cX7_fitting 36 = .ok (.invokestatic 60, 3) := by decide +kernel
theorem dX7_fitting_39 : decode cX7_fitting 39 = .ok (.iconst 1, 1) := by decide +kernel
theorem dX7_fitting_40 : decode cX7_fitting 40 = .ok (.iadd, 1) := by decide +kernel
theorem dX7_fitting_41 : decode cX7_fitting 41 = .ok (.iaload, 1) := by decide +kernel
theorem dX7_fitting_42 : decode cX7_fitting 42 = .ok (.istore 6, 2) := by decide +kernel
theorem dX7_fitting_44 : decode cX7_fitting 44 = .ok (.iload 5, 2) := by decide +kernel
theorem dX7_fitting_46 : decode cX7_fitting 46 = .ok (.iload 6, 2) := by decide +kernel
theorem dX7_fitting_48 : decode cX7_fitting 48 = .ok (.if_icmp .gt 14, 3) := by decide +kernel
theorem dX7_fitting_51 : decode cX7_fitting 51 = .ok (.iload_n 3, 1) := by decide +kernel
theorem dX7_fitting_52 : decode cX7_fitting 52 = .ok (.iload 5, 2) := by decide +kernel
theorem dX7_fitting_54 : decode cX7_fitting 54 = .ok (.iload 6, 2) := by decide +kernel
theorem dX7_fitting_56 : decode cX7_fitting 56 = .ok (.invokestatic 35, 3) := by decide +kernel
theorem dX7_fitting_59 : decode cX7_fitting 59 = .ok (.goto 20, 3) := by decide +kernel
theorem dX7_fitting_62 : decode cX7_fitting 62 = .ok (.iload_n 3, 1) := by decide +kernel
theorem dX7_fitting_63 : decode cX7_fitting 63 = .ok (.iload 5, 2) := by decide +kernel
theorem dX7_fitting_65 : decode cX7_fitting 65 = .ok (.if_icmp .ge 9, 3) := by decide +kernel
theorem dX7_fitting_68 : decode cX7_fitting 68 = .ok (.iload_n 3, 1) := by decide +kernel
theorem dX7_fitting_69 : decode cX7_fitting 69 = .ok (.iload 6, 2) := by decide +kernel
theorem dX7_fitting_71 : decode cX7_fitting 71 = .ok (.if_icmp .gt 7, 3) := by decide +kernel
theorem dX7_fitting_74 : decode cX7_fitting 74 = .ok (.iconst 1, 1) := by decide +kernel
theorem dX7_fitting_75 : decode cX7_fitting 75 = .ok (.goto 4, 3) := by decide +kernel
theorem dX7_fitting_78 : decode cX7_fitting 78 = .ok (.iconst 0, 1) := by decide +kernel
theorem dX7_fitting_79 : decode cX7_fitting 79 = .ok (.istore 7, 2) := by decide +kernel
theorem dX7_fitting_81 : decode cX7_fitting 81 = .ok (.aload_n 0, 1) := by decide +kernel
theorem dX7_fitting_82 : decode cX7_fitting 82 = .ok (.getfield 17, 3) := by decide +kernel
theorem dX7_fitting_85 : decode cX7_fitting 85 = .ok (.iload_n 1, 1) := by decide +kernel
theorem dX7_fitting_86 : decode cX7_fitting 86 = .ok (.iload 4, 2) := by decide +kernel
theorem dX7_fitting_88 : decode cX7_fitting 88 = .ok (.invokestatic 60, 3) := by decide +kernel
theorem dX7_fitting_91 : decode cX7_fitting 91 = .ok (.iconst 2, 1) := by decide +kernel
theorem dX7_fitting_92 : decode cX7_fitting 92 = .ok (.iadd, 1) := by decide +kernel
theorem dX7_fitting_93 : decode cX7_fitting 93 = .ok (.iaload, 1) := by decide +kernel
theorem dX7_fitting_94 : decode cX7_fitting 94 = .ok (.istore 8, 2) := by decide +kernel
theorem dX7_fitting_96 : decode cX7_fitting 96 = .ok (.iload 7, 2) := by decide +kernel
theorem dX7_fitting_98 : decode cX7_fitting 98 = .ok (.ifCond .eq 40, 3) := by decide +kernel
theorem dX7_fitting_101 : decode cX7_fitting 101 = .ok (.iload 8, 2) := by decide +kernel
theorem dX7_fitting_103 : decode cX7_fitting 103 = .ok (.iconst 2, 1) := by decide +kernel
theorem dX7_fitting_104 : decode cX7_fitting 104 = .ok (.if_icmp .eq 9, 3) := by decide +kernel
theorem dX7_fitting_107 : decode cX7_fitting 107 = .ok (.iload 8, 2) := by decide +kernel
theorem dX7_fitting_109 : decode cX7_fitting 109 = .ok (.iload_n 2, 1) := by decide +kernel
theorem dX7_fitting_110 : decode cX7_fitting 110 = .ok (.if_icmp .ne 28, 3) := by decide +kernel
theorem dX7_fitting_113 : decode cX7_fitting 113 = .ok (.aload_n 0, 1) := by decide +kernel
theorem dX7_fitting_114 : decode cX7_fitting 114 = .ok (.iload_n 1, 1) := by decide +kernel
theorem dX7_fitting_115 : decode cX7_fitting 115 = .ok (.iconst 2, 1) := by decide +kernel
theorem dX7_fitting_116 : decode cX7_fitting 116 = .ok (.invokevirtual 43, 3) := by decide +kernel
theorem dX7_fitting_119 : decode cX7_fitting 119 = .ok (.aload_n 0, 1) := by decide +kernel
theorem dX7_fitting_120 : decode cX7_fitting 120 = .ok (.getfield 17, 3) := by decide +kernel
theorem dX7_fitting_123 : decode cX7_fitting 123 = .ok (.iload_n 1, 1) := by decide +kernel
theorem dX7_fitting_124 : decode cX7_fitting 124 = .ok (.iload 4, 2) := by decide +kernel
theorem dX7_fitting_126 : decode cX7_fitting 126 = .ok (.invokestatic 60, 3) := by decide +kernel
theorem dX7_fitting_129 : decode cX7_fitting 129 = .ok (.iconst 3, 1) := by decide +kernel
theorem dX7_fitting_130 : decode cX7_fitting 130 = .ok (.iadd, 1) := by decide +kernel
theorem dX7_fitting_131 : decode cX7_fitting 131 = .ok (.iaload, 1) := by decide +kernel
theorem dX7_fitting_132 : decode cX7_fitting 132 = .ok (.if_icmp .lt 6, 3) := by decide +kernel
theorem dX7_fitting_135 : decode cX7_fitting 135 = .ok (.iload 4, 2) := by decide +kernel
theorem dX7_fitting_137 : decode cX7_fitting 137 = .ok (.ireturn, 1) := by decide +kernel
theorem dX7_fitting_138 : decode cX7_fitting 138 = .ok (.iinc 4 1, 3) := by decide +kernel
theorem dX7_fitting_141 : decode cX7_fitting 141 = .ok (.goto (-138), 3) := by decide +kernel
theorem dX7_fitting_144 : decode cX7_fitting 144 = .ok (.iconst (-1), 1) := by decide +kernel
theorem dX7_fitting_145 : decode cX7_fitting 145 = .ok (.ireturn, 1) := by decide +kernel
theorem dX7_comeToWait_0 : decode cX7_comeToWait 0 = .ok (.aload_n 0, 1) := by decide +kernel
theorem dX7_comeToWait_1 : decode cX7_comeToWait 1 = .ok (.getfield 71, 3) := by decide +kernel
theorem dX7_comeToWait_4 : decode cX7_comeToWait 4 = .ok (.bipush 60, 2) := by decide +kernel
theorem dX7_comeToWait_6 : decode cX7_comeToWait 6 = .ok (.if_icmp .ne 14, 3) := by decide +kernel
theorem dX7_comeToWait_9 : decode cX7_comeToWait 9 = .ok (.aload_n 0, 1) := by decide +kernel
theorem dX7_comeToWait_10 : decode cX7_comeToWait 10 = .ok (.dup, 1) := by decide +kernel
theorem dX7_comeToWait_11 : decode cX7_comeToWait 11 = .ok (.getfield 74, 3) := by decide +kernel
theorem dX7_comeToWait_14 : decode cX7_comeToWait 14 = .ok (.iconst 1, 1) := by decide +kernel
theorem dX7_comeToWait_15 : decode cX7_comeToWait 15 = .ok (.iadd, 1) := by decide +kernel
theorem dX7_comeToWait_16 : decode cX7_comeToWait 16 = .ok (.putfield 74, 3) := by decide +kernel
theorem dX7_comeToWait_19 : decode cX7_comeToWait 19 = .ok (.return_, 1) := by decide +kernel
theorem dX7_comeToWait_20 : decode cX7_comeToWait 20 = .ok (.aload_n 1, 1) := by decide +kernel
theorem dX7_comeToWait_21 : decode cX7_comeToWait 21 = .ok (.iconst 0, 1) := by decide +kernel
theorem dX7_comeToWait_22 : decode cX7_comeToWait 22 = .ok (.iaload, 1) := by decide +kernel
theorem dX7_comeToWait_23 : decode cX7_comeToWait 23 = .ok (.iload_n 3, 1) := by decide +kernel
theorem dX7_comeToWait_24 : decode cX7_comeToWait 24 = .ok (.iadd, 1) := by decide +kernel
theorem dX7_comeToWait_25 : decode cX7_comeToWait 25 = .ok (.istore 5, 2) := by decide +kernel
theorem dX7_comeToWait_27 : decode cX7_comeToWait 27 = .ok (.aload_n 0, 1) := by decide +kernel
theorem dX7_comeToWait_28 : decode cX7_comeToWait 28 = .ok (.getfield 71, 3) := by decide +kernel
theorem dX7_comeToWait_31 : decode cX7_comeToWait 31 = .ok (.istore 6, 2) := by decide +kernel
theorem dX7_comeToWait_33 : decode cX7_comeToWait 33 = .ok (.iload 6, 2) := by decide +kernel
theorem dX7_comeToWait_35 : decode cX7_comeToWait 35 = .ok (.ifCond .le 61, 3) := by decide +kernel
theorem dX7_comeToWait_38 : decode cX7_comeToWait 38 = .ok (.aload_n 0, 1) := by decide +kernel
theorem dX7_comeToWait_39 : decode cX7_comeToWait 39 = .ok (.getfield 20, 3) := by decide +kernel
theorem dX7_comeToWait_42 : decode cX7_comeToWait 42 = .ok (.bipush 14, 2) := by decide +kernel
theorem dX7_comeToWait_44 : decode cX7_comeToWait 44 = .ok (.iload 6, 2) := by decide +kernel
theorem dX7_comeToWait_46 : decode cX7_comeToWait 46 = .ok (.iconst 1, 1) := by decide +kernel
theorem dX7_comeToWait_47 : decode cX7_comeToWait 47 = .ok (.isub, 1) := by decide +kernel
theorem dX7_comeToWait_48 : decode cX7_comeToWait 48 = .ok (.imul, 1) := by decide +kernel
theorem dX7_comeToWait_49 : decode cX7_comeToWait 49 = .ok (.iaload, 1) := by decide +kernel
theorem dX7_comeToWait_50 : decode cX7_comeToWait 50 = .ok (.iload 5, 2) := by decide +kernel
theorem dX7_comeToWait_52 : decode cX7_comeToWait 52 = .ok (.if_icmp .gt 38, 3) := by decide +kernel
theorem dX7_comeToWait_55 : decode cX7_comeToWait 55 = .ok (.aload_n 0, 1) := by decide +kernel
theorem dX7_comeToWait_56 : decode cX7_comeToWait 56 = .ok (.getfield 20, 3) := by decide +kernel
theorem dX7_comeToWait_59 : decode cX7_comeToWait 59 = .ok (.bipush 14, 2) := by decide +kernel
theorem dX7_comeToWait_61 : decode cX7_comeToWait 61 = .ok (.iload 6, 2) := by decide +kernel
theorem dX7_comeToWait_63 : decode cX7_comeToWait 63 = .ok (.iconst 1, 1) := by decide +kernel
theorem dX7_comeToWait_64 : decode cX7_comeToWait 64 = .ok (.isub, 1) := by decide +kernel
theorem dX7_comeToWait_65 : decode cX7_comeToWait 65 = .ok (.imul, 1) := by decide +kernel
theorem dX7_comeToWait_66 : decode cX7_comeToWait 66 = .ok (.iaload, 1) := by decide +kernel
theorem dX7_comeToWait_67 : decode cX7_comeToWait 67 = .ok (.iload 5, 2) := by decide +kernel
theorem dX7_comeToWait_69 : decode cX7_comeToWait 69 = .ok (.if_icmp .ne 27, 3) := by decide +kernel
theorem dX7_comeToWait_72 : decode cX7_comeToWait 72 = .ok (.aload_n 0, 1) := by decide +kernel
theorem dX7_comeToWait_73 : decode cX7_comeToWait 73 = .ok (.getfield 20, 3) := by decide +kernel
theorem dX7_comeToWait_76 : decode cX7_comeToWait 76 = .ok (.bipush 14, 2) := by decide +kernel
theorem dX7_comeToWait_78 : decode cX7_comeToWait 78 = .ok (.iload 6, 2) := by decide +kernel
theorem dX7_comeToWait_80 : decode cX7_comeToWait 80 = .ok (.iconst 1, 1) := by decide +kernel
theorem dX7_comeToWait_81 : decode cX7_comeToWait 81 = .ok (.isub, 1) := by decide +kernel
theorem dX7_comeToWait_82 : decode cX7_comeToWait 82 = .ok (.imul, 1) := by decide +kernel
theorem dX7_comeToWait_83 : decode cX7_comeToWait 83 = .ok (.iconst 1, 1) := by decide +kernel
theorem dX7_comeToWait_84 : decode cX7_comeToWait 84 = .ok (.iadd, 1) := by decide +kernel
theorem dX7_comeToWait_85 : decode cX7_comeToWait 85 = .ok (.iaload, 1) := by decide +kernel
theorem dX7_comeToWait_86 : decode cX7_comeToWait 86 = .ok (.iload_n 2, 1) := by decide +kernel
theorem dX7_comeToWait_87 : decode cX7_comeToWait 87 = .ok (.if_icmp .le 9, 3) := by decide +kernel
theorem dX7_comeToWait_90 : decode cX7_comeToWait 90 = .ok (.iinc 6 (-1), 3) := by decide +kernel
theorem dX7_comeToWait_93 : decode cX7_comeToWait 93 = .ok (.goto (-60), 3) := by decide +kernel
theorem dX7_comeToWait_96 : decode cX7_comeToWait 96 = .ok (.aload_n 0, 1) := by decide +kernel
theorem dX7_comeToWait_97 : decode cX7_comeToWait 97 = .ok (.getfield 20, 3) := by decide +kernel
theorem dX7_comeToWait_100 : decode cX7_comeToWait 100 = .ok (.bipush 14, 2) := by decide +kernel
theorem dX7_comeToWait_102 : decode cX7_comeToWait 102 = .ok (.iload 6, 2) := by decide +kernel
theorem dX7_comeToWait_104 : decode cX7_comeToWait 104 = .ok (.imul, 1) := by decide +kernel
theorem dX7_comeToWait_105 : decode cX7_comeToWait 105 = .ok (.aload_n 0, 1) := by decide +kernel
theorem dX7_comeToWait_106 : decode cX7_comeToWait 106 = .ok (.getfield 20, 3) := by decide +kernel
theorem dX7_comeToWait_109 : decode cX7_comeToWait 109 = .ok (.bipush 14, 2) := by decide +kernel
theorem dX7_comeToWait_111 : decode cX7_comeToWait 111 = .ok (.iload 6, 2) := by decide +kernel
theorem dX7_comeToWait_113 : decode cX7_comeToWait 113 = .ok (.iconst 1, 1) := by decide +kernel
theorem dX7_comeToWait_114 : decode cX7_comeToWait 114 = .ok (.iadd, 1) := by decide +kernel
theorem dX7_comeToWait_115 : decode cX7_comeToWait 115 = .ok (.imul, 1) := by decide +kernel
theorem dX7_comeToWait_116 : decode cX7_comeToWait 116 = .ok (.bipush 14, 2) := by decide +kernel
theorem dX7_comeToWait_118 : decode cX7_comeToWait 118 = .ok (.aload_n 0, 1) := by decide +kernel
theorem dX7_comeToWait_119 : decode cX7_comeToWait 119 = .ok (.getfield 71, 3) := by decide +kernel
theorem dX7_comeToWait_122 : decode cX7_comeToWait 122 = .ok (.iload 6, 2) := by decide +kernel
theorem dX7_comeToWait_124 : decode cX7_comeToWait 124 = .ok (.isub, 1) := by decide +kernel
theorem dX7_comeToWait_125 : decode cX7_comeToWait 125 = .ok (.imul, 1) := by decide +kernel
theorem dX7_comeToWait_126 : decode cX7_comeToWait 126 = .ok (.invokestatic 54, 3) := by decide +kernel
theorem dX7_comeToWait_129 : decode cX7_comeToWait 129 = .ok (.aload_n 1, 1) := by decide +kernel
theorem dX7_comeToWait_130 : decode cX7_comeToWait 130 = .ok (.iconst 0, 1) := by decide +kernel
theorem dX7_comeToWait_131 : decode cX7_comeToWait 131 = .ok (.aload_n 0, 1) := by decide +kernel
theorem dX7_comeToWait_132 : decode cX7_comeToWait 132 = .ok (.getfield 20, 3) := by decide +kernel
theorem dX7_comeToWait_135 : decode cX7_comeToWait 135 = .ok (.bipush 14, 2) := by decide +kernel
theorem dX7_comeToWait_137 : decode cX7_comeToWait 137 = .ok (.iload 6, 2) := by decide +kernel
theorem dX7_comeToWait_139 : decode cX7_comeToWait 139 = .ok (.imul, 1) := by decide +kernel
theorem dX7_comeToWait_140 : decode cX7_comeToWait 140 = .ok (.bipush 14, 2) := by decide +kernel
theorem dX7_comeToWait_142 : decode cX7_comeToWait 142 = .ok (.invokestatic 54, 3) := by decide +kernel
theorem dX7_comeToWait_145 : decode cX7_comeToWait 145 = .ok (.aload_n 0, 1) := by decide +kernel
theorem dX7_comeToWait_146 : decode cX7_comeToWait 146 = .ok (.getfield 20, 3) := by decide +kernel
theorem dX7_comeToWait_149 : decode cX7_comeToWait 149 = .ok (.bipush 14, 2) := by decide +kernel
theorem dX7_comeToWait_151 : decode cX7_comeToWait 151 = .ok (.iload 6, 2) := by decide +kernel
theorem dX7_comeToWait_153 : decode cX7_comeToWait 153 = .ok (.imul, 1) := by decide +kernel
theorem dX7_comeToWait_154 : decode cX7_comeToWait 154 = .ok (.iload 5, 2) := by decide +kernel
theorem dX7_comeToWait_156 : decode cX7_comeToWait 156 = .ok (.iastore, 1) := by decide +kernel
theorem dX7_comeToWait_157 : decode cX7_comeToWait 157 = .ok (.aload_n 0, 1) := by decide +kernel
theorem dX7_comeToWait_158 : decode cX7_comeToWait 158 = .ok (.getfield 20, 3) := by decide +kernel
theorem dX7_comeToWait_161 : decode cX7_comeToWait 161 = .ok (.bipush 14, 2) := by decide +kernel
theorem dX7_comeToWait_163 : decode cX7_comeToWait 163 = .ok (.iload 6, 2) := by decide +kernel
theorem dX7_comeToWait_165 : decode cX7_comeToWait 165 = .ok (.imul, 1) := by decide +kernel
theorem dX7_comeToWait_166 : decode cX7_comeToWait 166 = .ok (.iconst 1, 1) := by decide +kernel
theorem dX7_comeToWait_167 : decode cX7_comeToWait 167 = .ok (.iadd, 1) := by decide +kernel
theorem dX7_comeToWait_168 : decode cX7_comeToWait 168 = .ok (.iload_n 2, 1) := by decide +kernel
theorem dX7_comeToWait_169 : decode cX7_comeToWait 169 = .ok (.iastore, 1) := by decide +kernel
theorem dX7_comeToWait_170 : decode cX7_comeToWait 170 = .ok (.aload_n 0, 1) := by decide +kernel
theorem dX7_comeToWait_171 : decode cX7_comeToWait 171 = .ok (.getfield 20, 3) := by decide +kernel
theorem dX7_comeToWait_174 : decode cX7_comeToWait 174 = .ok (.bipush 14, 2) := by decide +kernel
theorem dX7_comeToWait_176 : decode cX7_comeToWait 176 = .ok (.iload 6, 2) := by decide +kernel
theorem dX7_comeToWait_178 : decode cX7_comeToWait 178 = .ok (.imul, 1) := by decide +kernel
theorem dX7_comeToWait_179 : decode cX7_comeToWait 179 = .ok (.iconst 2, 1) := by decide +kernel
theorem dX7_comeToWait_180 : decode cX7_comeToWait 180 = .ok (.iadd, 1) := by decide +kernel
theorem dX7_comeToWait_181 : decode cX7_comeToWait 181 = .ok (.aload_n 1, 1) := by decide +kernel
theorem dX7_comeToWait_182 : decode cX7_comeToWait 182 = .ok (.iconst 1, 1) := by decide +kernel
theorem dX7_comeToWait_183 : decode cX7_comeToWait 183 = .ok (.iaload, 1) := by decide +kernel
theorem dX7_comeToWait_184 : decode cX7_comeToWait 184 = .ok (.iastore, 1) := by decide +kernel
theorem dX7_comeToWait_185 : decode cX7_comeToWait 185 = .ok (.aload_n 0, 1) := by decide +kernel
theorem dX7_comeToWait_186 : decode cX7_comeToWait 186 = .ok (.getfield 20, 3) := by decide +kernel
theorem dX7_comeToWait_189 : decode cX7_comeToWait 189 = .ok (.bipush 14, 2) := by decide +kernel
theorem dX7_comeToWait_191 : decode cX7_comeToWait 191 = .ok (.iload 6, 2) := by decide +kernel
theorem dX7_comeToWait_193 : decode cX7_comeToWait 193 = .ok (.imul, 1) := by decide +kernel
theorem dX7_comeToWait_194 : decode cX7_comeToWait 194 = .ok (.iconst 3, 1) := by decide +kernel
theorem dX7_comeToWait_195 : decode cX7_comeToWait 195 = .ok (.iadd, 1) := by decide +kernel
theorem dX7_comeToWait_196 : decode cX7_comeToWait 196 = .ok (.aload_n 1, 1) := by decide +kernel
theorem dX7_comeToWait_197 : decode cX7_comeToWait 197 = .ok (.iconst 3, 1) := by decide +kernel
theorem dX7_comeToWait_198 : decode cX7_comeToWait 198 = .ok (.iaload, 1) := by decide +kernel
theorem dX7_comeToWait_199 : decode cX7_comeToWait 199 = .ok (.iload 4, 2) := by decide +kernel
theorem dX7_comeToWait_201 : decode cX7_comeToWait 201 = .ok (.iadd, 1) := by decide +kernel
theorem dX7_comeToWait_202 : decode cX7_comeToWait 202 = .ok (.iastore, 1) := by decide +kernel
theorem dX7_comeToWait_203 : decode cX7_comeToWait 203 = .ok (.aload_n 0, 1) := by decide +kernel
theorem dX7_comeToWait_204 : decode cX7_comeToWait 204 = .ok (.getfield 20, 3) := by decide +kernel
theorem dX7_comeToWait_207 : decode cX7_comeToWait 207 = .ok (.bipush 14, 2) := by decide +kernel
theorem dX7_comeToWait_209 : decode cX7_comeToWait 209 = .ok (.iload 6, 2) := by decide +kernel
theorem dX7_comeToWait_211 : decode cX7_comeToWait 211 = .ok (.imul, 1) := by decide +kernel
theorem dX7_comeToWait_212 : decode cX7_comeToWait 212 = .ok (.iconst 4, 1) := by decide +kernel
theorem dX7_comeToWait_213 : decode cX7_comeToWait 213 = .ok (.iadd, 1) := by decide +kernel
theorem dX7_comeToWait_214 : decode cX7_comeToWait 214 = .ok (.aload_n 1, 1) := by decide +kernel
theorem dX7_comeToWait_215 : decode cX7_comeToWait 215 = .ok (.iconst 4, 1) := by decide +kernel
theorem dX7_comeToWait_216 : decode cX7_comeToWait 216 = .ok (.iaload, 1) := by decide +kernel
theorem dX7_comeToWait_217 : decode cX7_comeToWait 217 = .ok (.iconst 1, 1) := by decide +kernel
theorem dX7_comeToWait_218 : decode cX7_comeToWait 218 = .ok (.iadd, 1) := by decide +kernel
theorem dX7_comeToWait_219 : decode cX7_comeToWait 219 = .ok (.iastore, 1) := by decide +kernel
theorem dX7_comeToWait_220 : decode cX7_comeToWait 220 = .ok (.aload_n 0, 1) := by decide +kernel
theorem dX7_comeToWait_221 : decode cX7_comeToWait 221 = .ok (.getfield 20, 3) := by decide +kernel
theorem dX7_comeToWait_224 : decode cX7_comeToWait 224 = .ok (.bipush 14, 2) := by decide +kernel
theorem dX7_comeToWait_226 : decode cX7_comeToWait 226 = .ok (.iload 6, 2) := by decide +kernel
theorem dX7_comeToWait_228 : decode cX7_comeToWait 228 = .ok (.imul, 1) := by decide +kernel
theorem dX7_comeToWait_229 : decode cX7_comeToWait 229 = .ok (.iconst 5, 1) := by decide +kernel
theorem dX7_comeToWait_230 : decode cX7_comeToWait 230 = .ok (.iadd, 1) := by decide +kernel
theorem dX7_comeToWait_231 : decode cX7_comeToWait 231 = .ok (.aload_n 1, 1) := by decide +kernel
theorem dX7_comeToWait_232 : decode cX7_comeToWait 232 = .ok (.iconst 4, 1) := by decide +kernel
theorem dX7_comeToWait_233 : decode cX7_comeToWait 233 = .ok (.iaload, 1) := by decide +kernel
theorem dX7_comeToWait_234 : decode cX7_comeToWait 234 = .ok (.iadd, 1) := by decide +kernel
theorem dX7_comeToWait_235 : decode cX7_comeToWait 235 = .ok (.iconst 1, 1) := by decide +kernel
theorem dX7_comeToWait_236 : decode cX7_comeToWait 236 = .ok (.iadd, 1) := by decide +kernel
theorem dX7_comeToWait_237 : decode cX7_comeToWait 237 = .ok (.iload_n 2, 1) := by decide +kernel
theorem dX7_comeToWait_238 : decode cX7_comeToWait 238 = .ok (.iastore, 1) := by decide +kernel
theorem dX7_comeToWait_239 : decode cX7_comeToWait 239 = .ok (.aload_n 0, 1) := by decide +kernel
theorem dX7_comeToWait_240 : decode cX7_comeToWait 240 = .ok (.dup, 1) := by decide +kernel
theorem dX7_comeToWait_241 : decode cX7_comeToWait 241 = .ok (.getfield 71, 3) := by decide +kernel
theorem dX7_comeToWait_244 : decode cX7_comeToWait 244 = .ok (.iconst 1, 1) := by decide +kernel
theorem dX7_comeToWait_245 : decode cX7_comeToWait 245 = .ok (.iadd, 1) := by decide +kernel
theorem dX7_comeToWait_246 : decode cX7_comeToWait 246 = .ok (.putfield 71, 3) := by decide +kernel
theorem dX7_comeToWait_249 : decode cX7_comeToWait 249 = .ok (.return_, 1) := by decide +kernel
set_option maxRecDepth 20000 in
theorem ggX7_sing_X7_get : GoodIn wsX7_sing wsX7_get := goodIn_r _ [14, 15, 24, 25, 26, 27, 28, 29, 30, 31, 32, 33, 34, 35, 36, 37, 38] (by decide +kernel) (by decide +kernel)
set_option maxRecDepth 20000 in
theorem gX7_sing_X7_get : GoodIn wsX7_sing (wsV RX7 43 RX7 yX7_get wsX7_get) := goodIn_app (goodIn_of _ (by decide +kernel)) ggX7_sing_X7_get
set_option maxRecDepth 20000 in
theorem ggX7_sing_X7_set : GoodIn wsX7_sing wsX7_set := goodIn_r _ [19, 15, 24, 25, 26, 27, 28, 29, 30, 31, 32, 33, 34, 35, 36, 37, 38] (by decide +kernel) (by decide +kernel)
set_option maxRecDepth 20000 in
theorem gX7_sing_X7_set : GoodIn wsX7_sing (wsV RX7 63 RX7 yX7_set wsX7_set) := goodIn_app (goodIn_of _ (by decide +kernel)) ggX7_sing_X7_set
set_option maxRecDepth 20000 in
theorem ggX7_sing_J9_floorMod_7cf53 : GoodIn wsX7_sing wsJ9_floorMod_7cf53 := goodIn_r _ [23] (by decide +kernel) (by decide +kernel)
set_option maxRecDepth 20000 in
theorem gX7_sing_J9_floorMod_7cf53 : GoodIn wsX7_sing (va_wsS RX7 83 yJ9_floorMod_7cf53 wsJ9_floorMod_7cf53) := goodIn_app (goodIn_of _ (by decide +kernel)) ggX7_sing_J9_floorMod_7cf53
theorem dX7_sing_0 : decode cX7_sing 0 = .ok (.aload_n 1, 1) := by decide +kernel
theorem dX7_sing_1 : decode cX7_sing 1 = .ok (.iconst 1, 1) := by decide +kernel
theorem dX7_sing_2 : decode cX7_sing 2 = .ok (.iaload, 1) := by decide +kernel
theorem dX7_sing_3 : decode cX7_sing 3 = .ok (.istore_n 3, 1) := by decide +kernel
theorem dX7_sing_4 : decode cX7_sing 4 = .ok (.aload_n 0, 1) := by decide +kernel
theorem dX7_sing_5 : decode cX7_sing 5 = .ok (.dup, 1) := by decide +kernel
theorem dX7_sing_6 : decode cX7_sing 6 = .ok (.getfield 77, 3) := by decide +kernel
theorem dX7_sing_9 : decode cX7_sing 9 = .ok (.iconst 1, 1) := by decide +kernel
theorem dX7_sing_10 : decode cX7_sing 10 = .ok (.iadd, 1) := by decide +kernel
theorem dX7_sing_11 : decode cX7_sing 11 = .ok (.putfield 77, 3) := by decide +kernel
theorem dX7_sing_14 : decode cX7_sing 14 = .ok (.aload_n 0, 1) := by decide +kernel
theorem dX7_sing_15 : decode cX7_sing 15 = .ok (.iload_n 3, 1) := by decide +kernel
theorem dX7_sing_16 : decode cX7_sing 16 = .ok (.iconst 5, 1) := by decide +kernel
theorem dX7_sing_17 : decode cX7_sing 17 = .ok (.aload_n 0, 1) := by decide +kernel
theorem dX7_sing_18 : decode cX7_sing 18 = .ok (.iload_n 3, 1) := by decide +kernel
theorem dX7_sing_19 : decode cX7_sing 19 = .ok (.iconst 5, 1) := by decide +kernel
theorem dX7_sing_20 : decode cX7_sing 20 = .ok (.invokevirtual 43, 3) := by decide +kernel
theorem dX7_sing_23 : decode cX7_sing 23 = .ok (.iconst 1, 1) := by decide +kernel
theorem dX7_sing_24 : decode cX7_sing 24 = .ok (.iadd, 1) := by decide +kernel
theorem dX7_sing_25 : decode cX7_sing 25 = .ok (.invokevirtual 63, 3) := by decide +kernel
theorem dX7_sing_28 : decode cX7_sing 28 = .ok (.aload_n 0, 1) := by decide +kernel
theorem dX7_sing_29 : decode cX7_sing 29 = .ok (.getfield 80, 3) := by decide +kernel
theorem dX7_sing_32 : decode cX7_sing 32 = .ok (.sipush 200, 3) := by decide +kernel
theorem dX7_sing_35 : decode cX7_sing 35 = .ok (.if_icmp .ne 4, 3) := by decide +kernel
theorem dX7_sing_38 : decode cX7_sing 38 = .ok (.return_, 1) := by decide +kernel
theorem dX7_sing_39 : decode cX7_sing 39 = .ok (.bipush 6, 2) := by decide +kernel
theorem dX7_sing_41 : decode cX7_sing 41 = .ok (.newarray .int, 2) := by decide +kernel
theorem dX7_sing_43 : decode cX7_sing 43 = .ok (.dup, 1) := by decide +kernel
theorem dX7_sing_44 : decode cX7_sing 44 = .ok (.iconst 0, 1) := by decide +kernel
theorem dX7_sing_45 : decode cX7_sing 45 = .ok (.aload_n 0, 1) := by decide +kernel
theorem dX7_sing_46 : decode cX7_sing 46 = .ok (.getfield 47, 3) := by decide +kernel
theorem dX7_sing_49 : decode cX7_sing 49 = .ok (.iastore, 1) := by decide +kernel
theorem dX7_sing_50 : decode cX7_sing 50 = .ok (.dup, 1) := by decide +kernel
theorem dX7_sing_51 : decode cX7_sing 51 = .ok (.iconst 1, 1) := by decide +kernel
theorem dX7_sing_52 : decode cX7_sing 52 = .ok (.iload_n 2, 1) := by decide +kernel
theorem dX7_sing_53 : decode cX7_sing 53 = .ok (.iastore, 1) := by decide +kernel
theorem dX7_sing_54 : decode cX7_sing 54 = .ok (.dup, 1) := by decide +kernel
theorem dX7_sing_55 : decode cX7_sing 55 = .ok (.iconst 2, 1) := by decide +kernel
theorem dX7_sing_56 : decode cX7_sing 56 = .ok (.aload_n 0, 1) := by decide +kernel
theorem dX7_sing_57 : decode cX7_sing 57 = .ok (.iload_n 3, 1) := by decide +kernel
theorem dX7_sing_58 : decode cX7_sing 58 = .ok (.iconst 0, 1) := by decide +kernel
theorem dX7_sing_59 : decode cX7_sing 59 = .ok (.invokevirtual 43, 3) := by decide +kernel
theorem dX7_sing_62 : decode cX7_sing 62 = .ok (.aload_n 1, 1) := by decide +kernel
theorem dX7_sing_63 : decode cX7_sing 63 = .ok (.iconst 3, 1) := by decide +kernel
theorem dX7_sing_64 : decode cX7_sing 64 = .ok (.iaload, 1) := by decide +kernel
theorem dX7_sing_65 : decode cX7_sing 65 = .ok (.iadd, 1) := by decide +kernel
theorem dX7_sing_66 : decode cX7_sing 66 = .ok (.bipush 88, 2) := by decide +kernel
theorem dX7_sing_68 : decode cX7_sing 68 = .ok (.invokestatic 83, 3) := by decide +kernel
theorem dX7_sing_71 : decode cX7_sing 71 = .ok (.iastore, 1) := by decide +kernel
theorem dX7_sing_72 : decode cX7_sing 72 = .ok (.dup, 1) := by decide +kernel
theorem dX7_sing_73 : decode cX7_sing 73 = .ok (.iconst 3, 1) := by decide +kernel
theorem dX7_sing_74 : decode cX7_sing 74 = .ok (.iload_n 3, 1) := by decide +kernel
theorem dX7_sing_75 : decode cX7_sing 75 = .ok (.iastore, 1) := by decide +kernel
theorem dX7_sing_76 : decode cX7_sing 76 = .ok (.dup, 1) := by decide +kernel
theorem dX7_sing_77 : decode cX7_sing 77 = .ok (.iconst 4, 1) := by decide +kernel
theorem dX7_sing_78 : decode cX7_sing 78 = .ok (.aload_n 1, 1) := by decide +kernel
theorem dX7_sing_79 : decode cX7_sing 79 = .ok (.iconst 4, 1) := by decide +kernel
theorem dX7_sing_80 : decode cX7_sing 80 = .ok (.iaload, 1) := by decide +kernel
theorem dX7_sing_81 : decode cX7_sing 81 = .ok (.iastore, 1) := by decide +kernel
theorem dX7_sing_82 : decode cX7_sing 82 = .ok (.dup, 1) := by decide +kernel
theorem dX7_sing_83 : decode cX7_sing 83 = .ok (.iconst 5, 1) := by decide +kernel
theorem dX7_sing_84 : decode cX7_sing 84 = .ok (.aload_n 1, 1) := by decide +kernel
theorem dX7_sing_85 : decode cX7_sing 85 = .ok (.iconst 2, 1) := by decide +kernel
theorem dX7_sing_86 : decode cX7_sing 86 = .ok (.iaload, 1) := by decide +kernel
theorem dX7_sing_87 : decode cX7_sing 87 = .ok (.iastore, 1) := by decide +kernel
theorem dX7_sing_88 : decode cX7_sing 88 = .ok (.astore 4, 2) := by decide +kernel
theorem dX7_sing_90 : decode cX7_sing 90 = .ok (.aload 4, 2) := by decide +kernel
theorem dX7_sing_92 : decode cX7_sing 92 = .ok (.iconst 0, 1) := by decide +kernel
theorem dX7_sing_93 : decode cX7_sing 93 = .ok (.aload_n 0, 1) := by decide +kernel
theorem dX7_sing_94 : decode cX7_sing 94 = .ok (.getfield 23, 3) := by decide +kernel
theorem dX7_sing_97 : decode cX7_sing 97 = .ok (.bipush 15, 2) := by decide +kernel
theorem dX7_sing_99 : decode cX7_sing 99 = .ok (.aload_n 0, 1) := by decide +kernel
theorem dX7_sing_100 : decode cX7_sing 100 = .ok (.getfield 80, 3) := by decide +kernel
theorem dX7_sing_103 : decode cX7_sing 103 = .ok (.imul, 1) := by decide +kernel
theorem dX7_sing_104 : decode cX7_sing 104 = .ok (.bipush 6, 2) := by decide +kernel
theorem dX7_sing_106 : decode cX7_sing 106 = .ok (.invokestatic 54, 3) := by decide +kernel
theorem dX7_sing_109 : decode cX7_sing 109 = .ok (.aload_n 1, 1) := by decide +kernel
theorem dX7_sing_110 : decode cX7_sing 110 = .ok (.iconst 5, 1) := by decide +kernel
theorem dX7_sing_111 : decode cX7_sing 111 = .ok (.aload_n 0, 1) := by decide +kernel
theorem dX7_sing_112 : decode cX7_sing 112 = .ok (.getfield 23, 3) := by decide +kernel
theorem dX7_sing_115 : decode cX7_sing 115 = .ok (.bipush 15, 2) := by decide +kernel
theorem dX7_sing_117 : decode cX7_sing 117 = .ok (.aload_n 0, 1) := by decide +kernel
theorem dX7_sing_118 : decode cX7_sing 118 = .ok (.getfield 80, 3) := by decide +kernel
theorem dX7_sing_121 : decode cX7_sing 121 = .ok (.imul, 1) := by decide +kernel
theorem dX7_sing_122 : decode cX7_sing 122 = .ok (.bipush 6, 2) := by decide +kernel
theorem dX7_sing_124 : decode cX7_sing 124 = .ok (.iadd, 1) := by decide +kernel
theorem dX7_sing_125 : decode cX7_sing 125 = .ok (.bipush 9, 2) := by decide +kernel
theorem dX7_sing_127 : decode cX7_sing 127 = .ok (.invokestatic 54, 3) := by decide +kernel
theorem dX7_sing_130 : decode cX7_sing 130 = .ok (.aload_n 0, 1) := by decide +kernel
theorem dX7_sing_131 : decode cX7_sing 131 = .ok (.dup, 1) := by decide +kernel
theorem dX7_sing_132 : decode cX7_sing 132 = .ok (.getfield 80, 3) := by decide +kernel
theorem dX7_sing_135 : decode cX7_sing 135 = .ok (.iconst 1, 1) := by decide +kernel
theorem dX7_sing_136 : decode cX7_sing 136 = .ok (.iadd, 1) := by decide +kernel
theorem dX7_sing_137 : decode cX7_sing 137 = .ok (.putfield 80, 3) := by decide +kernel
theorem dX7_sing_140 : decode cX7_sing 140 = .ok (.return_, 1) := by decide +kernel
set_option maxRecDepth 20000 in
theorem ggX7_follow_X7_sing : GoodIn wsX7_follow wsX7_sing := goodIn_r _ [11, 12, 13, 14, 15, 16, 17, 18, 19, 20, 21, 22, 23, 10, 24, 25, 26, 27, 28, 29, 30, 31, 32, 33, 41, 42, 43, 44, 45, 46, 47, 48, 49, 50, 51, 52, 53, 54, 55] (by decide +kernel) (by decide +kernel)
set_option maxRecDepth 20000 in
theorem gX7_follow_X7_sing : GoodIn wsX7_follow (wsV RX7 88 RX7 yX7_sing wsX7_sing) := goodIn_app (goodIn_of _ (by decide +kernel)) ggX7_follow_X7_sing
set_option maxRecDepth 20000 in
theorem ggX7_follow_X7_comeToWait : GoodIn wsX7_follow wsX7_comeToWait := goodIn_r _ [37, 38, 39, 40, 17, 18, 19, 20, 41, 42, 43, 44, 45, 46, 47, 48, 49, 50, 51, 52, 53, 54, 55] (by decide +kernel) (by decide +kernel)
set_option maxRecDepth 20000 in
theorem gX7_follow_X7_comeToWait : GoodIn wsX7_follow (wsV RX7 95 RX7 yX7_comeToWait wsX7_comeToWait) := goodIn_app (goodIn_of _ (by decide +kernel)) ggX7_follow_X7_comeToWait
theorem dX7_follow_0 : decode cX7_follow 0 = .ok (.aload_n 1, 1) := by decide +kernel
theorem dX7_follow_1 : decode cX7_follow 1 = .ok (.iconst 1, 1) := by decide +kernel
theorem dX7_follow_2 : decode cX7_follow 2 = .ok (.iaload, 1) := by decide +kernel
theorem dX7_follow_3 : decode cX7_follow 3 = .ok (.istore_n 3, 1) := by decide +kernel
theorem dX7_follow_4 : decode cX7_follow 4 = .ok (.aload_n 0, 1) := by decide +kernel
theorem dX7_follow_5 : decode cX7_follow 5 = .ok (.getfield 17, 3) := by decide +kernel
theorem dX7_follow_8 : decode cX7_follow 8 = .ok (.iload_n 2, 1) := by decide +kernel
theorem dX7_follow_9 : decode cX7_follow 9 = .ok (.iconst 4, 1) := by decide +kernel
theorem dX7_follow_10 : decode cX7_follow 10 = .ok (.iadd, 1) := by decide +kernel
theorem dX7_follow_11 : decode cX7_follow 11 = .ok (.iaload, 1) := by decide +kernel
theorem dX7_follow_12 : decode cX7_follow 12 = .ok (.istore 4, 2) := by decide +kernel
theorem dX7_follow_14 : decode cX7_follow 14 = .ok (.aload_n 0, 1) := by decide +kernel
theorem dX7_follow_15 : decode cX7_follow 15 = .ok (.getfield 17, 3) := by decide +kernel
theorem dX7_follow_18 : decode cX7_follow 18 = .ok (.iload_n 2, 1) := by decide +kernel
theorem dX7_follow_19 : decode cX7_follow 19 = .ok (.bipush 6, 2) := by decide +kernel
theorem dX7_follow_21 : decode cX7_follow 21 = .ok (.iadd, 1) := by decide +kernel
theorem dX7_follow_22 : decode cX7_follow 22 = .ok (.iaload, 1) := by decide +kernel
theorem dX7_follow_23 : decode cX7_follow 23 = .ok (.istore 5, 2) := by decide +kernel
theorem dX7_follow_25 : decode cX7_follow 25 = .ok (.aload_n 0, 1) := by decide +kernel
theorem dX7_follow_26 : decode cX7_follow 26 = .ok (.getfield 17, 3) := by decide +kernel
theorem dX7_follow_29 : decode cX7_follow 29 = .ok (.iload_n 2, 1) := by decide +kernel
theorem dX7_follow_30 : decode cX7_follow 30 = .ok (.bipush 7, 2) := by decide +kernel
theorem dX7_follow_32 : decode cX7_follow 32 = .ok (.iadd, 1) := by decide +kernel
theorem dX7_follow_33 : decode cX7_follow 33 = .ok (.iaload, 1) := by decide +kernel
theorem dX7_follow_34 : decode cX7_follow 34 = .ok (.istore 6, 2) := by decide +kernel
theorem dX7_follow_36 : decode cX7_follow 36 = .ok (.aload_n 0, 1) := by decide +kernel
theorem dX7_follow_37 : decode cX7_follow 37 = .ok (.getfield 17, 3) := by decide +kernel
theorem dX7_follow_40 : decode cX7_follow 40 = .ok (.iload_n 2, 1) := by decide +kernel
theorem dX7_follow_41 : decode cX7_follow 41 = .ok (.bipush 8, 2) := by decide +kernel
theorem dX7_follow_43 : decode cX7_follow 43 = .ok (.iadd, 1) := by decide +kernel
theorem dX7_follow_44 : decode cX7_follow 44 = .ok (.dup2, 1) := by decide +kernel
theorem dX7_follow_45 : decode cX7_follow 45 = .ok (.iaload, 1) := by decide +kernel
theorem dX7_follow_46 : decode cX7_follow 46 = .ok (.iconst 1, 1) := by decide +kernel
theorem dX7_follow_47 : decode cX7_follow 47 = .ok (.iadd, 1) := by decide +kernel
theorem dX7_follow_48 : decode cX7_follow 48 = .ok (.iastore, 1) := by decide +kernel
theorem dX7_follow_49 : decode cX7_follow 49 = .ok (.iload 4, 2) := by decide +kernel
theorem dX7_follow_51 : decode cX7_follow 51 = .ok (.ifCond .eq 9, 3) := by decide +kernel
theorem dX7_follow_54 : decode cX7_follow 54 = .ok (.iload 4, 2) := by decide +kernel
theorem dX7_follow_56 : decode cX7_follow 56 = .ok (.iconst 4, 1) := by decide +kernel
theorem dX7_follow_57 : decode cX7_follow 57 = .ok (.if_icmp .ne 10, 3) := by decide +kernel
theorem dX7_follow_60 : decode cX7_follow 60 = .ok (.aload_n 0, 1) := by decide +kernel
theorem dX7_follow_61 : decode cX7_follow 61 = .ok (.aload_n 1, 1) := by decide +kernel
theorem dX7_follow_62 : decode cX7_follow 62 = .ok (.iload 5, 2) := by decide +kernel
theorem dX7_follow_64 : decode cX7_follow 64 = .ok (.invokevirtual 88, 3) := by decide +kernel
theorem dX7_follow_67 : decode cX7_follow 67 = .ok (.iload 4, 2) := by decide +kernel
theorem dX7_follow_69 : decode cX7_follow 69 = .ok (.iconst 2, 1) := by decide +kernel
theorem dX7_follow_70 : decode cX7_follow 70 = .ok (.if_icmp .lt 11, 3) := by decide +kernel
theorem dX7_follow_73 : decode cX7_follow 73 = .ok (.aload_n 1, 1) := by decide +kernel
theorem dX7_follow_74 : decode cX7_follow 74 = .ok (.iconst 4, 1) := by decide +kernel
theorem dX7_follow_75 : decode cX7_follow 75 = .ok (.iaload, 1) := by decide +kernel
theorem dX7_follow_76 : decode cX7_follow 76 = .ok (.bipush 8, 2) := by decide +kernel
theorem dX7_follow_78 : decode cX7_follow 78 = .ok (.if_icmp .ne 4, 3) := by decide +kernel
theorem dX7_follow_81 : decode cX7_follow 81 = .ok (.return_, 1) := by decide +kernel
theorem dX7_follow_82 : decode cX7_follow 82 = .ok (.iconst 0, 1) := by decide +kernel
theorem dX7_follow_83 : decode cX7_follow 83 = .ok (.istore 7, 2) := by decide +kernel
theorem dX7_follow_85 : decode cX7_follow 85 = .ok (.iload 7, 2) := by decide +kernel
theorem dX7_follow_87 : decode cX7_follow 87 = .ok (.aload_n 0, 1) := by decide +kernel
theorem dX7_follow_88 : decode cX7_follow 88 = .ok (.getfield 32, 3) := by decide +kernel
theorem dX7_follow_91 : decode cX7_follow 91 = .ok (.if_icmp .ge 90, 3) := by decide +kernel
theorem dX7_follow_94 : decode cX7_follow 94 = .ok (.iload 4, 2) := by decide +kernel
theorem dX7_follow_96 : decode cX7_follow 96 = .ok (.iconst 3, 1) := by decide +kernel
theorem dX7_follow_97 : decode cX7_follow 97 = .ok (.if_icmp .ne 22, 3) := by decide +kernel
theorem dX7_follow_100 : decode cX7_follow 100 = .ok (.iload 7, 2) := by decide +kernel
theorem dX7_follow_102 : decode cX7_follow 102 = .ok (.iload_n 3, 1) := by decide +kernel
theorem dX7_follow_103 : decode cX7_follow 103 = .ok (.isub, 1) := by decide +kernel
theorem dX7_follow_104 : decode cX7_follow 104 = .ok (.invokestatic 92, 3) := by decide +kernel
theorem dX7_follow_107 : decode cX7_follow 107 = .ok (.iconst 1, 1) := by decide +kernel
theorem dX7_follow_108 : decode cX7_follow 108 = .ok (.if_icmp .ne 7, 3) := by decide +kernel
theorem dX7_follow_111 : decode cX7_follow 111 = .ok (.iconst 1, 1) := by decide +kernel
theorem dX7_follow_112 : decode cX7_follow 112 = .ok (.goto 45, 3) := by decide +kernel
theorem dX7_follow_115 : decode cX7_follow 115 = .ok (.iconst 0, 1) := by decide +kernel
theorem dX7_follow_116 : decode cX7_follow 116 = .ok (.goto 41, 3) := by decide +kernel
theorem dX7_follow_119 : decode cX7_follow 119 = .ok (.iload 4, 2) := by decide +kernel
theorem dX7_follow_121 : decode cX7_follow 121 = .ok (.iconst 5, 1) := by decide +kernel
theorem dX7_follow_122 : decode cX7_follow 122 = .ok (.if_icmp .ne 17, 3) := by decide +kernel
theorem dX7_follow_125 : decode cX7_follow 125 = .ok (.iload 7, 2) := by decide +kernel
theorem dX7_follow_127 : decode cX7_follow 127 = .ok (.iload_n 3, 1) := by decide +kernel
theorem dX7_follow_128 : decode cX7_follow 128 = .ok (.if_icmp .eq 7, 3) := by decide +kernel
theorem dX7_follow_131 : decode cX7_follow 131 = .ok (.iconst 1, 1) := by decide +kernel
theorem dX7_follow_132 : decode cX7_follow 132 = .ok (.goto 25, 3) := by decide +kernel
theorem dX7_follow_135 : decode cX7_follow 135 = .ok (.iconst 0, 1) := by decide +kernel
theorem dX7_follow_136 : decode cX7_follow 136 = .ok (.goto 21, 3) := by decide +kernel
theorem dX7_follow_139 : decode cX7_follow 139 = .ok (.iload 7, 2) := by decide +kernel
theorem dX7_follow_141 : decode cX7_follow 141 = .ok (.aload_n 0, 1) := by decide +kernel
theorem dX7_follow_142 : decode cX7_follow 142 = .ok (.getfield 17, 3) := by decide +kernel
theorem dX7_follow_145 : decode cX7_follow 145 = .ok (.iload_n 2, 1) := by decide +kernel
theorem dX7_follow_146 : decode cX7_follow 146 = .ok (.iconst 5, 1) := by decide +kernel
theorem dX7_follow_147 : decode cX7_follow 147 = .ok (.iadd, 1) := by decide +kernel
theorem dX7_follow_148 : decode cX7_follow 148 = .ok (.iaload, 1) := by decide +kernel
theorem dX7_follow_149 : decode cX7_follow 149 = .ok (.if_icmp .ne 7, 3) := by decide +kernel
theorem dX7_follow_152 : decode cX7_follow 152 = .ok (.iconst 1, 1) := by decide +kernel
theorem dX7_follow_153 : decode cX7_follow 153 = .ok (.goto 4, 3) := by decide +kernel
theorem dX7_follow_156 : decode cX7_follow 156 = .ok (.iconst 0, 1) := by decide +kernel
theorem dX7_follow_157 : decode cX7_follow 157 = .ok (.istore 8, 2) := by decide +kernel
theorem dX7_follow_159 : decode cX7_follow 159 = .ok (.iload 8, 2) := by decide +kernel
theorem dX7_follow_161 : decode cX7_follow 161 = .ok (.ifCond .eq 14, 3) := by decide +kernel
theorem dX7_follow_164 : decode cX7_follow 164 = .ok (.aload_n 0, 1) := by decide +kernel
theorem dX7_follow_165 : decode cX7_follow 165 = .ok (.aload_n 1, 1) := by decide +kernel
theorem dX7_follow_166 : decode cX7_follow 166 = .ok (.iload 7, 2) := by decide +kernel
theorem dX7_follow_168 : decode cX7_follow 168 = .ok (.iload 5, 2) := by decide +kernel
theorem dX7_follow_170 : decode cX7_follow 170 = .ok (.iload 6, 2) := by decide +kernel
theorem dX7_follow_172 : decode cX7_follow 172 = .ok (.invokevirtual 95, 3) := by decide +kernel
theorem dX7_follow_175 : decode cX7_follow 175 = .ok (.iinc 7 1, 3) := by decide +kernel
theorem dX7_follow_178 : decode cX7_follow 178 = .ok (.goto (-93), 3) := by decide +kernel
theorem dX7_follow_181 : decode cX7_follow 181 = .ok (.return_, 1) := by decide +kernel
set_option maxRecDepth 20000 in
theorem ggX7_hear_X7_get : GoodIn wsX7_hear wsX7_get := goodIn_r _ [13, 14, 65, 66, 67, 68, 69, 70, 71, 72, 73, 74, 75, 76, 77, 78, 79] (by decide +kernel) (by decide +kernel)
set_option maxRecDepth 20000 in
theorem gX7_hear_X7_get : GoodIn wsX7_hear (wsV RX7 43 RX7 yX7_get wsX7_get) := goodIn_app (goodIn_of _ (by decide +kernel)) ggX7_hear_X7_get
set_option maxRecDepth 20000 in
theorem ggX7_hear_X7_set : GoodIn wsX7_hear wsX7_set := goodIn_r _ [18, 14, 65, 66, 67, 68, 69, 70, 71, 72, 73, 74, 75, 76, 77, 78, 79] (by decide +kernel) (by decide +kernel)
set_option maxRecDepth 20000 in
theorem gX7_hear_X7_set : GoodIn wsX7_hear (wsV RX7 63 RX7 yX7_set wsX7_set) := goodIn_app (goodIn_of _ (by decide +kernel)) ggX7_hear_X7_set
set_option maxRecDepth 20000 in
theorem ggX7_hear_X7_hour : GoodIn wsX7_hear wsX7_hour := goodIn_r _ [22, 1, 23, 65, 66, 67, 68, 69, 70, 71, 72, 73, 74, 75, 76, 77, 78, 79] (by decide +kernel) (by decide +kernel)
set_option maxRecDepth 20000 in
theorem gX7_hear_X7_hour : GoodIn wsX7_hear (wsV RX7 108 RX7 yX7_hour wsX7_hour) := goodIn_app (goodIn_of _ (by decide +kernel)) ggX7_hear_X7_hour
set_option maxRecDepth 20000 in
theorem ggX7_hear_X7_fitting : GoodIn wsX7_hear wsX7_fitting := goodIn_r _ [27, 28, 9, 10, 11, 12, 13, 14, 29, 30, 31, 32, 33, 34, 65, 66, 67, 68, 69, 70, 71, 72, 73, 74, 75, 76, 77, 78, 79] (by decide +kernel) (by decide +kernel)
set_option maxRecDepth 20000 in
theorem gX7_hear_X7_fitting : GoodIn wsX7_hear (wsV RX7 112 RX7 yX7_fitting wsX7_fitting) := goodIn_app (goodIn_of _ (by decide +kernel)) ggX7_hear_X7_fitting
set_option maxRecDepth 20000 in
theorem ggX7_hear_X7_at : GoodIn wsX7_hear wsX7_at := goodIn_r _ [31] (by decide +kernel) (by decide +kernel)
set_option maxRecDepth 20000 in
theorem gX7_hear_X7_at : GoodIn wsX7_hear (va_wsS RX7 60 yX7_at wsX7_at) := goodIn_app (goodIn_of _ (by decide +kernel)) ggX7_hear_X7_at
set_option maxRecDepth 20000 in
theorem ggX7_hear_X7_follow : GoodIn wsX7_hear wsX7_follow := goodIn_r _ [38, 28, 39, 40, 41, 7, 42, 43, 44, 45, 12, 46, 47, 48, 49, 1, 50, 51, 52, 53, 54, 9, 10, 11, 13, 14, 15, 16, 17, 18, 55, 56, 57, 58, 59, 60, 61, 62, 63, 2, 64, 65, 66, 67, 68, 69, 70, 71, 72, 73, 74, 75, 76, 77, 78, 79] (by decide +kernel) (by decide +kernel)
set_option maxRecDepth 20000 in
theorem gX7_hear_X7_follow : GoodIn wsX7_hear (wsV RX7 116 RX7 yX7_follow wsX7_follow) := goodIn_app (goodIn_of _ (by decide +kernel)) ggX7_hear_X7_follow
theorem dX7_hear_0 : decode cX7_hear 0 = .ok (.aload_n 1, 1) := by decide +kernel
theorem dX7_hear_1 : decode cX7_hear 1 = .ok (.iconst 1, 1) := by decide +kernel
theorem dX7_hear_2 : decode cX7_hear 2 = .ok (.iaload, 1) := by decide +kernel
theorem dX7_hear_3 : decode cX7_hear 3 = .ok (.istore_n 2, 1) := by decide +kernel
theorem dX7_hear_4 : decode cX7_hear 4 = .ok (.aload_n 0, 1) := by decide +kernel
theorem dX7_hear_5 : decode cX7_hear 5 = .ok (.iload_n 2, 1) := by decide +kernel
theorem dX7_hear_6 : decode cX7_hear 6 = .ok (.bipush 6, 2) := by decide +kernel
theorem dX7_hear_8 : decode cX7_hear 8 = .ok (.invokevirtual 43, 3) := by decide +kernel
theorem dX7_hear_11 : decode cX7_hear 11 = .ok (.aload_n 0, 1) := by decide +kernel
theorem dX7_hear_12 : decode cX7_hear 12 = .ok (.getfield 47, 3) := by decide +kernel
theorem dX7_hear_15 : decode cX7_hear 15 = .ok (.if_icmp .ne 15, 3) := by decide +kernel
theorem dX7_hear_18 : decode cX7_hear 18 = .ok (.aload_n 0, 1) := by decide +kernel
theorem dX7_hear_19 : decode cX7_hear 19 = .ok (.dup, 1) := by decide +kernel
theorem dX7_hear_20 : decode cX7_hear 20 = .ok (.getfield 74, 3) := by decide +kernel
theorem dX7_hear_23 : decode cX7_hear 23 = .ok (.iconst 1, 1) := by decide +kernel
theorem dX7_hear_24 : decode cX7_hear 24 = .ok (.iadd, 1) := by decide +kernel
theorem dX7_hear_25 : decode cX7_hear 25 = .ok (.putfield 74, 3) := by decide +kernel
theorem dX7_hear_28 : decode cX7_hear 28 = .ok (.iconst 2, 1) := by decide +kernel
theorem dX7_hear_29 : decode cX7_hear 29 = .ok (.ireturn, 1) := by decide +kernel
theorem dX7_hear_30 : decode cX7_hear 30 = .ok (.aload_n 0, 1) := by decide +kernel
theorem dX7_hear_31 : decode cX7_hear 31 = .ok (.iload_n 2, 1) := by decide +kernel
theorem dX7_hear_32 : decode cX7_hear 32 = .ok (.bipush 6, 2) := by decide +kernel
theorem dX7_hear_34 : decode cX7_hear 34 = .ok (.aload_n 0, 1) := by decide +kernel
theorem dX7_hear_35 : decode cX7_hear 35 = .ok (.getfield 47, 3) := by decide +kernel
theorem dX7_hear_38 : decode cX7_hear 38 = .ok (.invokevirtual 63, 3) := by decide +kernel
theorem dX7_hear_41 : decode cX7_hear 41 = .ok (.aload_n 0, 1) := by decide +kernel
theorem dX7_hear_42 : decode cX7_hear 42 = .ok (.iload_n 2, 1) := by decide +kernel
theorem dX7_hear_43 : decode cX7_hear 43 = .ok (.iconst 4, 1) := by decide +kernel
theorem dX7_hear_44 : decode cX7_hear 44 = .ok (.aload_n 0, 1) := by decide +kernel
theorem dX7_hear_45 : decode cX7_hear 45 = .ok (.iload_n 2, 1) := by decide +kernel
theorem dX7_hear_46 : decode cX7_hear 46 = .ok (.iconst 4, 1) := by decide +kernel
theorem dX7_hear_47 : decode cX7_hear 47 = .ok (.invokevirtual 43, 3) := by decide +kernel
theorem dX7_hear_50 : decode cX7_hear 50 = .ok (.iconst 1, 1) := by decide +kernel
theorem dX7_hear_51 : decode cX7_hear 51 = .ok (.iadd, 1) := by decide +kernel
theorem dX7_hear_52 : decode cX7_hear 52 = .ok (.invokevirtual 63, 3) := by decide +kernel
theorem dX7_hear_55 : decode cX7_hear 55 = .ok (.aload_n 0, 1) := by decide +kernel
theorem dX7_hear_56 : decode cX7_hear 56 = .ok (.dup, 1) := by decide +kernel
theorem dX7_hear_57 : decode cX7_hear 57 = .ok (.getfield 99, 3) := by decide +kernel
theorem dX7_hear_60 : decode cX7_hear 60 = .ok (.iconst 1, 1) := by decide +kernel
theorem dX7_hear_61 : decode cX7_hear 61 = .ok (.iadd, 1) := by decide +kernel
theorem dX7_hear_62 : decode cX7_hear 62 = .ok (.putfield 99, 3) := by decide +kernel
theorem dX7_hear_65 : decode cX7_hear 65 = .ok (.aload_n 0, 1) := by decide +kernel
theorem dX7_hear_66 : decode cX7_hear 66 = .ok (.aload_n 0, 1) := by decide +kernel
theorem dX7_hear_67 : decode cX7_hear 67 = .ok (.getfield 102, 3) := by decide +kernel
theorem dX7_hear_70 : decode cX7_hear 70 = .ok (.aload_n 1, 1) := by decide +kernel
theorem dX7_hear_71 : decode cX7_hear 71 = .ok (.iconst 4, 1) := by decide +kernel
theorem dX7_hear_72 : decode cX7_hear 72 = .ok (.iaload, 1) := by decide +kernel
theorem dX7_hear_73 : decode cX7_hear 73 = .ok (.invokestatic 105, 3) := by decide +kernel
theorem dX7_hear_76 : decode cX7_hear 76 = .ok (.putfield 102, 3) := by decide +kernel
theorem dX7_hear_79 : decode cX7_hear 79 = .ok (.aload_n 0, 1) := by decide +kernel
theorem dX7_hear_80 : decode cX7_hear 80 = .ok (.iload_n 2, 1) := by decide +kernel
theorem dX7_hear_81 : decode cX7_hear 81 = .ok (.aload_n 1, 1) := by decide +kernel
theorem dX7_hear_82 : decode cX7_hear 82 = .ok (.iconst 2, 1) := by decide +kernel
theorem dX7_hear_83 : decode cX7_hear 83 = .ok (.iaload, 1) := by decide +kernel
theorem dX7_hear_84 : decode cX7_hear 84 = .ok (.iconst (-1), 1) := by decide +kernel
theorem dX7_hear_85 : decode cX7_hear 85 = .ok (.if_icmp .ne 7, 3) := by decide +kernel
theorem dX7_hear_88 : decode cX7_hear 88 = .ok (.iconst 0, 1) := by decide +kernel
theorem dX7_hear_89 : decode cX7_hear 89 = .ok (.goto 4, 3) := by decide +kernel
theorem dX7_hear_92 : decode cX7_hear 92 = .ok (.iconst 1, 1) := by decide +kernel
theorem dX7_hear_93 : decode cX7_hear 93 = .ok (.aload_n 0, 1) := by decide +kernel
theorem dX7_hear_94 : decode cX7_hear 94 = .ok (.invokevirtual 108, 3) := by decide +kernel
theorem dX7_hear_97 : decode cX7_hear 97 = .ok (.invokevirtual 112, 3) := by decide +kernel
theorem dX7_hear_100 : decode cX7_hear 100 = .ok (.istore_n 3, 1) := by decide +kernel
theorem dX7_hear_101 : decode cX7_hear 101 = .ok (.iload_n 3, 1) := by decide +kernel
theorem dX7_hear_102 : decode cX7_hear 102 = .ok (.iconst (-1), 1) := by decide +kernel
theorem dX7_hear_103 : decode cX7_hear 103 = .ok (.if_icmp .eq 13, 3) := by decide +kernel
theorem dX7_hear_106 : decode cX7_hear 106 = .ok (.aload_n 0, 1) := by decide +kernel
theorem dX7_hear_107 : decode cX7_hear 107 = .ok (.aload_n 1, 1) := by decide +kernel
theorem dX7_hear_108 : decode cX7_hear 108 = .ok (.iload_n 2, 1) := by decide +kernel
theorem dX7_hear_109 : decode cX7_hear 109 = .ok (.iload_n 3, 1) := by decide +kernel
theorem dX7_hear_110 : decode cX7_hear 110 = .ok (.invokestatic 60, 3) := by decide +kernel
theorem dX7_hear_113 : decode cX7_hear 113 = .ok (.invokevirtual 116, 3) := by decide +kernel
theorem dX7_hear_116 : decode cX7_hear 116 = .ok (.aload_n 0, 1) := by decide +kernel
theorem dX7_hear_117 : decode cX7_hear 117 = .ok (.iload_n 2, 1) := by decide +kernel
theorem dX7_hear_118 : decode cX7_hear 118 = .ok (.iconst 2, 1) := by decide +kernel
theorem dX7_hear_119 : decode cX7_hear 119 = .ok (.iconst 0, 1) := by decide +kernel
theorem dX7_hear_120 : decode cX7_hear 120 = .ok (.aload_n 0, 1) := by decide +kernel
theorem dX7_hear_121 : decode cX7_hear 121 = .ok (.iload_n 2, 1) := by decide +kernel
theorem dX7_hear_122 : decode cX7_hear 122 = .ok (.iconst 2, 1) := by decide +kernel
theorem dX7_hear_123 : decode cX7_hear 123 = .ok (.invokevirtual 43, 3) := by decide +kernel
theorem dX7_hear_126 : decode cX7_hear 126 = .ok (.iconst 1, 1) := by decide +kernel
theorem dX7_hear_127 : decode cX7_hear 127 = .ok (.isub, 1) := by decide +kernel
theorem dX7_hear_128 : decode cX7_hear 128 = .ok (.invokestatic 105, 3) := by decide +kernel
theorem dX7_hear_131 : decode cX7_hear 131 = .ok (.invokevirtual 63, 3) := by decide +kernel
theorem dX7_hear_134 : decode cX7_hear 134 = .ok (.iload_n 3, 1) := by decide +kernel
theorem dX7_hear_135 : decode cX7_hear 135 = .ok (.iconst (-1), 1) := by decide +kernel
theorem dX7_hear_136 : decode cX7_hear 136 = .ok (.if_icmp .eq 7, 3) := by decide +kernel
theorem dX7_hear_139 : decode cX7_hear 139 = .ok (.iconst 0, 1) := by decide +kernel
theorem dX7_hear_140 : decode cX7_hear 140 = .ok (.goto 4, 3) := by decide +kernel
theorem dX7_hear_143 : decode cX7_hear 143 = .ok (.iconst 1, 1) := by decide +kernel
theorem dX7_hear_144 : decode cX7_hear 144 = .ok (.ireturn, 1) := by decide +kernel
set_option maxRecDepth 20000 in
theorem ggX7_ring_X7_isTenant : GoodIn wsX7_ring wsX7_isTenant := goodIn_r _ [8, 9, 10, 11, 7, 12, 79, 80, 81, 82, 83, 84, 85, 86, 87, 88, 89, 90, 91, 92, 93] (by decide +kernel) (by decide +kernel)
set_option maxRecDepth 20000 in
theorem gX7_ring_X7_isTenant : GoodIn wsX7_ring (wsV RX7 39 RX7 yX7_isTenant wsX7_isTenant) := goodIn_app (goodIn_of _ (by decide +kernel)) ggX7_ring_X7_isTenant
set_option maxRecDepth 20000 in
theorem ggX7_ring_X7_fail : GoodIn wsX7_ring wsX7_fail := goodIn_r _ [16, 1, 79, 80, 81, 82, 83, 84, 85, 86, 87, 88, 89, 90, 91, 92, 93] (by decide +kernel) (by decide +kernel)
set_option maxRecDepth 20000 in
theorem gX7_ring_X7_fail : GoodIn wsX7_ring (wsV RX7 50 RX7 yX7_fail wsX7_fail) := goodIn_app (goodIn_of _ (by decide +kernel)) ggX7_ring_X7_fail
set_option maxRecDepth 20000 in
theorem ggX7_ring_X7_hear : GoodIn wsX7_ring wsX7_hear := goodIn_r _ [20, 3, 21, 22, 23, 24, 25, 26, 27, 28, 29, 30, 7, 31, 32, 33, 34, 35, 36, 37, 38, 39, 40, 41, 42, 43, 44, 45, 46, 47, 48, 49, 10, 11, 12, 50, 51, 52, 53, 9, 54, 55, 56, 57, 58, 59, 60, 61, 62, 63, 64, 65, 66, 67, 68, 69, 70, 71, 72, 73, 74, 75, 76, 77, 78, 79, 80, 81, 82, 83, 84, 85, 86, 87, 88, 89, 90, 91, 92, 93] (by decide +kernel) (by decide +kernel)
set_option maxRecDepth 20000 in
theorem gX7_ring_X7_hear : GoodIn wsX7_ring (wsV RX7 119 RX7 yX7_hear wsX7_hear) := goodIn_app (goodIn_of _ (by decide +kernel)) ggX7_ring_X7_hear
theorem dX7_ring_0 : decode cX7_ring 0 = .ok (.aload_n 0, 1) := by decide +kernel
theorem dX7_ring_1 : decode cX7_ring 1 = .ok (.iconst 0, 1) := by decide +kernel
theorem dX7_ring_2 : decode cX7_ring 2 = .ok (.putfield 29, 3) := by decide +kernel
theorem dX7_ring_5 : decode cX7_ring 5 = .ok (.aload_n 0, 1) := by decide +kernel
theorem dX7_ring_6 : decode cX7_ring 6 = .ok (.iload_n 1, 1) := by decide +kernel
theorem dX7_ring_7 : decode cX7_ring 7 = .ok (.invokevirtual 39, 3) := by decide +kernel
theorem dX7_ring_10 : decode cX7_ring 10 = .ok (.ifCond .ne 9, 3) := by decide +kernel
theorem dX7_ring_13 : decode cX7_ring 13 = .ok (.aload_n 0, 1) := by decide +kernel
theorem dX7_ring_14 : decode cX7_ring 14 = .ok (.iconst 1, 1) := by decide +kernel
theorem dX7_ring_15 : decode cX7_ring 15 = .ok (.invokevirtual 50, 3) := by decide +kernel
theorem dX7_ring_18 : decode cX7_ring 18 = .ok (.ireturn, 1) := by decide +kernel
theorem dX7_ring_19 : decode cX7_ring 19 = .ok (.aload_n 0, 1) := by decide +kernel
theorem dX7_ring_20 : decode cX7_ring 20 = .ok (.getfield 26, 3) := by decide +kernel
theorem dX7_ring_23 : decode cX7_ring 23 = .ok (.iconst 0, 1) := by decide +kernel
theorem dX7_ring_24 : decode cX7_ring 24 = .ok (.aload_n 0, 1) := by decide +kernel
theorem dX7_ring_25 : decode cX7_ring 25 = .ok (.getfield 47, 3) := by decide +kernel
theorem dX7_ring_28 : decode cX7_ring 28 = .ok (.iastore, 1) := by decide +kernel
theorem dX7_ring_29 : decode cX7_ring 29 = .ok (.aload_n 0, 1) := by decide +kernel
theorem dX7_ring_30 : decode cX7_ring 30 = .ok (.getfield 26, 3) := by decide +kernel
theorem dX7_ring_33 : decode cX7_ring 33 = .ok (.iconst 1, 1) := by decide +kernel
theorem dX7_ring_34 : decode cX7_ring 34 = .ok (.iload_n 1, 1) := by decide +kernel
theorem dX7_ring_35 : decode cX7_ring 35 = .ok (.iastore, 1) := by decide +kernel
theorem dX7_ring_36 : decode cX7_ring 36 = .ok (.aload_n 0, 1) := by decide +kernel
theorem dX7_ring_37 : decode cX7_ring 37 = .ok (.getfield 26, 3) := by decide +kernel
theorem dX7_ring_40 : decode cX7_ring 40 = .ok (.iconst 2, 1) := by decide +kernel
theorem dX7_ring_41 : decode cX7_ring 41 = .ok (.iconst (-1), 1) := by decide +kernel
theorem dX7_ring_42 : decode cX7_ring 42 = .ok (.iastore, 1) := by decide +kernel
theorem dX7_ring_43 : decode cX7_ring 43 = .ok (.aload_n 0, 1) := by decide +kernel
theorem dX7_ring_44 : decode cX7_ring 44 = .ok (.getfield 26, 3) := by decide +kernel
theorem dX7_ring_47 : decode cX7_ring 47 = .ok (.iconst 3, 1) := by decide +kernel
theorem dX7_ring_48 : decode cX7_ring 48 = .ok (.iconst 0, 1) := by decide +kernel
theorem dX7_ring_49 : decode cX7_ring 49 = .ok (.iastore, 1) := by decide +kernel
theorem dX7_ring_50 : decode cX7_ring 50 = .ok (.aload_n 0, 1) := by decide +kernel
theorem dX7_ring_51 : decode cX7_ring 51 = .ok (.getfield 26, 3) := by decide +kernel
theorem dX7_ring_54 : decode cX7_ring 54 = .ok (.iconst 4, 1) := by decide +kernel
theorem dX7_ring_55 : decode cX7_ring 55 = .ok (.iconst 0, 1) := by decide +kernel
theorem dX7_ring_56 : decode cX7_ring 56 = .ok (.iastore, 1) := by decide +kernel
theorem dX7_ring_57 : decode cX7_ring 57 = .ok (.aload_n 0, 1) := by decide +kernel
theorem dX7_ring_58 : decode cX7_ring 58 = .ok (.getfield 26, 3) := by decide +kernel
theorem dX7_ring_61 : decode cX7_ring 61 = .ok (.iconst 5, 1) := by decide +kernel
theorem dX7_ring_62 : decode cX7_ring 62 = .ok (.iload_n 1, 1) := by decide +kernel
theorem dX7_ring_63 : decode cX7_ring 63 = .ok (.iastore, 1) := by decide +kernel
theorem dX7_ring_64 : decode cX7_ring 64 = .ok (.aload_n 0, 1) := by decide +kernel
theorem dX7_ring_65 : decode cX7_ring 65 = .ok (.aload_n 0, 1) := by decide +kernel
theorem dX7_ring_66 : decode cX7_ring 66 = .ok (.getfield 26, 3) := by decide +kernel
theorem dX7_ring_69 : decode cX7_ring 69 = .ok (.invokevirtual 119, 3) := by decide +kernel
theorem dX7_ring_72 : decode cX7_ring 72 = .ok (.ireturn, 1) := by decide +kernel
set_option maxRecDepth 20000 in
theorem ggX7_pass_X7_isIn : GoodIn wsX7_pass wsX7_isIn := goodIn_r _ [20] (by decide +kernel) (by decide +kernel)
set_option maxRecDepth 20000 in
theorem gX7_pass_X7_isIn : GoodIn wsX7_pass (va_wsS RX7 35 yX7_isIn wsX7_isIn) := goodIn_app (goodIn_of _ (by decide +kernel)) ggX7_pass_X7_isIn
set_option maxRecDepth 20000 in
theorem ggX7_pass_X7_fail : GoodIn wsX7_pass wsX7_fail := goodIn_r _ [24, 1, 78, 79, 80, 81, 82, 83, 84, 85, 86, 87, 88, 89, 90, 91, 92] (by decide +kernel) (by decide +kernel)
set_option maxRecDepth 20000 in
theorem gX7_pass_X7_fail : GoodIn wsX7_pass (wsV RX7 50 RX7 yX7_fail wsX7_fail) := goodIn_app (goodIn_of _ (by decide +kernel)) ggX7_pass_X7_fail
set_option maxRecDepth 20000 in
theorem ggX7_pass_X7_get : GoodIn wsX7_pass wsX7_get := goodIn_r _ [28, 29, 78, 79, 80, 81, 82, 83, 84, 85, 86, 87, 88, 89, 90, 91, 92] (by decide +kernel) (by decide +kernel)
set_option maxRecDepth 20000 in
theorem gX7_pass_X7_get : GoodIn wsX7_pass (wsV RX7 43 RX7 yX7_get wsX7_get) := goodIn_app (goodIn_of _ (by decide +kernel)) ggX7_pass_X7_get
set_option maxRecDepth 20000 in
theorem ggX7_pass_X7_set : GoodIn wsX7_pass wsX7_set := goodIn_r _ [33, 29, 78, 79, 80, 81, 82, 83, 84, 85, 86, 87, 88, 89, 90, 91, 92] (by decide +kernel) (by decide +kernel)
set_option maxRecDepth 20000 in
theorem gX7_pass_X7_set : GoodIn wsX7_pass (wsV RX7 63 RX7 yX7_set wsX7_set) := goodIn_app (goodIn_of _ (by decide +kernel)) ggX7_pass_X7_set
set_option maxRecDepth 20000 in
theorem ggX7_pass_X7_hear : GoodIn wsX7_pass wsX7_hear := goodIn_r _ [37, 3, 38, 2, 39, 40, 41, 8, 42, 25, 26, 27, 19, 28, 29, 30, 31, 32, 33, 43, 44, 45, 46, 4, 47, 48, 49, 50, 51, 52, 53, 54, 17, 18, 20, 55, 56, 57, 58, 5, 59, 60, 61, 62, 63, 64, 65, 66, 67, 68, 69, 13, 14, 15, 16, 70, 71, 72, 73, 74, 75, 76, 77, 10, 11, 78, 79, 80, 81, 82, 83, 84, 85, 86, 87, 88, 89, 90, 91, 92] (by decide +kernel) (by decide +kernel)
set_option maxRecDepth 20000 in
theorem gX7_pass_X7_hear : GoodIn wsX7_pass (wsV RX7 119 RX7 yX7_hear wsX7_hear) := goodIn_app (goodIn_of _ (by decide +kernel)) ggX7_pass_X7_hear
theorem dX7_pass_0 : decode cX7_pass 0 = .ok (.aload_n 0, 1) := by decide +kernel
theorem dX7_pass_1 : decode cX7_pass 1 = .ok (.iconst 0, 1) := by decide +kernel
theorem dX7_pass_2 : decode cX7_pass 2 = .ok (.putfield 29, 3) := by decide +kernel
theorem dX7_pass_5 : decode cX7_pass 5 = .ok (.iload_n 1, 1) := by decide +kernel
theorem dX7_pass_6 : decode cX7_pass 6 = .ok (.iconst 1, 1) := by decide +kernel
theorem dX7_pass_7 : decode cX7_pass 7 = .ok (.sipush 1000, 3) := by decide +kernel
theorem dX7_pass_10 : decode cX7_pass 10 = .ok (.invokestatic 35, 3) := by decide +kernel
theorem dX7_pass_13 : decode cX7_pass 13 = .ok (.ifCond .ne 9, 3) := by decide +kernel
theorem dX7_pass_16 : decode cX7_pass 16 = .ok (.aload_n 0, 1) := by decide +kernel
theorem dX7_pass_17 : decode cX7_pass 17 = .ok (.iconst 1, 1) := by decide +kernel
theorem dX7_pass_18 : decode cX7_pass 18 = .ok (.invokevirtual 50, 3) := by decide +kernel
theorem dX7_pass_21 : decode cX7_pass 21 = .ok (.ireturn, 1) := by decide +kernel
theorem dX7_pass_22 : decode cX7_pass 22 = .ok (.aload_n 0, 1) := by decide +kernel
theorem dX7_pass_23 : decode cX7_pass 23 = .ok (.getfield 99, 3) := by decide +kernel
theorem dX7_pass_26 : decode cX7_pass 26 = .ok (.istore_n 2, 1) := by decide +kernel
theorem dX7_pass_27 : decode cX7_pass 27 = .ok (.iconst 0, 1) := by decide +kernel
theorem dX7_pass_28 : decode cX7_pass 28 = .ok (.istore_n 3, 1) := by decide +kernel
theorem dX7_pass_29 : decode cX7_pass 29 = .ok (.iload_n 3, 1) := by decide +kernel
theorem dX7_pass_30 : decode cX7_pass 30 = .ok (.iload_n 1, 1) := by decide +kernel
theorem dX7_pass_31 : decode cX7_pass 31 = .ok (.if_icmp .ge 153, 3) := by decide +kernel
theorem dX7_pass_34 : decode cX7_pass 34 = .ok (.aload_n 0, 1) := by decide +kernel
theorem dX7_pass_35 : decode cX7_pass 35 = .ok (.dup, 1) := by decide +kernel
theorem dX7_pass_36 : decode cX7_pass 36 = .ok (.getfield 47, 3) := by decide +kernel
theorem dX7_pass_39 : decode cX7_pass 39 = .ok (.iconst 1, 1) := by decide +kernel
theorem dX7_pass_40 : decode cX7_pass 40 = .ok (.iadd, 1) := by decide +kernel
theorem dX7_pass_41 : decode cX7_pass 41 = .ok (.putfield 47, 3) := by decide +kernel
theorem dX7_pass_44 : decode cX7_pass 44 = .ok (.aload_n 0, 1) := by decide +kernel
theorem dX7_pass_45 : decode cX7_pass 45 = .ok (.getfield 47, 3) := by decide +kernel
theorem dX7_pass_48 : decode cX7_pass 48 = .ok (.aload_n 0, 1) := by decide +kernel
theorem dX7_pass_49 : decode cX7_pass 49 = .ok (.getfield 9, 3) := by decide +kernel
theorem dX7_pass_52 : decode cX7_pass 52 = .ok (.irem, 1) := by decide +kernel
theorem dX7_pass_53 : decode cX7_pass 53 = .ok (.ifCond .ne 47, 3) := by decide +kernel
theorem dX7_pass_56 : decode cX7_pass 56 = .ok (.iconst 0, 1) := by decide +kernel
theorem dX7_pass_57 : decode cX7_pass 57 = .ok (.istore 4, 2) := by decide +kernel
theorem dX7_pass_59 : decode cX7_pass 59 = .ok (.iload 4, 2) := by decide +kernel
theorem dX7_pass_61 : decode cX7_pass 61 = .ok (.aload_n 0, 1) := by decide +kernel
theorem dX7_pass_62 : decode cX7_pass 62 = .ok (.getfield 32, 3) := by decide +kernel
theorem dX7_pass_65 : decode cX7_pass 65 = .ok (.if_icmp .ge 35, 3) := by decide +kernel
theorem dX7_pass_68 : decode cX7_pass 68 = .ok (.aload_n 0, 1) := by decide +kernel
theorem dX7_pass_69 : decode cX7_pass 69 = .ok (.iload 4, 2) := by decide +kernel
theorem dX7_pass_71 : decode cX7_pass 71 = .ok (.iconst 2, 1) := by decide +kernel
theorem dX7_pass_72 : decode cX7_pass 72 = .ok (.aload_n 0, 1) := by decide +kernel
theorem dX7_pass_73 : decode cX7_pass 73 = .ok (.iload 4, 2) := by decide +kernel
theorem dX7_pass_75 : decode cX7_pass 75 = .ok (.iconst 1, 1) := by decide +kernel
theorem dX7_pass_76 : decode cX7_pass 76 = .ok (.invokevirtual 43, 3) := by decide +kernel
theorem dX7_pass_79 : decode cX7_pass 79 = .ok (.aload_n 0, 1) := by decide +kernel
theorem dX7_pass_80 : decode cX7_pass 80 = .ok (.iload 4, 2) := by decide +kernel
theorem dX7_pass_82 : decode cX7_pass 82 = .ok (.iconst 2, 1) := by decide +kernel
theorem dX7_pass_83 : decode cX7_pass 83 = .ok (.invokevirtual 43, 3) := by decide +kernel
theorem dX7_pass_86 : decode cX7_pass 86 = .ok (.iconst 1, 1) := by decide +kernel
theorem dX7_pass_87 : decode cX7_pass 87 = .ok (.iadd, 1) := by decide +kernel
theorem dX7_pass_88 : decode cX7_pass 88 = .ok (.invokestatic 123, 3) := by decide +kernel
theorem dX7_pass_91 : decode cX7_pass 91 = .ok (.invokevirtual 63, 3) := by decide +kernel
theorem dX7_pass_94 : decode cX7_pass 94 = .ok (.iinc 4 1, 3) := by decide +kernel
theorem dX7_pass_97 : decode cX7_pass 97 = .ok (.goto (-38), 3) := by decide +kernel
theorem dX7_pass_100 : decode cX7_pass 100 = .ok (.aload_n 0, 1) := by decide +kernel
theorem dX7_pass_101 : decode cX7_pass 101 = .ok (.getfield 71, 3) := by decide +kernel
theorem dX7_pass_104 : decode cX7_pass 104 = .ok (.ifCond .le 74, 3) := by decide +kernel
theorem dX7_pass_107 : decode cX7_pass 107 = .ok (.aload_n 0, 1) := by decide +kernel
theorem dX7_pass_108 : decode cX7_pass 108 = .ok (.getfield 20, 3) := by decide +kernel
theorem dX7_pass_111 : decode cX7_pass 111 = .ok (.iconst 0, 1) := by decide +kernel
theorem dX7_pass_112 : decode cX7_pass 112 = .ok (.iaload, 1) := by decide +kernel
theorem dX7_pass_113 : decode cX7_pass 113 = .ok (.aload_n 0, 1) := by decide +kernel
theorem dX7_pass_114 : decode cX7_pass 114 = .ok (.getfield 47, 3) := by decide +kernel
theorem dX7_pass_117 : decode cX7_pass 117 = .ok (.if_icmp .ne 61, 3) := by decide +kernel
theorem dX7_pass_120 : decode cX7_pass 120 = .ok (.aload_n 0, 1) := by decide +kernel
theorem dX7_pass_121 : decode cX7_pass 121 = .ok (.getfield 20, 3) := by decide +kernel
theorem dX7_pass_124 : decode cX7_pass 124 = .ok (.iconst 0, 1) := by decide +kernel
theorem dX7_pass_125 : decode cX7_pass 125 = .ok (.aload_n 0, 1) := by decide +kernel
theorem dX7_pass_126 : decode cX7_pass 126 = .ok (.getfield 26, 3) := by decide +kernel
theorem dX7_pass_129 : decode cX7_pass 129 = .ok (.iconst 0, 1) := by decide +kernel
theorem dX7_pass_130 : decode cX7_pass 130 = .ok (.bipush 14, 2) := by decide +kernel
theorem dX7_pass_132 : decode cX7_pass 132 = .ok (.invokestatic 54, 3) := by decide +kernel
theorem dX7_pass_135 : decode cX7_pass 135 = .ok (.aload_n 0, 1) := by decide +kernel
theorem dX7_pass_136 : decode cX7_pass 136 = .ok (.dup, 1) := by decide +kernel
theorem dX7_pass_137 : decode cX7_pass 137 = .ok (.getfield 71, 3) := by decide +kernel
theorem dX7_pass_140 : decode cX7_pass 140 = .ok (.iconst 1, 1) := by decide +kernel
theorem dX7_pass_141 : decode cX7_pass 141 = .ok (.isub, 1) := by decide +kernel
theorem dX7_pass_142 : decode cX7_pass 142 = .ok (.putfield 71, 3) := by decide +kernel
theorem dX7_pass_145 : decode cX7_pass 145 = .ok (.aload_n 0, 1) := by decide +kernel
theorem dX7_pass_146 : decode cX7_pass 146 = .ok (.getfield 20, 3) := by decide +kernel
theorem dX7_pass_149 : decode cX7_pass 149 = .ok (.bipush 14, 2) := by decide +kernel
theorem dX7_pass_151 : decode cX7_pass 151 = .ok (.aload_n 0, 1) := by decide +kernel
theorem dX7_pass_152 : decode cX7_pass 152 = .ok (.getfield 20, 3) := by decide +kernel
theorem dX7_pass_155 : decode cX7_pass 155 = .ok (.iconst 0, 1) := by decide +kernel
theorem dX7_pass_156 : decode cX7_pass 156 = .ok (.bipush 14, 2) := by decide +kernel
theorem dX7_pass_158 : decode cX7_pass 158 = .ok (.aload_n 0, 1) := by decide +kernel
theorem dX7_pass_159 : decode cX7_pass 159 = .ok (.getfield 71, 3) := by decide +kernel
theorem dX7_pass_162 : decode cX7_pass 162 = .ok (.imul, 1) := by decide +kernel
theorem dX7_pass_163 : decode cX7_pass 163 = .ok (.invokestatic 54, 3) := by decide +kernel
theorem dX7_pass_166 : decode cX7_pass 166 = .ok (.aload_n 0, 1) := by decide +kernel
theorem dX7_pass_167 : decode cX7_pass 167 = .ok (.aload_n 0, 1) := by decide +kernel
theorem dX7_pass_168 : decode cX7_pass 168 = .ok (.getfield 26, 3) := by decide +kernel
theorem dX7_pass_171 : decode cX7_pass 171 = .ok (.invokevirtual 119, 3) := by decide +kernel
theorem dX7_pass_174 : decode cX7_pass 174 = .ok (.pop, 1) := by decide +kernel
theorem dX7_pass_175 : decode cX7_pass 175 = .ok (.goto (-75), 3) := by decide +kernel
theorem dX7_pass_178 : decode cX7_pass 178 = .ok (.iinc 3 1, 3) := by decide +kernel
theorem dX7_pass_181 : decode cX7_pass 181 = .ok (.goto (-152), 3) := by decide +kernel
theorem dX7_pass_184 : decode cX7_pass 184 = .ok (.aload_n 0, 1) := by decide +kernel
theorem dX7_pass_185 : decode cX7_pass 185 = .ok (.getfield 99, 3) := by decide +kernel
theorem dX7_pass_188 : decode cX7_pass 188 = .ok (.iload_n 2, 1) := by decide +kernel
theorem dX7_pass_189 : decode cX7_pass 189 = .ok (.isub, 1) := by decide +kernel
theorem dX7_pass_190 : decode cX7_pass 190 = .ok (.ireturn, 1) := by decide +kernel
set_option maxRecDepth 20000 in
theorem ggX7_counted_X7_hour : GoodIn wsX7_counted wsX7_hour := goodIn_r _ [13, 1, 8, 14, 15, 16, 17, 18, 19, 20, 21, 22, 23, 24, 25, 26, 27, 28] (by decide +kernel) (by decide +kernel)
set_option maxRecDepth 20000 in
theorem gX7_counted_X7_hour : GoodIn wsX7_counted (wsV RX7 108 RX7 yX7_hour wsX7_hour) := goodIn_app (goodIn_of _ (by decide +kernel)) ggX7_counted_X7_hour
theorem dX7_counted_0 : decode cX7_counted 0 = .ok (.iload_n 1, 1) := by decide +kernel
theorem dX7_counted_1 : decode cX7_counted 1 = .ok (.tableswitch 87 0 7 #[47, 52, 57, 62, 67, 72, 77, 82], 47) := by decide +kernel
theorem dX7_counted_48 : decode cX7_counted 48 = .ok (.aload_n 0, 1) := by decide +kernel
theorem dX7_counted_49 : decode cX7_counted 49 = .ok (.getfield 47, 3) := by decide +kernel
theorem dX7_counted_52 : decode cX7_counted 52 = .ok (.ireturn, 1) := by decide +kernel
theorem dX7_counted_53 : decode cX7_counted 53 = .ok (.aload_n 0, 1) := by decide +kernel
theorem dX7_counted_54 : decode cX7_counted 54 = .ok (.invokevirtual 108, 3) := by decide +kernel
theorem dX7_counted_57 : decode cX7_counted 57 = .ok (.ireturn, 1) := by decide +kernel
theorem dX7_counted_58 : decode cX7_counted 58 = .ok (.aload_n 0, 1) := by decide +kernel
theorem dX7_counted_59 : decode cX7_counted 59 = .ok (.getfield 32, 3) := by decide +kernel
theorem dX7_counted_62 : decode cX7_counted 62 = .ok (.ireturn, 1) := by decide +kernel
theorem dX7_counted_63 : decode cX7_counted 63 = .ok (.aload_n 0, 1) := by decide +kernel
theorem dX7_counted_64 : decode cX7_counted 64 = .ok (.getfield 71, 3) := by decide +kernel
theorem dX7_counted_67 : decode cX7_counted 67 = .ok (.ireturn, 1) := by decide +kernel
theorem dX7_counted_68 : decode cX7_counted 68 = .ok (.aload_n 0, 1) := by decide +kernel
theorem dX7_counted_69 : decode cX7_counted 69 = .ok (.getfield 99, 3) := by decide +kernel
theorem dX7_counted_72 : decode cX7_counted 72 = .ok (.ireturn, 1) := by decide +kernel
theorem dX7_counted_73 : decode cX7_counted 73 = .ok (.aload_n 0, 1) := by decide +kernel
theorem dX7_counted_74 : decode cX7_counted 74 = .ok (.getfield 74, 3) := by decide +kernel
theorem dX7_counted_77 : decode cX7_counted 77 = .ok (.ireturn, 1) := by decide +kernel
theorem dX7_counted_78 : decode cX7_counted 78 = .ok (.aload_n 0, 1) := by decide +kernel
theorem dX7_counted_79 : decode cX7_counted 79 = .ok (.getfield 77, 3) := by decide +kernel
theorem dX7_counted_82 : decode cX7_counted 82 = .ok (.ireturn, 1) := by decide +kernel
theorem dX7_counted_83 : decode cX7_counted 83 = .ok (.aload_n 0, 1) := by decide +kernel
theorem dX7_counted_84 : decode cX7_counted 84 = .ok (.getfield 102, 3) := by decide +kernel
theorem dX7_counted_87 : decode cX7_counted 87 = .ok (.ireturn, 1) := by decide +kernel
theorem dX7_counted_88 : decode cX7_counted 88 = .ok (.aload_n 0, 1) := by decide +kernel
theorem dX7_counted_89 : decode cX7_counted 89 = .ok (.getfield 9, 3) := by decide +kernel
theorem dX7_counted_92 : decode cX7_counted 92 = .ok (.ireturn, 1) := by decide +kernel
set_option maxRecDepth 20000 in
theorem ggX7_count_X7_isIn : GoodIn wsX7_count wsX7_isIn := goodIn_r _ [5] (by decide +kernel) (by decide +kernel)
set_option maxRecDepth 20000 in
theorem gX7_count_X7_isIn : GoodIn wsX7_count (va_wsS RX7 35 yX7_isIn wsX7_isIn) := goodIn_app (goodIn_of _ (by decide +kernel)) ggX7_count_X7_isIn
set_option maxRecDepth 20000 in
theorem ggX7_count_X7_counted : GoodIn wsX7_count wsX7_counted := goodIn_r _ [9, 10, 11, 12, 13, 14, 15, 16, 17, 18, 19, 20, 4, 21, 26, 27, 28, 29, 30, 31, 32, 33, 34, 35, 36, 37, 38, 39, 40] (by decide +kernel) (by decide +kernel)
set_option maxRecDepth 20000 in
theorem gX7_count_X7_counted : GoodIn wsX7_count (wsV RX7 126 RX7 yX7_counted wsX7_counted) := goodIn_app (goodIn_of _ (by decide +kernel)) ggX7_count_X7_counted
set_option maxRecDepth 20000 in
theorem ggX7_count_X7_fail : GoodIn wsX7_count wsX7_fail := goodIn_r _ [25, 1, 26, 27, 28, 29, 30, 31, 32, 33, 34, 35, 36, 37, 38, 39, 40] (by decide +kernel) (by decide +kernel)
set_option maxRecDepth 20000 in
theorem gX7_count_X7_fail : GoodIn wsX7_count (wsV RX7 50 RX7 yX7_fail wsX7_fail) := goodIn_app (goodIn_of _ (by decide +kernel)) ggX7_count_X7_fail
theorem dX7_count_0 : decode cX7_count 0 = .ok (.aload_n 0, 1) := by decide +kernel
theorem dX7_count_1 : decode cX7_count 1 = .ok (.iconst 0, 1) := by decide +kernel
theorem dX7_count_2 : decode cX7_count 2 = .ok (.putfield 29, 3) := by decide +kernel
theorem dX7_count_5 : decode cX7_count 5 = .ok (.iload_n 1, 1) := by decide +kernel
theorem dX7_count_6 : decode cX7_count 6 = .ok (.iconst 0, 1) := by decide +kernel
theorem dX7_count_7 : decode cX7_count 7 = .ok (.bipush 8, 2) := by decide +kernel
theorem dX7_count_9 : decode cX7_count 9 = .ok (.invokestatic 35, 3) := by decide +kernel
theorem dX7_count_12 : decode cX7_count 12 = .ok (.ifCond .eq 11, 3) := by decide +kernel
theorem dX7_count_15 : decode cX7_count 15 = .ok (.aload_n 0, 1) := by decide +kernel
theorem dX7_count_16 : decode cX7_count 16 = .ok (.iload_n 1, 1) := by decide +kernel
theorem dX7_count_17 : decode cX7_count 17 = .ok (.invokevirtual 126, 3) := by decide +kernel
theorem dX7_count_20 : decode cX7_count 20 = .ok (.goto 8, 3) := by decide +kernel
theorem dX7_count_23 : decode cX7_count 23 = .ok (.aload_n 0, 1) := by decide +kernel
theorem dX7_count_24 : decode cX7_count 24 = .ok (.iconst 1, 1) := by decide +kernel
theorem dX7_count_25 : decode cX7_count 25 = .ok (.invokevirtual 50, 3) := by decide +kernel
theorem dX7_count_28 : decode cX7_count 28 = .ok (.ireturn, 1) := by decide +kernel
set_option maxRecDepth 20000 in
theorem ggX7_waiting_X7_isIn : GoodIn wsX7_waiting wsX7_isIn := goodIn_r _ [7] (by decide +kernel) (by decide +kernel)
set_option maxRecDepth 20000 in
theorem gX7_waiting_X7_isIn : GoodIn wsX7_waiting (va_wsS RX7 35 yX7_isIn wsX7_isIn) := goodIn_app (goodIn_of _ (by decide +kernel)) ggX7_waiting_X7_isIn
set_option maxRecDepth 20000 in
theorem ggX7_waiting_X7_fail : GoodIn wsX7_waiting wsX7_fail := goodIn_r _ [11, 1, 12, 13, 14, 15, 16, 17, 18, 19, 20, 21, 22, 23, 24, 25, 26] (by decide +kernel) (by decide +kernel)
set_option maxRecDepth 20000 in
theorem gX7_waiting_X7_fail : GoodIn wsX7_waiting (wsV RX7 50 RX7 yX7_fail wsX7_fail) := goodIn_app (goodIn_of _ (by decide +kernel)) ggX7_waiting_X7_fail
theorem dX7_waiting_0 : decode cX7_waiting 0 = .ok (.aload_n 0, 1) := by decide +kernel
theorem dX7_waiting_1 : decode cX7_waiting 1 = .ok (.iconst 0, 1) := by decide +kernel
theorem dX7_waiting_2 : decode cX7_waiting 2 = .ok (.putfield 29, 3) := by decide +kernel
theorem dX7_waiting_5 : decode cX7_waiting 5 = .ok (.iload_n 1, 1) := by decide +kernel
theorem dX7_waiting_6 : decode cX7_waiting 6 = .ok (.iconst 0, 1) := by decide +kernel
theorem dX7_waiting_7 : decode cX7_waiting 7 = .ok (.aload_n 0, 1) := by decide +kernel
theorem dX7_waiting_8 : decode cX7_waiting 8 = .ok (.getfield 71, 3) := by decide +kernel
theorem dX7_waiting_11 : decode cX7_waiting 11 = .ok (.iconst 1, 1) := by decide +kernel
theorem dX7_waiting_12 : decode cX7_waiting 12 = .ok (.isub, 1) := by decide +kernel
theorem dX7_waiting_13 : decode cX7_waiting 13 = .ok (.invokestatic 35, 3) := by decide +kernel
theorem dX7_waiting_16 : decode cX7_waiting 16 = .ok (.ifCond .eq 26, 3) := by decide +kernel
theorem dX7_waiting_19 : decode cX7_waiting 19 = .ok (.iload_n 2, 1) := by decide +kernel
theorem dX7_waiting_20 : decode cX7_waiting 20 = .ok (.iconst 0, 1) := by decide +kernel
theorem dX7_waiting_21 : decode cX7_waiting 21 = .ok (.iconst 4, 1) := by decide +kernel
theorem dX7_waiting_22 : decode cX7_waiting 22 = .ok (.invokestatic 35, 3) := by decide +kernel
theorem dX7_waiting_25 : decode cX7_waiting 25 = .ok (.ifCond .eq 17, 3) := by decide +kernel
theorem dX7_waiting_28 : decode cX7_waiting 28 = .ok (.aload_n 0, 1) := by decide +kernel
theorem dX7_waiting_29 : decode cX7_waiting 29 = .ok (.getfield 20, 3) := by decide +kernel
theorem dX7_waiting_32 : decode cX7_waiting 32 = .ok (.bipush 14, 2) := by decide +kernel
theorem dX7_waiting_34 : decode cX7_waiting 34 = .ok (.iload_n 1, 1) := by decide +kernel
theorem dX7_waiting_35 : decode cX7_waiting 35 = .ok (.imul, 1) := by decide +kernel
theorem dX7_waiting_36 : decode cX7_waiting 36 = .ok (.iload_n 2, 1) := by decide +kernel
theorem dX7_waiting_37 : decode cX7_waiting 37 = .ok (.iadd, 1) := by decide +kernel
theorem dX7_waiting_38 : decode cX7_waiting 38 = .ok (.iaload, 1) := by decide +kernel
theorem dX7_waiting_39 : decode cX7_waiting 39 = .ok (.goto 8, 3) := by decide +kernel
theorem dX7_waiting_42 : decode cX7_waiting 42 = .ok (.aload_n 0, 1) := by decide +kernel
theorem dX7_waiting_43 : decode cX7_waiting 43 = .ok (.iconst 1, 1) := by decide +kernel
theorem dX7_waiting_44 : decode cX7_waiting 44 = .ok (.invokevirtual 50, 3) := by decide +kernel
theorem dX7_waiting_47 : decode cX7_waiting 47 = .ok (.ireturn, 1) := by decide +kernel
set_option maxRecDepth 20000 in
theorem ggX7_fits_X7_isTenant : GoodIn wsX7_fits wsX7_isTenant := goodIn_r _ [6, 7, 8, 9, 5, 10, 28, 29, 30, 31, 32, 33, 34, 35, 36, 37, 38, 39, 40, 41, 42] (by decide +kernel) (by decide +kernel)
set_option maxRecDepth 20000 in
theorem gX7_fits_X7_isTenant : GoodIn wsX7_fits (wsV RX7 39 RX7 yX7_isTenant wsX7_isTenant) := goodIn_app (goodIn_of _ (by decide +kernel)) ggX7_fits_X7_isTenant
set_option maxRecDepth 20000 in
theorem ggX7_fits_X7_fail : GoodIn wsX7_fits wsX7_fail := goodIn_r _ [14, 1, 28, 29, 30, 31, 32, 33, 34, 35, 36, 37, 38, 39, 40, 41, 42] (by decide +kernel) (by decide +kernel)
set_option maxRecDepth 20000 in
theorem gX7_fits_X7_fail : GoodIn wsX7_fits (wsV RX7 50 RX7 yX7_fail wsX7_fail) := goodIn_app (goodIn_of _ (by decide +kernel)) ggX7_fits_X7_fail
set_option maxRecDepth 20000 in
theorem ggX7_fits_X7_isIn : GoodIn wsX7_fits wsX7_isIn := goodIn_r _ [10] (by decide +kernel) (by decide +kernel)
set_option maxRecDepth 20000 in
theorem gX7_fits_X7_isIn : GoodIn wsX7_fits (va_wsS RX7 35 yX7_isIn wsX7_isIn) := goodIn_app (goodIn_of _ (by decide +kernel)) ggX7_fits_X7_isIn
set_option maxRecDepth 20000 in
theorem ggX7_fits_X7_fitting : GoodIn wsX7_fits wsX7_fitting := goodIn_r _ [18, 19, 20, 21, 22, 5, 23, 24, 25, 26, 27, 8, 9, 10, 28, 29, 30, 31, 32, 33, 34, 35, 36, 37, 38, 39, 40, 41, 42] (by decide +kernel) (by decide +kernel)
set_option maxRecDepth 20000 in
theorem gX7_fits_X7_fitting : GoodIn wsX7_fits (wsV RX7 112 RX7 yX7_fitting wsX7_fitting) := goodIn_app (goodIn_of _ (by decide +kernel)) ggX7_fits_X7_fitting
theorem dX7_fits_0 : decode cX7_fits 0 = .ok (.aload_n 0, 1) := by decide +kernel
theorem dX7_fits_1 : decode cX7_fits 1 = .ok (.iconst 0, 1) := by decide +kernel
theorem dX7_fits_2 : decode cX7_fits 2 = .ok (.putfield 29, 3) := by decide +kernel
theorem dX7_fits_5 : decode cX7_fits 5 = .ok (.aload_n 0, 1) := by decide +kernel
theorem dX7_fits_6 : decode cX7_fits 6 = .ok (.iload_n 1, 1) := by decide +kernel
theorem dX7_fits_7 : decode cX7_fits 7 = .ok (.invokevirtual 39, 3) := by decide +kernel
theorem dX7_fits_10 : decode cX7_fits 10 = .ok (.ifCond .ne 9, 3) := by decide +kernel
theorem dX7_fits_13 : decode cX7_fits 13 = .ok (.aload_n 0, 1) := by decide +kernel
theorem dX7_fits_14 : decode cX7_fits 14 = .ok (.iconst 1, 1) := by decide +kernel
theorem dX7_fits_15 : decode cX7_fits 15 = .ok (.invokevirtual 50, 3) := by decide +kernel
theorem dX7_fits_18 : decode cX7_fits 18 = .ok (.ireturn, 1) := by decide +kernel
theorem dX7_fits_19 : decode cX7_fits 19 = .ok (.iload_n 2, 1) := by decide +kernel
theorem dX7_fits_20 : decode cX7_fits 20 = .ok (.iconst 0, 1) := by decide +kernel
theorem dX7_fits_21 : decode cX7_fits 21 = .ok (.iconst 1, 1) := by decide +kernel
theorem dX7_fits_22 : decode cX7_fits 22 = .ok (.invokestatic 35, 3) := by decide +kernel
theorem dX7_fits_25 : decode cX7_fits 25 = .ok (.ifCond .eq 13, 3) := by decide +kernel
theorem dX7_fits_28 : decode cX7_fits 28 = .ok (.iload_n 3, 1) := by decide +kernel
theorem dX7_fits_29 : decode cX7_fits 29 = .ok (.iconst 0, 1) := by decide +kernel
theorem dX7_fits_30 : decode cX7_fits 30 = .ok (.bipush 23, 2) := by decide +kernel
theorem dX7_fits_32 : decode cX7_fits 32 = .ok (.invokestatic 35, 3) := by decide +kernel
theorem dX7_fits_35 : decode cX7_fits 35 = .ok (.ifCond .ne 9, 3) := by decide +kernel
theorem dX7_fits_38 : decode cX7_fits 38 = .ok (.aload_n 0, 1) := by decide +kernel
theorem dX7_fits_39 : decode cX7_fits 39 = .ok (.iconst 2, 1) := by decide +kernel
theorem dX7_fits_40 : decode cX7_fits 40 = .ok (.invokevirtual 50, 3) := by decide +kernel
theorem dX7_fits_43 : decode cX7_fits 43 = .ok (.ireturn, 1) := by decide +kernel
theorem dX7_fits_44 : decode cX7_fits 44 = .ok (.aload_n 0, 1) := by decide +kernel
theorem dX7_fits_45 : decode cX7_fits 45 = .ok (.iload_n 1, 1) := by decide +kernel
theorem dX7_fits_46 : decode cX7_fits 46 = .ok (.iload_n 2, 1) := by decide +kernel
theorem dX7_fits_47 : decode cX7_fits 47 = .ok (.iload_n 3, 1) := by decide +kernel
theorem dX7_fits_48 : decode cX7_fits 48 = .ok (.invokevirtual 112, 3) := by decide +kernel
theorem dX7_fits_51 : decode cX7_fits 51 = .ok (.ireturn, 1) := by decide +kernel
set_option maxRecDepth 20000 in
theorem ggX7_sung_X7_isIn : GoodIn wsX7_sung wsX7_isIn := goodIn_r _ [7] (by decide +kernel) (by decide +kernel)
set_option maxRecDepth 20000 in
theorem gX7_sung_X7_isIn : GoodIn wsX7_sung (va_wsS RX7 35 yX7_isIn wsX7_isIn) := goodIn_app (goodIn_of _ (by decide +kernel)) ggX7_sung_X7_isIn
set_option maxRecDepth 20000 in
theorem ggX7_sung_X7_fail : GoodIn wsX7_sung wsX7_fail := goodIn_r _ [11, 1, 12, 13, 14, 15, 16, 17, 18, 19, 20, 21, 22, 23, 24, 25, 26] (by decide +kernel) (by decide +kernel)
set_option maxRecDepth 20000 in
theorem gX7_sung_X7_fail : GoodIn wsX7_sung (wsV RX7 50 RX7 yX7_fail wsX7_fail) := goodIn_app (goodIn_of _ (by decide +kernel)) ggX7_sung_X7_fail
theorem dX7_sung_0 : decode cX7_sung 0 = .ok (.aload_n 0, 1) := by decide +kernel
theorem dX7_sung_1 : decode cX7_sung 1 = .ok (.iconst 0, 1) := by decide +kernel
theorem dX7_sung_2 : decode cX7_sung 2 = .ok (.putfield 29, 3) := by decide +kernel
theorem dX7_sung_5 : decode cX7_sung 5 = .ok (.iload_n 1, 1) := by decide +kernel
theorem dX7_sung_6 : decode cX7_sung 6 = .ok (.iconst 0, 1) := by decide +kernel
theorem dX7_sung_7 : decode cX7_sung 7 = .ok (.aload_n 0, 1) := by decide +kernel
theorem dX7_sung_8 : decode cX7_sung 8 = .ok (.getfield 80, 3) := by decide +kernel
theorem dX7_sung_11 : decode cX7_sung 11 = .ok (.iconst 1, 1) := by decide +kernel
theorem dX7_sung_12 : decode cX7_sung 12 = .ok (.isub, 1) := by decide +kernel
theorem dX7_sung_13 : decode cX7_sung 13 = .ok (.invokestatic 35, 3) := by decide +kernel
theorem dX7_sung_16 : decode cX7_sung 16 = .ok (.ifCond .eq 26, 3) := by decide +kernel
theorem dX7_sung_19 : decode cX7_sung 19 = .ok (.iload_n 2, 1) := by decide +kernel
theorem dX7_sung_20 : decode cX7_sung 20 = .ok (.iconst 0, 1) := by decide +kernel
theorem dX7_sung_21 : decode cX7_sung 21 = .ok (.iconst 5, 1) := by decide +kernel
theorem dX7_sung_22 : decode cX7_sung 22 = .ok (.invokestatic 35, 3) := by decide +kernel
theorem dX7_sung_25 : decode cX7_sung 25 = .ok (.ifCond .eq 17, 3) := by decide +kernel
theorem dX7_sung_28 : decode cX7_sung 28 = .ok (.aload_n 0, 1) := by decide +kernel
theorem dX7_sung_29 : decode cX7_sung 29 = .ok (.getfield 23, 3) := by decide +kernel
theorem dX7_sung_32 : decode cX7_sung 32 = .ok (.bipush 15, 2) := by decide +kernel
theorem dX7_sung_34 : decode cX7_sung 34 = .ok (.iload_n 1, 1) := by decide +kernel
theorem dX7_sung_35 : decode cX7_sung 35 = .ok (.imul, 1) := by decide +kernel
theorem dX7_sung_36 : decode cX7_sung 36 = .ok (.iload_n 2, 1) := by decide +kernel
theorem dX7_sung_37 : decode cX7_sung 37 = .ok (.iadd, 1) := by decide +kernel
theorem dX7_sung_38 : decode cX7_sung 38 = .ok (.iaload, 1) := by decide +kernel
theorem dX7_sung_39 : decode cX7_sung 39 = .ok (.goto 8, 3) := by decide +kernel
theorem dX7_sung_42 : decode cX7_sung 42 = .ok (.aload_n 0, 1) := by decide +kernel
theorem dX7_sung_43 : decode cX7_sung 43 = .ok (.iconst 1, 1) := by decide +kernel
theorem dX7_sung_44 : decode cX7_sung 44 = .ok (.invokevirtual 50, 3) := by decide +kernel
theorem dX7_sung_47 : decode cX7_sung 47 = .ok (.ireturn, 1) := by decide +kernel
set_option maxRecDepth 20000 in
theorem ggX7_through_X7_isIn : GoodIn wsX7_through wsX7_isIn := goodIn_r _ [7] (by decide +kernel) (by decide +kernel)
set_option maxRecDepth 20000 in
theorem gX7_through_X7_isIn : GoodIn wsX7_through (va_wsS RX7 35 yX7_isIn wsX7_isIn) := goodIn_app (goodIn_of _ (by decide +kernel)) ggX7_through_X7_isIn
set_option maxRecDepth 20000 in
theorem ggX7_through_X7_fail : GoodIn wsX7_through wsX7_fail := goodIn_r _ [11, 1, 12, 13, 14, 15, 16, 17, 18, 19, 20, 21, 22, 23, 24, 25, 26] (by decide +kernel) (by decide +kernel)
set_option maxRecDepth 20000 in
theorem gX7_through_X7_fail : GoodIn wsX7_through (wsV RX7 50 RX7 yX7_fail wsX7_fail) := goodIn_app (goodIn_of _ (by decide +kernel)) ggX7_through_X7_fail
theorem dX7_through_0 : decode cX7_through 0 = .ok (.aload_n 0, 1) := by decide +kernel
theorem dX7_through_1 : decode cX7_through 1 = .ok (.iconst 0, 1) := by decide +kernel
theorem dX7_through_2 : decode cX7_through 2 = .ok (.putfield 29, 3) := by decide +kernel
theorem dX7_through_5 : decode cX7_through 5 = .ok (.iload_n 1, 1) := by decide +kernel
theorem dX7_through_6 : decode cX7_through 6 = .ok (.iconst 0, 1) := by decide +kernel
theorem dX7_through_7 : decode cX7_through 7 = .ok (.aload_n 0, 1) := by decide +kernel
theorem dX7_through_8 : decode cX7_through 8 = .ok (.getfield 80, 3) := by decide +kernel
theorem dX7_through_11 : decode cX7_through 11 = .ok (.iconst 1, 1) := by decide +kernel
theorem dX7_through_12 : decode cX7_through 12 = .ok (.isub, 1) := by decide +kernel
theorem dX7_through_13 : decode cX7_through 13 = .ok (.invokestatic 35, 3) := by decide +kernel
theorem dX7_through_16 : decode cX7_through 16 = .ok (.ifCond .eq 39, 3) := by decide +kernel
theorem dX7_through_19 : decode cX7_through 19 = .ok (.iload_n 2, 1) := by decide +kernel
theorem dX7_through_20 : decode cX7_through 20 = .ok (.iconst 0, 1) := by decide +kernel
theorem dX7_through_21 : decode cX7_through 21 = .ok (.aload_n 0, 1) := by decide +kernel
theorem dX7_through_22 : decode cX7_through 22 = .ok (.getfield 23, 3) := by decide +kernel
theorem dX7_through_25 : decode cX7_through 25 = .ok (.bipush 15, 2) := by decide +kernel
theorem dX7_through_27 : decode cX7_through 27 = .ok (.iload_n 1, 1) := by decide +kernel
theorem dX7_through_28 : decode cX7_through 28 = .ok (.imul, 1) := by decide +kernel
theorem dX7_through_29 : decode cX7_through 29 = .ok (.iconst 4, 1) := by decide +kernel
theorem dX7_through_30 : decode cX7_through 30 = .ok (.iadd, 1) := by decide +kernel
theorem dX7_through_31 : decode cX7_through 31 = .ok (.iaload, 1) := by decide +kernel
theorem dX7_through_32 : decode cX7_through 32 = .ok (.invokestatic 35, 3) := by decide +kernel
theorem dX7_through_35 : decode cX7_through 35 = .ok (.ifCond .eq 20, 3) := by decide +kernel
theorem dX7_through_38 : decode cX7_through 38 = .ok (.aload_n 0, 1) := by decide +kernel
theorem dX7_through_39 : decode cX7_through 39 = .ok (.getfield 23, 3) := by decide +kernel
theorem dX7_through_42 : decode cX7_through 42 = .ok (.bipush 15, 2) := by decide +kernel
theorem dX7_through_44 : decode cX7_through 44 = .ok (.iload_n 1, 1) := by decide +kernel
theorem dX7_through_45 : decode cX7_through 45 = .ok (.imul, 1) := by decide +kernel
theorem dX7_through_46 : decode cX7_through 46 = .ok (.bipush 6, 2) := by decide +kernel
theorem dX7_through_48 : decode cX7_through 48 = .ok (.iadd, 1) := by decide +kernel
theorem dX7_through_49 : decode cX7_through 49 = .ok (.iload_n 2, 1) := by decide +kernel
theorem dX7_through_50 : decode cX7_through 50 = .ok (.iadd, 1) := by decide +kernel
theorem dX7_through_51 : decode cX7_through 51 = .ok (.iaload, 1) := by decide +kernel
theorem dX7_through_52 : decode cX7_through 52 = .ok (.goto 8, 3) := by decide +kernel
theorem dX7_through_55 : decode cX7_through 55 = .ok (.aload_n 0, 1) := by decide +kernel
theorem dX7_through_56 : decode cX7_through 56 = .ok (.iconst 1, 1) := by decide +kernel
theorem dX7_through_57 : decode cX7_through 57 = .ok (.invokevirtual 50, 3) := by decide +kernel
theorem dX7_through_60 : decode cX7_through 60 = .ok (.ireturn, 1) := by decide +kernel
theorem dX7_isSounding_0 : decode cX7_isSounding 0 = .ok (.aload_n 0, 1) := by decide +kernel
theorem dX7_isSounding_1 : decode cX7_isSounding 1 = .ok (.getfield 23, 3) := by decide +kernel
theorem dX7_isSounding_4 : decode cX7_isSounding 4 = .ok (.bipush 15, 2) := by decide +kernel
theorem dX7_isSounding_6 : decode cX7_isSounding 6 = .ok (.iload_n 1, 1) := by decide +kernel
theorem dX7_isSounding_7 : decode cX7_isSounding 7 = .ok (.imul, 1) := by decide +kernel
theorem dX7_isSounding_8 : decode cX7_isSounding 8 = .ok (.iaload, 1) := by decide +kernel
theorem dX7_isSounding_9 : decode cX7_isSounding 9 = .ok (.iload_n 2, 1) := by decide +kernel
theorem dX7_isSounding_10 : decode cX7_isSounding 10 = .ok (.if_icmp .gt 32, 3) := by decide +kernel
theorem dX7_isSounding_13 : decode cX7_isSounding 13 = .ok (.iload_n 2, 1) := by decide +kernel
theorem dX7_isSounding_14 : decode cX7_isSounding 14 = .ok (.aload_n 0, 1) := by decide +kernel
theorem dX7_isSounding_15 : decode cX7_isSounding 15 = .ok (.getfield 23, 3) := by decide +kernel
theorem dX7_isSounding_18 : decode cX7_isSounding 18 = .ok (.bipush 15, 2) := by decide +kernel
theorem dX7_isSounding_20 : decode cX7_isSounding 20 = .ok (.iload_n 1, 1) := by decide +kernel
theorem dX7_isSounding_21 : decode cX7_isSounding 21 = .ok (.imul, 1) := by decide +kernel
theorem dX7_isSounding_22 : decode cX7_isSounding 22 = .ok (.iaload, 1) := by decide +kernel
theorem dX7_isSounding_23 : decode cX7_isSounding 23 = .ok (.isub, 1) := by decide +kernel
theorem dX7_isSounding_24 : decode cX7_isSounding 24 = .ok (.aload_n 0, 1) := by decide +kernel
theorem dX7_isSounding_25 : decode cX7_isSounding 25 = .ok (.getfield 23, 3) := by decide +kernel
theorem dX7_isSounding_28 : decode cX7_isSounding 28 = .ok (.bipush 15, 2) := by decide +kernel
theorem dX7_isSounding_30 : decode cX7_isSounding 30 = .ok (.iload_n 1, 1) := by decide +kernel
theorem dX7_isSounding_31 : decode cX7_isSounding 31 = .ok (.imul, 1) := by decide +kernel
theorem dX7_isSounding_32 : decode cX7_isSounding 32 = .ok (.iconst 1, 1) := by decide +kernel
theorem dX7_isSounding_33 : decode cX7_isSounding 33 = .ok (.iadd, 1) := by decide +kernel
theorem dX7_isSounding_34 : decode cX7_isSounding 34 = .ok (.iaload, 1) := by decide +kernel
theorem dX7_isSounding_35 : decode cX7_isSounding 35 = .ok (.if_icmp .ge 7, 3) := by decide +kernel
theorem dX7_isSounding_38 : decode cX7_isSounding 38 = .ok (.iconst 1, 1) := by decide +kernel
theorem dX7_isSounding_39 : decode cX7_isSounding 39 = .ok (.goto 4, 3) := by decide +kernel
theorem dX7_isSounding_42 : decode cX7_isSounding 42 = .ok (.iconst 0, 1) := by decide +kernel
theorem dX7_isSounding_43 : decode cX7_isSounding 43 = .ok (.ireturn, 1) := by decide +kernel
set_option maxRecDepth 20000 in
theorem ggX7_harmony_X7_isSounding : GoodIn wsX7_harmony wsX7_isSounding := goodIn_r _ [11, 2, 15, 16, 17, 18, 19, 20, 21, 22, 23, 24, 25, 26, 27, 28, 29] (by decide +kernel) (by decide +kernel)
set_option maxRecDepth 20000 in
theorem gX7_harmony_X7_isSounding : GoodIn wsX7_harmony (wsV RX7 129 RX7 yX7_isSounding wsX7_isSounding) := goodIn_app (goodIn_of _ (by decide +kernel)) ggX7_harmony_X7_isSounding
set_option maxRecDepth 20000 in
theorem ggX7_harmony_X7_isIn : GoodIn wsX7_harmony wsX7_isIn := goodIn_r _ [14] (by decide +kernel) (by decide +kernel)
set_option maxRecDepth 20000 in
theorem gX7_harmony_X7_isIn : GoodIn wsX7_harmony (va_wsS RX7 35 yX7_isIn wsX7_isIn) := goodIn_app (goodIn_of _ (by decide +kernel)) ggX7_harmony_X7_isIn
theorem dX7_harmony_0 : decode cX7_harmony 0 = .ok (.iconst 0, 1) := by decide +kernel
theorem dX7_harmony_1 : decode cX7_harmony 1 = .ok (.istore_n 2, 1) := by decide +kernel
theorem dX7_harmony_2 : decode cX7_harmony 2 = .ok (.iconst 0, 1) := by decide +kernel
theorem dX7_harmony_3 : decode cX7_harmony 3 = .ok (.istore_n 3, 1) := by decide +kernel
theorem dX7_harmony_4 : decode cX7_harmony 4 = .ok (.iload_n 3, 1) := by decide +kernel
theorem dX7_harmony_5 : decode cX7_harmony 5 = .ok (.aload_n 0, 1) := by decide +kernel
theorem dX7_harmony_6 : decode cX7_harmony 6 = .ok (.getfield 80, 3) := by decide +kernel
theorem dX7_harmony_9 : decode cX7_harmony 9 = .ok (.if_icmp .ge 116, 3) := by decide +kernel
theorem dX7_harmony_12 : decode cX7_harmony 12 = .ok (.aload_n 0, 1) := by decide +kernel
theorem dX7_harmony_13 : decode cX7_harmony 13 = .ok (.iload_n 3, 1) := by decide +kernel
theorem dX7_harmony_14 : decode cX7_harmony 14 = .ok (.iload_n 1, 1) := by decide +kernel
theorem dX7_harmony_15 : decode cX7_harmony 15 = .ok (.invokevirtual 129, 3) := by decide +kernel
theorem dX7_harmony_18 : decode cX7_harmony 18 = .ok (.ifCond .ne 6, 3) := by decide +kernel
theorem dX7_harmony_21 : decode cX7_harmony 21 = .ok (.goto 98, 3) := by decide +kernel
theorem dX7_harmony_24 : decode cX7_harmony 24 = .ok (.iconst 0, 1) := by decide +kernel
theorem dX7_harmony_25 : decode cX7_harmony 25 = .ok (.istore 4, 2) := by decide +kernel
theorem dX7_harmony_27 : decode cX7_harmony 27 = .ok (.iload 4, 2) := by decide +kernel
theorem dX7_harmony_29 : decode cX7_harmony 29 = .ok (.iload_n 3, 1) := by decide +kernel
theorem dX7_harmony_30 : decode cX7_harmony 30 = .ok (.if_icmp .ge 89, 3) := by decide +kernel
theorem dX7_harmony_33 : decode cX7_harmony 33 = .ok (.aload_n 0, 1) := by decide +kernel
theorem dX7_harmony_34 : decode cX7_harmony 34 = .ok (.iload 4, 2) := by decide +kernel
theorem dX7_harmony_36 : decode cX7_harmony 36 = .ok (.iload_n 1, 1) := by decide +kernel
theorem dX7_harmony_37 : decode cX7_harmony 37 = .ok (.invokevirtual 129, 3) := by decide +kernel
theorem dX7_harmony_40 : decode cX7_harmony 40 = .ok (.ifCond .ne 6, 3) := by decide +kernel
theorem dX7_harmony_43 : decode cX7_harmony 43 = .ok (.goto 70, 3) := by decide +kernel
theorem dX7_harmony_46 : decode cX7_harmony 46 = .ok (.aload_n 0, 1) := by decide +kernel
theorem dX7_harmony_47 : decode cX7_harmony 47 = .ok (.getfield 23, 3) := by decide +kernel
theorem dX7_harmony_50 : decode cX7_harmony 50 = .ok (.bipush 15, 2) := by decide +kernel
theorem dX7_harmony_52 : decode cX7_harmony 52 = .ok (.iload_n 3, 1) := by decide +kernel
theorem dX7_harmony_53 : decode cX7_harmony 53 = .ok (.imul, 1) := by decide +kernel
theorem dX7_harmony_54 : decode cX7_harmony 54 = .ok (.iconst 2, 1) := by decide +kernel
theorem dX7_harmony_55 : decode cX7_harmony 55 = .ok (.iadd, 1) := by decide +kernel
theorem dX7_harmony_56 : decode cX7_harmony 56 = .ok (.iaload, 1) := by decide +kernel
theorem dX7_harmony_57 : decode cX7_harmony 57 = .ok (.aload_n 0, 1) := by decide +kernel
theorem dX7_harmony_58 : decode cX7_harmony 58 = .ok (.getfield 23, 3) := by decide +kernel
theorem dX7_harmony_61 : decode cX7_harmony 61 = .ok (.bipush 15, 2) := by decide +kernel
theorem dX7_harmony_63 : decode cX7_harmony 63 = .ok (.iload 4, 2) := by decide +kernel
theorem dX7_harmony_65 : decode cX7_harmony 65 = .ok (.imul, 1) := by decide +kernel
theorem dX7_harmony_66 : decode cX7_harmony 66 = .ok (.iconst 2, 1) := by decide +kernel
theorem dX7_harmony_67 : decode cX7_harmony 67 = .ok (.iadd, 1) := by decide +kernel
theorem dX7_harmony_68 : decode cX7_harmony 68 = .ok (.iaload, 1) := by decide +kernel
theorem dX7_harmony_69 : decode cX7_harmony 69 = .ok (.isub, 1) := by decide +kernel
theorem dX7_harmony_70 : decode cX7_harmony 70 = .ok (.invokestatic 92, 3) := by decide +kernel
theorem dX7_harmony_73 : decode cX7_harmony 73 = .ok (.bipush 12, 2) := by decide +kernel
theorem dX7_harmony_75 : decode cX7_harmony 75 = .ok (.irem, 1) := by decide +kernel
theorem dX7_harmony_76 : decode cX7_harmony 76 = .ok (.istore 5, 2) := by decide +kernel
theorem dX7_harmony_78 : decode cX7_harmony 78 = .ok (.iload_n 2, 1) := by decide +kernel
theorem dX7_harmony_79 : decode cX7_harmony 79 = .ok (.iload 5, 2) := by decide +kernel
theorem dX7_harmony_81 : decode cX7_harmony 81 = .ok (.ifCond .eq 25, 3) := by decide +kernel
theorem dX7_harmony_84 : decode cX7_harmony 84 = .ok (.iload 5, 2) := by decide +kernel
theorem dX7_harmony_86 : decode cX7_harmony 86 = .ok (.iconst 3, 1) := by decide +kernel
theorem dX7_harmony_87 : decode cX7_harmony 87 = .ok (.iconst 5, 1) := by decide +kernel
theorem dX7_harmony_88 : decode cX7_harmony 88 = .ok (.invokestatic 35, 3) := by decide +kernel
theorem dX7_harmony_91 : decode cX7_harmony 91 = .ok (.ifCond .ne 15, 3) := by decide +kernel
theorem dX7_harmony_94 : decode cX7_harmony 94 = .ok (.iload 5, 2) := by decide +kernel
theorem dX7_harmony_96 : decode cX7_harmony 96 = .ok (.bipush 7, 2) := by decide +kernel
theorem dX7_harmony_98 : decode cX7_harmony 98 = .ok (.bipush 9, 2) := by decide +kernel
theorem dX7_harmony_100 : decode cX7_harmony 100 = .ok (.invokestatic 35, 3) := by decide +kernel
theorem dX7_harmony_103 : decode cX7_harmony 103 = .ok (.ifCond .eq 7, 3) := by decide +kernel
theorem dX7_harmony_106 : decode cX7_harmony 106 = .ok (.iconst 1, 1) := by decide +kernel
theorem dX7_harmony_107 : decode cX7_harmony 107 = .ok (.goto 4, 3) := by decide +kernel
theorem dX7_harmony_110 : decode cX7_harmony 110 = .ok (.iconst (-1), 1) := by decide +kernel
theorem dX7_harmony_111 : decode cX7_harmony 111 = .ok (.iadd, 1) := by decide +kernel
theorem dX7_harmony_112 : decode cX7_harmony 112 = .ok (.istore_n 2, 1) := by decide +kernel
theorem dX7_harmony_113 : decode cX7_harmony 113 = .ok (.iinc 4 1, 3) := by decide +kernel
theorem dX7_harmony_116 : decode cX7_harmony 116 = .ok (.goto (-89), 3) := by decide +kernel
theorem dX7_harmony_119 : decode cX7_harmony 119 = .ok (.iinc 3 1, 3) := by decide +kernel
theorem dX7_harmony_122 : decode cX7_harmony 122 = .ok (.goto (-118), 3) := by decide +kernel
theorem dX7_harmony_125 : decode cX7_harmony 125 = .ok (.iload_n 2, 1) := by decide +kernel
theorem dX7_harmony_126 : decode cX7_harmony 126 = .ok (.ireturn, 1) := by decide +kernel
set_option maxRecDepth 20000 in
theorem ggX7_sounds_X7_fail : GoodIn wsX7_sounds wsX7_fail := goodIn_r _ [15, 1, 30, 31, 32, 33, 34, 35, 36, 37, 38, 39, 40, 41, 42, 43, 44] (by decide +kernel) (by decide +kernel)
set_option maxRecDepth 20000 in
theorem gX7_sounds_X7_fail : GoodIn wsX7_sounds (wsV RX7 50 RX7 yX7_fail wsX7_fail) := goodIn_app (goodIn_of _ (by decide +kernel)) ggX7_sounds_X7_fail
set_option maxRecDepth 20000 in
theorem ggX7_sounds_X7_isIn : GoodIn wsX7_sounds wsX7_isIn := goodIn_r _ [18] (by decide +kernel) (by decide +kernel)
set_option maxRecDepth 20000 in
theorem gX7_sounds_X7_isIn : GoodIn wsX7_sounds (va_wsS RX7 35 yX7_isIn wsX7_isIn) := goodIn_app (goodIn_of _ (by decide +kernel)) ggX7_sounds_X7_isIn
set_option maxRecDepth 20000 in
theorem ggX7_sounds_X7_harmony : GoodIn wsX7_sounds wsX7_harmony := goodIn_r _ [22, 2, 3, 23, 24, 6, 25, 26, 27, 28, 14, 29, 16, 17, 18, 30, 31, 32, 33, 34, 35, 36, 37, 38, 39, 40, 41, 42, 43, 44] (by decide +kernel) (by decide +kernel)
set_option maxRecDepth 20000 in
theorem gX7_sounds_X7_harmony : GoodIn wsX7_sounds (wsV RX7 132 RX7 yX7_harmony wsX7_harmony) := goodIn_app (goodIn_of _ (by decide +kernel)) ggX7_sounds_X7_harmony
set_option maxRecDepth 20000 in
theorem ggX7_sounds_X7_isSounding : GoodIn wsX7_sounds wsX7_isSounding := goodIn_r _ [29, 3, 30, 31, 32, 33, 34, 35, 36, 37, 38, 39, 40, 41, 42, 43, 44] (by decide +kernel) (by decide +kernel)
set_option maxRecDepth 20000 in
theorem gX7_sounds_X7_isSounding : GoodIn wsX7_sounds (wsV RX7 129 RX7 yX7_isSounding wsX7_isSounding) := goodIn_app (goodIn_of _ (by decide +kernel)) ggX7_sounds_X7_isSounding
theorem dX7_sounds_0 : decode cX7_sounds 0 = .ok (.aload_n 0, 1) := by decide +kernel
theorem dX7_sounds_1 : decode cX7_sounds 1 = .ok (.iconst 0, 1) := by decide +kernel
theorem dX7_sounds_2 : decode cX7_sounds 2 = .ok (.putfield 29, 3) := by decide +kernel
theorem dX7_sounds_5 : decode cX7_sounds 5 = .ok (.iload_n 1, 1) := by decide +kernel
theorem dX7_sounds_6 : decode cX7_sounds 6 = .ok (.ifCond .ge 9, 3) := by decide +kernel
theorem dX7_sounds_9 : decode cX7_sounds 9 = .ok (.aload_n 0, 1) := by decide +kernel
theorem dX7_sounds_10 : decode cX7_sounds 10 = .ok (.iconst 1, 1) := by decide +kernel
theorem dX7_sounds_11 : decode cX7_sounds 11 = .ok (.invokevirtual 50, 3) := by decide +kernel
theorem dX7_sounds_14 : decode cX7_sounds 14 = .ok (.ireturn, 1) := by decide +kernel
theorem dX7_sounds_15 : decode cX7_sounds 15 = .ok (.iload_n 2, 1) := by decide +kernel
theorem dX7_sounds_16 : decode cX7_sounds 16 = .ok (.iconst 0, 1) := by decide +kernel
theorem dX7_sounds_17 : decode cX7_sounds 17 = .ok (.iconst 3, 1) := by decide +kernel
theorem dX7_sounds_18 : decode cX7_sounds 18 = .ok (.invokestatic 35, 3) := by decide +kernel
theorem dX7_sounds_21 : decode cX7_sounds 21 = .ok (.ifCond .ne 9, 3) := by decide +kernel
theorem dX7_sounds_24 : decode cX7_sounds 24 = .ok (.aload_n 0, 1) := by decide +kernel
theorem dX7_sounds_25 : decode cX7_sounds 25 = .ok (.iconst 2, 1) := by decide +kernel
theorem dX7_sounds_26 : decode cX7_sounds 26 = .ok (.invokevirtual 50, 3) := by decide +kernel
theorem dX7_sounds_29 : decode cX7_sounds 29 = .ok (.ireturn, 1) := by decide +kernel
theorem dX7_sounds_30 : decode cX7_sounds 30 = .ok (.iload_n 2, 1) := by decide +kernel
theorem dX7_sounds_31 : decode cX7_sounds 31 = .ok (.iconst 3, 1) := by decide +kernel
theorem dX7_sounds_32 : decode cX7_sounds 32 = .ok (.if_icmp .ne 9, 3) := by decide +kernel
theorem dX7_sounds_35 : decode cX7_sounds 35 = .ok (.aload_n 0, 1) := by decide +kernel
theorem dX7_sounds_36 : decode cX7_sounds 36 = .ok (.iload_n 1, 1) := by decide +kernel
theorem dX7_sounds_37 : decode cX7_sounds 37 = .ok (.invokevirtual 132, 3) := by decide +kernel
theorem dX7_sounds_40 : decode cX7_sounds 40 = .ok (.ireturn, 1) := by decide +kernel
theorem dX7_sounds_41 : decode cX7_sounds 41 = .ok (.iconst 0, 1) := by decide +kernel
theorem dX7_sounds_42 : decode cX7_sounds 42 = .ok (.istore_n 3, 1) := by decide +kernel
theorem dX7_sounds_43 : decode cX7_sounds 43 = .ok (.iconst (-1), 1) := by decide +kernel
theorem dX7_sounds_44 : decode cX7_sounds 44 = .ok (.istore 4, 2) := by decide +kernel
theorem dX7_sounds_46 : decode cX7_sounds 46 = .ok (.iconst (-1), 1) := by decide +kernel
theorem dX7_sounds_47 : decode cX7_sounds 47 = .ok (.istore 5, 2) := by decide +kernel
theorem dX7_sounds_49 : decode cX7_sounds 49 = .ok (.iconst 0, 1) := by decide +kernel
theorem dX7_sounds_50 : decode cX7_sounds 50 = .ok (.istore 6, 2) := by decide +kernel
theorem dX7_sounds_52 : decode cX7_sounds 52 = .ok (.iload 6, 2) := by decide +kernel
theorem dX7_sounds_54 : decode cX7_sounds 54 = .ok (.aload_n 0, 1) := by decide +kernel
theorem dX7_sounds_55 : decode cX7_sounds 55 = .ok (.getfield 80, 3) := by decide +kernel
theorem dX7_sounds_58 : decode cX7_sounds 58 = .ok (.if_icmp .ge 66, 3) := by decide +kernel
theorem dX7_sounds_61 : decode cX7_sounds 61 = .ok (.aload_n 0, 1) := by decide +kernel
theorem dX7_sounds_62 : decode cX7_sounds 62 = .ok (.iload 6, 2) := by decide +kernel
theorem dX7_sounds_64 : decode cX7_sounds 64 = .ok (.iload_n 1, 1) := by decide +kernel
theorem dX7_sounds_65 : decode cX7_sounds 65 = .ok (.invokevirtual 129, 3) := by decide +kernel
theorem dX7_sounds_68 : decode cX7_sounds 68 = .ok (.ifCond .ne 6, 3) := by decide +kernel
theorem dX7_sounds_71 : decode cX7_sounds 71 = .ok (.goto 47, 3) := by decide +kernel
theorem dX7_sounds_74 : decode cX7_sounds 74 = .ok (.aload_n 0, 1) := by decide +kernel
theorem dX7_sounds_75 : decode cX7_sounds 75 = .ok (.getfield 23, 3) := by decide +kernel
theorem dX7_sounds_78 : decode cX7_sounds 78 = .ok (.bipush 15, 2) := by decide +kernel
theorem dX7_sounds_80 : decode cX7_sounds 80 = .ok (.iload 6, 2) := by decide +kernel
theorem dX7_sounds_82 : decode cX7_sounds 82 = .ok (.imul, 1) := by decide +kernel
theorem dX7_sounds_83 : decode cX7_sounds 83 = .ok (.iconst 2, 1) := by decide +kernel
theorem dX7_sounds_84 : decode cX7_sounds 84 = .ok (.iadd, 1) := by decide +kernel
theorem dX7_sounds_85 : decode cX7_sounds 85 = .ok (.iaload, 1) := by decide +kernel
theorem dX7_sounds_86 : decode cX7_sounds 86 = .ok (.istore 7, 2) := by decide +kernel
theorem dX7_sounds_88 : decode cX7_sounds 88 = .ok (.iload_n 3, 1) := by decide +kernel
theorem dX7_sounds_89 : decode cX7_sounds 89 = .ok (.ifCond .ne 8, 3) := by decide +kernel
theorem dX7_sounds_92 : decode cX7_sounds 92 = .ok (.iload 7, 2) := by decide +kernel
theorem dX7_sounds_94 : decode cX7_sounds 94 = .ok (.goto 10, 3) := by decide +kernel
theorem dX7_sounds_97 : decode cX7_sounds 97 = .ok (.iload 4, 2) := by decide +kernel
theorem dX7_sounds_99 : decode cX7_sounds 99 = .ok (.iload 7, 2) := by decide +kernel
theorem dX7_sounds_101 : decode cX7_sounds 101 = .ok (.invokestatic 123, 3) := by decide +kernel
theorem dX7_sounds_104 : decode cX7_sounds 104 = .ok (.istore 4, 2) := by decide +kernel
theorem dX7_sounds_106 : decode cX7_sounds 106 = .ok (.iload 5, 2) := by decide +kernel
theorem dX7_sounds_108 : decode cX7_sounds 108 = .ok (.iload 7, 2) := by decide +kernel
theorem dX7_sounds_110 : decode cX7_sounds 110 = .ok (.invokestatic 105, 3) := by decide +kernel
theorem dX7_sounds_113 : decode cX7_sounds 113 = .ok (.istore 5, 2) := by decide +kernel
theorem dX7_sounds_115 : decode cX7_sounds 115 = .ok (.iinc 3 1, 3) := by decide +kernel
theorem dX7_sounds_118 : decode cX7_sounds 118 = .ok (.iinc 6 1, 3) := by decide +kernel
theorem dX7_sounds_121 : decode cX7_sounds 121 = .ok (.goto (-69), 3) := by decide +kernel
theorem dX7_sounds_124 : decode cX7_sounds 124 = .ok (.iload_n 2, 1) := by decide +kernel
theorem dX7_sounds_125 : decode cX7_sounds 125 = .ok (.ifCond .ne 7, 3) := by decide +kernel
theorem dX7_sounds_128 : decode cX7_sounds 128 = .ok (.iload_n 3, 1) := by decide +kernel
theorem dX7_sounds_129 : decode cX7_sounds 129 = .ok (.goto 15, 3) := by decide +kernel
theorem dX7_sounds_132 : decode cX7_sounds 132 = .ok (.iload_n 2, 1) := by decide +kernel
theorem dX7_sounds_133 : decode cX7_sounds 133 = .ok (.iconst 1, 1) := by decide +kernel
theorem dX7_sounds_134 : decode cX7_sounds 134 = .ok (.if_icmp .ne 8, 3) := by decide +kernel
theorem dX7_sounds_137 : decode cX7_sounds 137 = .ok (.iload 4, 2) := by decide +kernel
theorem dX7_sounds_139 : decode cX7_sounds 139 = .ok (.goto 5, 3) := by decide +kernel
theorem dX7_sounds_142 : decode cX7_sounds 142 = .ok (.iload 5, 2) := by decide +kernel
theorem dX7_sounds_144 : decode cX7_sounds 144 = .ok (.ireturn, 1) := by decide +kernel
set_option maxRecDepth 20000 in
theorem ggX7_best_X7_harmony : GoodIn wsX7_best wsX7_harmony := goodIn_r _ [8, 2, 3, 9, 10, 11, 12, 13, 14, 15, 7, 16, 17, 18, 19, 20, 21, 22, 23, 24, 25, 26, 27, 28, 29, 30, 31, 32, 33, 34] (by decide +kernel) (by decide +kernel)
set_option maxRecDepth 20000 in
theorem gX7_best_X7_harmony : GoodIn wsX7_best (wsV RX7 132 RX7 yX7_harmony wsX7_harmony) := goodIn_app (goodIn_of _ (by decide +kernel)) ggX7_best_X7_harmony
theorem dX7_best_0 : decode cX7_best 0 = .ok (.aload_n 0, 1) := by decide +kernel
theorem dX7_best_1 : decode cX7_best 1 = .ok (.iconst 0, 1) := by decide +kernel
theorem dX7_best_2 : decode cX7_best 2 = .ok (.putfield 29, 3) := by decide +kernel
theorem dX7_best_5 : decode cX7_best 5 = .ok (.iconst (-1), 1) := by decide +kernel
theorem dX7_best_6 : decode cX7_best 6 = .ok (.istore_n 1, 1) := by decide +kernel
theorem dX7_best_7 : decode cX7_best 7 = .ok (.iconst 0, 1) := by decide +kernel
theorem dX7_best_8 : decode cX7_best 8 = .ok (.istore_n 2, 1) := by decide +kernel
theorem dX7_best_9 : decode cX7_best 9 = .ok (.iconst 0, 1) := by decide +kernel
theorem dX7_best_10 : decode cX7_best 10 = .ok (.istore_n 3, 1) := by decide +kernel
theorem dX7_best_11 : decode cX7_best 11 = .ok (.iload_n 3, 1) := by decide +kernel
theorem dX7_best_12 : decode cX7_best 12 = .ok (.aload_n 0, 1) := by decide +kernel
theorem dX7_best_13 : decode cX7_best 13 = .ok (.getfield 80, 3) := by decide +kernel
theorem dX7_best_16 : decode cX7_best 16 = .ok (.if_icmp .ge 71, 3) := by decide +kernel
theorem dX7_best_19 : decode cX7_best 19 = .ok (.aload_n 0, 1) := by decide +kernel
theorem dX7_best_20 : decode cX7_best 20 = .ok (.getfield 23, 3) := by decide +kernel
theorem dX7_best_23 : decode cX7_best 23 = .ok (.bipush 15, 2) := by decide +kernel
theorem dX7_best_25 : decode cX7_best 25 = .ok (.iload_n 3, 1) := by decide +kernel
theorem dX7_best_26 : decode cX7_best 26 = .ok (.imul, 1) := by decide +kernel
theorem dX7_best_27 : decode cX7_best 27 = .ok (.iaload, 1) := by decide +kernel
theorem dX7_best_28 : decode cX7_best 28 = .ok (.istore 4, 2) := by decide +kernel
theorem dX7_best_30 : decode cX7_best 30 = .ok (.iload_n 3, 1) := by decide +kernel
theorem dX7_best_31 : decode cX7_best 31 = .ok (.ifCond .le 22, 3) := by decide +kernel
theorem dX7_best_34 : decode cX7_best 34 = .ok (.iload 4, 2) := by decide +kernel
theorem dX7_best_36 : decode cX7_best 36 = .ok (.aload_n 0, 1) := by decide +kernel
theorem dX7_best_37 : decode cX7_best 37 = .ok (.getfield 23, 3) := by decide +kernel
theorem dX7_best_40 : decode cX7_best 40 = .ok (.bipush 15, 2) := by decide +kernel
theorem dX7_best_42 : decode cX7_best 42 = .ok (.iload_n 3, 1) := by decide +kernel
theorem dX7_best_43 : decode cX7_best 43 = .ok (.iconst 1, 1) := by decide +kernel
theorem dX7_best_44 : decode cX7_best 44 = .ok (.isub, 1) := by decide +kernel
theorem dX7_best_45 : decode cX7_best 45 = .ok (.imul, 1) := by decide +kernel
theorem dX7_best_46 : decode cX7_best 46 = .ok (.iaload, 1) := by decide +kernel
theorem dX7_best_47 : decode cX7_best 47 = .ok (.if_icmp .ne 6, 3) := by decide +kernel
theorem dX7_best_50 : decode cX7_best 50 = .ok (.goto 31, 3) := by decide +kernel
theorem dX7_best_53 : decode cX7_best 53 = .ok (.aload_n 0, 1) := by decide +kernel
theorem dX7_best_54 : decode cX7_best 54 = .ok (.iload 4, 2) := by decide +kernel
theorem dX7_best_56 : decode cX7_best 56 = .ok (.invokevirtual 132, 3) := by decide +kernel
theorem dX7_best_59 : decode cX7_best 59 = .ok (.istore 5, 2) := by decide +kernel
theorem dX7_best_61 : decode cX7_best 61 = .ok (.iload_n 1, 1) := by decide +kernel
theorem dX7_best_62 : decode cX7_best 62 = .ok (.iconst (-1), 1) := by decide +kernel
theorem dX7_best_63 : decode cX7_best 63 = .ok (.if_icmp .eq 12, 3) := by decide +kernel
theorem dX7_best_66 : decode cX7_best 66 = .ok (.iload 5, 2) := by decide +kernel
theorem dX7_best_68 : decode cX7_best 68 = .ok (.iload_n 2, 1) := by decide +kernel
theorem dX7_best_69 : decode cX7_best 69 = .ok (.if_icmp .gt 6, 3) := by decide +kernel
theorem dX7_best_72 : decode cX7_best 72 = .ok (.goto 9, 3) := by decide +kernel
theorem dX7_best_75 : decode cX7_best 75 = .ok (.iload 4, 2) := by decide +kernel
theorem dX7_best_77 : decode cX7_best 77 = .ok (.istore_n 1, 1) := by decide +kernel
theorem dX7_best_78 : decode cX7_best 78 = .ok (.iload 5, 2) := by decide +kernel
theorem dX7_best_80 : decode cX7_best 80 = .ok (.istore_n 2, 1) := by decide +kernel
theorem dX7_best_81 : decode cX7_best 81 = .ok (.iinc 3 1, 3) := by decide +kernel
theorem dX7_best_84 : decode cX7_best 84 = .ok (.goto (-73), 3) := by decide +kernel
theorem dX7_best_87 : decode cX7_best 87 = .ok (.iload_n 1, 1) := by decide +kernel
theorem dX7_best_88 : decode cX7_best 88 = .ok (.ireturn, 1) := by decide +kernel
theorem dX7_emptySongs_0 : decode cX7_emptySongs 0 = .ok (.aload_n 0, 1) := by decide +kernel
theorem dX7_emptySongs_1 : decode cX7_emptySongs 1 = .ok (.iconst 0, 1) := by decide +kernel
theorem dX7_emptySongs_2 : decode cX7_emptySongs 2 = .ok (.putfield 29, 3) := by decide +kernel
theorem dX7_emptySongs_5 : decode cX7_emptySongs 5 = .ok (.aload_n 0, 1) := by decide +kernel
theorem dX7_emptySongs_6 : decode cX7_emptySongs 6 = .ok (.getfield 80, 3) := by decide +kernel
theorem dX7_emptySongs_9 : decode cX7_emptySongs 9 = .ok (.istore_n 1, 1) := by decide +kernel
theorem dX7_emptySongs_10 : decode cX7_emptySongs 10 = .ok (.aload_n 0, 1) := by decide +kernel
theorem dX7_emptySongs_11 : decode cX7_emptySongs 11 = .ok (.iconst 0, 1) := by decide +kernel
theorem dX7_emptySongs_12 : decode cX7_emptySongs 12 = .ok (.putfield 80, 3) := by decide +kernel
theorem dX7_emptySongs_15 : decode cX7_emptySongs 15 = .ok (.aload_n 0, 1) := by decide +kernel
theorem dX7_emptySongs_16 : decode cX7_emptySongs 16 = .ok (.iconst 0, 1) := by decide +kernel
theorem dX7_emptySongs_17 : decode cX7_emptySongs 17 = .ok (.putfield 77, 3) := by decide +kernel
theorem dX7_emptySongs_20 : decode cX7_emptySongs 20 = .ok (.iload_n 1, 1) := by decide +kernel
theorem dX7_emptySongs_21 : decode cX7_emptySongs 21 = .ok (.ireturn, 1) := by decide +kernel
set_option maxRecDepth 20000 in
theorem ggX7_next_X7_get : GoodIn wsX7_next wsX7_get := goodIn_r _ [7, 8, 12, 13, 14, 15, 16, 17, 18, 19, 20, 21, 22, 23, 24, 25, 26] (by decide +kernel) (by decide +kernel)
set_option maxRecDepth 20000 in
theorem gX7_next_X7_get : GoodIn wsX7_next (wsV RX7 43 RX7 yX7_get wsX7_get) := goodIn_app (goodIn_of _ (by decide +kernel)) ggX7_next_X7_get
set_option maxRecDepth 20000 in
theorem ggX7_next_X7_at : GoodIn wsX7_next wsX7_at := goodIn_r _ [11] (by decide +kernel) (by decide +kernel)
set_option maxRecDepth 20000 in
theorem gX7_next_X7_at : GoodIn wsX7_next (va_wsS RX7 60 yX7_at wsX7_at) := goodIn_app (goodIn_of _ (by decide +kernel)) ggX7_next_X7_at
theorem dX7_next_0 : decode cX7_next 0 = .ok (.iconst 0, 1) := by decide +kernel
theorem dX7_next_1 : decode cX7_next 1 = .ok (.istore_n 2, 1) := by decide +kernel
theorem dX7_next_2 : decode cX7_next 2 = .ok (.iconst 1, 1) := by decide +kernel
theorem dX7_next_3 : decode cX7_next 3 = .ok (.aload_n 0, 1) := by decide +kernel
theorem dX7_next_4 : decode cX7_next 4 = .ok (.getfield 32, 3) := by decide +kernel
theorem dX7_next_7 : decode cX7_next 7 = .ok (.ishl, 1) := by decide +kernel
theorem dX7_next_8 : decode cX7_next 8 = .ok (.iconst 1, 1) := by decide +kernel
theorem dX7_next_9 : decode cX7_next 9 = .ok (.isub, 1) := by decide +kernel
theorem dX7_next_10 : decode cX7_next 10 = .ok (.istore_n 3, 1) := by decide +kernel
theorem dX7_next_11 : decode cX7_next 11 = .ok (.iconst 0, 1) := by decide +kernel
theorem dX7_next_12 : decode cX7_next 12 = .ok (.istore 4, 2) := by decide +kernel
theorem dX7_next_14 : decode cX7_next 14 = .ok (.iload 4, 2) := by decide +kernel
theorem dX7_next_16 : decode cX7_next 16 = .ok (.aload_n 0, 1) := by decide +kernel
theorem dX7_next_17 : decode cX7_next 17 = .ok (.iload_n 1, 1) := by decide +kernel
theorem dX7_next_18 : decode cX7_next 18 = .ok (.iconst 3, 1) := by decide +kernel
theorem dX7_next_19 : decode cX7_next 19 = .ok (.invokevirtual 43, 3) := by decide +kernel
theorem dX7_next_22 : decode cX7_next 22 = .ok (.if_icmp .ge 92, 3) := by decide +kernel
theorem dX7_next_25 : decode cX7_next 25 = .ok (.aload_n 0, 1) := by decide +kernel
theorem dX7_next_26 : decode cX7_next 26 = .ok (.getfield 17, 3) := by decide +kernel
theorem dX7_next_29 : decode cX7_next 29 = .ok (.iload_n 1, 1) := by decide +kernel
theorem dX7_next_30 : decode cX7_next 30 = .ok (.iload 4, 2) := by decide +kernel
theorem dX7_next_32 : decode cX7_next 32 = .ok (.invokestatic 60, 3) := by decide +kernel
theorem dX7_next_35 : decode cX7_next 35 = .ok (.iconst 4, 1) := by decide +kernel
theorem dX7_next_36 : decode cX7_next 36 = .ok (.iadd, 1) := by decide +kernel
theorem dX7_next_37 : decode cX7_next 37 = .ok (.iaload, 1) := by decide +kernel
theorem dX7_next_38 : decode cX7_next 38 = .ok (.istore 5, 2) := by decide +kernel
theorem dX7_next_40 : decode cX7_next 40 = .ok (.iload 5, 2) := by decide +kernel
theorem dX7_next_42 : decode cX7_next 42 = .ok (.iconst 2, 1) := by decide +kernel
theorem dX7_next_43 : decode cX7_next 43 = .ok (.if_icmp .eq 9, 3) := by decide +kernel
theorem dX7_next_46 : decode cX7_next 46 = .ok (.iload 5, 2) := by decide +kernel
theorem dX7_next_48 : decode cX7_next 48 = .ok (.iconst 4, 1) := by decide +kernel
theorem dX7_next_49 : decode cX7_next 49 = .ok (.if_icmp .ne 21, 3) := by decide +kernel
theorem dX7_next_52 : decode cX7_next 52 = .ok (.iload_n 2, 1) := by decide +kernel
theorem dX7_next_53 : decode cX7_next 53 = .ok (.iconst 1, 1) := by decide +kernel
theorem dX7_next_54 : decode cX7_next 54 = .ok (.aload_n 0, 1) := by decide +kernel
theorem dX7_next_55 : decode cX7_next 55 = .ok (.getfield 17, 3) := by decide +kernel
theorem dX7_next_58 : decode cX7_next 58 = .ok (.iload_n 1, 1) := by decide +kernel
theorem dX7_next_59 : decode cX7_next 59 = .ok (.iload 4, 2) := by decide +kernel
theorem dX7_next_61 : decode cX7_next 61 = .ok (.invokestatic 60, 3) := by decide +kernel
theorem dX7_next_64 : decode cX7_next 64 = .ok (.iconst 5, 1) := by decide +kernel
theorem dX7_next_65 : decode cX7_next 65 = .ok (.iadd, 1) := by decide +kernel
theorem dX7_next_66 : decode cX7_next 66 = .ok (.iaload, 1) := by decide +kernel
theorem dX7_next_67 : decode cX7_next 67 = .ok (.ishl, 1) := by decide +kernel
theorem dX7_next_68 : decode cX7_next 68 = .ok (.ior, 1) := by decide +kernel
theorem dX7_next_69 : decode cX7_next 69 = .ok (.istore_n 2, 1) := by decide +kernel
theorem dX7_next_70 : decode cX7_next 70 = .ok (.iload 5, 2) := by decide +kernel
theorem dX7_next_72 : decode cX7_next 72 = .ok (.iconst 3, 1) := by decide +kernel
theorem dX7_next_73 : decode cX7_next 73 = .ok (.if_icmp .ne 19, 3) := by decide +kernel
theorem dX7_next_76 : decode cX7_next 76 = .ok (.iload_n 2, 1) := by decide +kernel
theorem dX7_next_77 : decode cX7_next 77 = .ok (.iconst 1, 1) := by decide +kernel
theorem dX7_next_78 : decode cX7_next 78 = .ok (.iload_n 1, 1) := by decide +kernel
theorem dX7_next_79 : decode cX7_next 79 = .ok (.iconst 1, 1) := by decide +kernel
theorem dX7_next_80 : decode cX7_next 80 = .ok (.iadd, 1) := by decide +kernel
theorem dX7_next_81 : decode cX7_next 81 = .ok (.ishl, 1) := by decide +kernel
theorem dX7_next_82 : decode cX7_next 82 = .ok (.iconst 1, 1) := by decide +kernel
theorem dX7_next_83 : decode cX7_next 83 = .ok (.iload_n 1, 1) := by decide +kernel
theorem dX7_next_84 : decode cX7_next 84 = .ok (.ishl, 1) := by decide +kernel
theorem dX7_next_85 : decode cX7_next 85 = .ok (.iconst 1, 1) := by decide +kernel
theorem dX7_next_86 : decode cX7_next 86 = .ok (.ishr, 1) := by decide +kernel
theorem dX7_next_87 : decode cX7_next 87 = .ok (.ior, 1) := by decide +kernel
theorem dX7_next_88 : decode cX7_next 88 = .ok (.iload_n 3, 1) := by decide +kernel
theorem dX7_next_89 : decode cX7_next 89 = .ok (.iand, 1) := by decide +kernel
theorem dX7_next_90 : decode cX7_next 90 = .ok (.ior, 1) := by decide +kernel
theorem dX7_next_91 : decode cX7_next 91 = .ok (.istore_n 2, 1) := by decide +kernel
theorem dX7_next_92 : decode cX7_next 92 = .ok (.iload 5, 2) := by decide +kernel
theorem dX7_next_94 : decode cX7_next 94 = .ok (.iconst 5, 1) := by decide +kernel
theorem dX7_next_95 : decode cX7_next 95 = .ok (.if_icmp .ne 13, 3) := by decide +kernel
theorem dX7_next_98 : decode cX7_next 98 = .ok (.iload_n 2, 1) := by decide +kernel
theorem dX7_next_99 : decode cX7_next 99 = .ok (.iload_n 3, 1) := by decide +kernel
theorem dX7_next_100 : decode cX7_next 100 = .ok (.iconst 1, 1) := by decide +kernel
theorem dX7_next_101 : decode cX7_next 101 = .ok (.iload_n 1, 1) := by decide +kernel
theorem dX7_next_102 : decode cX7_next 102 = .ok (.ishl, 1) := by decide +kernel
theorem dX7_next_103 : decode cX7_next 103 = .ok (.iconst (-1), 1) := by decide +kernel
theorem dX7_next_104 : decode cX7_next 104 = .ok (.ixor, 1) := by decide +kernel
theorem dX7_next_105 : decode cX7_next 105 = .ok (.iand, 1) := by decide +kernel
theorem dX7_next_106 : decode cX7_next 106 = .ok (.ior, 1) := by decide +kernel
theorem dX7_next_107 : decode cX7_next 107 = .ok (.istore_n 2, 1) := by decide +kernel
theorem dX7_next_108 : decode cX7_next 108 = .ok (.iinc 4 1, 3) := by decide +kernel
theorem dX7_next_111 : decode cX7_next 111 = .ok (.goto (-97), 3) := by decide +kernel
theorem dX7_next_114 : decode cX7_next 114 = .ok (.iload_n 2, 1) := by decide +kernel
theorem dX7_next_115 : decode cX7_next 115 = .ok (.ireturn, 1) := by decide +kernel
set_option maxRecDepth 20000 in
theorem ggX7_nextOf_X7_next : GoodIn wsX7_nextOf wsX7_next := goodIn_r _ [6, 1, 7, 8, 9, 10, 5, 11, 12, 13, 14, 15, 16, 17, 18, 19, 20, 21, 22, 23, 24, 25, 26, 27, 28, 29, 30] (by decide +kernel) (by decide +kernel)
set_option maxRecDepth 20000 in
theorem gX7_nextOf_X7_next : GoodIn wsX7_nextOf (wsV RX7 135 RX7 yX7_next wsX7_next) := goodIn_app (goodIn_of _ (by decide +kernel)) ggX7_nextOf_X7_next
theorem dX7_nextOf_0 : decode cX7_nextOf 0 = .ok (.iconst 0, 1) := by decide +kernel
theorem dX7_nextOf_1 : decode cX7_nextOf 1 = .ok (.istore_n 2, 1) := by decide +kernel
theorem dX7_nextOf_2 : decode cX7_nextOf 2 = .ok (.iconst 0, 1) := by decide +kernel
theorem dX7_nextOf_3 : decode cX7_nextOf 3 = .ok (.istore_n 3, 1) := by decide +kernel
theorem dX7_nextOf_4 : decode cX7_nextOf 4 = .ok (.iload_n 3, 1) := by decide +kernel
theorem dX7_nextOf_5 : decode cX7_nextOf 5 = .ok (.aload_n 0, 1) := by decide +kernel
theorem dX7_nextOf_6 : decode cX7_nextOf 6 = .ok (.getfield 32, 3) := by decide +kernel
theorem dX7_nextOf_9 : decode cX7_nextOf 9 = .ok (.if_icmp .ge 26, 3) := by decide +kernel
theorem dX7_nextOf_12 : decode cX7_nextOf 12 = .ok (.iload_n 1, 1) := by decide +kernel
theorem dX7_nextOf_13 : decode cX7_nextOf 13 = .ok (.iload_n 3, 1) := by decide +kernel
theorem dX7_nextOf_14 : decode cX7_nextOf 14 = .ok (.ishr, 1) := by decide +kernel
theorem dX7_nextOf_15 : decode cX7_nextOf 15 = .ok (.iconst 1, 1) := by decide +kernel
theorem dX7_nextOf_16 : decode cX7_nextOf 16 = .ok (.iand, 1) := by decide +kernel
theorem dX7_nextOf_17 : decode cX7_nextOf 17 = .ok (.iconst 1, 1) := by decide +kernel
theorem dX7_nextOf_18 : decode cX7_nextOf 18 = .ok (.if_icmp .ne 11, 3) := by decide +kernel
theorem dX7_nextOf_21 : decode cX7_nextOf 21 = .ok (.iload_n 2, 1) := by decide +kernel
theorem dX7_nextOf_22 : decode cX7_nextOf 22 = .ok (.aload_n 0, 1) := by decide +kernel
theorem dX7_nextOf_23 : decode cX7_nextOf 23 = .ok (.iload_n 3, 1) := by decide +kernel
theorem dX7_nextOf_24 : decode cX7_nextOf 24 = .ok (.invokevirtual 135, 3) := by decide +kernel
theorem dX7_nextOf_27 : decode cX7_nextOf 27 = .ok (.ior, 1) := by decide +kernel
theorem dX7_nextOf_28 : decode cX7_nextOf 28 = .ok (.istore_n 2, 1) := by decide +kernel
theorem dX7_nextOf_29 : decode cX7_nextOf 29 = .ok (.iinc 3 1, 3) := by decide +kernel
theorem dX7_nextOf_32 : decode cX7_nextOf 32 = .ok (.goto (-28), 3) := by decide +kernel
theorem dX7_nextOf_35 : decode cX7_nextOf 35 = .ok (.iload_n 2, 1) := by decide +kernel
theorem dX7_nextOf_36 : decode cX7_nextOf 36 = .ok (.ireturn, 1) := by decide +kernel
set_option maxRecDepth 20000 in
theorem ggX7_reach_X7_isTenant : GoodIn wsX7_reach wsX7_isTenant := goodIn_r _ [7, 2, 8, 9, 6, 10, 32, 33, 34, 35, 36, 37, 38, 39, 40, 41, 42, 43, 44, 45, 46] (by decide +kernel) (by decide +kernel)
set_option maxRecDepth 20000 in
theorem gX7_reach_X7_isTenant : GoodIn wsX7_reach (wsV RX7 39 RX7 yX7_isTenant wsX7_isTenant) := goodIn_app (goodIn_of _ (by decide +kernel)) ggX7_reach_X7_isTenant
set_option maxRecDepth 20000 in
theorem ggX7_reach_X7_fail : GoodIn wsX7_reach wsX7_fail := goodIn_r _ [14, 1, 32, 33, 34, 35, 36, 37, 38, 39, 40, 41, 42, 43, 44, 45, 46] (by decide +kernel) (by decide +kernel)
set_option maxRecDepth 20000 in
theorem gX7_reach_X7_fail : GoodIn wsX7_reach (wsV RX7 50 RX7 yX7_fail wsX7_fail) := goodIn_app (goodIn_of _ (by decide +kernel)) ggX7_reach_X7_fail
set_option maxRecDepth 20000 in
theorem ggX7_reach_X7_next : GoodIn wsX7_reach wsX7_next := goodIn_r _ [18, 2, 19, 20, 21, 22, 6, 23, 24, 25, 26, 27, 32, 33, 34, 35, 36, 37, 38, 39, 40, 41, 42, 43, 44, 45, 46] (by decide +kernel) (by decide +kernel)
set_option maxRecDepth 20000 in
theorem gX7_reach_X7_next : GoodIn wsX7_reach (wsV RX7 135 RX7 yX7_next wsX7_next) := goodIn_app (goodIn_of _ (by decide +kernel)) ggX7_reach_X7_next
set_option maxRecDepth 20000 in
theorem ggX7_reach_X7_nextOf : GoodIn wsX7_reach wsX7_nextOf := goodIn_r _ [31, 2, 15, 16, 17, 6, 18, 19, 20, 21, 22, 23, 24, 25, 26, 27, 32, 33, 34, 35, 36, 37, 38, 39, 40, 41, 42, 43, 44, 45, 46] (by decide +kernel) (by decide +kernel)
set_option maxRecDepth 20000 in
theorem gX7_reach_X7_nextOf : GoodIn wsX7_reach (wsV RX7 138 RX7 yX7_nextOf wsX7_nextOf) := goodIn_app (goodIn_of _ (by decide +kernel)) ggX7_reach_X7_nextOf
theorem dX7_reach_0 : decode cX7_reach 0 = .ok (.aload_n 0, 1) := by decide +kernel
theorem dX7_reach_1 : decode cX7_reach 1 = .ok (.iconst 0, 1) := by decide +kernel
theorem dX7_reach_2 : decode cX7_reach 2 = .ok (.putfield 29, 3) := by decide +kernel
theorem dX7_reach_5 : decode cX7_reach 5 = .ok (.aload_n 0, 1) := by decide +kernel
theorem dX7_reach_6 : decode cX7_reach 6 = .ok (.iload_n 1, 1) := by decide +kernel
theorem dX7_reach_7 : decode cX7_reach 7 = .ok (.invokevirtual 39, 3) := by decide +kernel
theorem dX7_reach_10 : decode cX7_reach 10 = .ok (.ifCond .ne 9, 3) := by decide +kernel
theorem dX7_reach_13 : decode cX7_reach 13 = .ok (.aload_n 0, 1) := by decide +kernel
theorem dX7_reach_14 : decode cX7_reach 14 = .ok (.iconst 1, 1) := by decide +kernel
theorem dX7_reach_15 : decode cX7_reach 15 = .ok (.invokevirtual 50, 3) := by decide +kernel
theorem dX7_reach_18 : decode cX7_reach 18 = .ok (.ireturn, 1) := by decide +kernel
theorem dX7_reach_19 : decode cX7_reach 19 = .ok (.aload_n 0, 1) := by decide +kernel
theorem dX7_reach_20 : decode cX7_reach 20 = .ok (.iload_n 1, 1) := by decide +kernel
theorem dX7_reach_21 : decode cX7_reach 21 = .ok (.invokevirtual 135, 3) := by decide +kernel
theorem dX7_reach_24 : decode cX7_reach 24 = .ok (.istore_n 2, 1) := by decide +kernel
theorem dX7_reach_25 : decode cX7_reach 25 = .ok (.iconst 0, 1) := by decide +kernel
theorem dX7_reach_26 : decode cX7_reach 26 = .ok (.istore_n 3, 1) := by decide +kernel
theorem dX7_reach_27 : decode cX7_reach 27 = .ok (.iload_n 3, 1) := by decide +kernel
theorem dX7_reach_28 : decode cX7_reach 28 = .ok (.aload_n 0, 1) := by decide +kernel
theorem dX7_reach_29 : decode cX7_reach 29 = .ok (.getfield 32, 3) := by decide +kernel
theorem dX7_reach_32 : decode cX7_reach 32 = .ok (.if_icmp .ge 17, 3) := by decide +kernel
theorem dX7_reach_35 : decode cX7_reach 35 = .ok (.iload_n 2, 1) := by decide +kernel
theorem dX7_reach_36 : decode cX7_reach 36 = .ok (.aload_n 0, 1) := by decide +kernel
theorem dX7_reach_37 : decode cX7_reach 37 = .ok (.iload_n 2, 1) := by decide +kernel
theorem dX7_reach_38 : decode cX7_reach 38 = .ok (.invokevirtual 138, 3) := by decide +kernel
theorem dX7_reach_41 : decode cX7_reach 41 = .ok (.ior, 1) := by decide +kernel
theorem dX7_reach_42 : decode cX7_reach 42 = .ok (.istore_n 2, 1) := by decide +kernel
theorem dX7_reach_43 : decode cX7_reach 43 = .ok (.iinc 3 1, 3) := by decide +kernel
theorem dX7_reach_46 : decode cX7_reach 46 = .ok (.goto (-19), 3) := by decide +kernel
theorem dX7_reach_49 : decode cX7_reach 49 = .ok (.iload_n 2, 1) := by decide +kernel
theorem dX7_reach_50 : decode cX7_reach 50 = .ok (.ireturn, 1) := by decide +kernel
set_option maxRecDepth 20000 in
theorem ggX7_hops_X7_isTenant : GoodIn wsX7_hops wsX7_isTenant := goodIn_r _ [7, 2, 8, 9, 6, 10, 32, 33, 34, 35, 36, 37, 38, 39, 40, 41, 42, 43, 44, 45, 46] (by decide +kernel) (by decide +kernel)
set_option maxRecDepth 20000 in
theorem gX7_hops_X7_isTenant : GoodIn wsX7_hops (wsV RX7 39 RX7 yX7_isTenant wsX7_isTenant) := goodIn_app (goodIn_of _ (by decide +kernel)) ggX7_hops_X7_isTenant
set_option maxRecDepth 20000 in
theorem ggX7_hops_X7_fail : GoodIn wsX7_hops wsX7_fail := goodIn_r _ [14, 1, 32, 33, 34, 35, 36, 37, 38, 39, 40, 41, 42, 43, 44, 45, 46] (by decide +kernel) (by decide +kernel)
set_option maxRecDepth 20000 in
theorem gX7_hops_X7_fail : GoodIn wsX7_hops (wsV RX7 50 RX7 yX7_fail wsX7_fail) := goodIn_app (goodIn_of _ (by decide +kernel)) ggX7_hops_X7_fail
set_option maxRecDepth 20000 in
theorem ggX7_hops_X7_next : GoodIn wsX7_hops wsX7_next := goodIn_r _ [18, 2, 19, 20, 21, 22, 6, 23, 24, 25, 26, 27, 32, 33, 34, 35, 36, 37, 38, 39, 40, 41, 42, 43, 44, 45, 46] (by decide +kernel) (by decide +kernel)
set_option maxRecDepth 20000 in
theorem gX7_hops_X7_next : GoodIn wsX7_hops (wsV RX7 135 RX7 yX7_next wsX7_next) := goodIn_app (goodIn_of _ (by decide +kernel)) ggX7_hops_X7_next
set_option maxRecDepth 20000 in
theorem ggX7_hops_X7_nextOf : GoodIn wsX7_hops wsX7_nextOf := goodIn_r _ [31, 2, 15, 16, 17, 6, 18, 19, 20, 21, 22, 23, 24, 25, 26, 27, 32, 33, 34, 35, 36, 37, 38, 39, 40, 41, 42, 43, 44, 45, 46] (by decide +kernel) (by decide +kernel)
set_option maxRecDepth 20000 in
theorem gX7_hops_X7_nextOf : GoodIn wsX7_hops (wsV RX7 138 RX7 yX7_nextOf wsX7_nextOf) := goodIn_app (goodIn_of _ (by decide +kernel)) ggX7_hops_X7_nextOf
theorem dX7_hops_0 : decode cX7_hops 0 = .ok (.aload_n 0, 1) := by decide +kernel
theorem dX7_hops_1 : decode cX7_hops 1 = .ok (.iconst 0, 1) := by decide +kernel
theorem dX7_hops_2 : decode cX7_hops 2 = .ok (.putfield 29, 3) := by decide +kernel
theorem dX7_hops_5 : decode cX7_hops 5 = .ok (.aload_n 0, 1) := by decide +kernel
theorem dX7_hops_6 : decode cX7_hops 6 = .ok (.iload_n 1, 1) := by decide +kernel
theorem dX7_hops_7 : decode cX7_hops 7 = .ok (.invokevirtual 39, 3) := by decide +kernel
theorem dX7_hops_10 : decode cX7_hops 10 = .ok (.ifCond .eq 11, 3) := by decide +kernel
theorem dX7_hops_13 : decode cX7_hops 13 = .ok (.aload_n 0, 1) := by decide +kernel
theorem dX7_hops_14 : decode cX7_hops 14 = .ok (.iload_n 2, 1) := by decide +kernel
theorem dX7_hops_15 : decode cX7_hops 15 = .ok (.invokevirtual 39, 3) := by decide +kernel
theorem dX7_hops_18 : decode cX7_hops 18 = .ok (.ifCond .ne 9, 3) := by decide +kernel
theorem dX7_hops_21 : decode cX7_hops 21 = .ok (.aload_n 0, 1) := by decide +kernel
theorem dX7_hops_22 : decode cX7_hops 22 = .ok (.iconst 1, 1) := by decide +kernel
theorem dX7_hops_23 : decode cX7_hops 23 = .ok (.invokevirtual 50, 3) := by decide +kernel
theorem dX7_hops_26 : decode cX7_hops 26 = .ok (.ireturn, 1) := by decide +kernel
theorem dX7_hops_27 : decode cX7_hops 27 = .ok (.aload_n 0, 1) := by decide +kernel
theorem dX7_hops_28 : decode cX7_hops 28 = .ok (.iload_n 1, 1) := by decide +kernel
theorem dX7_hops_29 : decode cX7_hops 29 = .ok (.invokevirtual 135, 3) := by decide +kernel
theorem dX7_hops_32 : decode cX7_hops 32 = .ok (.istore_n 3, 1) := by decide +kernel
theorem dX7_hops_33 : decode cX7_hops 33 = .ok (.iconst 1, 1) := by decide +kernel
theorem dX7_hops_34 : decode cX7_hops 34 = .ok (.istore 4, 2) := by decide +kernel
theorem dX7_hops_36 : decode cX7_hops 36 = .ok (.iload 4, 2) := by decide +kernel
theorem dX7_hops_38 : decode cX7_hops 38 = .ok (.aload_n 0, 1) := by decide +kernel
theorem dX7_hops_39 : decode cX7_hops 39 = .ok (.getfield 32, 3) := by decide +kernel
theorem dX7_hops_42 : decode cX7_hops 42 = .ok (.if_icmp .gt 25, 3) := by decide +kernel
theorem dX7_hops_45 : decode cX7_hops 45 = .ok (.iload_n 3, 1) := by decide +kernel
theorem dX7_hops_46 : decode cX7_hops 46 = .ok (.iload_n 2, 1) := by decide +kernel
theorem dX7_hops_47 : decode cX7_hops 47 = .ok (.ishr, 1) := by decide +kernel
theorem dX7_hops_48 : decode cX7_hops 48 = .ok (.iconst 1, 1) := by decide +kernel
theorem dX7_hops_49 : decode cX7_hops 49 = .ok (.iand, 1) := by decide +kernel
theorem dX7_hops_50 : decode cX7_hops 50 = .ok (.ifCond .ne 17, 3) := by decide +kernel
theorem dX7_hops_53 : decode cX7_hops 53 = .ok (.iload_n 3, 1) := by decide +kernel
theorem dX7_hops_54 : decode cX7_hops 54 = .ok (.aload_n 0, 1) := by decide +kernel
theorem dX7_hops_55 : decode cX7_hops 55 = .ok (.iload_n 3, 1) := by decide +kernel
theorem dX7_hops_56 : decode cX7_hops 56 = .ok (.invokevirtual 138, 3) := by decide +kernel
theorem dX7_hops_59 : decode cX7_hops 59 = .ok (.ior, 1) := by decide +kernel
theorem dX7_hops_60 : decode cX7_hops 60 = .ok (.istore_n 3, 1) := by decide +kernel
theorem dX7_hops_61 : decode cX7_hops 61 = .ok (.iinc 4 1, 3) := by decide +kernel
theorem dX7_hops_64 : decode cX7_hops 64 = .ok (.goto (-28), 3) := by decide +kernel
theorem dX7_hops_67 : decode cX7_hops 67 = .ok (.iload 4, 2) := by decide +kernel
theorem dX7_hops_69 : decode cX7_hops 69 = .ok (.aload_n 0, 1) := by decide +kernel
theorem dX7_hops_70 : decode cX7_hops 70 = .ok (.getfield 32, 3) := by decide +kernel
theorem dX7_hops_73 : decode cX7_hops 73 = .ok (.if_icmp .le 7, 3) := by decide +kernel
theorem dX7_hops_76 : decode cX7_hops 76 = .ok (.iconst (-1), 1) := by decide +kernel
theorem dX7_hops_77 : decode cX7_hops 77 = .ok (.goto 5, 3) := by decide +kernel
theorem dX7_hops_80 : decode cX7_hops 80 = .ok (.iload 4, 2) := by decide +kernel
theorem dX7_hops_82 : decode cX7_hops 82 = .ok (.ireturn, 1) := by decide +kernel
set_option maxRecDepth 20000 in
theorem ggX7_patience_X7_get : GoodIn wsX7_patience wsX7_get := goodIn_r _ [7, 8, 9, 10, 11, 12, 13, 14, 15, 16, 17, 18, 19, 20, 21, 22, 23] (by decide +kernel) (by decide +kernel)
set_option maxRecDepth 20000 in
theorem gX7_patience_X7_get : GoodIn wsX7_patience (wsV RX7 43 RX7 yX7_get wsX7_get) := goodIn_app (goodIn_of _ (by decide +kernel)) ggX7_patience_X7_get
theorem dX7_patience_0 : decode cX7_patience 0 = .ok (.aload_n 0, 1) := by decide +kernel
theorem dX7_patience_1 : decode cX7_patience 1 = .ok (.iconst 0, 1) := by decide +kernel
theorem dX7_patience_2 : decode cX7_patience 2 = .ok (.putfield 29, 3) := by decide +kernel
theorem dX7_patience_5 : decode cX7_patience 5 = .ok (.iconst 0, 1) := by decide +kernel
theorem dX7_patience_6 : decode cX7_patience 6 = .ok (.istore_n 1, 1) := by decide +kernel
theorem dX7_patience_7 : decode cX7_patience 7 = .ok (.iconst 0, 1) := by decide +kernel
theorem dX7_patience_8 : decode cX7_patience 8 = .ok (.istore_n 2, 1) := by decide +kernel
theorem dX7_patience_9 : decode cX7_patience 9 = .ok (.iload_n 2, 1) := by decide +kernel
theorem dX7_patience_10 : decode cX7_patience 10 = .ok (.aload_n 0, 1) := by decide +kernel
theorem dX7_patience_11 : decode cX7_patience 11 = .ok (.getfield 32, 3) := by decide +kernel
theorem dX7_patience_14 : decode cX7_patience 14 = .ok (.if_icmp .ge 18, 3) := by decide +kernel
theorem dX7_patience_17 : decode cX7_patience 17 = .ok (.iload_n 1, 1) := by decide +kernel
theorem dX7_patience_18 : decode cX7_patience 18 = .ok (.aload_n 0, 1) := by decide +kernel
theorem dX7_patience_19 : decode cX7_patience 19 = .ok (.iload_n 2, 1) := by decide +kernel
theorem dX7_patience_20 : decode cX7_patience 20 = .ok (.iconst 2, 1) := by decide +kernel
theorem dX7_patience_21 : decode cX7_patience 21 = .ok (.invokevirtual 43, 3) := by decide +kernel
theorem dX7_patience_24 : decode cX7_patience 24 = .ok (.iadd, 1) := by decide +kernel
theorem dX7_patience_25 : decode cX7_patience 25 = .ok (.istore_n 1, 1) := by decide +kernel
theorem dX7_patience_26 : decode cX7_patience 26 = .ok (.iinc 2 1, 3) := by decide +kernel
theorem dX7_patience_29 : decode cX7_patience 29 = .ok (.goto (-20), 3) := by decide +kernel
theorem dX7_patience_32 : decode cX7_patience 32 = .ok (.aload_n 0, 1) := by decide +kernel
theorem dX7_patience_33 : decode cX7_patience 33 = .ok (.getfield 32, 3) := by decide +kernel
theorem dX7_patience_36 : decode cX7_patience 36 = .ok (.ifCond .ne 7, 3) := by decide +kernel
theorem dX7_patience_39 : decode cX7_patience 39 = .ok (.dconst 0, 1) := by decide +kernel
theorem dX7_patience_40 : decode cX7_patience 40 = .ok (.goto 11, 3) := by decide +kernel
theorem dX7_patience_43 : decode cX7_patience 43 = .ok (.iload_n 1, 1) := by decide +kernel
theorem dX7_patience_44 : decode cX7_patience 44 = .ok (.i2d, 1) := by decide +kernel
theorem dX7_patience_45 : decode cX7_patience 45 = .ok (.aload_n 0, 1) := by decide +kernel
theorem dX7_patience_46 : decode cX7_patience 46 = .ok (.getfield 32, 3) := by decide +kernel
theorem dX7_patience_49 : decode cX7_patience 49 = .ok (.i2d, 1) := by decide +kernel
theorem dX7_patience_50 : decode cX7_patience 50 = .ok (.ddiv, 1) := by decide +kernel
theorem dX7_patience_51 : decode cX7_patience 51 = .ok (.dreturn, 1) := by decide +kernel
set_option maxRecDepth 20000 in
theorem ggX7_digest_X7_counted : GoodIn wsX7_digest wsX7_counted := goodIn_r _ [14, 15, 4, 6, 16, 17, 18, 19, 20, 21, 22, 23, 13, 24, 33, 34, 35, 36, 37, 38, 39, 40, 41, 42, 43, 44, 45, 46, 47] (by decide +kernel) (by decide +kernel)
set_option maxRecDepth 20000 in
theorem gX7_digest_X7_counted : GoodIn wsX7_digest (wsV RX7 126 RX7 yX7_counted wsX7_counted) := goodIn_app (goodIn_of _ (by decide +kernel)) ggX7_digest_X7_counted
set_option maxRecDepth 20000 in
theorem ggX7_digest_X7_get : GoodIn wsX7_digest wsX7_get := goodIn_r _ [28, 29, 33, 34, 35, 36, 37, 38, 39, 40, 41, 42, 43, 44, 45, 46, 47] (by decide +kernel) (by decide +kernel)
set_option maxRecDepth 20000 in
theorem gX7_digest_X7_get : GoodIn wsX7_digest (wsV RX7 43 RX7 yX7_get wsX7_get) := goodIn_app (goodIn_of _ (by decide +kernel)) ggX7_digest_X7_get
set_option maxRecDepth 20000 in
theorem ggX7_digest_X7_at : GoodIn wsX7_digest wsX7_at := goodIn_r _ [32] (by decide +kernel) (by decide +kernel)
set_option maxRecDepth 20000 in
theorem gX7_digest_X7_at : GoodIn wsX7_digest (va_wsS RX7 60 yX7_at wsX7_at) := goodIn_app (goodIn_of _ (by decide +kernel)) ggX7_digest_X7_at
theorem dX7_digest_0 : decode cX7_digest 0 = .ok (.aload_n 0, 1) := by decide +kernel
theorem dX7_digest_1 : decode cX7_digest 1 = .ok (.iconst 0, 1) := by decide +kernel
theorem dX7_digest_2 : decode cX7_digest 2 = .ok (.putfield 29, 3) := by decide +kernel
theorem dX7_digest_5 : decode cX7_digest 5 = .ok (.ldc2_w 141, 3) := by decide +kernel
theorem dX7_digest_8 : decode cX7_digest 8 = .ok (.lstore_n 1, 1) := by decide +kernel
theorem dX7_digest_9 : decode cX7_digest 9 = .ok (.iconst 0, 1) := by decide +kernel
theorem dX7_digest_10 : decode cX7_digest 10 = .ok (.istore_n 3, 1) := by decide +kernel
theorem dX7_digest_11 : decode cX7_digest 11 = .ok (.iload_n 3, 1) := by decide +kernel
theorem dX7_digest_12 : decode cX7_digest 12 = .ok (.bipush 9, 2) := by decide +kernel
theorem dX7_digest_14 : decode cX7_digest 14 = .ok (.if_icmp .ge 22, 3) := by decide +kernel
theorem dX7_digest_17 : decode cX7_digest 17 = .ok (.lload_n 1, 1) := by decide +kernel
theorem dX7_digest_18 : decode cX7_digest 18 = .ok (.ldc2_w 143, 3) := by decide +kernel
theorem dX7_digest_21 : decode cX7_digest 21 = .ok (.lmul, 1) := by decide +kernel
theorem dX7_digest_22 : decode cX7_digest 22 = .ok (.aload_n 0, 1) := by decide +kernel
theorem dX7_digest_23 : decode cX7_digest 23 = .ok (.iload_n 3, 1) := by decide +kernel
theorem dX7_digest_24 : decode cX7_digest 24 = .ok (.invokevirtual 126, 3) := by decide +kernel
theorem dX7_digest_27 : decode cX7_digest 27 = .ok (.i2l, 1) := by decide +kernel
theorem dX7_digest_28 : decode cX7_digest 28 = .ok (.ladd, 1) := by decide +kernel
theorem dX7_digest_29 : decode cX7_digest 29 = .ok (.lstore_n 1, 1) := by decide +kernel
theorem dX7_digest_30 : decode cX7_digest 30 = .ok (.iinc 3 1, 3) := by decide +kernel
theorem dX7_digest_33 : decode cX7_digest 33 = .ok (.goto (-22), 3) := by decide +kernel
theorem dX7_digest_36 : decode cX7_digest 36 = .ok (.iconst 0, 1) := by decide +kernel
theorem dX7_digest_37 : decode cX7_digest 37 = .ok (.istore_n 3, 1) := by decide +kernel
theorem dX7_digest_38 : decode cX7_digest 38 = .ok (.iload_n 3, 1) := by decide +kernel
theorem dX7_digest_39 : decode cX7_digest 39 = .ok (.aload_n 0, 1) := by decide +kernel
theorem dX7_digest_40 : decode cX7_digest 40 = .ok (.getfield 32, 3) := by decide +kernel
theorem dX7_digest_43 : decode cX7_digest 43 = .ok (.if_icmp .ge 98, 3) := by decide +kernel
theorem dX7_digest_46 : decode cX7_digest 46 = .ok (.iconst 0, 1) := by decide +kernel
theorem dX7_digest_47 : decode cX7_digest 47 = .ok (.istore 4, 2) := by decide +kernel
theorem dX7_digest_49 : decode cX7_digest 49 = .ok (.iload 4, 2) := by decide +kernel
theorem dX7_digest_51 : decode cX7_digest 51 = .ok (.bipush 6, 2) := by decide +kernel
theorem dX7_digest_53 : decode cX7_digest 53 = .ok (.if_icmp .ge 24, 3) := by decide +kernel
theorem dX7_digest_56 : decode cX7_digest 56 = .ok (.lload_n 1, 1) := by decide +kernel
theorem dX7_digest_57 : decode cX7_digest 57 = .ok (.ldc2_w 143, 3) := by decide +kernel
theorem dX7_digest_60 : decode cX7_digest 60 = .ok (.lmul, 1) := by decide +kernel
theorem dX7_digest_61 : decode cX7_digest 61 = .ok (.aload_n 0, 1) := by decide +kernel
theorem dX7_digest_62 : decode cX7_digest 62 = .ok (.iload_n 3, 1) := by decide +kernel
theorem dX7_digest_63 : decode cX7_digest 63 = .ok (.iload 4, 2) := by decide +kernel
theorem dX7_digest_65 : decode cX7_digest 65 = .ok (.invokevirtual 43, 3) := by decide +kernel
theorem dX7_digest_68 : decode cX7_digest 68 = .ok (.i2l, 1) := by decide +kernel
theorem dX7_digest_69 : decode cX7_digest 69 = .ok (.ladd, 1) := by decide +kernel
theorem dX7_digest_70 : decode cX7_digest 70 = .ok (.lstore_n 1, 1) := by decide +kernel
theorem dX7_digest_71 : decode cX7_digest 71 = .ok (.iinc 4 1, 3) := by decide +kernel
theorem dX7_digest_74 : decode cX7_digest 74 = .ok (.goto (-25), 3) := by decide +kernel
theorem dX7_digest_77 : decode cX7_digest 77 = .ok (.iconst 0, 1) := by decide +kernel
theorem dX7_digest_78 : decode cX7_digest 78 = .ok (.istore 4, 2) := by decide +kernel
theorem dX7_digest_80 : decode cX7_digest 80 = .ok (.iload 4, 2) := by decide +kernel
theorem dX7_digest_82 : decode cX7_digest 82 = .ok (.aload_n 0, 1) := by decide +kernel
theorem dX7_digest_83 : decode cX7_digest 83 = .ok (.iload_n 3, 1) := by decide +kernel
theorem dX7_digest_84 : decode cX7_digest 84 = .ok (.iconst 3, 1) := by decide +kernel
theorem dX7_digest_85 : decode cX7_digest 85 = .ok (.invokevirtual 43, 3) := by decide +kernel
theorem dX7_digest_88 : decode cX7_digest 88 = .ok (.if_icmp .ge 47, 3) := by decide +kernel
theorem dX7_digest_91 : decode cX7_digest 91 = .ok (.iconst 0, 1) := by decide +kernel
theorem dX7_digest_92 : decode cX7_digest 92 = .ok (.istore 5, 2) := by decide +kernel
theorem dX7_digest_94 : decode cX7_digest 94 = .ok (.iload 5, 2) := by decide +kernel
theorem dX7_digest_96 : decode cX7_digest 96 = .ok (.bipush 9, 2) := by decide +kernel
theorem dX7_digest_98 : decode cX7_digest 98 = .ok (.if_icmp .ge 31, 3) := by decide +kernel
theorem dX7_digest_101 : decode cX7_digest 101 = .ok (.lload_n 1, 1) := by decide +kernel
theorem dX7_digest_102 : decode cX7_digest 102 = .ok (.ldc2_w 143, 3) := by decide +kernel
theorem dX7_digest_105 : decode cX7_digest 105 = .ok (.lmul, 1) := by decide +kernel
theorem dX7_digest_106 : decode cX7_digest 106 = .ok (.aload_n 0, 1) := by decide +kernel
theorem dX7_digest_107 : decode cX7_digest 107 = .ok (.getfield 17, 3) := by decide +kernel
theorem dX7_digest_110 : decode cX7_digest 110 = .ok (.iload_n 3, 1) := by decide +kernel
theorem dX7_digest_111 : decode cX7_digest 111 = .ok (.iload 4, 2) := by decide +kernel
theorem dX7_digest_113 : decode cX7_digest 113 = .ok (.invokestatic 60, 3) := by decide +kernel
theorem dX7_digest_116 : decode cX7_digest 116 = .ok (.iload 5, 2) := by decide +kernel
theorem dX7_digest_118 : decode cX7_digest 118 = .ok (.iadd, 1) := by decide +kernel
theorem dX7_digest_119 : decode cX7_digest 119 = .ok (.iaload, 1) := by decide +kernel
theorem dX7_digest_120 : decode cX7_digest 120 = .ok (.i2l, 1) := by decide +kernel
theorem dX7_digest_121 : decode cX7_digest 121 = .ok (.ladd, 1) := by decide +kernel
theorem dX7_digest_122 : decode cX7_digest 122 = .ok (.lstore_n 1, 1) := by decide +kernel
theorem dX7_digest_123 : decode cX7_digest 123 = .ok (.iinc 5 1, 3) := by decide +kernel
theorem dX7_digest_126 : decode cX7_digest 126 = .ok (.goto (-32), 3) := by decide +kernel
theorem dX7_digest_129 : decode cX7_digest 129 = .ok (.iinc 4 1, 3) := by decide +kernel
theorem dX7_digest_132 : decode cX7_digest 132 = .ok (.goto (-52), 3) := by decide +kernel
theorem dX7_digest_135 : decode cX7_digest 135 = .ok (.iinc 3 1, 3) := by decide +kernel
theorem dX7_digest_138 : decode cX7_digest 138 = .ok (.goto (-100), 3) := by decide +kernel
theorem dX7_digest_141 : decode cX7_digest 141 = .ok (.iconst 0, 1) := by decide +kernel
theorem dX7_digest_142 : decode cX7_digest 142 = .ok (.istore_n 3, 1) := by decide +kernel
theorem dX7_digest_143 : decode cX7_digest 143 = .ok (.iload_n 3, 1) := by decide +kernel
theorem dX7_digest_144 : decode cX7_digest 144 = .ok (.aload_n 0, 1) := by decide +kernel
theorem dX7_digest_145 : decode cX7_digest 145 = .ok (.getfield 71, 3) := by decide +kernel
theorem dX7_digest_148 : decode cX7_digest 148 = .ok (.if_icmp .ge 44, 3) := by decide +kernel
theorem dX7_digest_151 : decode cX7_digest 151 = .ok (.iconst 0, 1) := by decide +kernel
theorem dX7_digest_152 : decode cX7_digest 152 = .ok (.istore 4, 2) := by decide +kernel
theorem dX7_digest_154 : decode cX7_digest 154 = .ok (.iload 4, 2) := by decide +kernel
theorem dX7_digest_156 : decode cX7_digest 156 = .ok (.iconst 5, 1) := by decide +kernel
theorem dX7_digest_157 : decode cX7_digest 157 = .ok (.if_icmp .ge 29, 3) := by decide +kernel
theorem dX7_digest_160 : decode cX7_digest 160 = .ok (.lload_n 1, 1) := by decide +kernel
theorem dX7_digest_161 : decode cX7_digest 161 = .ok (.ldc2_w 143, 3) := by decide +kernel
theorem dX7_digest_164 : decode cX7_digest 164 = .ok (.lmul, 1) := by decide +kernel
theorem dX7_digest_165 : decode cX7_digest 165 = .ok (.aload_n 0, 1) := by decide +kernel
theorem dX7_digest_166 : decode cX7_digest 166 = .ok (.getfield 20, 3) := by decide +kernel
theorem dX7_digest_169 : decode cX7_digest 169 = .ok (.bipush 14, 2) := by decide +kernel
theorem dX7_digest_171 : decode cX7_digest 171 = .ok (.iload_n 3, 1) := by decide +kernel
theorem dX7_digest_172 : decode cX7_digest 172 = .ok (.imul, 1) := by decide +kernel
theorem dX7_digest_173 : decode cX7_digest 173 = .ok (.iload 4, 2) := by decide +kernel
theorem dX7_digest_175 : decode cX7_digest 175 = .ok (.iadd, 1) := by decide +kernel
theorem dX7_digest_176 : decode cX7_digest 176 = .ok (.iaload, 1) := by decide +kernel
theorem dX7_digest_177 : decode cX7_digest 177 = .ok (.i2l, 1) := by decide +kernel
theorem dX7_digest_178 : decode cX7_digest 178 = .ok (.ladd, 1) := by decide +kernel
theorem dX7_digest_179 : decode cX7_digest 179 = .ok (.lstore_n 1, 1) := by decide +kernel
theorem dX7_digest_180 : decode cX7_digest 180 = .ok (.iinc 4 1, 3) := by decide +kernel
theorem dX7_digest_183 : decode cX7_digest 183 = .ok (.goto (-29), 3) := by decide +kernel
theorem dX7_digest_186 : decode cX7_digest 186 = .ok (.iinc 3 1, 3) := by decide +kernel
theorem dX7_digest_189 : decode cX7_digest 189 = .ok (.goto (-46), 3) := by decide +kernel
theorem dX7_digest_192 : decode cX7_digest 192 = .ok (.iconst 0, 1) := by decide +kernel
theorem dX7_digest_193 : decode cX7_digest 193 = .ok (.istore_n 3, 1) := by decide +kernel
theorem dX7_digest_194 : decode cX7_digest 194 = .ok (.iload_n 3, 1) := by decide +kernel
theorem dX7_digest_195 : decode cX7_digest 195 = .ok (.aload_n 0, 1) := by decide +kernel
theorem dX7_digest_196 : decode cX7_digest 196 = .ok (.getfield 80, 3) := by decide +kernel
theorem dX7_digest_199 : decode cX7_digest 199 = .ok (.if_icmp .ge 45, 3) := by decide +kernel
theorem dX7_digest_202 : decode cX7_digest 202 = .ok (.iconst 0, 1) := by decide +kernel
theorem dX7_digest_203 : decode cX7_digest 203 = .ok (.istore 4, 2) := by decide +kernel
theorem dX7_digest_205 : decode cX7_digest 205 = .ok (.iload 4, 2) := by decide +kernel
theorem dX7_digest_207 : decode cX7_digest 207 = .ok (.bipush 6, 2) := by decide +kernel
theorem dX7_digest_209 : decode cX7_digest 209 = .ok (.if_icmp .ge 29, 3) := by decide +kernel
theorem dX7_digest_212 : decode cX7_digest 212 = .ok (.lload_n 1, 1) := by decide +kernel
theorem dX7_digest_213 : decode cX7_digest 213 = .ok (.ldc2_w 143, 3) := by decide +kernel
theorem dX7_digest_216 : decode cX7_digest 216 = .ok (.lmul, 1) := by decide +kernel
theorem dX7_digest_217 : decode cX7_digest 217 = .ok (.aload_n 0, 1) := by decide +kernel
theorem dX7_digest_218 : decode cX7_digest 218 = .ok (.getfield 23, 3) := by decide +kernel
theorem dX7_digest_221 : decode cX7_digest 221 = .ok (.bipush 15, 2) := by decide +kernel
theorem dX7_digest_223 : decode cX7_digest 223 = .ok (.iload_n 3, 1) := by decide +kernel
theorem dX7_digest_224 : decode cX7_digest 224 = .ok (.imul, 1) := by decide +kernel
theorem dX7_digest_225 : decode cX7_digest 225 = .ok (.iload 4, 2) := by decide +kernel
theorem dX7_digest_227 : decode cX7_digest 227 = .ok (.iadd, 1) := by decide +kernel
theorem dX7_digest_228 : decode cX7_digest 228 = .ok (.iaload, 1) := by decide +kernel
theorem dX7_digest_229 : decode cX7_digest 229 = .ok (.i2l, 1) := by decide +kernel
theorem dX7_digest_230 : decode cX7_digest 230 = .ok (.ladd, 1) := by decide +kernel
theorem dX7_digest_231 : decode cX7_digest 231 = .ok (.lstore_n 1, 1) := by decide +kernel
theorem dX7_digest_232 : decode cX7_digest 232 = .ok (.iinc 4 1, 3) := by decide +kernel
theorem dX7_digest_235 : decode cX7_digest 235 = .ok (.goto (-30), 3) := by decide +kernel
theorem dX7_digest_238 : decode cX7_digest 238 = .ok (.iinc 3 1, 3) := by decide +kernel
theorem dX7_digest_241 : decode cX7_digest 241 = .ok (.goto (-47), 3) := by decide +kernel
theorem dX7_digest_244 : decode cX7_digest 244 = .ok (.lload_n 1, 1) := by decide +kernel
theorem dX7_digest_245 : decode cX7_digest 245 = .ok (.lreturn, 1) := by decide +kernel
