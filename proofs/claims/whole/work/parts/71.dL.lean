set_option maxRecDepth 20000 in
theorem ggL_moveIn_X6_moveIn : GoodIn wsL_moveIn wsX6_moveIn := goodIn_ca (goodIn_ca (goodIn_r _ [7, 8, 9, 10, 11, 12, 13, 14, 15, 16, 17, 6, 18, 19, 20, 21, 22, 23, 24, 25, 26, 27, 28, 29, 30, 31, 32, 33, 34, 35, 36, 37, 38, 39, 40, 41, 42, 43, 44, 45, 46, 47, 48, 49, 50, 51, 52, 53, 54, 55, 56, 57, 58, 59, 60, 61, 62, 63, 64, 65, 66, 67, 68, 69, 70, 71, 72, 73, 74, 75, 76, 77, 78, 79, 80, 81, 82, 83, 84, 85, 86, 87, 88, 89, 90, 91, 92, 93, 94, 95, 96, 97, 98, 99, 100, 101, 102, 103, 104, 105, 106, 107, 108, 109, 110, 111, 112, 113, 114, 115, 116, 117, 118, 119, 120, 121, 122, 123, 124, 125] (by decide +kernel) (by decide +kernel)) (goodIn_sub (fun _ h => List.mem_cons_of_mem _ (List.mem_append_left _ (List.mem_append_right _ h))) (by decide +kernel))) (goodIn_sub (fun _ h => List.mem_cons_of_mem _ (List.mem_append_right _ h)) (by decide +kernel))
theorem dL_moveIn_0 : decode cL_moveIn 0 = .ok (.aload_n 3, 1) := by decide +kernel
theorem dL_moveIn_1 : decode cL_moveIn 1 = .ok (.iconst 0, 1) := by decide +kernel
theorem dL_moveIn_2 : decode cL_moveIn 2 = .ok (.aload_n 0, 1) := by decide +kernel
theorem dL_moveIn_3 : decode cL_moveIn 3 = .ok (.iload_n 1, 1) := by decide +kernel
theorem dL_moveIn_4 : decode cL_moveIn 4 = .ok (.iload_n 2, 1) := by decide +kernel
theorem dL_moveIn_5 : decode cL_moveIn 5 = .ok (.invokevirtual 7, 3) := by decide +kernel
theorem dL_moveIn_8 : decode cL_moveIn 8 = .ok (.i2l, 1) := by decide +kernel
theorem dL_moveIn_9 : decode cL_moveIn 9 = .ok (.lastore, 1) := by decide +kernel
theorem dL_moveIn_10 : decode cL_moveIn 10 = .ok (.goto 11, 3) := by decide +kernel
theorem dL_moveIn_13 : decode cL_moveIn 13 = .ok (.astore 4, 2) := by decide +kernel
theorem dL_moveIn_15 : decode cL_moveIn 15 = .ok (.iconst 1, 1) := by decide +kernel
theorem dL_moveIn_16 : decode cL_moveIn 16 = .ok (.ireturn, 1) := by decide +kernel
theorem dL_moveIn_17 : decode cL_moveIn 17 = .ok (.astore 4, 2) := by decide +kernel
theorem dL_moveIn_19 : decode cL_moveIn 19 = .ok (.iconst 2, 1) := by decide +kernel
theorem dL_moveIn_20 : decode cL_moveIn 20 = .ok (.ireturn, 1) := by decide +kernel
theorem dL_moveIn_21 : decode cL_moveIn 21 = .ok (.iconst 0, 1) := by decide +kernel
theorem dL_moveIn_22 : decode cL_moveIn 22 = .ok (.ireturn, 1) := by decide +kernel
set_option maxRecDepth 20000 in
theorem ggL_setHour_X6_setHour : GoodIn wsL_setHour wsX6_setHour := goodIn_ca (goodIn_r _ [6, 7, 8, 9, 10, 11, 5, 12, 13, 14, 15, 16, 17, 18, 19, 20, 21] (by decide +kernel) (by decide +kernel)) (goodIn_sub (fun _ h => List.mem_cons_of_mem _ (List.mem_append_right _ h)) (by decide +kernel))
theorem dL_setHour_0 : decode cL_setHour 0 = .ok (.aload_n 2, 1) := by decide +kernel
theorem dL_setHour_1 : decode cL_setHour 1 = .ok (.iconst 0, 1) := by decide +kernel
theorem dL_setHour_2 : decode cL_setHour 2 = .ok (.aload_n 0, 1) := by decide +kernel
theorem dL_setHour_3 : decode cL_setHour 3 = .ok (.iload_n 1, 1) := by decide +kernel
theorem dL_setHour_4 : decode cL_setHour 4 = .ok (.invokevirtual 17, 3) := by decide +kernel
theorem dL_setHour_7 : decode cL_setHour 7 = .ok (.i2l, 1) := by decide +kernel
theorem dL_setHour_8 : decode cL_setHour 8 = .ok (.lastore, 1) := by decide +kernel
theorem dL_setHour_9 : decode cL_setHour 9 = .ok (.goto 6, 3) := by decide +kernel
theorem dL_setHour_12 : decode cL_setHour 12 = .ok (.astore_n 3, 1) := by decide +kernel
theorem dL_setHour_13 : decode cL_setHour 13 = .ok (.iconst 1, 1) := by decide +kernel
theorem dL_setHour_14 : decode cL_setHour 14 = .ok (.ireturn, 1) := by decide +kernel
theorem dL_setHour_15 : decode cL_setHour 15 = .ok (.iconst 0, 1) := by decide +kernel
theorem dL_setHour_16 : decode cL_setHour 16 = .ok (.ireturn, 1) := by decide +kernel
set_option maxRecDepth 20000 in
theorem ggL_addHabit_X6_addHabit : GoodIn wsL_addHabit wsX6_addHabit := goodIn_ca (goodIn_ca (goodIn_r _ [7, 8, 9, 10, 11, 12, 13, 14, 15, 16, 6, 17, 18, 19, 20, 21, 22, 23, 24, 25, 26, 27, 28, 29, 30, 31, 32, 33, 34, 35, 36, 37, 38, 39, 40, 41, 42, 43, 44, 45, 46, 47, 48, 49, 50, 51, 52, 53, 54, 55, 56, 57, 58, 59, 60, 61, 62, 63, 64, 65, 66, 67, 68, 69, 70, 71, 72, 73, 74, 75, 76, 77, 78, 79, 80, 81, 82, 83, 84, 85, 86, 87, 88, 89, 90, 91, 92, 93, 94, 95, 96, 97, 98, 99, 100, 101, 102, 103, 104, 105, 106, 107, 108, 109, 110, 111, 112, 113, 114, 115, 116, 117, 118, 119, 120, 121, 122, 123, 124, 125, 126, 127, 128, 129, 130, 131, 132, 133, 134, 135, 136, 137, 138, 139, 140] (by decide +kernel) (by decide +kernel)) (goodIn_sub (fun _ h => List.mem_cons_of_mem _ (List.mem_append_left _ (List.mem_append_right _ h))) (by decide +kernel))) (goodIn_sub (fun _ h => List.mem_cons_of_mem _ (List.mem_append_right _ h)) (by decide +kernel))
theorem dL_addHabit_0 : decode cL_addHabit 0 = .ok (.aload_n 2, 1) := by decide +kernel
theorem dL_addHabit_1 : decode cL_addHabit 1 = .ok (.iconst 0, 1) := by decide +kernel
theorem dL_addHabit_2 : decode cL_addHabit 2 = .ok (.aload_n 0, 1) := by decide +kernel
theorem dL_addHabit_3 : decode cL_addHabit 3 = .ok (.iload_n 1, 1) := by decide +kernel
theorem dL_addHabit_4 : decode cL_addHabit 4 = .ok (.invokevirtual 21, 3) := by decide +kernel
theorem dL_addHabit_7 : decode cL_addHabit 7 = .ok (.i2l, 1) := by decide +kernel
theorem dL_addHabit_8 : decode cL_addHabit 8 = .ok (.lastore, 1) := by decide +kernel
theorem dL_addHabit_9 : decode cL_addHabit 9 = .ok (.goto 9, 3) := by decide +kernel
theorem dL_addHabit_12 : decode cL_addHabit 12 = .ok (.astore_n 3, 1) := by decide +kernel
theorem dL_addHabit_13 : decode cL_addHabit 13 = .ok (.iconst 1, 1) := by decide +kernel
theorem dL_addHabit_14 : decode cL_addHabit 14 = .ok (.ireturn, 1) := by decide +kernel
theorem dL_addHabit_15 : decode cL_addHabit 15 = .ok (.astore_n 3, 1) := by decide +kernel
theorem dL_addHabit_16 : decode cL_addHabit 16 = .ok (.iconst 2, 1) := by decide +kernel
theorem dL_addHabit_17 : decode cL_addHabit 17 = .ok (.ireturn, 1) := by decide +kernel
theorem dL_addHabit_18 : decode cL_addHabit 18 = .ok (.iconst 0, 1) := by decide +kernel
theorem dL_addHabit_19 : decode cL_addHabit 19 = .ok (.ireturn, 1) := by decide +kernel
set_option maxRecDepth 20000 in
theorem ggL_setWhen_X6_setWhen : GoodIn wsL_setWhen wsX6_setWhen := goodIn_ca (goodIn_ca (goodIn_ca (goodIn_r _ [7, 8, 9, 10, 11, 12, 13, 14, 15, 16, 6, 17, 18, 19, 20, 21, 22, 23, 24, 25, 26, 27, 28, 29, 30, 31, 32, 33, 34, 35, 36, 37, 38, 39, 40, 41, 42, 43, 44, 45, 46, 47, 48, 49, 50, 51, 52, 53, 54, 55, 56, 57, 58, 59, 60, 61, 62, 63, 64, 65, 66, 67, 68, 69, 70, 71, 72, 73, 74, 75, 76, 77, 78, 79, 80, 81, 82, 83, 84, 85, 86] (by decide +kernel) (by decide +kernel)) (goodIn_sub (fun _ h => List.mem_cons_of_mem _ (List.mem_append_left _ (List.mem_append_left _ (List.mem_append_right _ h)))) (by decide +kernel))) (goodIn_sub (fun _ h => List.mem_cons_of_mem _ (List.mem_append_left _ (List.mem_append_right _ h))) (by decide +kernel))) (goodIn_sub (fun _ h => List.mem_cons_of_mem _ (List.mem_append_right _ h)) (by decide +kernel))
theorem dL_setWhen_0 : decode cL_setWhen 0 = .ok (.aload 7, 2) := by decide +kernel
theorem dL_setWhen_2 : decode cL_setWhen 2 = .ok (.iconst 0, 1) := by decide +kernel
theorem dL_setWhen_3 : decode cL_setWhen 3 = .ok (.aload_n 0, 1) := by decide +kernel
theorem dL_setWhen_4 : decode cL_setWhen 4 = .ok (.iload_n 1, 1) := by decide +kernel
theorem dL_setWhen_5 : decode cL_setWhen 5 = .ok (.iload_n 2, 1) := by decide +kernel
theorem dL_setWhen_6 : decode cL_setWhen 6 = .ok (.iload_n 3, 1) := by decide +kernel
theorem dL_setWhen_7 : decode cL_setWhen 7 = .ok (.iload 4, 2) := by decide +kernel
theorem dL_setWhen_9 : decode cL_setWhen 9 = .ok (.iload 5, 2) := by decide +kernel
theorem dL_setWhen_11 : decode cL_setWhen 11 = .ok (.iload 6, 2) := by decide +kernel
theorem dL_setWhen_13 : decode cL_setWhen 13 = .ok (.invokevirtual 26, 3) := by decide +kernel
theorem dL_setWhen_16 : decode cL_setWhen 16 = .ok (.i2l, 1) := by decide +kernel
theorem dL_setWhen_17 : decode cL_setWhen 17 = .ok (.lastore, 1) := by decide +kernel
theorem dL_setWhen_18 : decode cL_setWhen 18 = .ok (.goto 11, 3) := by decide +kernel
theorem dL_setWhen_21 : decode cL_setWhen 21 = .ok (.astore 8, 2) := by decide +kernel
theorem dL_setWhen_23 : decode cL_setWhen 23 = .ok (.iconst 1, 1) := by decide +kernel
theorem dL_setWhen_24 : decode cL_setWhen 24 = .ok (.ireturn, 1) := by decide +kernel
theorem dL_setWhen_25 : decode cL_setWhen 25 = .ok (.astore 8, 2) := by decide +kernel
theorem dL_setWhen_27 : decode cL_setWhen 27 = .ok (.iconst 2, 1) := by decide +kernel
theorem dL_setWhen_28 : decode cL_setWhen 28 = .ok (.ireturn, 1) := by decide +kernel
theorem dL_setWhen_29 : decode cL_setWhen 29 = .ok (.iconst 0, 1) := by decide +kernel
theorem dL_setWhen_30 : decode cL_setWhen 30 = .ok (.ireturn, 1) := by decide +kernel
set_option maxRecDepth 20000 in
theorem ggL_setWhat_X6_setWhat : GoodIn wsL_setWhat wsX6_setWhat := goodIn_ca (goodIn_ca (goodIn_ca (goodIn_r _ [7, 8, 9, 10, 11, 12, 13, 14, 15, 16, 17, 18, 19, 6, 20, 21, 22, 23, 24, 25, 26, 27, 28, 29, 30, 31, 32, 33, 34, 35, 36, 37, 38, 39, 40, 41, 42, 43, 44, 45, 46, 47, 48, 49, 50, 51, 52, 53, 54, 55, 56, 57, 58, 59, 60, 61, 62, 63, 64, 65, 66, 67, 68, 69, 70, 71, 72, 73, 74, 75, 76, 77, 78, 79, 80, 81, 82, 83, 84, 85, 86] (by decide +kernel) (by decide +kernel)) (goodIn_sub (fun _ h => List.mem_cons_of_mem _ (List.mem_append_left _ (List.mem_append_left _ (List.mem_append_right _ h)))) (by decide +kernel))) (goodIn_sub (fun _ h => List.mem_cons_of_mem _ (List.mem_append_left _ (List.mem_append_right _ h))) (by decide +kernel))) (goodIn_sub (fun _ h => List.mem_cons_of_mem _ (List.mem_append_right _ h)) (by decide +kernel))
theorem dL_setWhat_0 : decode cL_setWhat 0 = .ok (.aload 7, 2) := by decide +kernel
theorem dL_setWhat_2 : decode cL_setWhat 2 = .ok (.iconst 0, 1) := by decide +kernel
theorem dL_setWhat_3 : decode cL_setWhat 3 = .ok (.aload_n 0, 1) := by decide +kernel
theorem dL_setWhat_4 : decode cL_setWhat 4 = .ok (.iload_n 1, 1) := by decide +kernel
theorem dL_setWhat_5 : decode cL_setWhat 5 = .ok (.iload_n 2, 1) := by decide +kernel
theorem dL_setWhat_6 : decode cL_setWhat 6 = .ok (.iload_n 3, 1) := by decide +kernel
theorem dL_setWhat_7 : decode cL_setWhat 7 = .ok (.iload 4, 2) := by decide +kernel
theorem dL_setWhat_9 : decode cL_setWhat 9 = .ok (.iload 5, 2) := by decide +kernel
theorem dL_setWhat_11 : decode cL_setWhat 11 = .ok (.iload 6, 2) := by decide +kernel
theorem dL_setWhat_13 : decode cL_setWhat 13 = .ok (.invokevirtual 30, 3) := by decide +kernel
theorem dL_setWhat_16 : decode cL_setWhat 16 = .ok (.i2l, 1) := by decide +kernel
theorem dL_setWhat_17 : decode cL_setWhat 17 = .ok (.lastore, 1) := by decide +kernel
theorem dL_setWhat_18 : decode cL_setWhat 18 = .ok (.goto 11, 3) := by decide +kernel
theorem dL_setWhat_21 : decode cL_setWhat 21 = .ok (.astore 8, 2) := by decide +kernel
theorem dL_setWhat_23 : decode cL_setWhat 23 = .ok (.iconst 1, 1) := by decide +kernel
theorem dL_setWhat_24 : decode cL_setWhat 24 = .ok (.ireturn, 1) := by decide +kernel
theorem dL_setWhat_25 : decode cL_setWhat 25 = .ok (.astore 8, 2) := by decide +kernel
theorem dL_setWhat_27 : decode cL_setWhat 27 = .ok (.iconst 2, 1) := by decide +kernel
theorem dL_setWhat_28 : decode cL_setWhat 28 = .ok (.ireturn, 1) := by decide +kernel
theorem dL_setWhat_29 : decode cL_setWhat 29 = .ok (.iconst 0, 1) := by decide +kernel
theorem dL_setWhat_30 : decode cL_setWhat 30 = .ok (.ireturn, 1) := by decide +kernel
set_option maxRecDepth 20000 in
theorem ggL_dropHabit_X6_dropHabit : GoodIn wsL_dropHabit wsX6_dropHabit := goodIn_ca (goodIn_r _ [6, 7, 8, 9, 10, 11, 12, 5, 13, 14, 15, 16, 17, 18, 19, 20, 21, 22, 23, 24, 25, 26, 27, 28, 29, 30, 31, 32, 33, 34, 35, 36, 37, 38, 39, 40, 41, 42, 43, 44, 45, 46, 47, 48, 49, 50, 51, 52, 53, 54, 55, 56, 57, 58, 59, 60, 61, 62, 63, 64, 65, 66, 67, 68, 69, 70, 71, 72, 73, 74, 75] (by decide +kernel) (by decide +kernel)) (goodIn_sub (fun _ h => List.mem_cons_of_mem _ (List.mem_append_right _ h)) (by decide +kernel))
theorem dL_dropHabit_0 : decode cL_dropHabit 0 = .ok (.aload_n 3, 1) := by decide +kernel
theorem dL_dropHabit_1 : decode cL_dropHabit 1 = .ok (.iconst 0, 1) := by decide +kernel
theorem dL_dropHabit_2 : decode cL_dropHabit 2 = .ok (.aload_n 0, 1) := by decide +kernel
theorem dL_dropHabit_3 : decode cL_dropHabit 3 = .ok (.iload_n 1, 1) := by decide +kernel
theorem dL_dropHabit_4 : decode cL_dropHabit 4 = .ok (.iload_n 2, 1) := by decide +kernel
theorem dL_dropHabit_5 : decode cL_dropHabit 5 = .ok (.invokevirtual 33, 3) := by decide +kernel
theorem dL_dropHabit_8 : decode cL_dropHabit 8 = .ok (.i2l, 1) := by decide +kernel
theorem dL_dropHabit_9 : decode cL_dropHabit 9 = .ok (.lastore, 1) := by decide +kernel
theorem dL_dropHabit_10 : decode cL_dropHabit 10 = .ok (.goto 7, 3) := by decide +kernel
theorem dL_dropHabit_13 : decode cL_dropHabit 13 = .ok (.astore 4, 2) := by decide +kernel
theorem dL_dropHabit_15 : decode cL_dropHabit 15 = .ok (.iconst 1, 1) := by decide +kernel
theorem dL_dropHabit_16 : decode cL_dropHabit 16 = .ok (.ireturn, 1) := by decide +kernel
theorem dL_dropHabit_17 : decode cL_dropHabit 17 = .ok (.iconst 0, 1) := by decide +kernel
theorem dL_dropHabit_18 : decode cL_dropHabit 18 = .ok (.ireturn, 1) := by decide +kernel
set_option maxRecDepth 20000 in
theorem ggL_tenant_X6_tenant : GoodIn wsL_tenant wsX6_tenant := goodIn_ca (goodIn_r _ [6, 7, 8, 9, 10, 11, 5, 12, 13, 14, 15, 16, 17, 18, 19, 20, 21, 22, 23, 24, 25, 26, 27, 28, 29, 30, 31, 32, 33, 34, 35, 36, 37, 38, 39, 40, 41, 42, 43, 44, 45, 46, 47, 48, 49, 50, 51, 52, 53, 54, 55, 56, 57, 58, 59, 60, 61, 62, 63, 64, 65, 66, 67, 68, 69, 70, 71, 72] (by decide +kernel) (by decide +kernel)) (goodIn_sub (fun _ h => List.mem_cons_of_mem _ (List.mem_append_right _ h)) (by decide +kernel))
theorem dL_tenant_0 : decode cL_tenant 0 = .ok (.aload_n 3, 1) := by decide +kernel
theorem dL_tenant_1 : decode cL_tenant 1 = .ok (.iconst 0, 1) := by decide +kernel
theorem dL_tenant_2 : decode cL_tenant 2 = .ok (.aload_n 0, 1) := by decide +kernel
theorem dL_tenant_3 : decode cL_tenant 3 = .ok (.iload_n 1, 1) := by decide +kernel
theorem dL_tenant_4 : decode cL_tenant 4 = .ok (.iload_n 2, 1) := by decide +kernel
theorem dL_tenant_5 : decode cL_tenant 5 = .ok (.invokevirtual 36, 3) := by decide +kernel
theorem dL_tenant_8 : decode cL_tenant 8 = .ok (.i2l, 1) := by decide +kernel
theorem dL_tenant_9 : decode cL_tenant 9 = .ok (.lastore, 1) := by decide +kernel
theorem dL_tenant_10 : decode cL_tenant 10 = .ok (.goto 7, 3) := by decide +kernel
theorem dL_tenant_13 : decode cL_tenant 13 = .ok (.astore 4, 2) := by decide +kernel
theorem dL_tenant_15 : decode cL_tenant 15 = .ok (.iconst 1, 1) := by decide +kernel
theorem dL_tenant_16 : decode cL_tenant 16 = .ok (.ireturn, 1) := by decide +kernel
theorem dL_tenant_17 : decode cL_tenant 17 = .ok (.iconst 0, 1) := by decide +kernel
theorem dL_tenant_18 : decode cL_tenant 18 = .ok (.ireturn, 1) := by decide +kernel
set_option maxRecDepth 20000 in
theorem ggL_habit_X6_habit : GoodIn wsL_habit wsX6_habit := goodIn_ca (goodIn_ca (goodIn_r _ [6, 7, 8, 9, 10, 11, 5, 12, 13, 14, 15, 16, 17, 18, 19, 20, 21, 22, 23, 24, 25, 26, 27, 28, 29, 30, 31, 32, 33, 34, 35, 36, 37, 38, 39, 40, 41, 42, 43, 44, 45, 46, 47, 48, 49, 50, 51, 52, 53, 54, 55, 56, 57, 58, 59, 60, 61, 62, 63, 64, 65, 66, 67, 68, 69, 70, 71, 72, 73, 74, 75, 76, 77, 78, 79, 80, 81, 82, 83, 84, 85, 86, 87, 88, 89, 90, 91, 92, 93] (by decide +kernel) (by decide +kernel)) (goodIn_sub (fun _ h => List.mem_cons_of_mem _ (List.mem_append_left _ (List.mem_append_right _ h))) (by decide +kernel))) (goodIn_sub (fun _ h => List.mem_cons_of_mem _ (List.mem_append_right _ h)) (by decide +kernel))
theorem dL_habit_0 : decode cL_habit 0 = .ok (.aload 4, 2) := by decide +kernel
theorem dL_habit_2 : decode cL_habit 2 = .ok (.iconst 0, 1) := by decide +kernel
theorem dL_habit_3 : decode cL_habit 3 = .ok (.aload_n 0, 1) := by decide +kernel
theorem dL_habit_4 : decode cL_habit 4 = .ok (.iload_n 1, 1) := by decide +kernel
theorem dL_habit_5 : decode cL_habit 5 = .ok (.iload_n 2, 1) := by decide +kernel
theorem dL_habit_6 : decode cL_habit 6 = .ok (.iload_n 3, 1) := by decide +kernel
theorem dL_habit_7 : decode cL_habit 7 = .ok (.invokevirtual 39, 3) := by decide +kernel
theorem dL_habit_10 : decode cL_habit 10 = .ok (.i2l, 1) := by decide +kernel
theorem dL_habit_11 : decode cL_habit 11 = .ok (.lastore, 1) := by decide +kernel
theorem dL_habit_12 : decode cL_habit 12 = .ok (.goto 7, 3) := by decide +kernel
theorem dL_habit_15 : decode cL_habit 15 = .ok (.astore 5, 2) := by decide +kernel
theorem dL_habit_17 : decode cL_habit 17 = .ok (.iconst 1, 1) := by decide +kernel
theorem dL_habit_18 : decode cL_habit 18 = .ok (.ireturn, 1) := by decide +kernel
theorem dL_habit_19 : decode cL_habit 19 = .ok (.iconst 0, 1) := by decide +kernel
theorem dL_habit_20 : decode cL_habit 20 = .ok (.ireturn, 1) := by decide +kernel
set_option maxRecDepth 20000 in
theorem ggL_ring_X6_ring : GoodIn wsL_ring wsX6_ring := goodIn_ca (goodIn_ca (goodIn_ca (goodIn_r _ [6, 7, 8, 9, 10, 11, 12, 5, 13, 14, 15, 16, 17, 18, 19, 20, 21, 22, 23, 24, 25, 26, 27, 28, 29, 30, 31, 32, 33, 34, 35, 36, 37, 38, 39, 40, 41, 42, 43, 44, 45, 46, 47, 48, 49, 50, 51, 52, 53, 54, 55, 56, 57, 58, 59, 60, 61, 62, 63, 64, 65, 66, 67, 68, 69, 70, 71, 72, 73, 74, 75, 76, 77, 78, 79, 80, 81, 82, 83, 84, 85, 86, 87, 88, 89, 90, 91, 92, 93, 94, 95, 96, 97, 98, 99, 100, 101, 102, 103, 104, 105, 106, 107, 108, 109, 110, 111, 112, 113, 114, 115, 116, 117, 118, 119, 120, 121, 122, 123, 124, 125, 126, 127, 128, 129, 130, 131, 132, 133, 134, 135, 136, 137, 138, 139, 140, 141, 142, 143, 144, 145, 146, 147, 148, 149, 150, 151, 152, 153, 154, 155, 156, 157, 158, 159, 160, 161, 162, 163, 164, 165, 166, 167, 168, 169, 170, 171, 172, 173, 174, 175, 176, 177, 178, 179, 180, 181, 182, 183, 184, 185, 186, 187, 188, 189, 190, 191, 192, 193, 194, 195, 196, 197, 198, 199, 200, 201, 202, 203, 204, 205, 206, 207, 208, 209, 210, 211, 212, 213, 214, 215, 216, 217, 218, 219, 220, 221, 222, 223, 224, 225, 226, 227, 228, 229, 230, 231, 232, 233, 234, 235, 236, 237, 238, 239, 240, 241, 242, 243, 244, 245, 246, 247, 248, 249, 250, 251, 252, 253, 254, 255, 256, 257, 258, 259, 260, 261, 262, 263, 264, 265, 266, 267, 268, 269, 270, 271, 272, 273, 274, 275, 276, 277, 278, 279, 280, 281, 282, 283, 284, 285, 286, 287, 288, 289, 290, 291, 292, 293, 294, 295, 296, 297, 298, 299, 300, 301, 302, 303, 304, 305, 306, 307, 308, 309, 310, 311, 312, 313, 314] (by decide +kernel) (by decide +kernel)) (goodIn_sub (fun _ h => List.mem_cons_of_mem _ (List.mem_append_left _ (List.mem_append_left _ (List.mem_append_right _ h)))) (by decide +kernel))) (goodIn_sub (fun _ h => List.mem_cons_of_mem _ (List.mem_append_left _ (List.mem_append_right _ h))) (by decide +kernel))) (goodIn_sub (fun _ h => List.mem_cons_of_mem _ (List.mem_append_right _ h)) (by decide +kernel))
theorem dL_ring_0 : decode cL_ring 0 = .ok (.aload_n 2, 1) := by decide +kernel
theorem dL_ring_1 : decode cL_ring 1 = .ok (.iconst 0, 1) := by decide +kernel
theorem dL_ring_2 : decode cL_ring 2 = .ok (.aload_n 0, 1) := by decide +kernel
theorem dL_ring_3 : decode cL_ring 3 = .ok (.iload_n 1, 1) := by decide +kernel
theorem dL_ring_4 : decode cL_ring 4 = .ok (.invokevirtual 43, 3) := by decide +kernel
theorem dL_ring_7 : decode cL_ring 7 = .ok (.i2l, 1) := by decide +kernel
theorem dL_ring_8 : decode cL_ring 8 = .ok (.lastore, 1) := by decide +kernel
theorem dL_ring_9 : decode cL_ring 9 = .ok (.goto 6, 3) := by decide +kernel
theorem dL_ring_12 : decode cL_ring 12 = .ok (.astore_n 3, 1) := by decide +kernel
theorem dL_ring_13 : decode cL_ring 13 = .ok (.iconst 1, 1) := by decide +kernel
theorem dL_ring_14 : decode cL_ring 14 = .ok (.ireturn, 1) := by decide +kernel
theorem dL_ring_15 : decode cL_ring 15 = .ok (.iconst 0, 1) := by decide +kernel
theorem dL_ring_16 : decode cL_ring 16 = .ok (.ireturn, 1) := by decide +kernel
set_option maxRecDepth 20000 in
theorem ggL_pass_X6_pass : GoodIn wsL_pass wsX6_pass := goodIn_ca (goodIn_ca (goodIn_ca (goodIn_ca (goodIn_r _ [6, 7, 8, 9, 10, 11, 5, 12, 13, 14, 15, 16, 17, 18, 19, 20, 21, 22, 23, 24, 25, 26, 27, 28, 29, 30, 31, 32, 33, 34, 35, 36, 37, 38, 39, 40, 41, 42, 43, 44, 45, 46, 47, 48, 49, 50, 51, 52, 53, 54, 55, 56, 57, 58, 59, 60, 61, 62, 63, 64, 65, 66, 67, 68, 69, 70, 71, 72, 73, 74, 75, 76, 77, 78, 79, 80, 81, 82, 83, 84, 85, 86, 87, 88, 89, 90, 91, 92, 93, 94, 95, 96, 97, 98, 99, 100, 101, 102, 103, 104, 105, 106, 107, 108, 109, 110, 111, 112, 113, 114, 115, 116, 117, 118, 119, 120, 121, 122, 123, 124, 125, 126, 127, 128, 129, 130, 131, 132, 133, 134, 135, 136, 137, 138, 139, 140, 141, 142, 143, 144, 145, 146, 147, 148, 149, 150, 151, 152, 153, 154, 155, 156, 157, 158, 159, 160, 161, 162, 163, 164, 165, 166, 167, 168, 169, 170, 171, 172, 173, 174, 175, 176, 177, 178, 179, 180, 181, 182, 183, 184, 185, 186, 187, 188, 189, 190, 191, 192, 193, 194, 195, 196, 197, 198, 199, 200, 201, 202, 203, 204, 205, 206, 207, 208, 209, 210, 211, 212, 213, 214, 215, 216, 217, 218, 219, 220, 221, 222, 223, 224, 225, 226, 227, 228, 229, 230, 231, 232, 233, 234, 235, 236, 237, 238, 239, 240, 241, 242, 243, 244, 245, 246, 247, 248, 249, 250, 251, 252, 253, 254, 255, 256, 257, 258, 259, 260, 261, 262, 263, 264, 265, 266, 267, 268, 269, 270, 271, 272, 273, 274, 275, 276, 277, 278, 279, 280, 281, 282, 283, 284, 285, 286, 287, 288, 289, 290, 291, 292, 293, 294, 295, 296, 297, 298, 299, 300, 301, 302, 303, 304, 305, 306, 307, 308, 309, 310, 311, 312, 313, 314, 315, 316, 317, 318, 319, 320, 321, 322, 323, 324, 325, 326, 327, 328, 329, 330, 331, 332, 333, 334] (by decide +kernel) (by decide +kernel)) (goodIn_sub (fun _ h => List.mem_cons_of_mem _ (List.mem_append_left _ (List.mem_append_left _ (List.mem_append_left _ (List.mem_append_right _ h))))) (by decide +kernel))) (goodIn_sub (fun _ h => List.mem_cons_of_mem _ (List.mem_append_left _ (List.mem_append_left _ (List.mem_append_right _ h)))) (by decide +kernel))) (goodIn_sub (fun _ h => List.mem_cons_of_mem _ (List.mem_append_left _ (List.mem_append_right _ h))) (by decide +kernel))) (goodIn_sub (fun _ h => List.mem_cons_of_mem _ (List.mem_append_right _ h)) (by decide +kernel))
theorem dL_pass_0 : decode cL_pass 0 = .ok (.aload_n 2, 1) := by decide +kernel
theorem dL_pass_1 : decode cL_pass 1 = .ok (.iconst 0, 1) := by decide +kernel
theorem dL_pass_2 : decode cL_pass 2 = .ok (.aload_n 0, 1) := by decide +kernel
theorem dL_pass_3 : decode cL_pass 3 = .ok (.iload_n 1, 1) := by decide +kernel
theorem dL_pass_4 : decode cL_pass 4 = .ok (.invokevirtual 46, 3) := by decide +kernel
theorem dL_pass_7 : decode cL_pass 7 = .ok (.i2l, 1) := by decide +kernel
theorem dL_pass_8 : decode cL_pass 8 = .ok (.lastore, 1) := by decide +kernel
theorem dL_pass_9 : decode cL_pass 9 = .ok (.goto 6, 3) := by decide +kernel
theorem dL_pass_12 : decode cL_pass 12 = .ok (.astore_n 3, 1) := by decide +kernel
theorem dL_pass_13 : decode cL_pass 13 = .ok (.iconst 1, 1) := by decide +kernel
theorem dL_pass_14 : decode cL_pass 14 = .ok (.ireturn, 1) := by decide +kernel
theorem dL_pass_15 : decode cL_pass 15 = .ok (.iconst 0, 1) := by decide +kernel
theorem dL_pass_16 : decode cL_pass 16 = .ok (.ireturn, 1) := by decide +kernel
set_option maxRecDepth 20000 in
theorem ggL_count_X6_count : GoodIn wsL_count wsX6_count := goodIn_ca (goodIn_r _ [6, 7, 8, 9, 10, 5, 11, 12, 13, 14, 15, 16, 17, 18, 19, 20, 21, 22, 23, 24, 25, 26, 27, 28, 29, 30, 31, 32, 33, 34, 35, 36, 37, 38, 39, 40, 41, 42, 43, 44, 45, 46, 47, 48, 49, 50, 51, 52, 53] (by decide +kernel) (by decide +kernel)) (goodIn_sub (fun _ h => List.mem_cons_of_mem _ (List.mem_append_right _ h)) (by decide +kernel))
theorem dL_count_0 : decode cL_count 0 = .ok (.aload_n 2, 1) := by decide +kernel
theorem dL_count_1 : decode cL_count 1 = .ok (.iconst 0, 1) := by decide +kernel
theorem dL_count_2 : decode cL_count 2 = .ok (.aload_n 0, 1) := by decide +kernel
theorem dL_count_3 : decode cL_count 3 = .ok (.iload_n 1, 1) := by decide +kernel
theorem dL_count_4 : decode cL_count 4 = .ok (.invokevirtual 49, 3) := by decide +kernel
theorem dL_count_7 : decode cL_count 7 = .ok (.i2l, 1) := by decide +kernel
theorem dL_count_8 : decode cL_count 8 = .ok (.lastore, 1) := by decide +kernel
theorem dL_count_9 : decode cL_count 9 = .ok (.goto 6, 3) := by decide +kernel
theorem dL_count_12 : decode cL_count 12 = .ok (.astore_n 3, 1) := by decide +kernel
theorem dL_count_13 : decode cL_count 13 = .ok (.iconst 1, 1) := by decide +kernel
theorem dL_count_14 : decode cL_count 14 = .ok (.ireturn, 1) := by decide +kernel
theorem dL_count_15 : decode cL_count 15 = .ok (.iconst 0, 1) := by decide +kernel
theorem dL_count_16 : decode cL_count 16 = .ok (.ireturn, 1) := by decide +kernel
set_option maxRecDepth 20000 in
theorem ggL_waiting_X6_waiting : GoodIn wsL_waiting wsX6_waiting := goodIn_ca (goodIn_ca (goodIn_r _ [6, 7, 8, 9, 10, 11, 12, 13, 14, 15, 16, 17, 18, 19, 20, 21, 22, 23, 24, 5, 25, 26, 27, 28, 29, 30, 31, 32, 33, 34, 35, 36, 37, 38, 39, 40, 41, 42, 43, 44, 45, 46, 47, 48, 49, 50, 51, 52, 53, 54, 55, 56, 57, 58, 59, 60, 61, 62, 63, 64, 65, 66, 67, 68, 69, 70, 71, 72, 73] (by decide +kernel) (by decide +kernel)) (goodIn_sub (fun _ h => List.mem_cons_of_mem _ (List.mem_append_left _ (List.mem_append_right _ h))) (by decide +kernel))) (goodIn_sub (fun _ h => List.mem_cons_of_mem _ (List.mem_append_right _ h)) (by decide +kernel))
theorem dL_waiting_0 : decode cL_waiting 0 = .ok (.aload_n 3, 1) := by decide +kernel
theorem dL_waiting_1 : decode cL_waiting 1 = .ok (.iconst 0, 1) := by decide +kernel
theorem dL_waiting_2 : decode cL_waiting 2 = .ok (.aload_n 0, 1) := by decide +kernel
theorem dL_waiting_3 : decode cL_waiting 3 = .ok (.iload_n 1, 1) := by decide +kernel
theorem dL_waiting_4 : decode cL_waiting 4 = .ok (.iload_n 2, 1) := by decide +kernel
theorem dL_waiting_5 : decode cL_waiting 5 = .ok (.invokevirtual 52, 3) := by decide +kernel
theorem dL_waiting_8 : decode cL_waiting 8 = .ok (.i2l, 1) := by decide +kernel
theorem dL_waiting_9 : decode cL_waiting 9 = .ok (.lastore, 1) := by decide +kernel
theorem dL_waiting_10 : decode cL_waiting 10 = .ok (.goto 7, 3) := by decide +kernel
theorem dL_waiting_13 : decode cL_waiting 13 = .ok (.astore 4, 2) := by decide +kernel
theorem dL_waiting_15 : decode cL_waiting 15 = .ok (.iconst 1, 1) := by decide +kernel
theorem dL_waiting_16 : decode cL_waiting 16 = .ok (.ireturn, 1) := by decide +kernel
theorem dL_waiting_17 : decode cL_waiting 17 = .ok (.iconst 0, 1) := by decide +kernel
theorem dL_waiting_18 : decode cL_waiting 18 = .ok (.ireturn, 1) := by decide +kernel
set_option maxRecDepth 20000 in
theorem ggL_fits_X6_fits : GoodIn wsL_fits wsX6_fits := goodIn_ca (goodIn_ca (goodIn_r _ [7, 8, 9, 10, 11, 12, 6, 13, 14, 15, 16, 17, 18, 19, 20, 21, 22, 23, 24, 25, 26, 27, 28, 29, 30, 31, 32, 33, 34, 35, 36, 37, 38, 39, 40, 41, 42, 43, 44, 45, 46, 47, 48, 49, 50, 51, 52, 53, 54, 55, 56, 57, 58, 59, 60, 61, 62, 63, 64, 65, 66, 67, 68, 69, 70, 71, 72, 73, 74, 75, 76, 77, 78, 79, 80, 81, 82, 83, 84, 85, 86, 87, 88, 89, 90, 91, 92, 93, 94, 95] (by decide +kernel) (by decide +kernel)) (goodIn_sub (fun _ h => List.mem_cons_of_mem _ (List.mem_append_left _ (List.mem_append_right _ h))) (by decide +kernel))) (goodIn_sub (fun _ h => List.mem_cons_of_mem _ (List.mem_append_right _ h)) (by decide +kernel))
theorem dL_fits_0 : decode cL_fits 0 = .ok (.aload 4, 2) := by decide +kernel
theorem dL_fits_2 : decode cL_fits 2 = .ok (.iconst 0, 1) := by decide +kernel
theorem dL_fits_3 : decode cL_fits 3 = .ok (.aload_n 0, 1) := by decide +kernel
theorem dL_fits_4 : decode cL_fits 4 = .ok (.iload_n 1, 1) := by decide +kernel
theorem dL_fits_5 : decode cL_fits 5 = .ok (.iload_n 2, 1) := by decide +kernel
theorem dL_fits_6 : decode cL_fits 6 = .ok (.iload_n 3, 1) := by decide +kernel
theorem dL_fits_7 : decode cL_fits 7 = .ok (.invokevirtual 55, 3) := by decide +kernel
theorem dL_fits_10 : decode cL_fits 10 = .ok (.i2l, 1) := by decide +kernel
theorem dL_fits_11 : decode cL_fits 11 = .ok (.lastore, 1) := by decide +kernel
theorem dL_fits_12 : decode cL_fits 12 = .ok (.goto 11, 3) := by decide +kernel
theorem dL_fits_15 : decode cL_fits 15 = .ok (.astore 5, 2) := by decide +kernel
theorem dL_fits_17 : decode cL_fits 17 = .ok (.iconst 1, 1) := by decide +kernel
theorem dL_fits_18 : decode cL_fits 18 = .ok (.ireturn, 1) := by decide +kernel
theorem dL_fits_19 : decode cL_fits 19 = .ok (.astore 5, 2) := by decide +kernel
theorem dL_fits_21 : decode cL_fits 21 = .ok (.iconst 2, 1) := by decide +kernel
theorem dL_fits_22 : decode cL_fits 22 = .ok (.ireturn, 1) := by decide +kernel
theorem dL_fits_23 : decode cL_fits 23 = .ok (.iconst 0, 1) := by decide +kernel
theorem dL_fits_24 : decode cL_fits 24 = .ok (.ireturn, 1) := by decide +kernel
set_option maxRecDepth 20000 in
theorem ggL_sung_X6_sung : GoodIn wsL_sung wsX6_sung := goodIn_ca (goodIn_ca (goodIn_r _ [6, 7, 8, 9, 10, 11, 12, 13, 14, 15, 16, 17, 18, 19, 5, 20, 21, 22, 23, 24, 25, 26, 27, 28, 29, 30, 31, 32, 33, 34, 35, 36, 37, 38, 39, 40, 41, 42, 43, 44, 45, 46, 47, 48, 49, 50, 51, 52, 53, 54, 55, 56, 57, 58, 59, 60, 61, 62, 63, 64, 65, 66, 67, 68, 69, 70, 71, 72, 73, 74, 75, 76, 77, 78] (by decide +kernel) (by decide +kernel)) (goodIn_sub (fun _ h => List.mem_cons_of_mem _ (List.mem_append_left _ (List.mem_append_right _ h))) (by decide +kernel))) (goodIn_sub (fun _ h => List.mem_cons_of_mem _ (List.mem_append_right _ h)) (by decide +kernel))
theorem dL_sung_0 : decode cL_sung 0 = .ok (.aload_n 3, 1) := by decide +kernel
theorem dL_sung_1 : decode cL_sung 1 = .ok (.iconst 0, 1) := by decide +kernel
theorem dL_sung_2 : decode cL_sung 2 = .ok (.aload_n 0, 1) := by decide +kernel
theorem dL_sung_3 : decode cL_sung 3 = .ok (.iload_n 1, 1) := by decide +kernel
theorem dL_sung_4 : decode cL_sung 4 = .ok (.iload_n 2, 1) := by decide +kernel
theorem dL_sung_5 : decode cL_sung 5 = .ok (.invokevirtual 58, 3) := by decide +kernel
theorem dL_sung_8 : decode cL_sung 8 = .ok (.i2l, 1) := by decide +kernel
theorem dL_sung_9 : decode cL_sung 9 = .ok (.lastore, 1) := by decide +kernel
theorem dL_sung_10 : decode cL_sung 10 = .ok (.goto 7, 3) := by decide +kernel
theorem dL_sung_13 : decode cL_sung 13 = .ok (.astore 4, 2) := by decide +kernel
theorem dL_sung_15 : decode cL_sung 15 = .ok (.iconst 1, 1) := by decide +kernel
theorem dL_sung_16 : decode cL_sung 16 = .ok (.ireturn, 1) := by decide +kernel
theorem dL_sung_17 : decode cL_sung 17 = .ok (.iconst 0, 1) := by decide +kernel
theorem dL_sung_18 : decode cL_sung 18 = .ok (.ireturn, 1) := by decide +kernel
set_option maxRecDepth 20000 in
theorem ggL_through_X6_through : GoodIn wsL_through wsX6_through := goodIn_ca (goodIn_ca (goodIn_r _ [6, 7, 8, 9, 10, 11, 12, 13, 14, 15, 16, 17, 18, 19, 20, 21, 5, 22, 23, 24, 25, 26, 27, 28, 29, 30, 31, 32, 33, 34, 35, 36, 37, 38, 39, 40, 41, 42, 43, 44, 45, 46, 47, 48, 49, 50, 51, 52, 53, 54, 55, 56, 57, 58, 59, 60, 61, 62, 63, 64, 65, 66, 67, 68, 69, 70, 71, 72] (by decide +kernel) (by decide +kernel)) (goodIn_sub (fun _ h => List.mem_cons_of_mem _ (List.mem_append_left _ (List.mem_append_right _ h))) (by decide +kernel))) (goodIn_sub (fun _ h => List.mem_cons_of_mem _ (List.mem_append_right _ h)) (by decide +kernel))
theorem dL_through_0 : decode cL_through 0 = .ok (.aload_n 3, 1) := by decide +kernel
theorem dL_through_1 : decode cL_through 1 = .ok (.iconst 0, 1) := by decide +kernel
theorem dL_through_2 : decode cL_through 2 = .ok (.aload_n 0, 1) := by decide +kernel
theorem dL_through_3 : decode cL_through 3 = .ok (.iload_n 1, 1) := by decide +kernel
theorem dL_through_4 : decode cL_through 4 = .ok (.iload_n 2, 1) := by decide +kernel
theorem dL_through_5 : decode cL_through 5 = .ok (.invokevirtual 61, 3) := by decide +kernel
theorem dL_through_8 : decode cL_through 8 = .ok (.i2l, 1) := by decide +kernel
theorem dL_through_9 : decode cL_through 9 = .ok (.lastore, 1) := by decide +kernel
theorem dL_through_10 : decode cL_through 10 = .ok (.goto 7, 3) := by decide +kernel
theorem dL_through_13 : decode cL_through 13 = .ok (.astore 4, 2) := by decide +kernel
theorem dL_through_15 : decode cL_through 15 = .ok (.iconst 1, 1) := by decide +kernel
theorem dL_through_16 : decode cL_through 16 = .ok (.ireturn, 1) := by decide +kernel
theorem dL_through_17 : decode cL_through 17 = .ok (.iconst 0, 1) := by decide +kernel
theorem dL_through_18 : decode cL_through 18 = .ok (.ireturn, 1) := by decide +kernel
set_option maxRecDepth 20000 in
theorem ggL_sounds_X6_sounds : GoodIn wsL_sounds wsX6_sounds := goodIn_ca (goodIn_ca (goodIn_ca (goodIn_r _ [7, 8, 9, 10, 11, 12, 13, 14, 6, 15, 16, 17, 18, 19, 20, 21, 22, 23, 24, 25, 26, 27, 28, 29, 30, 31, 32, 33, 34, 35, 36, 37, 38, 39, 40, 41, 42, 43, 44, 45, 46, 47, 48, 49, 50, 51, 52, 53, 54, 55, 56, 57, 58, 59, 60, 61, 62, 63, 64, 65, 66, 67, 68, 69, 70, 71, 72, 73, 74, 75, 76, 77, 78, 79, 80, 81, 82, 83, 84, 85, 86, 87, 88, 89, 90, 91, 92, 93, 94, 95, 96, 97, 98, 99, 100, 101, 102, 103, 104, 105] (by decide +kernel) (by decide +kernel)) (goodIn_sub (fun _ h => List.mem_cons_of_mem _ (List.mem_append_left _ (List.mem_append_left _ (List.mem_append_right _ h)))) (by decide +kernel))) (goodIn_sub (fun _ h => List.mem_cons_of_mem _ (List.mem_append_left _ (List.mem_append_right _ h))) (by decide +kernel))) (goodIn_sub (fun _ h => List.mem_cons_of_mem _ (List.mem_append_right _ h)) (by decide +kernel))
theorem dL_sounds_0 : decode cL_sounds 0 = .ok (.aload_n 3, 1) := by decide +kernel
theorem dL_sounds_1 : decode cL_sounds 1 = .ok (.iconst 0, 1) := by decide +kernel
theorem dL_sounds_2 : decode cL_sounds 2 = .ok (.aload_n 0, 1) := by decide +kernel
theorem dL_sounds_3 : decode cL_sounds 3 = .ok (.iload_n 1, 1) := by decide +kernel
theorem dL_sounds_4 : decode cL_sounds 4 = .ok (.iload_n 2, 1) := by decide +kernel
theorem dL_sounds_5 : decode cL_sounds 5 = .ok (.invokevirtual 64, 3) := by decide +kernel
theorem dL_sounds_8 : decode cL_sounds 8 = .ok (.i2l, 1) := by decide +kernel
theorem dL_sounds_9 : decode cL_sounds 9 = .ok (.lastore, 1) := by decide +kernel
theorem dL_sounds_10 : decode cL_sounds 10 = .ok (.goto 11, 3) := by decide +kernel
theorem dL_sounds_13 : decode cL_sounds 13 = .ok (.astore 4, 2) := by decide +kernel
theorem dL_sounds_15 : decode cL_sounds 15 = .ok (.iconst 1, 1) := by decide +kernel
theorem dL_sounds_16 : decode cL_sounds 16 = .ok (.ireturn, 1) := by decide +kernel
theorem dL_sounds_17 : decode cL_sounds 17 = .ok (.astore 4, 2) := by decide +kernel
theorem dL_sounds_19 : decode cL_sounds 19 = .ok (.iconst 2, 1) := by decide +kernel
theorem dL_sounds_20 : decode cL_sounds 20 = .ok (.ireturn, 1) := by decide +kernel
theorem dL_sounds_21 : decode cL_sounds 21 = .ok (.iconst 0, 1) := by decide +kernel
theorem dL_sounds_22 : decode cL_sounds 22 = .ok (.ireturn, 1) := by decide +kernel
set_option maxRecDepth 20000 in
theorem ggL_reach_X6_reach : GoodIn wsL_reach wsX6_reach := goodIn_ca (goodIn_r _ [6, 7, 8, 9, 5, 10, 11, 12, 13, 14, 15, 16, 17, 18, 19, 20, 21, 22, 23, 24, 25, 26, 27, 28, 29, 30, 31, 32, 33, 34, 35, 36, 37, 38, 39, 40, 41, 42, 43, 44, 45, 46, 47, 48, 49, 50, 51, 52, 53, 54, 55, 56, 57, 58, 59, 60, 61, 62, 63, 64, 65, 66, 67, 68, 69, 70, 71, 72, 73, 74, 75, 76, 77, 78, 79, 80, 81, 82, 83, 84, 85, 86, 87, 88, 89] (by decide +kernel) (by decide +kernel)) (goodIn_sub (fun _ h => List.mem_cons_of_mem _ (List.mem_append_right _ h)) (by decide +kernel))
theorem dL_reach_0 : decode cL_reach 0 = .ok (.aload_n 2, 1) := by decide +kernel
theorem dL_reach_1 : decode cL_reach 1 = .ok (.iconst 0, 1) := by decide +kernel
theorem dL_reach_2 : decode cL_reach 2 = .ok (.aload_n 0, 1) := by decide +kernel
theorem dL_reach_3 : decode cL_reach 3 = .ok (.iload_n 1, 1) := by decide +kernel
theorem dL_reach_4 : decode cL_reach 4 = .ok (.invokevirtual 67, 3) := by decide +kernel
theorem dL_reach_7 : decode cL_reach 7 = .ok (.i2l, 1) := by decide +kernel
theorem dL_reach_8 : decode cL_reach 8 = .ok (.lastore, 1) := by decide +kernel
theorem dL_reach_9 : decode cL_reach 9 = .ok (.goto 6, 3) := by decide +kernel
theorem dL_reach_12 : decode cL_reach 12 = .ok (.astore_n 3, 1) := by decide +kernel
theorem dL_reach_13 : decode cL_reach 13 = .ok (.iconst 1, 1) := by decide +kernel
theorem dL_reach_14 : decode cL_reach 14 = .ok (.ireturn, 1) := by decide +kernel
theorem dL_reach_15 : decode cL_reach 15 = .ok (.iconst 0, 1) := by decide +kernel
theorem dL_reach_16 : decode cL_reach 16 = .ok (.ireturn, 1) := by decide +kernel
set_option maxRecDepth 20000 in
theorem ggL_hops_X6_hops : GoodIn wsL_hops wsX6_hops := goodIn_ca (goodIn_r _ [6, 7, 8, 9, 10, 5, 11, 12, 13, 14, 15, 16, 17, 18, 19, 20, 21, 22, 23, 24, 25, 26, 27, 28, 29, 30, 31, 32, 33, 34, 35, 36, 37, 38, 39, 40, 41, 42, 43, 44, 45, 46, 47, 48, 49, 50, 51, 52, 53, 54, 55, 56, 57, 58, 59, 60, 61, 62, 63, 64, 65, 66, 67, 68, 69, 70, 71, 72, 73, 74, 75, 76, 77, 78, 79, 80, 81, 82, 83, 84, 85, 86, 87, 88, 89] (by decide +kernel) (by decide +kernel)) (goodIn_sub (fun _ h => List.mem_cons_of_mem _ (List.mem_append_right _ h)) (by decide +kernel))
theorem dL_hops_0 : decode cL_hops 0 = .ok (.aload_n 3, 1) := by decide +kernel
theorem dL_hops_1 : decode cL_hops 1 = .ok (.iconst 0, 1) := by decide +kernel
theorem dL_hops_2 : decode cL_hops 2 = .ok (.aload_n 0, 1) := by decide +kernel
theorem dL_hops_3 : decode cL_hops 3 = .ok (.iload_n 1, 1) := by decide +kernel
theorem dL_hops_4 : decode cL_hops 4 = .ok (.iload_n 2, 1) := by decide +kernel
theorem dL_hops_5 : decode cL_hops 5 = .ok (.invokevirtual 70, 3) := by decide +kernel
theorem dL_hops_8 : decode cL_hops 8 = .ok (.i2l, 1) := by decide +kernel
theorem dL_hops_9 : decode cL_hops 9 = .ok (.lastore, 1) := by decide +kernel
theorem dL_hops_10 : decode cL_hops 10 = .ok (.goto 7, 3) := by decide +kernel
theorem dL_hops_13 : decode cL_hops 13 = .ok (.astore 4, 2) := by decide +kernel
theorem dL_hops_15 : decode cL_hops 15 = .ok (.iconst 1, 1) := by decide +kernel
theorem dL_hops_16 : decode cL_hops 16 = .ok (.ireturn, 1) := by decide +kernel
theorem dL_hops_17 : decode cL_hops 17 = .ok (.iconst 0, 1) := by decide +kernel
theorem dL_hops_18 : decode cL_hops 18 = .ok (.ireturn, 1) := by decide +kernel
