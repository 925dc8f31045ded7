theorem dX4_see_9 : decode cX4_see 9 = .ok (.iload_n 3, 1) := by decide +kernel
theorem dX4_see_10 : decode cX4_see 10 = .ok (.iconst 1, 1) := by decide +kernel
theorem dX4_see_11 : decode cX4_see 11 = .ok (.if_icmp .lt 8, 3) := by decide +kernel
theorem dX4_see_14 : decode cX4_see 14 = .ok (.iload_n 3, 1) := by decide +kernel
theorem dX4_see_15 : decode cX4_see 15 = .ok (.iconst 5, 1) := by decide +kernel
theorem dX4_see_16 : decode cX4_see 16 = .ok (.if_icmp .le 13, 3) := by decide +kernel
theorem dX4_see_19 : decode cX4_see 19 = .ok (.new 92, 3) := by decide +kernel
theorem dX4_see_22 : decode cX4_see 22 = .ok (.dup, 1) := by decide +kernel
theorem dX4_see_23 : decode cX4_see 23 = .ok (.ldc 165, 2) := by decide +kernel
theorem dX4_see_25 : decode cX4_see 25 = .ok (.invokespecial 96, 3) := by decide +kernel
theorem dX4_see_28 : decode cX4_see 28 = .ok (.athrow, 1) := by decide +kernel
theorem dX4_see_29 : decode cX4_see 29 = .ok (.aload_n 0, 1) := by decide +kernel
theorem dX4_see_30 : decode cX4_see 30 = .ok (.getfield 30, 3) := by decide +kernel
theorem dX4_see_33 : decode cX4_see 33 = .ok (.invokevirtual 167, 3) := by decide +kernel
theorem dX4_see_36 : decode cX4_see 36 = .ok (.ifCond .eq 13, 3) := by decide +kernel
theorem dX4_see_39 : decode cX4_see 39 = .ok (.new 45, 3) := by decide +kernel
theorem dX4_see_42 : decode cX4_see 42 = .ok (.dup, 1) := by decide +kernel
theorem dX4_see_43 : decode cX4_see 43 = .ok (.ldc 171, 2) := by decide +kernel
theorem dX4_see_45 : decode cX4_see 45 = .ok (.invokespecial 49, 3) := by decide +kernel
theorem dX4_see_48 : decode cX4_see 48 = .ok (.athrow, 1) := by decide +kernel
theorem dX4_see_49 : decode cX4_see 49 = .ok (.aload_n 0, 1) := by decide +kernel
theorem dX4_see_50 : decode cX4_see 50 = .ok (.getfield 30, 3) := by decide +kernel
theorem dX4_see_53 : decode cX4_see 53 = .ok (.aload_n 0, 1) := by decide +kernel
theorem dX4_see_54 : decode cX4_see 54 = .ok (.getfield 67, 3) := by decide +kernel
theorem dX4_see_57 : decode cX4_see 57 = .ok (.iload_n 1, 1) := by decide +kernel
theorem dX4_see_58 : decode cX4_see 58 = .ok (.iload_n 2, 1) := by decide +kernel
theorem dX4_see_59 : decode cX4_see 59 = .ok (.iload_n 3, 1) := by decide +kernel
theorem dX4_see_60 : decode cX4_see 60 = .ok (.invokevirtual 173, 3) := by decide +kernel
theorem dX4_see_63 : decode cX4_see 63 = .ok (.aload_n 0, 1) := by decide +kernel
theorem dX4_see_64 : decode cX4_see 64 = .ok (.getfield 30, 3) := by decide +kernel
theorem dX4_see_67 : decode cX4_see 67 = .ok (.aload_n 0, 1) := by decide +kernel
theorem dX4_see_68 : decode cX4_see 68 = .ok (.getfield 67, 3) := by decide +kernel
theorem dX4_see_71 : decode cX4_see 71 = .ok (.iload_n 1, 1) := by decide +kernel
theorem dX4_see_72 : decode cX4_see 72 = .ok (.invokevirtual 176, 3) := by decide +kernel
theorem dX4_see_75 : decode cX4_see 75 = .ok (.ireturn, 1) := by decide +kernel
set_option maxRecDepth 20000 in
theorem ggX4_activity_X4_checkRegion : GoodIn wsX4_activity wsX4_checkRegion := goodIn_ca (goodIn_r _ [9, 1, 2, 10, 17, 18, 19, 20, 21, 22, 23] (by decide +kernel) (by decide +kernel)) (goodIn_sub (fun _ h => List.mem_cons_of_mem _ (List.mem_append_right _ h)) (by decide +kernel))
set_option maxRecDepth 20000 in
theorem gX4_activity_X4_checkRegion : GoodIn wsX4_activity (wsV RX4 52 RX4 yX4_checkRegion wsX4_checkRegion) := goodIn_app (goodIn_of _ (by decide +kernel)) ggX4_activity_X4_checkRegion
set_option maxRecDepth 20000 in
theorem ggX4_activity_X0_activityOn : GoodIn wsX4_activity wsX0_activityOn := goodIn_r _ [15, 16, 24, 25, 26, 27, 28] (by decide +kernel) (by decide +kernel)
set_option maxRecDepth 20000 in
theorem gX4_activity_X0_activityOn : GoodIn wsX4_activity (wsV RX4 176 RX0 yX0_activityOn wsX0_activityOn) := goodIn_app (goodIn_of _ (by decide +kernel)) ggX4_activity_X0_activityOn
theorem dX4_activity_0 : decode cX4_activity 0 = .ok (.iload_n 1, 1) := by decide +kernel
theorem dX4_activity_1 : decode cX4_activity 1 = .ok (.ifCond .lt 11, 3) := by decide +kernel
theorem dX4_activity_4 : decode cX4_activity 4 = .ok (.iload_n 1, 1) := by decide +kernel
theorem dX4_activity_5 : decode cX4_activity 5 = .ok (.aload_n 0, 1) := by decide +kernel
theorem dX4_activity_6 : decode cX4_activity 6 = .ok (.getfield 67, 3) := by decide +kernel
theorem dX4_activity_9 : decode cX4_activity 9 = .ok (.if_icmp .le 13, 3) := by decide +kernel
theorem dX4_activity_12 : decode cX4_activity 12 = .ok (.new 101, 3) := by decide +kernel
theorem dX4_activity_15 : decode cX4_activity 15 = .ok (.dup, 1) := by decide +kernel
theorem dX4_activity_16 : decode cX4_activity 16 = .ok (.ldc 179, 2) := by decide +kernel
theorem dX4_activity_18 : decode cX4_activity 18 = .ok (.invokespecial 105, 3) := by decide +kernel
theorem dX4_activity_21 : decode cX4_activity 21 = .ok (.athrow, 1) := by decide +kernel
theorem dX4_activity_22 : decode cX4_activity 22 = .ok (.aload_n 0, 1) := by decide +kernel
theorem dX4_activity_23 : decode cX4_activity 23 = .ok (.iload_n 2, 1) := by decide +kernel
theorem dX4_activity_24 : decode cX4_activity 24 = .ok (.invokevirtual 52, 3) := by decide +kernel
theorem dX4_activity_27 : decode cX4_activity 27 = .ok (.aload_n 0, 1) := by decide +kernel
theorem dX4_activity_28 : decode cX4_activity 28 = .ok (.getfield 30, 3) := by decide +kernel
theorem dX4_activity_31 : decode cX4_activity 31 = .ok (.iload_n 1, 1) := by decide +kernel
theorem dX4_activity_32 : decode cX4_activity 32 = .ok (.iload_n 2, 1) := by decide +kernel
theorem dX4_activity_33 : decode cX4_activity 33 = .ok (.invokevirtual 176, 3) := by decide +kernel
theorem dX4_activity_36 : decode cX4_activity 36 = .ok (.ireturn, 1) := by decide +kernel
set_option maxRecDepth 20000 in
theorem ggX4_borneOut_X1_tells : GoodIn wsX4_borneOut wsX1_tells := goodIn_r _ [10, 11, 46, 47, 48] (by decide +kernel) (by decide +kernel)
set_option maxRecDepth 20000 in
theorem gX4_borneOut_X1_tells : GoodIn wsX4_borneOut (wsV RX4 150 RX1 yX1_tells wsX1_tells) := goodIn_app (goodIn_of _ (by decide +kernel)) ggX4_borneOut_X1_tells
set_option maxRecDepth 20000 in
theorem ggX4_borneOut_X4_verdict : GoodIn wsX4_borneOut wsX4_verdict := goodIn_r _ [16, 5, 17, 18, 19, 20, 9, 21, 22, 23, 24, 25, 26, 27, 28, 29, 30, 31, 32, 33, 15, 34, 35, 36, 37, 38, 39, 40, 41, 42, 43, 44, 45, 46, 47, 48, 49, 50, 51, 52, 53] (by decide +kernel) (by decide +kernel)
set_option maxRecDepth 20000 in
theorem gX4_borneOut_X4_verdict : GoodIn wsX4_borneOut (wsV RX4 183 RX4 yX4_verdict wsX4_verdict) := goodIn_app (goodIn_of _ (by decide +kernel)) ggX4_borneOut_X4_verdict
theorem dX4_borneOut_0 : decode cX4_borneOut 0 = .ok (.iload_n 1, 1) := by decide +kernel
theorem dX4_borneOut_1 : decode cX4_borneOut 1 = .ok (.iconst (-1), 1) := by decide +kernel
theorem dX4_borneOut_2 : decode cX4_borneOut 2 = .ok (.if_icmp .lt 8, 3) := by decide +kernel
theorem dX4_borneOut_5 : decode cX4_borneOut 5 = .ok (.iload_n 1, 1) := by decide +kernel
theorem dX4_borneOut_6 : decode cX4_borneOut 6 = .ok (.iconst 1, 1) := by decide +kernel
theorem dX4_borneOut_7 : decode cX4_borneOut 7 = .ok (.if_icmp .le 13, 3) := by decide +kernel
theorem dX4_borneOut_10 : decode cX4_borneOut 10 = .ok (.new 92, 3) := by decide +kernel
theorem dX4_borneOut_13 : decode cX4_borneOut 13 = .ok (.dup, 1) := by decide +kernel
theorem dX4_borneOut_14 : decode cX4_borneOut 14 = .ok (.ldc 181, 2) := by decide +kernel
theorem dX4_borneOut_16 : decode cX4_borneOut 16 = .ok (.invokespecial 96, 3) := by decide +kernel
theorem dX4_borneOut_19 : decode cX4_borneOut 19 = .ok (.athrow, 1) := by decide +kernel
theorem dX4_borneOut_20 : decode cX4_borneOut 20 = .ok (.iconst 0, 1) := by decide +kernel
theorem dX4_borneOut_21 : decode cX4_borneOut 21 = .ok (.istore_n 2, 1) := by decide +kernel
theorem dX4_borneOut_22 : decode cX4_borneOut 22 = .ok (.iconst 0, 1) := by decide +kernel
theorem dX4_borneOut_23 : decode cX4_borneOut 23 = .ok (.istore_n 3, 1) := by decide +kernel
theorem dX4_borneOut_24 : decode cX4_borneOut 24 = .ok (.iload_n 3, 1) := by decide +kernel
theorem dX4_borneOut_25 : decode cX4_borneOut 25 = .ok (.aload_n 0, 1) := by decide +kernel
theorem dX4_borneOut_26 : decode cX4_borneOut 26 = .ok (.getfield 67, 3) := by decide +kernel
theorem dX4_borneOut_29 : decode cX4_borneOut 29 = .ok (.if_icmp .gt 54, 3) := by decide +kernel
theorem dX4_borneOut_32 : decode cX4_borneOut 32 = .ok (.iconst 0, 1) := by decide +kernel
theorem dX4_borneOut_33 : decode cX4_borneOut 33 = .ok (.istore 4, 2) := by decide +kernel
theorem dX4_borneOut_35 : decode cX4_borneOut 35 = .ok (.iload 4, 2) := by decide +kernel
theorem dX4_borneOut_37 : decode cX4_borneOut 37 = .ok (.aload_n 0, 1) := by decide +kernel
theorem dX4_borneOut_38 : decode cX4_borneOut 38 = .ok (.getfield 41, 3) := by decide +kernel
theorem dX4_borneOut_41 : decode cX4_borneOut 41 = .ok (.if_icmp .ge 36, 3) := by decide +kernel
theorem dX4_borneOut_44 : decode cX4_borneOut 44 = .ok (.aload_n 0, 1) := by decide +kernel
theorem dX4_borneOut_45 : decode cX4_borneOut 45 = .ok (.getfield 23, 3) := by decide +kernel
theorem dX4_borneOut_48 : decode cX4_borneOut 48 = .ok (.iload_n 3, 1) := by decide +kernel
theorem dX4_borneOut_49 : decode cX4_borneOut 49 = .ok (.iload 4, 2) := by decide +kernel
theorem dX4_borneOut_51 : decode cX4_borneOut 51 = .ok (.invokevirtual 150, 3) := by decide +kernel
theorem dX4_borneOut_54 : decode cX4_borneOut 54 = .ok (.ifCond .eq 17, 3) := by decide +kernel
theorem dX4_borneOut_57 : decode cX4_borneOut 57 = .ok (.aload_n 0, 1) := by decide +kernel
theorem dX4_borneOut_58 : decode cX4_borneOut 58 = .ok (.iload_n 3, 1) := by decide +kernel
theorem dX4_borneOut_59 : decode cX4_borneOut 59 = .ok (.iload 4, 2) := by decide +kernel
theorem dX4_borneOut_61 : decode cX4_borneOut 61 = .ok (.invokevirtual 183, 3) := by decide +kernel
theorem dX4_borneOut_64 : decode cX4_borneOut 64 = .ok (.iload_n 1, 1) := by decide +kernel
theorem dX4_borneOut_65 : decode cX4_borneOut 65 = .ok (.if_icmp .ne 6, 3) := by decide +kernel
theorem dX4_borneOut_68 : decode cX4_borneOut 68 = .ok (.iinc 2 1, 3) := by decide +kernel
theorem dX4_borneOut_71 : decode cX4_borneOut 71 = .ok (.iinc 4 1, 3) := by decide +kernel
theorem dX4_borneOut_74 : decode cX4_borneOut 74 = .ok (.goto (-39), 3) := by decide +kernel
theorem dX4_borneOut_77 : decode cX4_borneOut 77 = .ok (.iinc 3 1, 3) := by decide +kernel
theorem dX4_borneOut_80 : decode cX4_borneOut 80 = .ok (.goto (-56), 3) := by decide +kernel
theorem dX4_borneOut_83 : decode cX4_borneOut 83 = .ok (.iload_n 2, 1) := by decide +kernel
theorem dX4_borneOut_84 : decode cX4_borneOut 84 = .ok (.ireturn, 1) := by decide +kernel
set_option maxRecDepth 20000 in
theorem ggX4_inCore_X4_checkRegion : GoodIn wsX4_inCore wsX4_checkRegion := goodIn_ca (goodIn_r _ [7, 8, 9, 10, 28, 29, 30, 31, 32, 33, 34] (by decide +kernel) (by decide +kernel)) (goodIn_sub (fun _ h => List.mem_cons_of_mem _ (List.mem_append_right _ h)) (by decide +kernel))
set_option maxRecDepth 20000 in
theorem gX4_inCore_X4_checkRegion : GoodIn wsX4_inCore (wsV RX4 52 RX4 yX4_checkRegion wsX4_checkRegion) := goodIn_app (goodIn_of _ (by decide +kernel)) ggX4_inCore_X4_checkRegion
set_option maxRecDepth 20000 in
theorem ggX4_inCore_X1_tells : GoodIn wsX4_inCore wsX1_tells := goodIn_r _ [15, 16, 40, 41, 42] (by decide +kernel) (by decide +kernel)
set_option maxRecDepth 20000 in
theorem gX4_inCore_X1_tells : GoodIn wsX4_inCore (wsV RX4 150 RX1 yX1_tells wsX1_tells) := goodIn_app (goodIn_of _ (by decide +kernel)) ggX4_inCore_X1_tells
set_option maxRecDepth 20000 in
theorem ggX4_inCore_X1_read : GoodIn wsX4_inCore wsX1_read := goodIn_r _ [20, 21, 22, 23, 14, 24, 40, 41, 42] (by decide +kernel) (by decide +kernel)
set_option maxRecDepth 20000 in
theorem gX4_inCore_X1_read : GoodIn wsX4_inCore (wsV RX4 158 RX1 yX1_read wsX1_read) := goodIn_app (goodIn_of _ (by decide +kernel)) ggX4_inCore_X1_read
set_option maxRecDepth 20000 in
theorem ggX4_inCore_X4_bit : GoodIn wsX4_inCore wsX4_bit := goodIn_r _ [27] (by decide +kernel) (by decide +kernel)
set_option maxRecDepth 20000 in
theorem gX4_inCore_X4_bit : GoodIn wsX4_inCore (va_wsS RX4 197 yX4_bit wsX4_bit) := goodIn_app (goodIn_of _ (by decide +kernel)) ggX4_inCore_X4_bit
theorem dX4_inCore_0 : decode cX4_inCore 0 = .ok (.aload_n 0, 1) := by decide +kernel
theorem dX4_inCore_1 : decode cX4_inCore 1 = .ok (.iload_n 1, 1) := by decide +kernel
theorem dX4_inCore_2 : decode cX4_inCore 2 = .ok (.invokevirtual 52, 3) := by decide +kernel
theorem dX4_inCore_5 : decode cX4_inCore 5 = .ok (.iconst 0, 1) := by decide +kernel
theorem dX4_inCore_6 : decode cX4_inCore 6 = .ok (.istore_n 2, 1) := by decide +kernel
theorem dX4_inCore_7 : decode cX4_inCore 7 = .ok (.iconst 0, 1) := by decide +kernel
theorem dX4_inCore_8 : decode cX4_inCore 8 = .ok (.istore_n 3, 1) := by decide +kernel
theorem dX4_inCore_9 : decode cX4_inCore 9 = .ok (.iconst 0, 1) := by decide +kernel
theorem dX4_inCore_10 : decode cX4_inCore 10 = .ok (.istore 4, 2) := by decide +kernel
theorem dX4_inCore_12 : decode cX4_inCore 12 = .ok (.iload 4, 2) := by decide +kernel
theorem dX4_inCore_14 : decode cX4_inCore 14 = .ok (.aload_n 0, 1) := by decide +kernel
theorem dX4_inCore_15 : decode cX4_inCore 15 = .ok (.getfield 30, 3) := by decide +kernel
theorem dX4_inCore_18 : decode cX4_inCore 18 = .ok (.getfield 186, 3) := by decide +kernel
theorem dX4_inCore_21 : decode cX4_inCore 21 = .ok (.if_icmp .ge 78, 3) := by decide +kernel
theorem dX4_inCore_24 : decode cX4_inCore 24 = .ok (.aload_n 0, 1) := by decide +kernel
theorem dX4_inCore_25 : decode cX4_inCore 25 = .ok (.getfield 30, 3) := by decide +kernel
theorem dX4_inCore_28 : decode cX4_inCore 28 = .ok (.getfield 187, 3) := by decide +kernel
theorem dX4_inCore_31 : decode cX4_inCore 31 = .ok (.iload 4, 2) := by decide +kernel
theorem dX4_inCore_33 : decode cX4_inCore 33 = .ok (.iaload, 1) := by decide +kernel
theorem dX4_inCore_34 : decode cX4_inCore 34 = .ok (.istore 5, 2) := by decide +kernel
theorem dX4_inCore_36 : decode cX4_inCore 36 = .ok (.aload_n 0, 1) := by decide +kernel
theorem dX4_inCore_37 : decode cX4_inCore 37 = .ok (.getfield 30, 3) := by decide +kernel
theorem dX4_inCore_40 : decode cX4_inCore 40 = .ok (.getfield 191, 3) := by decide +kernel
theorem dX4_inCore_43 : decode cX4_inCore 43 = .ok (.iload 4, 2) := by decide +kernel
theorem dX4_inCore_45 : decode cX4_inCore 45 = .ok (.iaload, 1) := by decide +kernel
theorem dX4_inCore_46 : decode cX4_inCore 46 = .ok (.iload_n 1, 1) := by decide +kernel
theorem dX4_inCore_47 : decode cX4_inCore 47 = .ok (.if_icmp .ne 46, 3) := by decide +kernel
theorem dX4_inCore_50 : decode cX4_inCore 50 = .ok (.aload_n 0, 1) := by decide +kernel
theorem dX4_inCore_51 : decode cX4_inCore 51 = .ok (.getfield 23, 3) := by decide +kernel
theorem dX4_inCore_54 : decode cX4_inCore 54 = .ok (.iload 5, 2) := by decide +kernel
theorem dX4_inCore_56 : decode cX4_inCore 56 = .ok (.iload_n 1, 1) := by decide +kernel
theorem dX4_inCore_57 : decode cX4_inCore 57 = .ok (.invokevirtual 150, 3) := by decide +kernel
theorem dX4_inCore_60 : decode cX4_inCore 60 = .ok (.ifCond .eq 33, 3) := by decide +kernel
theorem dX4_inCore_63 : decode cX4_inCore 63 = .ok (.iinc 2 1, 3) := by decide +kernel
theorem dX4_inCore_66 : decode cX4_inCore 66 = .ok (.iload_n 3, 1) := by decide +kernel
theorem dX4_inCore_67 : decode cX4_inCore 67 = .ok (.aload_n 0, 1) := by decide +kernel
theorem dX4_inCore_68 : decode cX4_inCore 68 = .ok (.getfield 23, 3) := by decide +kernel
theorem dX4_inCore_71 : decode cX4_inCore 71 = .ok (.iload 5, 2) := by decide +kernel
theorem dX4_inCore_73 : decode cX4_inCore 73 = .ok (.iload_n 1, 1) := by decide +kernel
theorem dX4_inCore_74 : decode cX4_inCore 74 = .ok (.iconst 1, 1) := by decide +kernel
theorem dX4_inCore_75 : decode cX4_inCore 75 = .ok (.invokevirtual 158, 3) := by decide +kernel
theorem dX4_inCore_78 : decode cX4_inCore 78 = .ok (.aload_n 0, 1) := by decide +kernel
theorem dX4_inCore_79 : decode cX4_inCore 79 = .ok (.getfield 30, 3) := by decide +kernel
theorem dX4_inCore_82 : decode cX4_inCore 82 = .ok (.getfield 194, 3) := by decide +kernel
theorem dX4_inCore_85 : decode cX4_inCore 85 = .ok (.iload 4, 2) := by decide +kernel
theorem dX4_inCore_87 : decode cX4_inCore 87 = .ok (.iaload, 1) := by decide +kernel
theorem dX4_inCore_88 : decode cX4_inCore 88 = .ok (.invokestatic 197, 3) := by decide +kernel
theorem dX4_inCore_91 : decode cX4_inCore 91 = .ok (.iadd, 1) := by decide +kernel
theorem dX4_inCore_92 : decode cX4_inCore 92 = .ok (.istore_n 3, 1) := by decide +kernel
theorem dX4_inCore_93 : decode cX4_inCore 93 = .ok (.iinc 4 1, 3) := by decide +kernel
theorem dX4_inCore_96 : decode cX4_inCore 96 = .ok (.goto (-84), 3) := by decide +kernel
theorem dX4_inCore_99 : decode cX4_inCore 99 = .ok (.iload_n 2, 1) := by decide +kernel
theorem dX4_inCore_100 : decode cX4_inCore 100 = .ok (.ifCond .ne 7, 3) := by decide +kernel
theorem dX4_inCore_103 : decode cX4_inCore 103 = .ok (.dconst 1, 1) := by decide +kernel
theorem dX4_inCore_104 : decode cX4_inCore 104 = .ok (.goto 8, 3) := by decide +kernel
theorem dX4_inCore_107 : decode cX4_inCore 107 = .ok (.iload_n 3, 1) := by decide +kernel
theorem dX4_inCore_108 : decode cX4_inCore 108 = .ok (.i2d, 1) := by decide +kernel
theorem dX4_inCore_109 : decode cX4_inCore 109 = .ok (.iload_n 2, 1) := by decide +kernel
theorem dX4_inCore_110 : decode cX4_inCore 110 = .ok (.i2d, 1) := by decide +kernel
theorem dX4_inCore_111 : decode cX4_inCore 111 = .ok (.ddiv, 1) := by decide +kernel
theorem dX4_inCore_112 : decode cX4_inCore 112 = .ok (.dreturn, 1) := by decide +kernel
set_option maxRecDepth 20000 in
theorem ggX4_addLeg_X3_isFull : GoodIn wsX4_addLeg wsX3_isFull := goodIn_r _ [10, 11, 25, 26, 27] (by decide +kernel) (by decide +kernel)
set_option maxRecDepth 20000 in
theorem gX4_addLeg_X3_isFull : GoodIn wsX4_addLeg (wsV RX4 204 RX3 yX3_isFull wsX3_isFull) := goodIn_app (goodIn_of _ (by decide +kernel)) ggX4_addLeg_X3_isFull
set_option maxRecDepth 20000 in
theorem ggX4_addLeg_X3_append : GoodIn wsX4_addLeg wsX3_append := goodIn_r _ [15, 16, 11, 17, 25, 26, 27] (by decide +kernel) (by decide +kernel)
set_option maxRecDepth 20000 in
theorem gX4_addLeg_X3_append : GoodIn wsX4_addLeg (wsV RX4 207 RX3 yX3_append wsX3_append) := goodIn_app (goodIn_of _ (by decide +kernel)) ggX4_addLeg_X3_append
theorem dX4_addLeg_0 : decode cX4_addLeg 0 = .ok (.iload_n 1, 1) := by decide +kernel
theorem dX4_addLeg_1 : decode cX4_addLeg 1 = .ok (.ifCond .lt 9, 3) := by decide +kernel
theorem dX4_addLeg_4 : decode cX4_addLeg 4 = .ok (.iload_n 1, 1) := by decide +kernel
theorem dX4_addLeg_5 : decode cX4_addLeg 5 = .ok (.bipush 12, 2) := by decide +kernel
theorem dX4_addLeg_7 : decode cX4_addLeg 7 = .ok (.if_icmp .lt 13, 3) := by decide +kernel
theorem dX4_addLeg_10 : decode cX4_addLeg 10 = .ok (.new 92, 3) := by decide +kernel
theorem dX4_addLeg_13 : decode cX4_addLeg 13 = .ok (.dup, 1) := by decide +kernel
theorem dX4_addLeg_14 : decode cX4_addLeg 14 = .ok (.ldc 200, 2) := by decide +kernel
theorem dX4_addLeg_16 : decode cX4_addLeg 16 = .ok (.invokespecial 96, 3) := by decide +kernel
theorem dX4_addLeg_19 : decode cX4_addLeg 19 = .ok (.athrow, 1) := by decide +kernel
theorem dX4_addLeg_20 : decode cX4_addLeg 20 = .ok (.iload_n 2, 1) := by decide +kernel
theorem dX4_addLeg_21 : decode cX4_addLeg 21 = .ok (.bipush 20, 2) := by decide +kernel
theorem dX4_addLeg_23 : decode cX4_addLeg 23 = .ok (.if_icmp .lt 9, 3) := by decide +kernel
theorem dX4_addLeg_26 : decode cX4_addLeg 26 = .ok (.iload_n 2, 1) := by decide +kernel
theorem dX4_addLeg_27 : decode cX4_addLeg 27 = .ok (.bipush 50, 2) := by decide +kernel
theorem dX4_addLeg_29 : decode cX4_addLeg 29 = .ok (.if_icmp .le 13, 3) := by decide +kernel
theorem dX4_addLeg_32 : decode cX4_addLeg 32 = .ok (.new 92, 3) := by decide +kernel
theorem dX4_addLeg_35 : decode cX4_addLeg 35 = .ok (.dup, 1) := by decide +kernel
theorem dX4_addLeg_36 : decode cX4_addLeg 36 = .ok (.ldc 202, 2) := by decide +kernel
theorem dX4_addLeg_38 : decode cX4_addLeg 38 = .ok (.invokespecial 96, 3) := by decide +kernel
theorem dX4_addLeg_41 : decode cX4_addLeg 41 = .ok (.athrow, 1) := by decide +kernel
theorem dX4_addLeg_42 : decode cX4_addLeg 42 = .ok (.aload_n 0, 1) := by decide +kernel
theorem dX4_addLeg_43 : decode cX4_addLeg 43 = .ok (.getfield 37, 3) := by decide +kernel
theorem dX4_addLeg_46 : decode cX4_addLeg 46 = .ok (.invokevirtual 204, 3) := by decide +kernel
theorem dX4_addLeg_49 : decode cX4_addLeg 49 = .ok (.ifCond .eq 13, 3) := by decide +kernel
theorem dX4_addLeg_52 : decode cX4_addLeg 52 = .ok (.new 45, 3) := by decide +kernel
theorem dX4_addLeg_55 : decode cX4_addLeg 55 = .ok (.dup, 1) := by decide +kernel
theorem dX4_addLeg_56 : decode cX4_addLeg 56 = .ok (.ldc 205, 2) := by decide +kernel
theorem dX4_addLeg_58 : decode cX4_addLeg 58 = .ok (.invokespecial 49, 3) := by decide +kernel
theorem dX4_addLeg_61 : decode cX4_addLeg 61 = .ok (.athrow, 1) := by decide +kernel
theorem dX4_addLeg_62 : decode cX4_addLeg 62 = .ok (.aload_n 0, 1) := by decide +kernel
theorem dX4_addLeg_63 : decode cX4_addLeg 63 = .ok (.getfield 37, 3) := by decide +kernel
theorem dX4_addLeg_66 : decode cX4_addLeg 66 = .ok (.iload_n 1, 1) := by decide +kernel
theorem dX4_addLeg_67 : decode cX4_addLeg 67 = .ok (.iload_n 2, 1) := by decide +kernel
theorem dX4_addLeg_68 : decode cX4_addLeg 68 = .ok (.invokevirtual 207, 3) := by decide +kernel
theorem dX4_addLeg_71 : decode cX4_addLeg 71 = .ok (.aload_n 0, 1) := by decide +kernel
theorem dX4_addLeg_72 : decode cX4_addLeg 72 = .ok (.getfield 37, 3) := by decide +kernel
theorem dX4_addLeg_75 : decode cX4_addLeg 75 = .ok (.getfield 210, 3) := by decide +kernel
theorem dX4_addLeg_78 : decode cX4_addLeg 78 = .ok (.ireturn, 1) := by decide +kernel
theorem dX4_clearRoute_0 : decode cX4_clearRoute 0 = .ok (.aload_n 0, 1) := by decide +kernel
theorem dX4_clearRoute_1 : decode cX4_clearRoute 1 = .ok (.getfield 37, 3) := by decide +kernel
theorem dX4_clearRoute_4 : decode cX4_clearRoute 4 = .ok (.getfield 210, 3) := by decide +kernel
theorem dX4_clearRoute_7 : decode cX4_clearRoute 7 = .ok (.istore_n 1, 1) := by decide +kernel
theorem dX4_clearRoute_8 : decode cX4_clearRoute 8 = .ok (.aload_n 0, 1) := by decide +kernel
theorem dX4_clearRoute_9 : decode cX4_clearRoute 9 = .ok (.getfield 37, 3) := by decide +kernel
theorem dX4_clearRoute_12 : decode cX4_clearRoute 12 = .ok (.iconst 0, 1) := by decide +kernel
theorem dX4_clearRoute_13 : decode cX4_clearRoute 13 = .ok (.putfield 210, 3) := by decide +kernel
theorem dX4_clearRoute_16 : decode cX4_clearRoute 16 = .ok (.iload_n 1, 1) := by decide +kernel
theorem dX4_clearRoute_17 : decode cX4_clearRoute 17 = .ok (.ireturn, 1) := by decide +kernel
set_option maxRecDepth 20000 in
theorem ggX4_risk_X4_checkRegion : GoodIn wsX4_risk wsX4_checkRegion := goodIn_ca (goodIn_r _ [9, 1, 2, 10, 52, 53, 54, 55, 56, 57, 58] (by decide +kernel) (by decide +kernel)) (goodIn_sub (fun _ h => List.mem_cons_of_mem _ (List.mem_append_right _ h)) (by decide +kernel))
set_option maxRecDepth 20000 in
theorem gX4_risk_X4_checkRegion : GoodIn wsX4_risk (wsV RX4 52 RX4 yX4_checkRegion wsX4_checkRegion) := goodIn_app (goodIn_of _ (by decide +kernel)) ggX4_risk_X4_checkRegion
set_option maxRecDepth 20000 in
theorem ggX4_risk_X2_findLevel : GoodIn wsX4_risk wsX2_findLevel := goodIn_r _ [15, 16, 17, 18, 19, 20, 21, 22, 23, 24, 25, 14, 26, 27, 28, 29, 30, 31, 32, 33, 34, 35, 36, 37, 38, 62, 63, 64, 65, 66, 67] (by decide +kernel) (by decide +kernel)
set_option maxRecDepth 20000 in
theorem gX4_risk_X2_findLevel : GoodIn wsX4_risk (wsV RX4 115 RX2 yX2_findLevel wsX2_findLevel) := goodIn_app (goodIn_of _ (by decide +kernel)) ggX4_risk_X2_findLevel
set_option maxRecDepth 20000 in
theorem ggX4_risk_X2_findCore : GoodIn wsX4_risk wsX2_findCore := goodIn_r _ [42, 23, 24, 25, 14, 26, 16, 17, 18, 19, 20, 21, 22, 27, 28, 29, 30, 31, 32, 33, 34, 35, 36, 37, 38, 62, 63, 64, 65, 66, 67] (by decide +kernel) (by decide +kernel)
set_option maxRecDepth 20000 in
theorem gX4_risk_X2_findCore : GoodIn wsX4_risk (wsV RX4 119 RX2 yX2_findCore wsX2_findCore) := goodIn_app (goodIn_of _ (by decide +kernel)) ggX4_risk_X2_findCore
set_option maxRecDepth 20000 in
theorem ggX4_risk_X3_riskOf : GoodIn wsX4_risk wsX3_riskOf := goodIn_r _ [47, 48, 49, 50, 8, 51, 59, 60, 61] (by decide +kernel) (by decide +kernel)
set_option maxRecDepth 20000 in
theorem gX4_risk_X3_riskOf : GoodIn wsX4_risk (wsV RX4 213 RX3 yX3_riskOf wsX3_riskOf) := goodIn_app (goodIn_of _ (by decide +kernel)) ggX4_risk_X3_riskOf
theorem dX4_risk_0 : decode cX4_risk 0 = .ok (.aload_n 0, 1) := by decide +kernel
theorem dX4_risk_1 : decode cX4_risk 1 = .ok (.iload_n 1, 1) := by decide +kernel
theorem dX4_risk_2 : decode cX4_risk 2 = .ok (.invokevirtual 52, 3) := by decide +kernel
theorem dX4_risk_5 : decode cX4_risk 5 = .ok (.iload_n 2, 1) := by decide +kernel
theorem dX4_risk_6 : decode cX4_risk 6 = .ok (.ifCond .lt 14, 3) := by decide +kernel
theorem dX4_risk_9 : decode cX4_risk 9 = .ok (.iload_n 2, 1) := by decide +kernel
theorem dX4_risk_10 : decode cX4_risk 10 = .ok (.aload_n 0, 1) := by decide +kernel
theorem dX4_risk_11 : decode cX4_risk 11 = .ok (.getfield 37, 3) := by decide +kernel
theorem dX4_risk_14 : decode cX4_risk 14 = .ok (.getfield 210, 3) := by decide +kernel
theorem dX4_risk_17 : decode cX4_risk 17 = .ok (.if_icmp .lt 13, 3) := by decide +kernel
theorem dX4_risk_20 : decode cX4_risk 20 = .ok (.new 101, 3) := by decide +kernel
theorem dX4_risk_23 : decode cX4_risk 23 = .ok (.dup, 1) := by decide +kernel
theorem dX4_risk_24 : decode cX4_risk 24 = .ok (.ldc 211, 2) := by decide +kernel
theorem dX4_risk_26 : decode cX4_risk 26 = .ok (.invokespecial 105, 3) := by decide +kernel
theorem dX4_risk_29 : decode cX4_risk 29 = .ok (.athrow, 1) := by decide +kernel
theorem dX4_risk_30 : decode cX4_risk 30 = .ok (.aload_n 0, 1) := by decide +kernel
theorem dX4_risk_31 : decode cX4_risk 31 = .ok (.getfield 11, 3) := by decide +kernel
theorem dX4_risk_34 : decode cX4_risk 34 = .ok (.iload_n 1, 1) := by decide +kernel
theorem dX4_risk_35 : decode cX4_risk 35 = .ok (.aaload, 1) := by decide +kernel
theorem dX4_risk_36 : decode cX4_risk 36 = .ok (.invokevirtual 115, 3) := by decide +kernel
theorem dX4_risk_39 : decode cX4_risk 39 = .ok (.istore_n 3, 1) := by decide +kernel
theorem dX4_risk_40 : decode cX4_risk 40 = .ok (.aload_n 0, 1) := by decide +kernel
theorem dX4_risk_41 : decode cX4_risk 41 = .ok (.getfield 37, 3) := by decide +kernel
theorem dX4_risk_44 : decode cX4_risk 44 = .ok (.iload_n 2, 1) := by decide +kernel
theorem dX4_risk_45 : decode cX4_risk 45 = .ok (.iload_n 3, 1) := by decide +kernel
theorem dX4_risk_46 : decode cX4_risk 46 = .ok (.aload_n 0, 1) := by decide +kernel
theorem dX4_risk_47 : decode cX4_risk 47 = .ok (.getfield 11, 3) := by decide +kernel
theorem dX4_risk_50 : decode cX4_risk 50 = .ok (.iload_n 1, 1) := by decide +kernel
theorem dX4_risk_51 : decode cX4_risk 51 = .ok (.aaload, 1) := by decide +kernel
theorem dX4_risk_52 : decode cX4_risk 52 = .ok (.iload_n 3, 1) := by decide +kernel
theorem dX4_risk_53 : decode cX4_risk 53 = .ok (.invokevirtual 119, 3) := by decide +kernel
theorem dX4_risk_56 : decode cX4_risk 56 = .ok (.invokevirtual 213, 3) := by decide +kernel
theorem dX4_risk_59 : decode cX4_risk 59 = .ok (.ireturn, 1) := by decide +kernel
set_option maxRecDepth 20000 in
theorem ggX4_worstLeg_X4_checkRegion : GoodIn wsX4_worstLeg wsX4_checkRegion := goodIn_ca (goodIn_r _ [7, 8, 9, 10, 57, 58, 59, 60, 61, 62, 63] (by decide +kernel) (by decide +kernel)) (goodIn_sub (fun _ h => List.mem_cons_of_mem _ (List.mem_append_right _ h)) (by decide +kernel))
set_option maxRecDepth 20000 in
theorem gX4_worstLeg_X4_checkRegion : GoodIn wsX4_worstLeg (wsV RX4 52 RX4 yX4_checkRegion wsX4_checkRegion) := goodIn_app (goodIn_of _ (by decide +kernel)) ggX4_worstLeg_X4_checkRegion
set_option maxRecDepth 20000 in
theorem ggX4_worstLeg_X2_findLevel : GoodIn wsX4_worstLeg wsX2_findLevel := goodIn_r _ [15, 16, 17, 18, 19, 20, 21, 22, 23, 24, 25, 14, 26, 27, 28, 29, 30, 31, 32, 33, 34, 35, 36, 37, 38, 64, 65, 66, 67, 68, 69] (by decide +kernel) (by decide +kernel)
set_option maxRecDepth 20000 in
theorem gX4_worstLeg_X2_findLevel : GoodIn wsX4_worstLeg (wsV RX4 115 RX2 yX2_findLevel wsX2_findLevel) := goodIn_app (goodIn_of _ (by decide +kernel)) ggX4_worstLeg_X2_findLevel
set_option maxRecDepth 20000 in
theorem ggX4_worstLeg_X2_findCore : GoodIn wsX4_worstLeg wsX2_findCore := goodIn_r _ [42, 23, 24, 25, 14, 26, 16, 17, 18, 19, 20, 21, 22, 27, 28, 29, 30, 31, 32, 33, 34, 35, 36, 37, 38, 64, 65, 66, 67, 68, 69] (by decide +kernel) (by decide +kernel)
set_option maxRecDepth 20000 in
theorem gX4_worstLeg_X2_findCore : GoodIn wsX4_worstLeg (wsV RX4 119 RX2 yX2_findCore wsX2_findCore) := goodIn_app (goodIn_of _ (by decide +kernel)) ggX4_worstLeg_X2_findCore
set_option maxRecDepth 20000 in
theorem ggX4_worstLeg_X3_findWorst : GoodIn wsX4_worstLeg wsX3_findWorst := goodIn_r _ [47, 48, 49, 50, 51, 46, 52, 53, 54, 55, 6, 56, 70, 71, 72] (by decide +kernel) (by decide +kernel)
set_option maxRecDepth 20000 in
theorem gX4_worstLeg_X3_findWorst : GoodIn wsX4_worstLeg (wsV RX4 216 RX3 yX3_findWorst wsX3_findWorst) := goodIn_app (goodIn_of _ (by decide +kernel)) ggX4_worstLeg_X3_findWorst
theorem dX4_worstLeg_0 : decode cX4_worstLeg 0 = .ok (.aload_n 0, 1) := by decide +kernel
theorem dX4_worstLeg_1 : decode cX4_worstLeg 1 = .ok (.iload_n 1, 1) := by decide +kernel
theorem dX4_worstLeg_2 : decode cX4_worstLeg 2 = .ok (.invokevirtual 52, 3) := by decide +kernel
theorem dX4_worstLeg_5 : decode cX4_worstLeg 5 = .ok (.aload_n 0, 1) := by decide +kernel
theorem dX4_worstLeg_6 : decode cX4_worstLeg 6 = .ok (.getfield 11, 3) := by decide +kernel
theorem dX4_worstLeg_9 : decode cX4_worstLeg 9 = .ok (.iload_n 1, 1) := by decide +kernel
theorem dX4_worstLeg_10 : decode cX4_worstLeg 10 = .ok (.aaload, 1) := by decide +kernel
theorem dX4_worstLeg_11 : decode cX4_worstLeg 11 = .ok (.invokevirtual 115, 3) := by decide +kernel
theorem dX4_worstLeg_14 : decode cX4_worstLeg 14 = .ok (.istore_n 2, 1) := by decide +kernel
theorem dX4_worstLeg_15 : decode cX4_worstLeg 15 = .ok (.aload_n 0, 1) := by decide +kernel
theorem dX4_worstLeg_16 : decode cX4_worstLeg 16 = .ok (.getfield 37, 3) := by decide +kernel
theorem dX4_worstLeg_19 : decode cX4_worstLeg 19 = .ok (.iload_n 2, 1) := by decide +kernel
theorem dX4_worstLeg_20 : decode cX4_worstLeg 20 = .ok (.aload_n 0, 1) := by decide +kernel
theorem dX4_worstLeg_21 : decode cX4_worstLeg 21 = .ok (.getfield 11, 3) := by decide +kernel
theorem dX4_worstLeg_24 : decode cX4_worstLeg 24 = .ok (.iload_n 1, 1) := by decide +kernel
theorem dX4_worstLeg_25 : decode cX4_worstLeg 25 = .ok (.aaload, 1) := by decide +kernel
theorem dX4_worstLeg_26 : decode cX4_worstLeg 26 = .ok (.iload_n 2, 1) := by decide +kernel
theorem dX4_worstLeg_27 : decode cX4_worstLeg 27 = .ok (.invokevirtual 119, 3) := by decide +kernel
theorem dX4_worstLeg_30 : decode cX4_worstLeg 30 = .ok (.invokevirtual 216, 3) := by decide +kernel
theorem dX4_worstLeg_33 : decode cX4_worstLeg 33 = .ok (.ireturn, 1) := by decide +kernel
set_option maxRecDepth 20000 in
theorem ggX4_bestRegion_X4_greatestRisk : GoodIn wsX4_bestRegion wsX4_greatestRisk := goodIn_r _ [8, 1, 9, 10, 11, 12, 13, 14, 15, 16, 17, 18, 19, 20, 21, 22, 23, 24, 25, 26, 27, 28, 29, 30, 31, 32, 33, 34, 35, 36, 37, 38, 39, 40, 41, 42, 43, 44, 45, 46, 47, 48, 49, 50, 51, 52, 53, 7, 54, 55, 56, 57, 58, 59, 60, 61, 62, 66, 67, 68, 69, 70, 71, 63, 64, 65] (by decide +kernel) (by decide +kernel)
set_option maxRecDepth 20000 in
theorem gX4_bestRegion_X4_greatestRisk : GoodIn wsX4_bestRegion (wsV RX4 219 RX4 yX4_greatestRisk wsX4_greatestRisk) := goodIn_app (goodIn_of _ (by decide +kernel)) ggX4_bestRegion_X4_greatestRisk
theorem dX4_bestRegion_0 : decode cX4_bestRegion 0 = .ok (.aload_n 0, 1) := by decide +kernel
theorem dX4_bestRegion_1 : decode cX4_bestRegion 1 = .ok (.getfield 37, 3) := by decide +kernel
theorem dX4_bestRegion_4 : decode cX4_bestRegion 4 = .ok (.getfield 210, 3) := by decide +kernel
theorem dX4_bestRegion_7 : decode cX4_bestRegion 7 = .ok (.ifCond .ne 5, 3) := by decide +kernel
theorem dX4_bestRegion_10 : decode cX4_bestRegion 10 = .ok (.iconst (-1), 1) := by decide +kernel
theorem dX4_bestRegion_11 : decode cX4_bestRegion 11 = .ok (.ireturn, 1) := by decide +kernel
theorem dX4_bestRegion_12 : decode cX4_bestRegion 12 = .ok (.iconst (-1), 1) := by decide +kernel
theorem dX4_bestRegion_13 : decode cX4_bestRegion 13 = .ok (.istore_n 1, 1) := by decide +kernel
theorem dX4_bestRegion_14 : decode cX4_bestRegion 14 = .ok (.iconst 0, 1) := by decide +kernel
theorem dX4_bestRegion_15 : decode cX4_bestRegion 15 = .ok (.istore_n 2, 1) := by decide +kernel
theorem dX4_bestRegion_16 : decode cX4_bestRegion 16 = .ok (.iconst 0, 1) := by decide +kernel
theorem dX4_bestRegion_17 : decode cX4_bestRegion 17 = .ok (.istore_n 3, 1) := by decide +kernel
theorem dX4_bestRegion_18 : decode cX4_bestRegion 18 = .ok (.iload_n 3, 1) := by decide +kernel
theorem dX4_bestRegion_19 : decode cX4_bestRegion 19 = .ok (.aload_n 0, 1) := by decide +kernel
theorem dX4_bestRegion_20 : decode cX4_bestRegion 20 = .ok (.getfield 41, 3) := by decide +kernel
theorem dX4_bestRegion_23 : decode cX4_bestRegion 23 = .ok (.if_icmp .ge 36, 3) := by decide +kernel
theorem dX4_bestRegion_26 : decode cX4_bestRegion 26 = .ok (.aload_n 0, 1) := by decide +kernel
theorem dX4_bestRegion_27 : decode cX4_bestRegion 27 = .ok (.aload_n 0, 1) := by decide +kernel
theorem dX4_bestRegion_28 : decode cX4_bestRegion 28 = .ok (.getfield 11, 3) := by decide +kernel
theorem dX4_bestRegion_31 : decode cX4_bestRegion 31 = .ok (.iload_n 3, 1) := by decide +kernel
theorem dX4_bestRegion_32 : decode cX4_bestRegion 32 = .ok (.aaload, 1) := by decide +kernel
theorem dX4_bestRegion_33 : decode cX4_bestRegion 33 = .ok (.invokevirtual 219, 3) := by decide +kernel
theorem dX4_bestRegion_36 : decode cX4_bestRegion 36 = .ok (.istore 4, 2) := by decide +kernel
theorem dX4_bestRegion_38 : decode cX4_bestRegion 38 = .ok (.iload_n 1, 1) := by decide +kernel
theorem dX4_bestRegion_39 : decode cX4_bestRegion 39 = .ok (.ifCond .lt 9, 3) := by decide +kernel
theorem dX4_bestRegion_42 : decode cX4_bestRegion 42 = .ok (.iload 4, 2) := by decide +kernel
theorem dX4_bestRegion_44 : decode cX4_bestRegion 44 = .ok (.iload_n 2, 1) := by decide +kernel
theorem dX4_bestRegion_45 : decode cX4_bestRegion 45 = .ok (.if_icmp .ge 8, 3) := by decide +kernel
theorem dX4_bestRegion_48 : decode cX4_bestRegion 48 = .ok (.iload_n 3, 1) := by decide +kernel
theorem dX4_bestRegion_49 : decode cX4_bestRegion 49 = .ok (.istore_n 1, 1) := by decide +kernel
theorem dX4_bestRegion_50 : decode cX4_bestRegion 50 = .ok (.iload 4, 2) := by decide +kernel
theorem dX4_bestRegion_52 : decode cX4_bestRegion 52 = .ok (.istore_n 2, 1) := by decide +kernel
theorem dX4_bestRegion_53 : decode cX4_bestRegion 53 = .ok (.iinc 3 1, 3) := by decide +kernel
theorem dX4_bestRegion_56 : decode cX4_bestRegion 56 = .ok (.goto (-38), 3) := by decide +kernel
theorem dX4_bestRegion_59 : decode cX4_bestRegion 59 = .ok (.iload_n 1, 1) := by decide +kernel
theorem dX4_bestRegion_60 : decode cX4_bestRegion 60 = .ok (.ireturn, 1) := by decide +kernel
set_option maxRecDepth 20000 in
theorem ggX4_digest_X4_mix : GoodIn wsX4_digest wsX4_mix := goodIn_r _ [9, 10] (by decide +kernel) (by decide +kernel)
set_option maxRecDepth 20000 in
theorem gX4_digest_X4_mix : GoodIn wsX4_digest (va_wsS RX4 225 yX4_mix wsX4_mix) := goodIn_app (goodIn_of _ (by decide +kernel)) ggX4_digest_X4_mix
set_option maxRecDepth 20000 in
theorem ggX4_digest_X4_mixRegion : GoodIn wsX4_digest wsX4_mixRegion := goodIn_r _ [13, 14, 15, 16, 17, 18, 19, 6, 7, 8, 9, 10, 20, 21, 22, 23, 24, 25, 26, 27, 28, 29, 30, 31, 32, 33, 34, 35, 36, 37, 38, 39, 40, 41, 42, 43, 44, 45, 46, 47, 48, 49, 50, 51, 52, 53, 54, 55, 56, 104, 105, 106, 107, 108, 109] (by decide +kernel) (by decide +kernel)
set_option maxRecDepth 20000 in
theorem gX4_digest_X4_mixRegion : GoodIn wsX4_digest (va_wsS RX4 229 yX4_mixRegion wsX4_mixRegion) := goodIn_app (goodIn_of _ (by decide +kernel)) ggX4_digest_X4_mixRegion
set_option maxRecDepth 20000 in
theorem ggX4_digest_X0_activityOn : GoodIn wsX4_digest wsX0_activityOn := goodIn_r _ [61, 62, 99, 100, 101, 102, 103] (by decide +kernel) (by decide +kernel)
set_option maxRecDepth 20000 in
theorem gX4_digest_X0_activityOn : GoodIn wsX4_digest (wsV RX4 176 RX0 yX0_activityOn wsX0_activityOn) := goodIn_app (goodIn_of _ (by decide +kernel)) ggX4_digest_X0_activityOn
set_option maxRecDepth 20000 in
theorem ggX4_digest_X4_mixBulletin : GoodIn wsX4_digest wsX4_mixBulletin := goodIn_r _ [66, 67, 3, 68, 69, 70, 71, 72, 73, 74, 75, 76, 77, 6, 7, 8, 9, 10, 78, 79, 80, 81, 82, 83, 84, 85, 86, 92, 93, 94, 95, 96, 97, 98, 110, 111, 112] (by decide +kernel) (by decide +kernel)
set_option maxRecDepth 20000 in
theorem gX4_digest_X4_mixBulletin : GoodIn wsX4_digest (wsV RX4 233 RX4 yX4_mixBulletin wsX4_mixBulletin) := goodIn_app (goodIn_of _ (by decide +kernel)) ggX4_digest_X4_mixBulletin
set_option maxRecDepth 20000 in
theorem ggX4_digest_X4_mixRoute : GoodIn wsX4_digest wsX4_mixRoute := goodIn_r _ [90, 91, 6, 7, 8, 9, 10, 92, 93, 94, 95, 96, 97, 98, 113, 114, 115] (by decide +kernel) (by decide +kernel)
set_option maxRecDepth 20000 in
theorem gX4_digest_X4_mixRoute : GoodIn wsX4_digest (wsV RX4 237 RX4 yX4_mixRoute wsX4_mixRoute) := goodIn_app (goodIn_of _ (by decide +kernel)) ggX4_digest_X4_mixRoute
theorem dX4_digest_0 : decode cX4_digest 0 = .ok (.ldc2_w 223, 3) := by decide +kernel
theorem dX4_digest_3 : decode cX4_digest 3 = .ok (.aload_n 0, 1) := by decide +kernel
theorem dX4_digest_4 : decode cX4_digest 4 = .ok (.getfield 67, 3) := by decide +kernel
theorem dX4_digest_7 : decode cX4_digest 7 = .ok (.i2l, 1) := by decide +kernel
theorem dX4_digest_8 : decode cX4_digest 8 = .ok (.invokestatic 225, 3) := by decide +kernel
theorem dX4_digest_11 : decode cX4_digest 11 = .ok (.lstore_n 1, 1) := by decide +kernel
theorem dX4_digest_12 : decode cX4_digest 12 = .ok (.lload_n 1, 1) := by decide +kernel
theorem dX4_digest_13 : decode cX4_digest 13 = .ok (.aload_n 0, 1) := by decide +kernel
theorem dX4_digest_14 : decode cX4_digest 14 = .ok (.getfield 41, 3) := by decide +kernel
theorem dX4_digest_17 : decode cX4_digest 17 = .ok (.i2l, 1) := by decide +kernel
theorem dX4_digest_18 : decode cX4_digest 18 = .ok (.invokestatic 225, 3) := by decide +kernel
theorem dX4_digest_21 : decode cX4_digest 21 = .ok (.lstore_n 1, 1) := by decide +kernel
theorem dX4_digest_22 : decode cX4_digest 22 = .ok (.iconst 0, 1) := by decide +kernel
theorem dX4_digest_23 : decode cX4_digest 23 = .ok (.istore_n 3, 1) := by decide +kernel
theorem dX4_digest_24 : decode cX4_digest 24 = .ok (.iload_n 3, 1) := by decide +kernel
theorem dX4_digest_25 : decode cX4_digest 25 = .ok (.aload_n 0, 1) := by decide +kernel
theorem dX4_digest_26 : decode cX4_digest 26 = .ok (.getfield 41, 3) := by decide +kernel
theorem dX4_digest_29 : decode cX4_digest 29 = .ok (.if_icmp .ge 38, 3) := by decide +kernel
theorem dX4_digest_32 : decode cX4_digest 32 = .ok (.lload_n 1, 1) := by decide +kernel
theorem dX4_digest_33 : decode cX4_digest 33 = .ok (.aload_n 0, 1) := by decide +kernel
theorem dX4_digest_34 : decode cX4_digest 34 = .ok (.getfield 11, 3) := by decide +kernel
theorem dX4_digest_37 : decode cX4_digest 37 = .ok (.iload_n 3, 1) := by decide +kernel
theorem dX4_digest_38 : decode cX4_digest 38 = .ok (.aaload, 1) := by decide +kernel
theorem dX4_digest_39 : decode cX4_digest 39 = .ok (.invokestatic 229, 3) := by decide +kernel
theorem dX4_digest_42 : decode cX4_digest 42 = .ok (.lstore_n 1, 1) := by decide +kernel
theorem dX4_digest_43 : decode cX4_digest 43 = .ok (.lload_n 1, 1) := by decide +kernel
theorem dX4_digest_44 : decode cX4_digest 44 = .ok (.aload_n 0, 1) := by decide +kernel
theorem dX4_digest_45 : decode cX4_digest 45 = .ok (.getfield 30, 3) := by decide +kernel
theorem dX4_digest_48 : decode cX4_digest 48 = .ok (.aload_n 0, 1) := by decide +kernel
theorem dX4_digest_49 : decode cX4_digest 49 = .ok (.getfield 67, 3) := by decide +kernel
theorem dX4_digest_52 : decode cX4_digest 52 = .ok (.iload_n 3, 1) := by decide +kernel
theorem dX4_digest_53 : decode cX4_digest 53 = .ok (.invokevirtual 176, 3) := by decide +kernel
theorem dX4_digest_56 : decode cX4_digest 56 = .ok (.i2l, 1) := by decide +kernel
theorem dX4_digest_57 : decode cX4_digest 57 = .ok (.invokestatic 225, 3) := by decide +kernel
theorem dX4_digest_60 : decode cX4_digest 60 = .ok (.lstore_n 1, 1) := by decide +kernel
theorem dX4_digest_61 : decode cX4_digest 61 = .ok (.iinc 3 1, 3) := by decide +kernel
theorem dX4_digest_64 : decode cX4_digest 64 = .ok (.goto (-40), 3) := by decide +kernel
theorem dX4_digest_67 : decode cX4_digest 67 = .ok (.iconst 0, 1) := by decide +kernel
theorem dX4_digest_68 : decode cX4_digest 68 = .ok (.istore_n 3, 1) := by decide +kernel
theorem dX4_digest_69 : decode cX4_digest 69 = .ok (.iload_n 3, 1) := by decide +kernel
theorem dX4_digest_70 : decode cX4_digest 70 = .ok (.aload_n 0, 1) := by decide +kernel
theorem dX4_digest_71 : decode cX4_digest 71 = .ok (.getfield 67, 3) := by decide +kernel
theorem dX4_digest_74 : decode cX4_digest 74 = .ok (.if_icmp .gt 16, 3) := by decide +kernel
theorem dX4_digest_77 : decode cX4_digest 77 = .ok (.aload_n 0, 1) := by decide +kernel
theorem dX4_digest_78 : decode cX4_digest 78 = .ok (.lload_n 1, 1) := by decide +kernel
theorem dX4_digest_79 : decode cX4_digest 79 = .ok (.iload_n 3, 1) := by decide +kernel
theorem dX4_digest_80 : decode cX4_digest 80 = .ok (.invokevirtual 233, 3) := by decide +kernel
theorem dX4_digest_83 : decode cX4_digest 83 = .ok (.lstore_n 1, 1) := by decide +kernel
theorem dX4_digest_84 : decode cX4_digest 84 = .ok (.iinc 3 1, 3) := by decide +kernel
theorem dX4_digest_87 : decode cX4_digest 87 = .ok (.goto (-18), 3) := by decide +kernel
theorem dX4_digest_90 : decode cX4_digest 90 = .ok (.lload_n 1, 1) := by decide +kernel
theorem dX4_digest_91 : decode cX4_digest 91 = .ok (.aload_n 0, 1) := by decide +kernel
theorem dX4_digest_92 : decode cX4_digest 92 = .ok (.getfield 30, 3) := by decide +kernel
theorem dX4_digest_95 : decode cX4_digest 95 = .ok (.getfield 186, 3) := by decide +kernel
theorem dX4_digest_98 : decode cX4_digest 98 = .ok (.i2l, 1) := by decide +kernel
theorem dX4_digest_99 : decode cX4_digest 99 = .ok (.invokestatic 225, 3) := by decide +kernel
theorem dX4_digest_102 : decode cX4_digest 102 = .ok (.lstore_n 1, 1) := by decide +kernel
theorem dX4_digest_103 : decode cX4_digest 103 = .ok (.aload_n 0, 1) := by decide +kernel
theorem dX4_digest_104 : decode cX4_digest 104 = .ok (.lload_n 1, 1) := by decide +kernel
theorem dX4_digest_105 : decode cX4_digest 105 = .ok (.invokevirtual 237, 3) := by decide +kernel
theorem dX4_digest_108 : decode cX4_digest 108 = .ok (.lreturn, 1) := by decide +kernel
theorem dX4_checkRegion_0 : decode cX4_checkRegion 0 = .ok (.iload_n 1, 1) := by decide +kernel
theorem dX4_checkRegion_1 : decode cX4_checkRegion 1 = .ok (.ifCond .lt 11, 3) := by decide +kernel
theorem dX4_checkRegion_4 : decode cX4_checkRegion 4 = .ok (.iload_n 1, 1) := by decide +kernel
theorem dX4_checkRegion_5 : decode cX4_checkRegion 5 = .ok (.aload_n 0, 1) := by decide +kernel
theorem dX4_checkRegion_6 : decode cX4_checkRegion 6 = .ok (.getfield 41, 3) := by decide +kernel
theorem dX4_checkRegion_9 : decode cX4_checkRegion 9 = .ok (.if_icmp .lt 13, 3) := by decide +kernel
theorem dX4_checkRegion_12 : decode cX4_checkRegion 12 = .ok (.new 101, 3) := by decide +kernel
theorem dX4_checkRegion_15 : decode cX4_checkRegion 15 = .ok (.dup, 1) := by decide +kernel
theorem dX4_checkRegion_16 : decode cX4_checkRegion 16 = .ok (.ldc 241, 2) := by decide +kernel
theorem dX4_checkRegion_18 : decode cX4_checkRegion 18 = .ok (.invokespecial 105, 3) := by decide +kernel
theorem dX4_checkRegion_21 : decode cX4_checkRegion 21 = .ok (.athrow, 1) := by decide +kernel
theorem dX4_checkRegion_22 : decode cX4_checkRegion 22 = .ok (.return_, 1) := by decide +kernel
theorem dX4_checkSector_0 : decode cX4_checkSector 0 = .ok (.iload_n 0, 1) := by decide +kernel
theorem dX4_checkSector_1 : decode cX4_checkSector 1 = .ok (.ifCond .lt 9, 3) := by decide +kernel
theorem dX4_checkSector_4 : decode cX4_checkSector 4 = .ok (.iload_n 0, 1) := by decide +kernel
theorem dX4_checkSector_5 : decode cX4_checkSector 5 = .ok (.bipush 12, 2) := by decide +kernel
theorem dX4_checkSector_7 : decode cX4_checkSector 7 = .ok (.if_icmp .lt 13, 3) := by decide +kernel
theorem dX4_checkSector_10 : decode cX4_checkSector 10 = .ok (.new 101, 3) := by decide +kernel
theorem dX4_checkSector_13 : decode cX4_checkSector 13 = .ok (.dup, 1) := by decide +kernel
theorem dX4_checkSector_14 : decode cX4_checkSector 14 = .ok (.ldc 243, 2) := by decide +kernel
theorem dX4_checkSector_16 : decode cX4_checkSector 16 = .ok (.invokespecial 105, 3) := by decide +kernel
theorem dX4_checkSector_19 : decode cX4_checkSector 19 = .ok (.athrow, 1) := by decide +kernel
theorem dX4_checkSector_20 : decode cX4_checkSector 20 = .ok (.return_, 1) := by decide +kernel
theorem dX4_checkNumber_0 : decode cX4_checkNumber 0 = .ok (.iload_n 0, 1) := by decide +kernel
theorem dX4_checkNumber_1 : decode cX4_checkNumber 1 = .ok (.ifCond .lt 8, 3) := by decide +kernel
theorem dX4_checkNumber_4 : decode cX4_checkNumber 4 = .ok (.iload_n 0, 1) := by decide +kernel
theorem dX4_checkNumber_5 : decode cX4_checkNumber 5 = .ok (.iconst 5, 1) := by decide +kernel
theorem dX4_checkNumber_6 : decode cX4_checkNumber 6 = .ok (.if_icmp .lt 13, 3) := by decide +kernel
theorem dX4_checkNumber_9 : decode cX4_checkNumber 9 = .ok (.new 101, 3) := by decide +kernel
theorem dX4_checkNumber_12 : decode cX4_checkNumber 12 = .ok (.dup, 1) := by decide +kernel
theorem dX4_checkNumber_13 : decode cX4_checkNumber 13 = .ok (.ldc 245, 2) := by decide +kernel
theorem dX4_checkNumber_15 : decode cX4_checkNumber 15 = .ok (.invokespecial 105, 3) := by decide +kernel
theorem dX4_checkNumber_18 : decode cX4_checkNumber 18 = .ok (.athrow, 1) := by decide +kernel
theorem dX4_checkNumber_19 : decode cX4_checkNumber 19 = .ok (.return_, 1) := by decide +kernel
theorem dX4_checkWeather_0 : decode cX4_checkWeather 0 = .ok (.iload_n 0, 1) := by decide +kernel
theorem dX4_checkWeather_1 : decode cX4_checkWeather 1 = .ok (.ifCond .lt 10, 3) := by decide +kernel
theorem dX4_checkWeather_4 : decode cX4_checkWeather 4 = .ok (.iload_n 0, 1) := by decide +kernel
theorem dX4_checkWeather_5 : decode cX4_checkWeather 5 = .ok (.sipush 150, 3) := by decide +kernel
theorem dX4_checkWeather_8 : decode cX4_checkWeather 8 = .ok (.if_icmp .le 13, 3) := by decide +kernel
theorem dX4_checkWeather_11 : decode cX4_checkWeather 11 = .ok (.new 92, 3) := by decide +kernel
theorem dX4_checkWeather_14 : decode cX4_checkWeather 14 = .ok (.dup, 1) := by decide +kernel
theorem dX4_checkWeather_15 : decode cX4_checkWeather 15 = .ok (.ldc 247, 2) := by decide +kernel
theorem dX4_checkWeather_17 : decode cX4_checkWeather 17 = .ok (.invokespecial 96, 3) := by decide +kernel
theorem dX4_checkWeather_20 : decode cX4_checkWeather 20 = .ok (.athrow, 1) := by decide +kernel
theorem dX4_checkWeather_21 : decode cX4_checkWeather 21 = .ok (.iload_n 1, 1) := by decide +kernel
theorem dX4_checkWeather_22 : decode cX4_checkWeather 22 = .ok (.ifCond .lt 9, 3) := by decide +kernel
theorem dX4_checkWeather_25 : decode cX4_checkWeather 25 = .ok (.iload_n 1, 1) := by decide +kernel
theorem dX4_checkWeather_26 : decode cX4_checkWeather 26 = .ok (.bipush 120, 2) := by decide +kernel
theorem dX4_checkWeather_28 : decode cX4_checkWeather 28 = .ok (.if_icmp .le 13, 3) := by decide +kernel
theorem dX4_checkWeather_31 : decode cX4_checkWeather 31 = .ok (.new 92, 3) := by decide +kernel
theorem dX4_checkWeather_34 : decode cX4_checkWeather 34 = .ok (.dup, 1) := by decide +kernel
theorem dX4_checkWeather_35 : decode cX4_checkWeather 35 = .ok (.ldc 249, 2) := by decide +kernel
theorem dX4_checkWeather_37 : decode cX4_checkWeather 37 = .ok (.invokespecial 96, 3) := by decide +kernel
theorem dX4_checkWeather_40 : decode cX4_checkWeather 40 = .ok (.athrow, 1) := by decide +kernel
theorem dX4_checkWeather_41 : decode cX4_checkWeather 41 = .ok (.iload_n 2, 1) := by decide +kernel
theorem dX4_checkWeather_42 : decode cX4_checkWeather 42 = .ok (.ifCond .lt 8, 3) := by decide +kernel
theorem dX4_checkWeather_45 : decode cX4_checkWeather 45 = .ok (.iload_n 2, 1) := by decide +kernel
theorem dX4_checkWeather_46 : decode cX4_checkWeather 46 = .ok (.iconst 4, 1) := by decide +kernel
theorem dX4_checkWeather_47 : decode cX4_checkWeather 47 = .ok (.if_icmp .lt 13, 3) := by decide +kernel
theorem dX4_checkWeather_50 : decode cX4_checkWeather 50 = .ok (.new 92, 3) := by decide +kernel
theorem dX4_checkWeather_53 : decode cX4_checkWeather 53 = .ok (.dup, 1) := by decide +kernel
theorem dX4_checkWeather_54 : decode cX4_checkWeather 54 = .ok (.ldc 251, 2) := by decide +kernel
theorem dX4_checkWeather_56 : decode cX4_checkWeather 56 = .ok (.invokespecial 96, 3) := by decide +kernel
theorem dX4_checkWeather_59 : decode cX4_checkWeather 59 = .ok (.athrow, 1) := by decide +kernel
theorem dX4_checkWeather_60 : decode cX4_checkWeather 60 = .ok (.iload_n 3, 1) := by decide +kernel
theorem dX4_checkWeather_61 : decode cX4_checkWeather 61 = .ok (.bipush (-30), 2) := by decide +kernel
theorem dX4_checkWeather_63 : decode cX4_checkWeather 63 = .ok (.if_icmp .lt 9, 3) := by decide +kernel
theorem dX4_checkWeather_66 : decode cX4_checkWeather 66 = .ok (.iload_n 3, 1) := by decide +kernel
theorem dX4_checkWeather_67 : decode cX4_checkWeather 67 = .ok (.bipush 15, 2) := by decide +kernel
theorem dX4_checkWeather_69 : decode cX4_checkWeather 69 = .ok (.if_icmp .le 13, 3) := by decide +kernel
theorem dX4_checkWeather_72 : decode cX4_checkWeather 72 = .ok (.new 92, 3) := by decide +kernel
theorem dX4_checkWeather_75 : decode cX4_checkWeather 75 = .ok (.dup, 1) := by decide +kernel
theorem dX4_checkWeather_76 : decode cX4_checkWeather 76 = .ok (.ldc 253, 2) := by decide +kernel
theorem dX4_checkWeather_78 : decode cX4_checkWeather 78 = .ok (.invokespecial 96, 3) := by decide +kernel
theorem dX4_checkWeather_81 : decode cX4_checkWeather 81 = .ok (.athrow, 1) := by decide +kernel
theorem dX4_checkWeather_82 : decode cX4_checkWeather 82 = .ok (.return_, 1) := by decide +kernel
theorem dX4_bit_0 : decode cX4_bit 0 = .ok (.iload_n 0, 1) := by decide +kernel
theorem dX4_bit_1 : decode cX4_bit 1 = .ok (.iload_n 1, 1) := by decide +kernel
theorem dX4_bit_2 : decode cX4_bit 2 = .ok (.ishr, 1) := by decide +kernel
theorem dX4_bit_3 : decode cX4_bit 3 = .ok (.iconst 1, 1) := by decide +kernel
theorem dX4_bit_4 : decode cX4_bit 4 = .ok (.iand, 1) := by decide +kernel
theorem dX4_bit_5 : decode cX4_bit 5 = .ok (.ireturn, 1) := by decide +kernel
set_option maxRecDepth 20000 in
theorem ggX4_verdict_X1_read : GoodIn wsX4_verdict wsX1_read := goodIn_r _ [7, 8, 9, 10, 6, 11, 33, 34, 35] (by decide +kernel) (by decide +kernel)
set_option maxRecDepth 20000 in
theorem gX4_verdict_X1_read : GoodIn wsX4_verdict (wsV RX4 158 RX1 yX1_read wsX1_read) := goodIn_app (goodIn_of _ (by decide +kernel)) ggX4_verdict_X1_read
set_option maxRecDepth 20000 in
theorem ggX4_verdict_X0_activityOn : GoodIn wsX4_verdict wsX0_activityOn := goodIn_r _ [16, 17, 36, 37, 38, 39, 40] (by decide +kernel) (by decide +kernel)
set_option maxRecDepth 20000 in
theorem gX4_verdict_X0_activityOn : GoodIn wsX4_verdict (wsV RX4 176 RX0 yX0_activityOn wsX0_activityOn) := goodIn_app (goodIn_of _ (by decide +kernel)) ggX4_verdict_X0_activityOn
set_option maxRecDepth 20000 in
theorem ggX4_verdict_X4_leastActivity : GoodIn wsX4_verdict wsX4_leastActivity := goodIn_r _ [21] (by decide +kernel) (by decide +kernel)
set_option maxRecDepth 20000 in
theorem gX4_verdict_X4_leastActivity : GoodIn wsX4_verdict (va_wsS RX4 255 yX4_leastActivity wsX4_leastActivity) := goodIn_app (goodIn_of _ (by decide +kernel)) ggX4_verdict_X4_leastActivity
set_option maxRecDepth 20000 in
theorem ggX4_verdict_X4_greatestActivity : GoodIn wsX4_verdict wsX4_greatestActivity := goodIn_r _ [24, 25] (by decide +kernel) (by decide +kernel)
set_option maxRecDepth 20000 in
theorem gX4_verdict_X4_greatestActivity : GoodIn wsX4_verdict (va_wsS RX4 258 yX4_greatestActivity wsX4_greatestActivity) := goodIn_app (goodIn_of _ (by decide +kernel)) ggX4_verdict_X4_greatestActivity
theorem dX4_verdict_0 : decode cX4_verdict 0 = .ok (.aload_n 0, 1) := by decide +kernel
theorem dX4_verdict_1 : decode cX4_verdict 1 = .ok (.getfield 23, 3) := by decide +kernel
theorem dX4_verdict_4 : decode cX4_verdict 4 = .ok (.iload_n 1, 1) := by decide +kernel
theorem dX4_verdict_5 : decode cX4_verdict 5 = .ok (.iload_n 2, 1) := by decide +kernel
theorem dX4_verdict_6 : decode cX4_verdict 6 = .ok (.iconst 0, 1) := by decide +kernel
theorem dX4_verdict_7 : decode cX4_verdict 7 = .ok (.invokevirtual 158, 3) := by decide +kernel
theorem dX4_verdict_10 : decode cX4_verdict 10 = .ok (.istore_n 3, 1) := by decide +kernel
theorem dX4_verdict_11 : decode cX4_verdict 11 = .ok (.aload_n 0, 1) := by decide +kernel
theorem dX4_verdict_12 : decode cX4_verdict 12 = .ok (.getfield 30, 3) := by decide +kernel
theorem dX4_verdict_15 : decode cX4_verdict 15 = .ok (.iload_n 1, 1) := by decide +kernel
theorem dX4_verdict_16 : decode cX4_verdict 16 = .ok (.iload_n 2, 1) := by decide +kernel
theorem dX4_verdict_17 : decode cX4_verdict 17 = .ok (.invokevirtual 176, 3) := by decide +kernel
theorem dX4_verdict_20 : decode cX4_verdict 20 = .ok (.istore 4, 2) := by decide +kernel
theorem dX4_verdict_22 : decode cX4_verdict 22 = .ok (.iload 4, 2) := by decide +kernel
theorem dX4_verdict_24 : decode cX4_verdict 24 = .ok (.iload_n 3, 1) := by decide +kernel
theorem dX4_verdict_25 : decode cX4_verdict 25 = .ok (.invokestatic 255, 3) := by decide +kernel
theorem dX4_verdict_28 : decode cX4_verdict 28 = .ok (.if_icmp .ge 5, 3) := by decide +kernel
theorem dX4_verdict_31 : decode cX4_verdict 31 = .ok (.iconst (-1), 1) := by decide +kernel
theorem dX4_verdict_32 : decode cX4_verdict 32 = .ok (.ireturn, 1) := by decide +kernel
theorem dX4_verdict_33 : decode cX4_verdict 33 = .ok (.iload 4, 2) := by decide +kernel
theorem dX4_verdict_35 : decode cX4_verdict 35 = .ok (.iload_n 3, 1) := by decide +kernel
theorem dX4_verdict_36 : decode cX4_verdict 36 = .ok (.invokestatic 258, 3) := by decide +kernel
theorem dX4_verdict_39 : decode cX4_verdict 39 = .ok (.if_icmp .le 7, 3) := by decide +kernel
theorem dX4_verdict_42 : decode cX4_verdict 42 = .ok (.iconst 1, 1) := by decide +kernel
theorem dX4_verdict_43 : decode cX4_verdict 43 = .ok (.goto 4, 3) := by decide +kernel
theorem dX4_verdict_46 : decode cX4_verdict 46 = .ok (.iconst 0, 1) := by decide +kernel
theorem dX4_verdict_47 : decode cX4_verdict 47 = .ok (.ireturn, 1) := by decide +kernel
theorem dX4_leastActivity_0 : decode cX4_leastActivity 0 = .ok (.iload_n 0, 1) := by decide +kernel
theorem dX4_leastActivity_1 : decode cX4_leastActivity 1 = .ok (.tableswitch 35 3 5 #[27, 29, 32], 27) := by decide +kernel
theorem dX4_leastActivity_28 : decode cX4_leastActivity 28 = .ok (.iconst 4, 1) := by decide +kernel
theorem dX4_leastActivity_29 : decode cX4_leastActivity 29 = .ok (.ireturn, 1) := by decide +kernel
theorem dX4_leastActivity_30 : decode cX4_leastActivity 30 = .ok (.bipush 25, 2) := by decide +kernel
theorem dX4_leastActivity_32 : decode cX4_leastActivity 32 = .ok (.ireturn, 1) := by decide +kernel
theorem dX4_leastActivity_33 : decode cX4_leastActivity 33 = .ok (.bipush 80, 2) := by decide +kernel
theorem dX4_leastActivity_35 : decode cX4_leastActivity 35 = .ok (.ireturn, 1) := by decide +kernel
theorem dX4_leastActivity_36 : decode cX4_leastActivity 36 = .ok (.iconst 0, 1) := by decide +kernel
theorem dX4_leastActivity_37 : decode cX4_leastActivity 37 = .ok (.ireturn, 1) := by decide +kernel
theorem dX4_greatestActivity_0 : decode cX4_greatestActivity 0 = .ok (.iload_n 0, 1) := by decide +kernel
theorem dX4_greatestActivity_1 : decode cX4_greatestActivity 1 = .ok (.tableswitch 42 1 4 #[31, 33, 36, 39], 31) := by decide +kernel
theorem dX4_greatestActivity_32 : decode cX4_greatestActivity 32 = .ok (.iconst 1, 1) := by decide +kernel
theorem dX4_greatestActivity_33 : decode cX4_greatestActivity 33 = .ok (.ireturn, 1) := by decide +kernel
theorem dX4_greatestActivity_34 : decode cX4_greatestActivity 34 = .ok (.bipush 9, 2) := by decide +kernel
theorem dX4_greatestActivity_36 : decode cX4_greatestActivity 36 = .ok (.ireturn, 1) := by decide +kernel
theorem dX4_greatestActivity_37 : decode cX4_greatestActivity 37 = .ok (.bipush 40, 2) := by decide +kernel
theorem dX4_greatestActivity_39 : decode cX4_greatestActivity 39 = .ok (.ireturn, 1) := by decide +kernel
theorem dX4_greatestActivity_40 : decode cX4_greatestActivity 40 = .ok (.bipush 120, 2) := by decide +kernel
theorem dX4_greatestActivity_42 : decode cX4_greatestActivity 42 = .ok (.ireturn, 1) := by decide +kernel
theorem dX4_greatestActivity_43 : decode cX4_greatestActivity 43 = .ok (.ldc_w 263, 3) := by decide +kernel
theorem dX4_greatestActivity_46 : decode cX4_greatestActivity 46 = .ok (.ireturn, 1) := by decide +kernel
set_option maxRecDepth 20000 in
theorem ggX4_greatestRisk_X2_findLevel : GoodIn wsX4_greatestRisk wsX2_findLevel := goodIn_r _ [6, 7, 8, 9, 10, 11, 12, 13, 14, 15, 16, 5, 17, 18, 19, 20, 21, 22, 23, 24, 25, 26, 27, 28, 29, 57, 58, 59, 60, 61, 62] (by decide +kernel) (by decide +kernel)
set_option maxRecDepth 20000 in
theorem gX4_greatestRisk_X2_findLevel : GoodIn wsX4_greatestRisk (wsV RX4 115 RX2 yX2_findLevel wsX2_findLevel) := goodIn_app (goodIn_of _ (by decide +kernel)) ggX4_greatestRisk_X2_findLevel
set_option maxRecDepth 20000 in
theorem ggX4_greatestRisk_X2_findCore : GoodIn wsX4_greatestRisk wsX2_findCore := goodIn_r _ [33, 14, 15, 16, 5, 17, 7, 8, 9, 10, 11, 12, 13, 18, 19, 20, 21, 22, 23, 24, 25, 26, 27, 28, 29, 57, 58, 59, 60, 61, 62] (by decide +kernel) (by decide +kernel)
set_option maxRecDepth 20000 in
theorem gX4_greatestRisk_X2_findCore : GoodIn wsX4_greatestRisk (wsV RX4 119 RX2 yX2_findCore wsX2_findCore) := goodIn_app (goodIn_of _ (by decide +kernel)) ggX4_greatestRisk_X2_findCore
set_option maxRecDepth 20000 in
theorem ggX4_greatestRisk_X3_findWorst : GoodIn wsX4_greatestRisk wsX3_findWorst := goodIn_r _ [38, 39, 40, 41, 42, 37, 43, 44, 45, 46, 47, 48, 63, 64, 65] (by decide +kernel) (by decide +kernel)
set_option maxRecDepth 20000 in
theorem gX4_greatestRisk_X3_findWorst : GoodIn wsX4_greatestRisk (wsV RX4 216 RX3 yX3_findWorst wsX3_findWorst) := goodIn_app (goodIn_of _ (by decide +kernel)) ggX4_greatestRisk_X3_findWorst
set_option maxRecDepth 20000 in
theorem ggX4_greatestRisk_X3_riskOf : GoodIn wsX4_greatestRisk wsX3_riskOf := goodIn_r _ [43, 44, 45, 46, 47, 48, 63, 64, 65] (by decide +kernel) (by decide +kernel)
set_option maxRecDepth 20000 in
theorem gX4_greatestRisk_X3_riskOf : GoodIn wsX4_greatestRisk (wsV RX4 213 RX3 yX3_riskOf wsX3_riskOf) := goodIn_app (goodIn_of _ (by decide +kernel)) ggX4_greatestRisk_X3_riskOf
theorem dX4_greatestRisk_0 : decode cX4_greatestRisk 0 = .ok (.aload_n 1, 1) := by decide +kernel
theorem dX4_greatestRisk_1 : decode cX4_greatestRisk 1 = .ok (.invokevirtual 115, 3) := by decide +kernel
theorem dX4_greatestRisk_4 : decode cX4_greatestRisk 4 = .ok (.istore_n 2, 1) := by decide +kernel
theorem dX4_greatestRisk_5 : decode cX4_greatestRisk 5 = .ok (.aload_n 1, 1) := by decide +kernel
theorem dX4_greatestRisk_6 : decode cX4_greatestRisk 6 = .ok (.iload_n 2, 1) := by decide +kernel
theorem dX4_greatestRisk_7 : decode cX4_greatestRisk 7 = .ok (.invokevirtual 119, 3) := by decide +kernel
theorem dX4_greatestRisk_10 : decode cX4_greatestRisk 10 = .ok (.istore_n 3, 1) := by decide +kernel
theorem dX4_greatestRisk_11 : decode cX4_greatestRisk 11 = .ok (.aload_n 0, 1) := by decide +kernel
theorem dX4_greatestRisk_12 : decode cX4_greatestRisk 12 = .ok (.getfield 37, 3) := by decide +kernel
theorem dX4_greatestRisk_15 : decode cX4_greatestRisk 15 = .ok (.iload_n 2, 1) := by decide +kernel
theorem dX4_greatestRisk_16 : decode cX4_greatestRisk 16 = .ok (.iload_n 3, 1) := by decide +kernel
theorem dX4_greatestRisk_17 : decode cX4_greatestRisk 17 = .ok (.invokevirtual 216, 3) := by decide +kernel
theorem dX4_greatestRisk_20 : decode cX4_greatestRisk 20 = .ok (.istore 4, 2) := by decide +kernel
theorem dX4_greatestRisk_22 : decode cX4_greatestRisk 22 = .ok (.iload 4, 2) := by decide +kernel
theorem dX4_greatestRisk_24 : decode cX4_greatestRisk 24 = .ok (.ifCond .ge 7, 3) := by decide +kernel
theorem dX4_greatestRisk_27 : decode cX4_greatestRisk 27 = .ok (.iconst 0, 1) := by decide +kernel
theorem dX4_greatestRisk_28 : decode cX4_greatestRisk 28 = .ok (.goto 14, 3) := by decide +kernel
theorem dX4_greatestRisk_31 : decode cX4_greatestRisk 31 = .ok (.aload_n 0, 1) := by decide +kernel
theorem dX4_greatestRisk_32 : decode cX4_greatestRisk 32 = .ok (.getfield 37, 3) := by decide +kernel
theorem dX4_greatestRisk_35 : decode cX4_greatestRisk 35 = .ok (.iload 4, 2) := by decide +kernel
theorem dX4_greatestRisk_37 : decode cX4_greatestRisk 37 = .ok (.iload_n 2, 1) := by decide +kernel
theorem dX4_greatestRisk_38 : decode cX4_greatestRisk 38 = .ok (.iload_n 3, 1) := by decide +kernel
theorem dX4_greatestRisk_39 : decode cX4_greatestRisk 39 = .ok (.invokevirtual 213, 3) := by decide +kernel
theorem dX4_greatestRisk_42 : decode cX4_greatestRisk 42 = .ok (.ireturn, 1) := by decide +kernel
theorem dX4_mix_0 : decode cX4_mix 0 = .ok (.lload_n 0, 1) := by decide +kernel
theorem dX4_mix_1 : decode cX4_mix 1 = .ok (.ldc2_w 264, 3) := by decide +kernel
theorem dX4_mix_4 : decode cX4_mix 4 = .ok (.lmul, 1) := by decide +kernel
theorem dX4_mix_5 : decode cX4_mix 5 = .ok (.lload_n 2, 1) := by decide +kernel
theorem dX4_mix_6 : decode cX4_mix 6 = .ok (.ladd, 1) := by decide +kernel
theorem dX4_mix_7 : decode cX4_mix 7 = .ok (.lreturn, 1) := by decide +kernel
set_option maxRecDepth 20000 in
theorem ggX4_mixRegion_X2_numberAt : GoodIn wsX4_mixRegion wsX2_numberAt := goodIn_r _ [5, 6, 49, 50, 51, 52, 53, 54] (by decide +kernel) (by decide +kernel)
set_option maxRecDepth 20000 in
theorem gX4_mixRegion_X2_numberAt : GoodIn wsX4_mixRegion (wsV RX4 84 RX2 yX2_numberAt wsX2_numberAt) := goodIn_app (goodIn_of _ (by decide +kernel)) ggX4_mixRegion_X2_numberAt
set_option maxRecDepth 20000 in
theorem ggX4_mixRegion_X4_mix : GoodIn wsX4_mixRegion wsX4_mix := goodIn_r _ [10, 11] (by decide +kernel) (by decide +kernel)
set_option maxRecDepth 20000 in
theorem gX4_mixRegion_X4_mix : GoodIn wsX4_mixRegion (va_wsS RX4 225 yX4_mix wsX4_mix) := goodIn_app (goodIn_of _ (by decide +kernel)) ggX4_mixRegion_X4_mix
set_option maxRecDepth 20000 in
theorem ggX4_mixRegion_X2_findLevel : GoodIn wsX4_mixRegion wsX2_findLevel := goodIn_r _ [15, 16, 17, 18, 19, 20, 21, 22, 23, 24, 25, 4, 26, 27, 28, 29, 30, 31, 2, 3, 5, 6, 32, 33, 34, 49, 50, 51, 52, 53, 54] (by decide +kernel) (by decide +kernel)
set_option maxRecDepth 20000 in
theorem gX4_mixRegion_X2_findLevel : GoodIn wsX4_mixRegion (wsV RX4 115 RX2 yX2_findLevel wsX2_findLevel) := goodIn_app (goodIn_of _ (by decide +kernel)) ggX4_mixRegion_X2_findLevel
set_option maxRecDepth 20000 in
theorem ggX4_mixRegion_X2_findCore : GoodIn wsX4_mixRegion wsX2_findCore := goodIn_r _ [38, 23, 24, 25, 4, 26, 16, 17, 18, 19, 20, 21, 22, 27, 28, 29, 30, 31, 2, 3, 5, 6, 32, 33, 34, 49, 50, 51, 52, 53, 54] (by decide +kernel) (by decide +kernel)
set_option maxRecDepth 20000 in
theorem gX4_mixRegion_X2_findCore : GoodIn wsX4_mixRegion (wsV RX4 119 RX2 yX2_findCore wsX2_findCore) := goodIn_app (goodIn_of _ (by decide +kernel)) ggX4_mixRegion_X2_findCore
set_option maxRecDepth 20000 in
theorem ggX4_mixRegion_X2_findProblem : GoodIn wsX4_mixRegion wsX2_findProblem := goodIn_r _ [42, 43, 44, 45, 4, 46, 47, 9, 48, 27, 28, 29, 30, 16, 17, 18, 19, 31, 2, 3, 5, 6, 49, 50, 51, 52, 53, 54] (by decide +kernel) (by decide +kernel)
set_option maxRecDepth 20000 in
theorem gX4_mixRegion_X2_findProblem : GoodIn wsX4_mixRegion (wsV RX4 122 RX2 yX2_findProblem wsX2_findProblem) := goodIn_app (goodIn_of _ (by decide +kernel)) ggX4_mixRegion_X2_findProblem
theorem dX4_mixRegion_0 : decode cX4_mixRegion 0 = .ok (.iconst 0, 1) := by decide +kernel
theorem dX4_mixRegion_1 : decode cX4_mixRegion 1 = .ok (.istore_n 3, 1) := by decide +kernel
theorem dX4_mixRegion_2 : decode cX4_mixRegion 2 = .ok (.iload_n 3, 1) := by decide +kernel
theorem dX4_mixRegion_3 : decode cX4_mixRegion 3 = .ok (.bipush 12, 2) := by decide +kernel
theorem dX4_mixRegion_5 : decode cX4_mixRegion 5 = .ok (.if_icmp .ge 37, 3) := by decide +kernel
theorem dX4_mixRegion_8 : decode cX4_mixRegion 8 = .ok (.iconst 0, 1) := by decide +kernel
theorem dX4_mixRegion_9 : decode cX4_mixRegion 9 = .ok (.istore 4, 2) := by decide +kernel
theorem dX4_mixRegion_11 : decode cX4_mixRegion 11 = .ok (.iload 4, 2) := by decide +kernel
theorem dX4_mixRegion_13 : decode cX4_mixRegion 13 = .ok (.iconst 5, 1) := by decide +kernel
theorem dX4_mixRegion_14 : decode cX4_mixRegion 14 = .ok (.if_icmp .ge 22, 3) := by decide +kernel
theorem dX4_mixRegion_17 : decode cX4_mixRegion 17 = .ok (.lload_n 0, 1) := by decide +kernel
theorem dX4_mixRegion_18 : decode cX4_mixRegion 18 = .ok (.aload_n 2, 1) := by decide +kernel
theorem dX4_mixRegion_19 : decode cX4_mixRegion 19 = .ok (.iload_n 3, 1) := by decide +kernel
theorem dX4_mixRegion_20 : decode cX4_mixRegion 20 = .ok (.iload 4, 2) := by decide +kernel
theorem dX4_mixRegion_22 : decode cX4_mixRegion 22 = .ok (.invokevirtual 84, 3) := by decide +kernel
theorem dX4_mixRegion_25 : decode cX4_mixRegion 25 = .ok (.i2l, 1) := by decide +kernel
theorem dX4_mixRegion_26 : decode cX4_mixRegion 26 = .ok (.invokestatic 225, 3) := by decide +kernel
theorem dX4_mixRegion_29 : decode cX4_mixRegion 29 = .ok (.lstore_n 0, 1) := by decide +kernel
theorem dX4_mixRegion_30 : decode cX4_mixRegion 30 = .ok (.iinc 4 1, 3) := by decide +kernel
theorem dX4_mixRegion_33 : decode cX4_mixRegion 33 = .ok (.goto (-22), 3) := by decide +kernel
theorem dX4_mixRegion_36 : decode cX4_mixRegion 36 = .ok (.iinc 3 1, 3) := by decide +kernel
theorem dX4_mixRegion_39 : decode cX4_mixRegion 39 = .ok (.goto (-37), 3) := by decide +kernel
theorem dX4_mixRegion_42 : decode cX4_mixRegion 42 = .ok (.aload_n 2, 1) := by decide +kernel
theorem dX4_mixRegion_43 : decode cX4_mixRegion 43 = .ok (.invokevirtual 115, 3) := by decide +kernel
theorem dX4_mixRegion_46 : decode cX4_mixRegion 46 = .ok (.istore_n 3, 1) := by decide +kernel
theorem dX4_mixRegion_47 : decode cX4_mixRegion 47 = .ok (.aload_n 2, 1) := by decide +kernel
theorem dX4_mixRegion_48 : decode cX4_mixRegion 48 = .ok (.iload_n 3, 1) := by decide +kernel
theorem dX4_mixRegion_49 : decode cX4_mixRegion 49 = .ok (.invokevirtual 119, 3) := by decide +kernel
theorem dX4_mixRegion_52 : decode cX4_mixRegion 52 = .ok (.istore 4, 2) := by decide +kernel
theorem dX4_mixRegion_54 : decode cX4_mixRegion 54 = .ok (.lload_n 0, 1) := by decide +kernel
theorem dX4_mixRegion_55 : decode cX4_mixRegion 55 = .ok (.iload_n 3, 1) := by decide +kernel
theorem dX4_mixRegion_56 : decode cX4_mixRegion 56 = .ok (.i2l, 1) := by decide +kernel
theorem dX4_mixRegion_57 : decode cX4_mixRegion 57 = .ok (.invokestatic 225, 3) := by decide +kernel
theorem dX4_mixRegion_60 : decode cX4_mixRegion 60 = .ok (.lstore_n 0, 1) := by decide +kernel
theorem dX4_mixRegion_61 : decode cX4_mixRegion 61 = .ok (.lload_n 0, 1) := by decide +kernel
theorem dX4_mixRegion_62 : decode cX4_mixRegion 62 = .ok (.iload 4, 2) := by decide +kernel
theorem dX4_mixRegion_64 : decode cX4_mixRegion 64 = .ok (.i2l, 1) := by decide +kernel
theorem dX4_mixRegion_65 : decode cX4_mixRegion 65 = .ok (.invokestatic 225, 3) := by decide +kernel
theorem dX4_mixRegion_68 : decode cX4_mixRegion 68 = .ok (.lstore_n 0, 1) := by decide +kernel
theorem dX4_mixRegion_69 : decode cX4_mixRegion 69 = .ok (.lload_n 0, 1) := by decide +kernel
theorem dX4_mixRegion_70 : decode cX4_mixRegion 70 = .ok (.aload_n 2, 1) := by decide +kernel
theorem dX4_mixRegion_71 : decode cX4_mixRegion 71 = .ok (.iload 4, 2) := by decide +kernel
theorem dX4_mixRegion_73 : decode cX4_mixRegion 73 = .ok (.invokevirtual 122, 3) := by decide +kernel
theorem dX4_mixRegion_76 : decode cX4_mixRegion 76 = .ok (.i2l, 1) := by decide +kernel
theorem dX4_mixRegion_77 : decode cX4_mixRegion 77 = .ok (.invokestatic 225, 3) := by decide +kernel
theorem dX4_mixRegion_80 : decode cX4_mixRegion 80 = .ok (.lreturn, 1) := by decide +kernel
set_option maxRecDepth 20000 in
theorem ggX4_mixBulletin_X1_hasDay : GoodIn wsX4_mixBulletin wsX1_hasDay := goodIn_r _ [7, 8, 9, 10, 6, 11, 12, 34, 35, 36] (by decide +kernel) (by decide +kernel)
set_option maxRecDepth 20000 in
theorem gX4_mixBulletin_X1_hasDay : GoodIn wsX4_mixBulletin (wsV RX4 129 RX1 yX1_hasDay wsX1_hasDay) := goodIn_app (goodIn_of _ (by decide +kernel)) ggX4_mixBulletin_X1_hasDay
set_option maxRecDepth 20000 in
theorem ggX4_mixBulletin_X4_mix : GoodIn wsX4_mixBulletin wsX4_mix := goodIn_r _ [16, 17] (by decide +kernel) (by decide +kernel)
set_option maxRecDepth 20000 in
theorem gX4_mixBulletin_X4_mix : GoodIn wsX4_mixBulletin (va_wsS RX4 225 yX4_mix wsX4_mix) := goodIn_app (goodIn_of _ (by decide +kernel)) ggX4_mixBulletin_X4_mix
set_option maxRecDepth 20000 in
theorem ggX4_mixBulletin_X1_tells : GoodIn wsX4_mixBulletin wsX1_tells := goodIn_r _ [11, 12, 34, 35, 36] (by decide +kernel) (by decide +kernel)
set_option maxRecDepth 20000 in
theorem gX4_mixBulletin_X1_tells : GoodIn wsX4_mixBulletin (wsV RX4 150 RX1 yX1_tells wsX1_tells) := goodIn_app (goodIn_of _ (by decide +kernel)) ggX4_mixBulletin_X1_tells
set_option maxRecDepth 20000 in
theorem ggX4_mixBulletin_X1_read : GoodIn wsX4_mixBulletin wsX1_read := goodIn_r _ [22, 23, 24, 25, 6, 26, 34, 35, 36] (by decide +kernel) (by decide +kernel)
set_option maxRecDepth 20000 in
theorem gX4_mixBulletin_X1_read : GoodIn wsX4_mixBulletin (wsV RX4 158 RX1 yX1_read wsX1_read) := goodIn_app (goodIn_of _ (by decide +kernel)) ggX4_mixBulletin_X1_read
theorem dX4_mixBulletin_0 : decode cX4_mixBulletin 0 = .ok (.aload_n 0, 1) := by decide +kernel
theorem dX4_mixBulletin_1 : decode cX4_mixBulletin 1 = .ok (.getfield 23, 3) := by decide +kernel
theorem dX4_mixBulletin_4 : decode cX4_mixBulletin 4 = .ok (.iload_n 3, 1) := by decide +kernel
theorem dX4_mixBulletin_5 : decode cX4_mixBulletin 5 = .ok (.invokevirtual 129, 3) := by decide +kernel
theorem dX4_mixBulletin_8 : decode cX4_mixBulletin 8 = .ok (.ifCond .ne 5, 3) := by decide +kernel
theorem dX4_mixBulletin_11 : decode cX4_mixBulletin 11 = .ok (.lload_n 1, 1) := by decide +kernel
theorem dX4_mixBulletin_12 : decode cX4_mixBulletin 12 = .ok (.lreturn, 1) := by decide +kernel
theorem dX4_mixBulletin_13 : decode cX4_mixBulletin 13 = .ok (.lload_n 1, 1) := by decide +kernel
theorem dX4_mixBulletin_14 : decode cX4_mixBulletin 14 = .ok (.iload_n 3, 1) := by decide +kernel
theorem dX4_mixBulletin_15 : decode cX4_mixBulletin 15 = .ok (.i2l, 1) := by decide +kernel
theorem dX4_mixBulletin_16 : decode cX4_mixBulletin 16 = .ok (.invokestatic 225, 3) := by decide +kernel
theorem dX4_mixBulletin_19 : decode cX4_mixBulletin 19 = .ok (.lstore_n 1, 1) := by decide +kernel
theorem dX4_mixBulletin_20 : decode cX4_mixBulletin 20 = .ok (.iconst 0, 1) := by decide +kernel
theorem dX4_mixBulletin_21 : decode cX4_mixBulletin 21 = .ok (.istore 4, 2) := by decide +kernel
theorem dX4_mixBulletin_23 : decode cX4_mixBulletin 23 = .ok (.iload 4, 2) := by decide +kernel
theorem dX4_mixBulletin_25 : decode cX4_mixBulletin 25 = .ok (.aload_n 0, 1) := by decide +kernel
theorem dX4_mixBulletin_26 : decode cX4_mixBulletin 26 = .ok (.getfield 41, 3) := by decide +kernel
theorem dX4_mixBulletin_29 : decode cX4_mixBulletin 29 = .ok (.if_icmp .ge 55, 3) := by decide +kernel
theorem dX4_mixBulletin_32 : decode cX4_mixBulletin 32 = .ok (.aload_n 0, 1) := by decide +kernel
theorem dX4_mixBulletin_33 : decode cX4_mixBulletin 33 = .ok (.getfield 23, 3) := by decide +kernel
theorem dX4_mixBulletin_36 : decode cX4_mixBulletin 36 = .ok (.iload_n 3, 1) := by decide +kernel
theorem dX4_mixBulletin_37 : decode cX4_mixBulletin 37 = .ok (.iload 4, 2) := by decide +kernel
theorem dX4_mixBulletin_39 : decode cX4_mixBulletin 39 = .ok (.invokevirtual 150, 3) := by decide +kernel
theorem dX4_mixBulletin_42 : decode cX4_mixBulletin 42 = .ok (.ifCond .eq 42, 3) := by decide +kernel
theorem dX4_mixBulletin_45 : decode cX4_mixBulletin 45 = .ok (.iconst 0, 1) := by decide +kernel
theorem dX4_mixBulletin_46 : decode cX4_mixBulletin 46 = .ok (.istore 5, 2) := by decide +kernel
theorem dX4_mixBulletin_48 : decode cX4_mixBulletin 48 = .ok (.iload 5, 2) := by decide +kernel
theorem dX4_mixBulletin_50 : decode cX4_mixBulletin 50 = .ok (.iconst 3, 1) := by decide +kernel
theorem dX4_mixBulletin_51 : decode cX4_mixBulletin 51 = .ok (.if_icmp .ge 27, 3) := by decide +kernel
theorem dX4_mixBulletin_54 : decode cX4_mixBulletin 54 = .ok (.lload_n 1, 1) := by decide +kernel
theorem dX4_mixBulletin_55 : decode cX4_mixBulletin 55 = .ok (.aload_n 0, 1) := by decide +kernel
theorem dX4_mixBulletin_56 : decode cX4_mixBulletin 56 = .ok (.getfield 23, 3) := by decide +kernel
theorem dX4_mixBulletin_59 : decode cX4_mixBulletin 59 = .ok (.iload_n 3, 1) := by decide +kernel
theorem dX4_mixBulletin_60 : decode cX4_mixBulletin 60 = .ok (.iload 4, 2) := by decide +kernel
theorem dX4_mixBulletin_62 : decode cX4_mixBulletin 62 = .ok (.iload 5, 2) := by decide +kernel
theorem dX4_mixBulletin_64 : decode cX4_mixBulletin 64 = .ok (.invokevirtual 158, 3) := by decide +kernel
theorem dX4_mixBulletin_67 : decode cX4_mixBulletin 67 = .ok (.i2l, 1) := by decide +kernel
theorem dX4_mixBulletin_68 : decode cX4_mixBulletin 68 = .ok (.invokestatic 225, 3) := by decide +kernel
theorem dX4_mixBulletin_71 : decode cX4_mixBulletin 71 = .ok (.lstore_n 1, 1) := by decide +kernel
theorem dX4_mixBulletin_72 : decode cX4_mixBulletin 72 = .ok (.iinc 5 1, 3) := by decide +kernel
theorem dX4_mixBulletin_75 : decode cX4_mixBulletin 75 = .ok (.goto (-27), 3) := by decide +kernel
theorem dX4_mixBulletin_78 : decode cX4_mixBulletin 78 = .ok (.iinc 4 1, 3) := by decide +kernel
theorem dX4_mixBulletin_81 : decode cX4_mixBulletin 81 = .ok (.goto (-58), 3) := by decide +kernel
theorem dX4_mixBulletin_84 : decode cX4_mixBulletin 84 = .ok (.lload_n 1, 1) := by decide +kernel
theorem dX4_mixBulletin_85 : decode cX4_mixBulletin 85 = .ok (.lreturn, 1) := by decide +kernel
set_option maxRecDepth 20000 in
theorem ggX4_mixRoute_X4_mix : GoodIn wsX4_mixRoute wsX4_mix := goodIn_r _ [5, 6] (by decide +kernel) (by decide +kernel)
set_option maxRecDepth 20000 in
theorem gX4_mixRoute_X4_mix : GoodIn wsX4_mixRoute (va_wsS RX4 225 yX4_mix wsX4_mix) := goodIn_app (goodIn_of _ (by decide +kernel)) ggX4_mixRoute_X4_mix
theorem dX4_mixRoute_0 : decode cX4_mixRoute 0 = .ok (.lload_n 1, 1) := by decide +kernel
theorem dX4_mixRoute_1 : decode cX4_mixRoute 1 = .ok (.aload_n 0, 1) := by decide +kernel
theorem dX4_mixRoute_2 : decode cX4_mixRoute 2 = .ok (.getfield 37, 3) := by decide +kernel
theorem dX4_mixRoute_5 : decode cX4_mixRoute 5 = .ok (.getfield 210, 3) := by decide +kernel
theorem dX4_mixRoute_8 : decode cX4_mixRoute 8 = .ok (.i2l, 1) := by decide +kernel
theorem dX4_mixRoute_9 : decode cX4_mixRoute 9 = .ok (.invokestatic 225, 3) := by decide +kernel
theorem dX4_mixRoute_12 : decode cX4_mixRoute 12 = .ok (.lstore_n 1, 1) := by decide +kernel
theorem dX4_mixRoute_13 : decode cX4_mixRoute 13 = .ok (.iconst 0, 1) := by decide +kernel
theorem dX4_mixRoute_14 : decode cX4_mixRoute 14 = .ok (.istore_n 3, 1) := by decide +kernel
theorem dX4_mixRoute_15 : decode cX4_mixRoute 15 = .ok (.iload_n 3, 1) := by decide +kernel
theorem dX4_mixRoute_16 : decode cX4_mixRoute 16 = .ok (.aload_n 0, 1) := by decide +kernel
theorem dX4_mixRoute_17 : decode cX4_mixRoute 17 = .ok (.getfield 37, 3) := by decide +kernel
theorem dX4_mixRoute_20 : decode cX4_mixRoute 20 = .ok (.getfield 210, 3) := by decide +kernel
theorem dX4_mixRoute_23 : decode cX4_mixRoute 23 = .ok (.if_icmp .ge 39, 3) := by decide +kernel
theorem dX4_mixRoute_26 : decode cX4_mixRoute 26 = .ok (.lload_n 1, 1) := by decide +kernel
theorem dX4_mixRoute_27 : decode cX4_mixRoute 27 = .ok (.aload_n 0, 1) := by decide +kernel
theorem dX4_mixRoute_28 : decode cX4_mixRoute 28 = .ok (.getfield 37, 3) := by decide +kernel
theorem dX4_mixRoute_31 : decode cX4_mixRoute 31 = .ok (.getfield 266, 3) := by decide +kernel
theorem dX4_mixRoute_34 : decode cX4_mixRoute 34 = .ok (.iload_n 3, 1) := by decide +kernel
theorem dX4_mixRoute_35 : decode cX4_mixRoute 35 = .ok (.iaload, 1) := by decide +kernel
theorem dX4_mixRoute_36 : decode cX4_mixRoute 36 = .ok (.i2l, 1) := by decide +kernel
theorem dX4_mixRoute_37 : decode cX4_mixRoute 37 = .ok (.invokestatic 225, 3) := by decide +kernel
theorem dX4_mixRoute_40 : decode cX4_mixRoute 40 = .ok (.lstore_n 1, 1) := by decide +kernel
theorem dX4_mixRoute_41 : decode cX4_mixRoute 41 = .ok (.lload_n 1, 1) := by decide +kernel
theorem dX4_mixRoute_42 : decode cX4_mixRoute 42 = .ok (.aload_n 0, 1) := by decide +kernel
theorem dX4_mixRoute_43 : decode cX4_mixRoute 43 = .ok (.getfield 37, 3) := by decide +kernel
theorem dX4_mixRoute_46 : decode cX4_mixRoute 46 = .ok (.getfield 267, 3) := by decide +kernel
theorem dX4_mixRoute_49 : decode cX4_mixRoute 49 = .ok (.iload_n 3, 1) := by decide +kernel
theorem dX4_mixRoute_50 : decode cX4_mixRoute 50 = .ok (.iaload, 1) := by decide +kernel
theorem dX4_mixRoute_51 : decode cX4_mixRoute 51 = .ok (.i2l, 1) := by decide +kernel
theorem dX4_mixRoute_52 : decode cX4_mixRoute 52 = .ok (.invokestatic 225, 3) := by decide +kernel
theorem dX4_mixRoute_55 : decode cX4_mixRoute 55 = .ok (.lstore_n 1, 1) := by decide +kernel
theorem dX4_mixRoute_56 : decode cX4_mixRoute 56 = .ok (.iinc 3 1, 3) := by decide +kernel
theorem dX4_mixRoute_59 : decode cX4_mixRoute 59 = .ok (.goto (-44), 3) := by decide +kernel
theorem dX4_mixRoute_62 : decode cX4_mixRoute 62 = .ok (.lload_n 1, 1) := by decide +kernel
theorem dX4_mixRoute_63 : decode cX4_mixRoute 63 = .ok (.lreturn, 1) := by decide +kernel
set_option maxRecDepth 20000 in
theorem ggX5_init_X5_calm : GoodIn wsX5_init wsX5_calm := goodIn_r _ [18, 8, 6, 19, 20, 21, 22, 23, 24, 25, 26, 27, 28, 29, 30, 31] (by decide +kernel) (by decide +kernel)
set_option maxRecDepth 20000 in
theorem gX5_init_X5_calm : GoodIn wsX5_init (wsV RX5 35 RX5 yX5_calm wsX5_calm) := goodIn_app (goodIn_of _ (by decide +kernel)) ggX5_init_X5_calm
theorem dX5_init_0 : decode cX5_init 0 = .ok (.aload_n 0, 1) := by decide +kernel
theorem dX5_init_1 : decode cX5_init 1 = .ok (.invokespecial 1, 3) := by decide +kernel
theorem dX5_init_4 : decode cX5_init 4 = .ok (.aload_n 0, 1) := by decide +kernel
theorem dX5_init_5 : decode cX5_init 5 = .ok (.sipush 360, 3) := by decide +kernel
theorem dX5_init_8 : decode cX5_init 8 = .ok (.newarray .int, 2) := by decide +kernel
theorem dX5_init_10 : decode cX5_init 10 = .ok (.putfield 9, 3) := by decide +kernel
theorem dX5_init_13 : decode cX5_init 13 = .ok (.aload_n 0, 1) := by decide +kernel
theorem dX5_init_14 : decode cX5_init 14 = .ok (.bipush 24, 2) := by decide +kernel
theorem dX5_init_16 : decode cX5_init 16 = .ok (.newarray .int, 2) := by decide +kernel
theorem dX5_init_18 : decode cX5_init 18 = .ok (.putfield 13, 3) := by decide +kernel
theorem dX5_init_21 : decode cX5_init 21 = .ok (.aload_n 0, 1) := by decide +kernel
theorem dX5_init_22 : decode cX5_init 22 = .ok (.bipush 6, 2) := by decide +kernel
theorem dX5_init_24 : decode cX5_init 24 = .ok (.newarray .boolean, 2) := by decide +kernel
theorem dX5_init_26 : decode cX5_init 26 = .ok (.putfield 16, 3) := by decide +kernel
theorem dX5_init_29 : decode cX5_init 29 = .ok (.aload_n 0, 1) := by decide +kernel
theorem dX5_init_30 : decode cX5_init 30 = .ok (.bipush 61, 2) := by decide +kernel
theorem dX5_init_32 : decode cX5_init 32 = .ok (.newarray .int, 2) := by decide +kernel
theorem dX5_init_34 : decode cX5_init 34 = .ok (.putfield 20, 3) := by decide +kernel
theorem dX5_init_37 : decode cX5_init 37 = .ok (.aload_n 0, 1) := by decide +kernel
theorem dX5_init_38 : decode cX5_init 38 = .ok (.sipush 1098, 3) := by decide +kernel
theorem dX5_init_41 : decode cX5_init 41 = .ok (.newarray .int, 2) := by decide +kernel
theorem dX5_init_43 : decode cX5_init 43 = .ok (.putfield 23, 3) := by decide +kernel
theorem dX5_init_46 : decode cX5_init 46 = .ok (.aload_n 0, 1) := by decide +kernel
theorem dX5_init_47 : decode cX5_init 47 = .ok (.sipush 800, 3) := by decide +kernel
theorem dX5_init_50 : decode cX5_init 50 = .ok (.newarray .int, 2) := by decide +kernel
theorem dX5_init_52 : decode cX5_init 52 = .ok (.putfield 26, 3) := by decide +kernel
theorem dX5_init_55 : decode cX5_init 55 = .ok (.aload_n 0, 1) := by decide +kernel
theorem dX5_init_56 : decode cX5_init 56 = .ok (.bipush 20, 2) := by decide +kernel
theorem dX5_init_58 : decode cX5_init 58 = .ok (.newarray .int, 2) := by decide +kernel
theorem dX5_init_60 : decode cX5_init 60 = .ok (.putfield 29, 3) := by decide +kernel
theorem dX5_init_63 : decode cX5_init 63 = .ok (.aload_n 0, 1) := by decide +kernel
theorem dX5_init_64 : decode cX5_init 64 = .ok (.bipush 20, 2) := by decide +kernel
theorem dX5_init_66 : decode cX5_init 66 = .ok (.newarray .int, 2) := by decide +kernel
theorem dX5_init_68 : decode cX5_init 68 = .ok (.putfield 32, 3) := by decide +kernel
theorem dX5_init_71 : decode cX5_init 71 = .ok (.aload_n 0, 1) := by decide +kernel
theorem dX5_init_72 : decode cX5_init 72 = .ok (.invokevirtual 35, 3) := by decide +kernel
theorem dX5_init_75 : decode cX5_init 75 = .ok (.return_, 1) := by decide +kernel
theorem dX5_thrown_0 : decode cX5_thrown 0 = .ok (.aload_n 0, 1) := by decide +kernel
theorem dX5_thrown_1 : decode cX5_thrown 1 = .ok (.getfield 38, 3) := by decide +kernel
theorem dX5_thrown_4 : decode cX5_thrown 4 = .ok (.ireturn, 1) := by decide +kernel
theorem dX5_no_0 : decode cX5_no 0 = .ok (.aload_n 0, 1) := by decide +kernel
theorem dX5_no_1 : decode cX5_no 1 = .ok (.iload_n 1, 1) := by decide +kernel
theorem dX5_no_2 : decode cX5_no 2 = .ok (.putfield 38, 3) := by decide +kernel
theorem dX5_no_5 : decode cX5_no 5 = .ok (.iconst 0, 1) := by decide +kernel
theorem dX5_no_6 : decode cX5_no 6 = .ok (.ireturn, 1) := by decide +kernel
theorem dX5_isIn_0 : decode cX5_isIn 0 = .ok (.iload_n 0, 1) := by decide +kernel
theorem dX5_isIn_1 : decode cX5_isIn 1 = .ok (.iload_n 1, 1) := by decide +kernel
theorem dX5_isIn_2 : decode cX5_isIn 2 = .ok (.if_icmp .lt 12, 3) := by decide +kernel
theorem dX5_isIn_5 : decode cX5_isIn 5 = .ok (.iload_n 0, 1) := by decide +kernel
theorem dX5_isIn_6 : decode cX5_isIn 6 = .ok (.iload_n 2, 1) := by decide +kernel
theorem dX5_isIn_7 : decode cX5_isIn 7 = .ok (.if_icmp .gt 7, 3) := by decide +kernel
theorem dX5_isIn_10 : decode cX5_isIn 10 = .ok (.iconst 1, 1) := by decide +kernel
theorem dX5_isIn_11 : decode cX5_isIn 11 = .ok (.goto 4, 3) := by decide +kernel
theorem dX5_isIn_14 : decode cX5_isIn 14 = .ok (.iconst 0, 1) := by decide +kernel
theorem dX5_isIn_15 : decode cX5_isIn 15 = .ok (.ireturn, 1) := by decide +kernel
set_option maxRecDepth 20000 in
theorem ggX5_isRegion_X5_isIn : GoodIn wsX5_isRegion wsX5_isIn := goodIn_r _ [5] (by decide +kernel) (by decide +kernel)
set_option maxRecDepth 20000 in
theorem gX5_isRegion_X5_isIn : GoodIn wsX5_isRegion (va_wsS RX5 45 yX5_isIn wsX5_isIn) := goodIn_app (goodIn_of _ (by decide +kernel)) ggX5_isRegion_X5_isIn
theorem dX5_isRegion_0 : decode cX5_isRegion 0 = .ok (.iload_n 1, 1) := by decide +kernel
theorem dX5_isRegion_1 : decode cX5_isRegion 1 = .ok (.iconst 0, 1) := by decide +kernel
theorem dX5_isRegion_2 : decode cX5_isRegion 2 = .ok (.aload_n 0, 1) := by decide +kernel
theorem dX5_isRegion_3 : decode cX5_isRegion 3 = .ok (.getfield 42, 3) := by decide +kernel
theorem dX5_isRegion_6 : decode cX5_isRegion 6 = .ok (.iconst 1, 1) := by decide +kernel
theorem dX5_isRegion_7 : decode cX5_isRegion 7 = .ok (.isub, 1) := by decide +kernel
theorem dX5_isRegion_8 : decode cX5_isRegion 8 = .ok (.invokestatic 45, 3) := by decide +kernel
theorem dX5_isRegion_11 : decode cX5_isRegion 11 = .ok (.ireturn, 1) := by decide +kernel
set_option maxRecDepth 20000 in
theorem ggX5_isSector_X5_isRegion : GoodIn wsX5_isSector wsX5_isRegion := goodIn_r _ [5, 6, 7, 8, 4, 9, 10, 11, 12, 13, 14, 15, 16, 17, 18, 19, 20, 21, 22] (by decide +kernel) (by decide +kernel)
set_option maxRecDepth 20000 in
theorem gX5_isSector_X5_isRegion : GoodIn wsX5_isSector (wsV RX5 49 RX5 yX5_isRegion wsX5_isRegion) := goodIn_app (goodIn_of _ (by decide +kernel)) ggX5_isSector_X5_isRegion
set_option maxRecDepth 20000 in
theorem ggX5_isSector_X5_isIn : GoodIn wsX5_isSector wsX5_isIn := goodIn_r _ [9] (by decide +kernel) (by decide +kernel)
set_option maxRecDepth 20000 in
theorem gX5_isSector_X5_isIn : GoodIn wsX5_isSector (va_wsS RX5 45 yX5_isIn wsX5_isIn) := goodIn_app (goodIn_of _ (by decide +kernel)) ggX5_isSector_X5_isIn
theorem dX5_isSector_0 : decode cX5_isSector 0 = .ok (.aload_n 0, 1) := by decide +kernel
theorem dX5_isSector_1 : decode cX5_isSector 1 = .ok (.iload_n 1, 1) := by decide +kernel
theorem dX5_isSector_2 : decode cX5_isSector 2 = .ok (.invokevirtual 49, 3) := by decide +kernel
theorem dX5_isSector_5 : decode cX5_isSector 5 = .ok (.ifCond .eq 17, 3) := by decide +kernel
theorem dX5_isSector_8 : decode cX5_isSector 8 = .ok (.iload_n 2, 1) := by decide +kernel
theorem dX5_isSector_9 : decode cX5_isSector 9 = .ok (.iconst 0, 1) := by decide +kernel
theorem dX5_isSector_10 : decode cX5_isSector 10 = .ok (.bipush 11, 2) := by decide +kernel
theorem dX5_isSector_12 : decode cX5_isSector 12 = .ok (.invokestatic 45, 3) := by decide +kernel
theorem dX5_isSector_15 : decode cX5_isSector 15 = .ok (.ifCond .eq 7, 3) := by decide +kernel
theorem dX5_isSector_18 : decode cX5_isSector 18 = .ok (.iconst 1, 1) := by decide +kernel
theorem dX5_isSector_19 : decode cX5_isSector 19 = .ok (.goto 4, 3) := by decide +kernel
theorem dX5_isSector_22 : decode cX5_isSector 22 = .ok (.iconst 0, 1) := by decide +kernel
theorem dX5_isSector_23 : decode cX5_isSector 23 = .ok (.ireturn, 1) := by decide +kernel
theorem dX5_most_0 : decode cX5_most 0 = .ok (.iload_n 0, 1) := by decide +kernel
theorem dX5_most_1 : decode cX5_most 1 = .ok (.iconst 4, 1) := by decide +kernel
theorem dX5_most_2 : decode cX5_most 2 = .ok (.if_icmp .ne 8, 3) := by decide +kernel
theorem dX5_most_5 : decode cX5_most 5 = .ok (.bipush 10, 2) := by decide +kernel
theorem dX5_most_7 : decode cX5_most 7 = .ok (.goto 5, 3) := by decide +kernel
theorem dX5_most_10 : decode cX5_most 10 = .ok (.bipush 100, 2) := by decide +kernel
theorem dX5_most_12 : decode cX5_most 12 = .ok (.ireturn, 1) := by decide +kernel
theorem dX5_at_0 : decode cX5_at 0 = .ok (.bipush 12, 2) := by decide +kernel
theorem dX5_at_2 : decode cX5_at 2 = .ok (.iload_n 0, 1) := by decide +kernel
theorem dX5_at_3 : decode cX5_at 3 = .ok (.imul, 1) := by decide +kernel
theorem dX5_at_4 : decode cX5_at 4 = .ok (.iload_n 1, 1) := by decide +kernel
theorem dX5_at_5 : decode cX5_at 5 = .ok (.iadd, 1) := by decide +kernel
theorem dX5_at_6 : decode cX5_at 6 = .ok (.iconst 5, 1) := by decide +kernel
theorem dX5_at_7 : decode cX5_at 7 = .ok (.imul, 1) := by decide +kernel
theorem dX5_at_8 : decode cX5_at 8 = .ok (.ireturn, 1) := by decide +kernel
theorem dX5_calm_0 : decode cX5_calm 0 = .ok (.iconst 0, 1) := by decide +kernel
theorem dX5_calm_1 : decode cX5_calm 1 = .ok (.istore_n 1, 1) := by decide +kernel
theorem dX5_calm_2 : decode cX5_calm 2 = .ok (.iload_n 1, 1) := by decide +kernel
theorem dX5_calm_3 : decode cX5_calm 3 = .ok (.bipush 6, 2) := by decide +kernel
theorem dX5_calm_5 : decode cX5_calm 5 = .ok (.if_icmp .ge 50, 3) := by decide +kernel
theorem dX5_calm_8 : decode cX5_calm 8 = .ok (.aload_n 0, 1) := by decide +kernel
theorem dX5_calm_9 : decode cX5_calm 9 = .ok (.getfield 16, 3) := by decide +kernel
theorem dX5_calm_12 : decode cX5_calm 12 = .ok (.iload_n 1, 1) := by decide +kernel
theorem dX5_calm_13 : decode cX5_calm 13 = .ok (.iconst 0, 1) := by decide +kernel
theorem dX5_calm_14 : decode cX5_calm 14 = .ok (.bastore, 1) := by decide +kernel
theorem dX5_calm_15 : decode cX5_calm 15 = .ok (.iconst 0, 1) := by decide +kernel
theorem dX5_calm_16 : decode cX5_calm 16 = .ok (.istore_n 2, 1) := by decide +kernel
theorem dX5_calm_17 : decode cX5_calm 17 = .ok (.iload_n 2, 1) := by decide +kernel
theorem dX5_calm_18 : decode cX5_calm 18 = .ok (.iconst 4, 1) := by decide +kernel
theorem dX5_calm_19 : decode cX5_calm 19 = .ok (.if_icmp .ge 30, 3) := by decide +kernel
theorem dX5_calm_22 : decode cX5_calm 22 = .ok (.aload_n 0, 1) := by decide +kernel
theorem dX5_calm_23 : decode cX5_calm 23 = .ok (.getfield 13, 3) := by decide +kernel
theorem dX5_calm_26 : decode cX5_calm 26 = .ok (.iconst 4, 1) := by decide +kernel
theorem dX5_calm_27 : decode cX5_calm 27 = .ok (.iload_n 1, 1) := by decide +kernel
theorem dX5_calm_28 : decode cX5_calm 28 = .ok (.imul, 1) := by decide +kernel
theorem dX5_calm_29 : decode cX5_calm 29 = .ok (.iload_n 2, 1) := by decide +kernel
theorem dX5_calm_30 : decode cX5_calm 30 = .ok (.iadd, 1) := by decide +kernel
theorem dX5_calm_31 : decode cX5_calm 31 = .ok (.iload_n 2, 1) := by decide +kernel
theorem dX5_calm_32 : decode cX5_calm 32 = .ok (.iconst 3, 1) := by decide +kernel
theorem dX5_calm_33 : decode cX5_calm 33 = .ok (.if_icmp .ne 8, 3) := by decide +kernel
theorem dX5_calm_36 : decode cX5_calm 36 = .ok (.bipush (-5), 2) := by decide +kernel
theorem dX5_calm_38 : decode cX5_calm 38 = .ok (.goto 4, 3) := by decide +kernel
theorem dX5_calm_41 : decode cX5_calm 41 = .ok (.iconst 0, 1) := by decide +kernel
theorem dX5_calm_42 : decode cX5_calm 42 = .ok (.iastore, 1) := by decide +kernel
theorem dX5_calm_43 : decode cX5_calm 43 = .ok (.iinc 2 1, 3) := by decide +kernel
theorem dX5_calm_46 : decode cX5_calm 46 = .ok (.goto (-29), 3) := by decide +kernel
theorem dX5_calm_49 : decode cX5_calm 49 = .ok (.iinc 1 1, 3) := by decide +kernel
theorem dX5_calm_52 : decode cX5_calm 52 = .ok (.goto (-50), 3) := by decide +kernel
theorem dX5_calm_55 : decode cX5_calm 55 = .ok (.return_, 1) := by decide +kernel
set_option maxRecDepth 20000 in
theorem ggX5_addRegion_X5_no : GoodIn wsX5_addRegion wsX5_no := goodIn_r _ [7, 1, 8, 9, 10, 11, 12, 13, 14, 15, 16, 17, 18, 19, 20] (by decide +kernel) (by decide +kernel)
set_option maxRecDepth 20000 in
theorem gX5_addRegion_X5_no : GoodIn wsX5_addRegion (wsV RX5 53 RX5 yX5_no wsX5_no) := goodIn_app (goodIn_of _ (by decide +kernel)) ggX5_addRegion_X5_no
theorem dX5_addRegion_0 : decode cX5_addRegion 0 = .ok (.aload_n 0, 1) := by decide +kernel
theorem dX5_addRegion_1 : decode cX5_addRegion 1 = .ok (.iconst 0, 1) := by decide +kernel
theorem dX5_addRegion_2 : decode cX5_addRegion 2 = .ok (.putfield 38, 3) := by decide +kernel
theorem dX5_addRegion_5 : decode cX5_addRegion 5 = .ok (.aload_n 0, 1) := by decide +kernel
theorem dX5_addRegion_6 : decode cX5_addRegion 6 = .ok (.getfield 42, 3) := by decide +kernel
theorem dX5_addRegion_9 : decode cX5_addRegion 9 = .ok (.bipush 6, 2) := by decide +kernel
theorem dX5_addRegion_11 : decode cX5_addRegion 11 = .ok (.if_icmp .ne 9, 3) := by decide +kernel
theorem dX5_addRegion_14 : decode cX5_addRegion 14 = .ok (.aload_n 0, 1) := by decide +kernel
theorem dX5_addRegion_15 : decode cX5_addRegion 15 = .ok (.iconst 1, 1) := by decide +kernel
theorem dX5_addRegion_16 : decode cX5_addRegion 16 = .ok (.invokevirtual 53, 3) := by decide +kernel
theorem dX5_addRegion_19 : decode cX5_addRegion 19 = .ok (.ireturn, 1) := by decide +kernel
theorem dX5_addRegion_20 : decode cX5_addRegion 20 = .ok (.aload_n 0, 1) := by decide +kernel
theorem dX5_addRegion_21 : decode cX5_addRegion 21 = .ok (.dup, 1) := by decide +kernel
theorem dX5_addRegion_22 : decode cX5_addRegion 22 = .ok (.getfield 42, 3) := by decide +kernel
theorem dX5_addRegion_25 : decode cX5_addRegion 25 = .ok (.iconst 1, 1) := by decide +kernel
theorem dX5_addRegion_26 : decode cX5_addRegion 26 = .ok (.iadd, 1) := by decide +kernel
theorem dX5_addRegion_27 : decode cX5_addRegion 27 = .ok (.putfield 42, 3) := by decide +kernel
theorem dX5_addRegion_30 : decode cX5_addRegion 30 = .ok (.aload_n 0, 1) := by decide +kernel
theorem dX5_addRegion_31 : decode cX5_addRegion 31 = .ok (.getfield 42, 3) := by decide +kernel
theorem dX5_addRegion_34 : decode cX5_addRegion 34 = .ok (.iconst 1, 1) := by decide +kernel
theorem dX5_addRegion_35 : decode cX5_addRegion 35 = .ok (.isub, 1) := by decide +kernel
theorem dX5_addRegion_36 : decode cX5_addRegion 36 = .ok (.ireturn, 1) := by decide +kernel
set_option maxRecDepth 20000 in
theorem ggX5_isWeather_X5_isIn : GoodIn wsX5_isWeather wsX5_isIn := goodIn_r _ [4] (by decide +kernel) (by decide +kernel)
set_option maxRecDepth 20000 in
theorem gX5_isWeather_X5_isIn : GoodIn wsX5_isWeather (va_wsS RX5 45 yX5_isIn wsX5_isIn) := goodIn_app (goodIn_of _ (by decide +kernel)) ggX5_isWeather_X5_isIn
theorem dX5_isWeather_0 : decode cX5_isWeather 0 = .ok (.iload_n 0, 1) := by decide +kernel
theorem dX5_isWeather_1 : decode cX5_isWeather 1 = .ok (.iconst 0, 1) := by decide +kernel
theorem dX5_isWeather_2 : decode cX5_isWeather 2 = .ok (.sipush 150, 3) := by decide +kernel
theorem dX5_isWeather_5 : decode cX5_isWeather 5 = .ok (.invokestatic 45, 3) := by decide +kernel
theorem dX5_isWeather_8 : decode cX5_isWeather 8 = .ok (.ifCond .eq 37, 3) := by decide +kernel
theorem dX5_isWeather_11 : decode cX5_isWeather 11 = .ok (.iload_n 1, 1) := by decide +kernel
theorem dX5_isWeather_12 : decode cX5_isWeather 12 = .ok (.iconst 0, 1) := by decide +kernel
theorem dX5_isWeather_13 : decode cX5_isWeather 13 = .ok (.bipush 120, 2) := by decide +kernel
theorem dX5_isWeather_15 : decode cX5_isWeather 15 = .ok (.invokestatic 45, 3) := by decide +kernel
theorem dX5_isWeather_18 : decode cX5_isWeather 18 = .ok (.ifCond .eq 27, 3) := by decide +kernel
theorem dX5_isWeather_21 : decode cX5_isWeather 21 = .ok (.iload_n 2, 1) := by decide +kernel
theorem dX5_isWeather_22 : decode cX5_isWeather 22 = .ok (.iconst 0, 1) := by decide +kernel
theorem dX5_isWeather_23 : decode cX5_isWeather 23 = .ok (.iconst 3, 1) := by decide +kernel
theorem dX5_isWeather_24 : decode cX5_isWeather 24 = .ok (.invokestatic 45, 3) := by decide +kernel
theorem dX5_isWeather_27 : decode cX5_isWeather 27 = .ok (.ifCond .eq 18, 3) := by decide +kernel
theorem dX5_isWeather_30 : decode cX5_isWeather 30 = .ok (.iload_n 3, 1) := by decide +kernel
theorem dX5_isWeather_31 : decode cX5_isWeather 31 = .ok (.bipush (-30), 2) := by decide +kernel
theorem dX5_isWeather_33 : decode cX5_isWeather 33 = .ok (.bipush 15, 2) := by decide +kernel
theorem dX5_isWeather_35 : decode cX5_isWeather 35 = .ok (.invokestatic 45, 3) := by decide +kernel
theorem dX5_isWeather_38 : decode cX5_isWeather 38 = .ok (.ifCond .eq 7, 3) := by decide +kernel
theorem dX5_isWeather_41 : decode cX5_isWeather 41 = .ok (.iconst 1, 1) := by decide +kernel
theorem dX5_isWeather_42 : decode cX5_isWeather 42 = .ok (.goto 4, 3) := by decide +kernel
theorem dX5_isWeather_45 : decode cX5_isWeather 45 = .ok (.iconst 0, 1) := by decide +kernel
theorem dX5_isWeather_46 : decode cX5_isWeather 46 = .ok (.ireturn, 1) := by decide +kernel
set_option maxRecDepth 20000 in
theorem ggX5_weather_X5_isRegion : GoodIn wsX5_weather wsX5_isRegion := goodIn_r _ [8, 9, 10, 11, 7, 12, 16, 17, 18, 19, 20, 21, 22, 23, 24, 25, 26, 27, 28] (by decide +kernel) (by decide +kernel)
set_option maxRecDepth 20000 in
theorem gX5_weather_X5_isRegion : GoodIn wsX5_weather (wsV RX5 49 RX5 yX5_isRegion wsX5_isRegion) := goodIn_app (goodIn_of _ (by decide +kernel)) ggX5_weather_X5_isRegion
set_option maxRecDepth 20000 in
theorem ggX5_weather_X5_isWeather : GoodIn wsX5_weather wsX5_isWeather := goodIn_r _ [15, 10, 11, 7, 12] (by decide +kernel) (by decide +kernel)
set_option maxRecDepth 20000 in
theorem gX5_weather_X5_isWeather : GoodIn wsX5_weather (va_wsS RX5 57 yX5_isWeather wsX5_isWeather) := goodIn_app (goodIn_of _ (by decide +kernel)) ggX5_weather_X5_isWeather
theorem dX5_weather_0 : decode cX5_weather 0 = .ok (.aload_n 0, 1) := by decide +kernel
theorem dX5_weather_1 : decode cX5_weather 1 = .ok (.aload_n 0, 1) := by decide +kernel
theorem dX5_weather_2 : decode cX5_weather 2 = .ok (.iload_n 1, 1) := by decide +kernel
theorem dX5_weather_3 : decode cX5_weather 3 = .ok (.invokevirtual 49, 3) := by decide +kernel
theorem dX5_weather_6 : decode cX5_weather 6 = .ok (.ifCond .ne 7, 3) := by decide +kernel
theorem dX5_weather_9 : decode cX5_weather 9 = .ok (.iconst 1, 1) := by decide +kernel
theorem dX5_weather_10 : decode cX5_weather 10 = .ok (.goto 20, 3) := by decide +kernel
theorem dX5_weather_13 : decode cX5_weather 13 = .ok (.iload_n 2, 1) := by decide +kernel
theorem dX5_weather_14 : decode cX5_weather 14 = .ok (.iload_n 3, 1) := by decide +kernel
theorem dX5_weather_15 : decode cX5_weather 15 = .ok (.iload 4, 2) := by decide +kernel
theorem dX5_weather_17 : decode cX5_weather 17 = .ok (.iload 5, 2) := by decide +kernel
theorem dX5_weather_19 : decode cX5_weather 19 = .ok (.invokestatic 57, 3) := by decide +kernel
theorem dX5_weather_22 : decode cX5_weather 22 = .ok (.ifCond .ne 7, 3) := by decide +kernel
theorem dX5_weather_25 : decode cX5_weather 25 = .ok (.iconst 2, 1) := by decide +kernel
theorem dX5_weather_26 : decode cX5_weather 26 = .ok (.goto 4, 3) := by decide +kernel
theorem dX5_weather_29 : decode cX5_weather 29 = .ok (.iconst 0, 1) := by decide +kernel
theorem dX5_weather_30 : decode cX5_weather 30 = .ok (.putfield 38, 3) := by decide +kernel
theorem dX5_weather_33 : decode cX5_weather 33 = .ok (.aload_n 0, 1) := by decide +kernel
theorem dX5_weather_34 : decode cX5_weather 34 = .ok (.getfield 38, 3) := by decide +kernel
theorem dX5_weather_37 : decode cX5_weather 37 = .ok (.ifCond .eq 5, 3) := by decide +kernel
theorem dX5_weather_40 : decode cX5_weather 40 = .ok (.iconst 0, 1) := by decide +kernel
theorem dX5_weather_41 : decode cX5_weather 41 = .ok (.ireturn, 1) := by decide +kernel
theorem dX5_weather_42 : decode cX5_weather 42 = .ok (.aload_n 0, 1) := by decide +kernel
theorem dX5_weather_43 : decode cX5_weather 43 = .ok (.getfield 16, 3) := by decide +kernel
theorem dX5_weather_46 : decode cX5_weather 46 = .ok (.iload_n 1, 1) := by decide +kernel
theorem dX5_weather_47 : decode cX5_weather 47 = .ok (.baload, 1) := by decide +kernel
theorem dX5_weather_48 : decode cX5_weather 48 = .ok (.istore 6, 2) := by decide +kernel
theorem dX5_weather_50 : decode cX5_weather 50 = .ok (.aload_n 0, 1) := by decide +kernel
theorem dX5_weather_51 : decode cX5_weather 51 = .ok (.getfield 16, 3) := by decide +kernel
theorem dX5_weather_54 : decode cX5_weather 54 = .ok (.iload_n 1, 1) := by decide +kernel
theorem dX5_weather_55 : decode cX5_weather 55 = .ok (.iconst 1, 1) := by decide +kernel
theorem dX5_weather_56 : decode cX5_weather 56 = .ok (.bastore, 1) := by decide +kernel
theorem dX5_weather_57 : decode cX5_weather 57 = .ok (.aload_n 0, 1) := by decide +kernel
theorem dX5_weather_58 : decode cX5_weather 58 = .ok (.getfield 13, 3) := by decide +kernel
theorem dX5_weather_61 : decode cX5_weather 61 = .ok (.iconst 4, 1) := by decide +kernel
theorem dX5_weather_62 : decode cX5_weather 62 = .ok (.iload_n 1, 1) := by decide +kernel
theorem dX5_weather_63 : decode cX5_weather 63 = .ok (.imul, 1) := by decide +kernel
theorem dX5_weather_64 : decode cX5_weather 64 = .ok (.iload_n 2, 1) := by decide +kernel
theorem dX5_weather_65 : decode cX5_weather 65 = .ok (.iastore, 1) := by decide +kernel
theorem dX5_weather_66 : decode cX5_weather 66 = .ok (.aload_n 0, 1) := by decide +kernel
theorem dX5_weather_67 : decode cX5_weather 67 = .ok (.getfield 13, 3) := by decide +kernel
theorem dX5_weather_70 : decode cX5_weather 70 = .ok (.iconst 4, 1) := by decide +kernel
theorem dX5_weather_71 : decode cX5_weather 71 = .ok (.iload_n 1, 1) := by decide +kernel
theorem dX5_weather_72 : decode cX5_weather 72 = .ok (.imul, 1) := by decide +kernel
theorem dX5_weather_73 : decode cX5_weather 73 = .ok (.iconst 1, 1) := by decide +kernel
theorem dX5_weather_74 : decode cX5_weather 74 = .ok (.iadd, 1) := by decide +kernel
theorem dX5_weather_75 : decode cX5_weather 75 = .ok (.iload_n 3, 1) := by decide +kernel
theorem dX5_weather_76 : decode cX5_weather 76 = .ok (.iastore, 1) := by decide +kernel
theorem dX5_weather_77 : decode cX5_weather 77 = .ok (.aload_n 0, 1) := by decide +kernel
theorem dX5_weather_78 : decode cX5_weather 78 = .ok (.getfield 13, 3) := by decide +kernel
theorem dX5_weather_81 : decode cX5_weather 81 = .ok (.iconst 4, 1) := by decide +kernel
theorem dX5_weather_82 : decode cX5_weather 82 = .ok (.iload_n 1, 1) := by decide +kernel
theorem dX5_weather_83 : decode cX5_weather 83 = .ok (.imul, 1) := by decide +kernel
theorem dX5_weather_84 : decode cX5_weather 84 = .ok (.iconst 2, 1) := by decide +kernel
theorem dX5_weather_85 : decode cX5_weather 85 = .ok (.iadd, 1) := by decide +kernel
theorem dX5_weather_86 : decode cX5_weather 86 = .ok (.iload 4, 2) := by decide +kernel
theorem dX5_weather_88 : decode cX5_weather 88 = .ok (.iastore, 1) := by decide +kernel
theorem dX5_weather_89 : decode cX5_weather 89 = .ok (.aload_n 0, 1) := by decide +kernel
theorem dX5_weather_90 : decode cX5_weather 90 = .ok (.getfield 13, 3) := by decide +kernel
theorem dX5_weather_93 : decode cX5_weather 93 = .ok (.iconst 4, 1) := by decide +kernel
theorem dX5_weather_94 : decode cX5_weather 94 = .ok (.iload_n 1, 1) := by decide +kernel
theorem dX5_weather_95 : decode cX5_weather 95 = .ok (.imul, 1) := by decide +kernel
theorem dX5_weather_96 : decode cX5_weather 96 = .ok (.iconst 3, 1) := by decide +kernel
theorem dX5_weather_97 : decode cX5_weather 97 = .ok (.iadd, 1) := by decide +kernel
theorem dX5_weather_98 : decode cX5_weather 98 = .ok (.iload 5, 2) := by decide +kernel
theorem dX5_weather_100 : decode cX5_weather 100 = .ok (.iastore, 1) := by decide +kernel
theorem dX5_weather_101 : decode cX5_weather 101 = .ok (.iload 6, 2) := by decide +kernel
theorem dX5_weather_103 : decode cX5_weather 103 = .ok (.ifCond .ne 7, 3) := by decide +kernel
theorem dX5_weather_106 : decode cX5_weather 106 = .ok (.iconst 1, 1) := by decide +kernel
theorem dX5_weather_107 : decode cX5_weather 107 = .ok (.goto 4, 3) := by decide +kernel
theorem dX5_weather_110 : decode cX5_weather 110 = .ok (.iconst 0, 1) := by decide +kernel
theorem dX5_weather_111 : decode cX5_weather 111 = .ok (.ireturn, 1) := by decide +kernel
set_option maxRecDepth 20000 in
theorem ggX5_put_X5_most : GoodIn wsX5_put wsX5_most := goodIn_r _ [8] (by decide +kernel) (by decide +kernel)
set_option maxRecDepth 20000 in
theorem gX5_put_X5_most : GoodIn wsX5_put (va_wsS RX5 61 yX5_most wsX5_most) := goodIn_app (goodIn_of _ (by decide +kernel)) ggX5_put_X5_most
theorem dX5_put_0 : decode cX5_put 0 = .ok (.aload_n 0, 1) := by decide +kernel
theorem dX5_put_1 : decode cX5_put 1 = .ok (.iload_n 1, 1) := by decide +kernel
theorem dX5_put_2 : decode cX5_put 2 = .ok (.iload_n 1, 1) := by decide +kernel
theorem dX5_put_3 : decode cX5_put 3 = .ok (.invokestatic 61, 3) := by decide +kernel
theorem dX5_put_6 : decode cX5_put 6 = .ok (.iload_n 2, 1) := by decide +kernel
theorem dX5_put_7 : decode cX5_put 7 = .ok (.invokestatic 64, 3) := by decide +kernel
theorem dX5_put_10 : decode cX5_put 10 = .ok (.iastore, 1) := by decide +kernel
theorem dX5_put_11 : decode cX5_put 11 = .ok (.return_, 1) := by decide +kernel
set_option maxRecDepth 20000 in
theorem ggX5_goOn_X5_put : GoodIn wsX5_goOn wsX5_put := goodIn_r _ [8, 1, 2, 3, 4, 9, 10, 7, 11] (by decide +kernel) (by decide +kernel)
set_option maxRecDepth 20000 in
theorem gX5_goOn_X5_put : GoodIn wsX5_goOn (va_wsS RX5 70 yX5_put wsX5_put) := goodIn_app (goodIn_of _ (by decide +kernel)) ggX5_goOn_X5_put
set_option maxRecDepth 20000 in
theorem ggX5_goOn_J9_floorMod_7cf53 : GoodIn wsX5_goOn wsJ9_floorMod_7cf53 := goodIn_r _ [15] (by decide +kernel) (by decide +kernel)
set_option maxRecDepth 20000 in
theorem gX5_goOn_J9_floorMod_7cf53 : GoodIn wsX5_goOn (va_wsS RX5 74 yJ9_floorMod_7cf53 wsJ9_floorMod_7cf53) := goodIn_app (goodIn_of _ (by decide +kernel)) ggX5_goOn_J9_floorMod_7cf53
theorem dX5_goOn_0 : decode cX5_goOn 0 = .ok (.iload 5, 2) := by decide +kernel
theorem dX5_goOn_2 : decode cX5_goOn 2 = .ok (.bipush 6, 2) := by decide +kernel
theorem dX5_goOn_4 : decode cX5_goOn 4 = .ok (.iadd, 1) := by decide +kernel
theorem dX5_goOn_5 : decode cX5_goOn 5 = .ok (.bipush 6, 2) := by decide +kernel
theorem dX5_goOn_7 : decode cX5_goOn 7 = .ok (.iload_n 1, 1) := by decide +kernel
theorem dX5_goOn_8 : decode cX5_goOn 8 = .ok (.iconst 4, 1) := by decide +kernel
theorem dX5_goOn_9 : decode cX5_goOn 9 = .ok (.idiv, 1) := by decide +kernel
theorem dX5_goOn_10 : decode cX5_goOn 10 = .ok (.imul, 1) := by decide +kernel
theorem dX5_goOn_11 : decode cX5_goOn 11 = .ok (.isub, 1) := by decide +kernel
theorem dX5_goOn_12 : decode cX5_goOn 12 = .ok (.istore 6, 2) := by decide +kernel
theorem dX5_goOn_14 : decode cX5_goOn 14 = .ok (.iload_n 1, 1) := by decide +kernel
theorem dX5_goOn_15 : decode cX5_goOn 15 = .ok (.iconst 4, 1) := by decide +kernel
theorem dX5_goOn_16 : decode cX5_goOn 16 = .ok (.irem, 1) := by decide +kernel
theorem dX5_goOn_17 : decode cX5_goOn 17 = .ok (.istore 7, 2) := by decide +kernel
theorem dX5_goOn_19 : decode cX5_goOn 19 = .ok (.iload 6, 2) := by decide +kernel
theorem dX5_goOn_21 : decode cX5_goOn 21 = .ok (.iconst 1, 1) := by decide +kernel
theorem dX5_goOn_22 : decode cX5_goOn 22 = .ok (.if_icmp .gt 7, 3) := by decide +kernel
theorem dX5_goOn_25 : decode cX5_goOn 25 = .ok (.iload_n 2, 1) := by decide +kernel
theorem dX5_goOn_26 : decode cX5_goOn 26 = .ok (.goto 4, 3) := by decide +kernel
theorem dX5_goOn_29 : decode cX5_goOn 29 = .ok (.iconst 0, 1) := by decide +kernel
theorem dX5_goOn_30 : decode cX5_goOn 30 = .ok (.istore 8, 2) := by decide +kernel
theorem dX5_goOn_32 : decode cX5_goOn 32 = .ok (.aload_n 0, 1) := by decide +kernel
theorem dX5_goOn_33 : decode cX5_goOn 33 = .ok (.iconst 0, 1) := by decide +kernel
theorem dX5_goOn_34 : decode cX5_goOn 34 = .ok (.aload_n 0, 1) := by decide +kernel
theorem dX5_goOn_35 : decode cX5_goOn 35 = .ok (.iconst 0, 1) := by decide +kernel
theorem dX5_goOn_36 : decode cX5_goOn 36 = .ok (.iaload, 1) := by decide +kernel
theorem dX5_goOn_37 : decode cX5_goOn 37 = .ok (.bipush 6, 2) := by decide +kernel
theorem dX5_goOn_39 : decode cX5_goOn 39 = .ok (.imul, 1) := by decide +kernel
theorem dX5_goOn_40 : decode cX5_goOn 40 = .ok (.bipush 10, 2) := by decide +kernel
theorem dX5_goOn_42 : decode cX5_goOn 42 = .ok (.idiv, 1) := by decide +kernel
theorem dX5_goOn_43 : decode cX5_goOn 43 = .ok (.iload 8, 2) := by decide +kernel
theorem dX5_goOn_45 : decode cX5_goOn 45 = .ok (.iadd, 1) := by decide +kernel
theorem dX5_goOn_46 : decode cX5_goOn 46 = .ok (.invokestatic 70, 3) := by decide +kernel
theorem dX5_goOn_49 : decode cX5_goOn 49 = .ok (.iload 6, 2) := by decide +kernel
theorem dX5_goOn_51 : decode cX5_goOn 51 = .ok (.iconst 1, 1) := by decide +kernel
theorem dX5_goOn_52 : decode cX5_goOn 52 = .ok (.if_icmp .le 15, 3) := by decide +kernel
theorem dX5_goOn_55 : decode cX5_goOn 55 = .ok (.aload_n 0, 1) := by decide +kernel
theorem dX5_goOn_56 : decode cX5_goOn 56 = .ok (.iconst 3, 1) := by decide +kernel
theorem dX5_goOn_57 : decode cX5_goOn 57 = .ok (.aload_n 0, 1) := by decide +kernel
theorem dX5_goOn_58 : decode cX5_goOn 58 = .ok (.iconst 3, 1) := by decide +kernel
theorem dX5_goOn_59 : decode cX5_goOn 59 = .ok (.iaload, 1) := by decide +kernel
theorem dX5_goOn_60 : decode cX5_goOn 60 = .ok (.iload_n 2, 1) := by decide +kernel
theorem dX5_goOn_61 : decode cX5_goOn 61 = .ok (.iconst 2, 1) := by decide +kernel
theorem dX5_goOn_62 : decode cX5_goOn 62 = .ok (.idiv, 1) := by decide +kernel
theorem dX5_goOn_63 : decode cX5_goOn 63 = .ok (.iadd, 1) := by decide +kernel
theorem dX5_goOn_64 : decode cX5_goOn 64 = .ok (.invokestatic 70, 3) := by decide +kernel
theorem dX5_goOn_67 : decode cX5_goOn 67 = .ok (.iload_n 3, 1) := by decide +kernel
theorem dX5_goOn_68 : decode cX5_goOn 68 = .ok (.bipush 25, 2) := by decide +kernel
theorem dX5_goOn_70 : decode cX5_goOn 70 = .ok (.if_icmp .ge 18, 3) := by decide +kernel
theorem dX5_goOn_73 : decode cX5_goOn 73 = .ok (.aload_n 0, 1) := by decide +kernel
theorem dX5_goOn_74 : decode cX5_goOn 74 = .ok (.iconst 1, 1) := by decide +kernel
theorem dX5_goOn_75 : decode cX5_goOn 75 = .ok (.aload_n 0, 1) := by decide +kernel
theorem dX5_goOn_76 : decode cX5_goOn 76 = .ok (.iconst 1, 1) := by decide +kernel
theorem dX5_goOn_77 : decode cX5_goOn 77 = .ok (.iaload, 1) := by decide +kernel
theorem dX5_goOn_78 : decode cX5_goOn 78 = .ok (.bipush 8, 2) := by decide +kernel
theorem dX5_goOn_80 : decode cX5_goOn 80 = .ok (.imul, 1) := by decide +kernel
theorem dX5_goOn_81 : decode cX5_goOn 81 = .ok (.bipush 10, 2) := by decide +kernel
theorem dX5_goOn_83 : decode cX5_goOn 83 = .ok (.idiv, 1) := by decide +kernel
theorem dX5_goOn_84 : decode cX5_goOn 84 = .ok (.iastore, 1) := by decide +kernel
theorem dX5_goOn_85 : decode cX5_goOn 85 = .ok (.goto 65, 3) := by decide +kernel
theorem dX5_goOn_88 : decode cX5_goOn 88 = .ok (.aload_n 0, 1) := by decide +kernel
theorem dX5_goOn_89 : decode cX5_goOn 89 = .ok (.iconst 0, 1) := by decide +kernel
theorem dX5_goOn_90 : decode cX5_goOn 90 = .ok (.iaload, 1) := by decide +kernel
theorem dX5_goOn_91 : decode cX5_goOn 91 = .ok (.bipush 40, 2) := by decide +kernel
theorem dX5_goOn_93 : decode cX5_goOn 93 = .ok (.invokestatic 64, 3) := by decide +kernel
theorem dX5_goOn_96 : decode cX5_goOn 96 = .ok (.iload_n 3, 1) := by decide +kernel
theorem dX5_goOn_97 : decode cX5_goOn 97 = .ok (.bipush 20, 2) := by decide +kernel
theorem dX5_goOn_99 : decode cX5_goOn 99 = .ok (.isub, 1) := by decide +kernel
theorem dX5_goOn_100 : decode cX5_goOn 100 = .ok (.imul, 1) := by decide +kernel
theorem dX5_goOn_101 : decode cX5_goOn 101 = .ok (.bipush 40, 2) := by decide +kernel
theorem dX5_goOn_103 : decode cX5_goOn 103 = .ok (.idiv, 1) := by decide +kernel
theorem dX5_goOn_104 : decode cX5_goOn 104 = .ok (.istore 9, 2) := by decide +kernel
theorem dX5_goOn_106 : decode cX5_goOn 106 = .ok (.iload 7, 2) := by decide +kernel
theorem dX5_goOn_108 : decode cX5_goOn 108 = .ok (.iload 4, 2) := by decide +kernel
theorem dX5_goOn_110 : decode cX5_goOn 110 = .ok (.isub, 1) := by decide +kernel
theorem dX5_goOn_111 : decode cX5_goOn 111 = .ok (.iconst 4, 1) := by decide +kernel
theorem dX5_goOn_112 : decode cX5_goOn 112 = .ok (.invokestatic 74, 3) := by decide +kernel
theorem dX5_goOn_115 : decode cX5_goOn 115 = .ok (.istore 10, 2) := by decide +kernel
theorem dX5_goOn_117 : decode cX5_goOn 117 = .ok (.aload_n 0, 1) := by decide +kernel
theorem dX5_goOn_118 : decode cX5_goOn 118 = .ok (.iconst 1, 1) := by decide +kernel
theorem dX5_goOn_119 : decode cX5_goOn 119 = .ok (.aload_n 0, 1) := by decide +kernel
theorem dX5_goOn_120 : decode cX5_goOn 120 = .ok (.iconst 1, 1) := by decide +kernel
theorem dX5_goOn_121 : decode cX5_goOn 121 = .ok (.iaload, 1) := by decide +kernel
theorem dX5_goOn_122 : decode cX5_goOn 122 = .ok (.iload 10, 2) := by decide +kernel
theorem dX5_goOn_124 : decode cX5_goOn 124 = .ok (.ifCond .ne 7, 3) := by decide +kernel
theorem dX5_goOn_127 : decode cX5_goOn 127 = .ok (.iconst 0, 1) := by decide +kernel
theorem dX5_goOn_128 : decode cX5_goOn 128 = .ok (.goto 18, 3) := by decide +kernel
theorem dX5_goOn_131 : decode cX5_goOn 131 = .ok (.iload 10, 2) := by decide +kernel
theorem dX5_goOn_133 : decode cX5_goOn 133 = .ok (.iconst 2, 1) := by decide +kernel
theorem dX5_goOn_134 : decode cX5_goOn 134 = .ok (.if_icmp .ne 8, 3) := by decide +kernel
theorem dX5_goOn_137 : decode cX5_goOn 137 = .ok (.iload 9, 2) := by decide +kernel
theorem dX5_goOn_139 : decode cX5_goOn 139 = .ok (.goto 7, 3) := by decide +kernel
theorem dX5_goOn_142 : decode cX5_goOn 142 = .ok (.iload 9, 2) := by decide +kernel
theorem dX5_goOn_144 : decode cX5_goOn 144 = .ok (.iconst 2, 1) := by decide +kernel
theorem dX5_goOn_145 : decode cX5_goOn 145 = .ok (.idiv, 1) := by decide +kernel
theorem dX5_goOn_146 : decode cX5_goOn 146 = .ok (.iadd, 1) := by decide +kernel
theorem dX5_goOn_147 : decode cX5_goOn 147 = .ok (.invokestatic 70, 3) := by decide +kernel
theorem dX5_goOn_150 : decode cX5_goOn 150 = .ok (.iload 8, 2) := by decide +kernel
theorem dX5_goOn_152 : decode cX5_goOn 152 = .ok (.bipush 10, 2) := by decide +kernel
theorem dX5_goOn_154 : decode cX5_goOn 154 = .ok (.if_icmp .lt 25, 3) := by decide +kernel
theorem dX5_goOn_157 : decode cX5_goOn 157 = .ok (.aload_n 0, 1) := by decide +kernel
theorem dX5_goOn_158 : decode cX5_goOn 158 = .ok (.iconst 2, 1) := by decide +kernel
theorem dX5_goOn_159 : decode cX5_goOn 159 = .ok (.aload_n 0, 1) := by decide +kernel
theorem dX5_goOn_160 : decode cX5_goOn 160 = .ok (.iconst 2, 1) := by decide +kernel
theorem dX5_goOn_161 : decode cX5_goOn 161 = .ok (.iaload, 1) := by decide +kernel
theorem dX5_goOn_162 : decode cX5_goOn 162 = .ok (.bipush 15, 2) := by decide +kernel
theorem dX5_goOn_164 : decode cX5_goOn 164 = .ok (.aload_n 0, 1) := by decide +kernel
theorem dX5_goOn_165 : decode cX5_goOn 165 = .ok (.iconst 4, 1) := by decide +kernel
theorem dX5_goOn_166 : decode cX5_goOn 166 = .ok (.iaload, 1) := by decide +kernel
theorem dX5_goOn_167 : decode cX5_goOn 167 = .ok (.imul, 1) := by decide +kernel
theorem dX5_goOn_168 : decode cX5_goOn 168 = .ok (.iadd, 1) := by decide +kernel
theorem dX5_goOn_169 : decode cX5_goOn 169 = .ok (.invokestatic 70, 3) := by decide +kernel
theorem dX5_goOn_172 : decode cX5_goOn 172 = .ok (.aload_n 0, 1) := by decide +kernel
theorem dX5_goOn_173 : decode cX5_goOn 173 = .ok (.iconst 4, 1) := by decide +kernel
theorem dX5_goOn_174 : decode cX5_goOn 174 = .ok (.iconst 0, 1) := by decide +kernel
theorem dX5_goOn_175 : decode cX5_goOn 175 = .ok (.iastore, 1) := by decide +kernel
theorem dX5_goOn_176 : decode cX5_goOn 176 = .ok (.goto 49, 3) := by decide +kernel
theorem dX5_goOn_179 : decode cX5_goOn 179 = .ok (.iload_n 3, 1) := by decide +kernel
theorem dX5_goOn_180 : decode cX5_goOn 180 = .ok (.bipush 40, 2) := by decide +kernel
theorem dX5_goOn_182 : decode cX5_goOn 182 = .ok (.if_icmp .ge 8, 3) := by decide +kernel
theorem dX5_goOn_185 : decode cX5_goOn 185 = .ok (.iload 6, 2) := by decide +kernel
theorem dX5_goOn_187 : decode cX5_goOn 187 = .ok (.ifCond .le 10, 3) := by decide +kernel
theorem dX5_goOn_190 : decode cX5_goOn 190 = .ok (.aload_n 0, 1) := by decide +kernel
theorem dX5_goOn_191 : decode cX5_goOn 191 = .ok (.iconst 4, 1) := by decide +kernel
theorem dX5_goOn_192 : decode cX5_goOn 192 = .ok (.iconst 0, 1) := by decide +kernel
theorem dX5_goOn_193 : decode cX5_goOn 193 = .ok (.iastore, 1) := by decide +kernel
theorem dX5_goOn_194 : decode cX5_goOn 194 = .ok (.goto 31, 3) := by decide +kernel
theorem dX5_goOn_197 : decode cX5_goOn 197 = .ok (.iload 8, 2) := by decide +kernel
theorem dX5_goOn_199 : decode cX5_goOn 199 = .ok (.ifCond .ne 26, 3) := by decide +kernel
theorem dX5_goOn_202 : decode cX5_goOn 202 = .ok (.iload_n 3, 1) := by decide +kernel
theorem dX5_goOn_203 : decode cX5_goOn 203 = .ok (.bipush 15, 2) := by decide +kernel
theorem dX5_goOn_205 : decode cX5_goOn 205 = .ok (.if_icmp .ge 20, 3) := by decide +kernel
theorem dX5_goOn_208 : decode cX5_goOn 208 = .ok (.iload 6, 2) := by decide +kernel
theorem dX5_goOn_210 : decode cX5_goOn 210 = .ok (.bipush (-8), 2) := by decide +kernel
theorem dX5_goOn_212 : decode cX5_goOn 212 = .ok (.if_icmp .ge 13, 3) := by decide +kernel
theorem dX5_goOn_215 : decode cX5_goOn 215 = .ok (.aload_n 0, 1) := by decide +kernel
theorem dX5_goOn_216 : decode cX5_goOn 216 = .ok (.iconst 4, 1) := by decide +kernel
theorem dX5_goOn_217 : decode cX5_goOn 217 = .ok (.aload_n 0, 1) := by decide +kernel
theorem dX5_goOn_218 : decode cX5_goOn 218 = .ok (.iconst 4, 1) := by decide +kernel
theorem dX5_goOn_219 : decode cX5_goOn 219 = .ok (.iaload, 1) := by decide +kernel
theorem dX5_goOn_220 : decode cX5_goOn 220 = .ok (.iconst 1, 1) := by decide +kernel
theorem dX5_goOn_221 : decode cX5_goOn 221 = .ok (.iadd, 1) := by decide +kernel
theorem dX5_goOn_222 : decode cX5_goOn 222 = .ok (.invokestatic 70, 3) := by decide +kernel
theorem dX5_goOn_225 : decode cX5_goOn 225 = .ok (.iload 6, 2) := by decide +kernel
theorem dX5_goOn_227 : decode cX5_goOn 227 = .ok (.ifCond .le 42, 3) := by decide +kernel
theorem dX5_goOn_230 : decode cX5_goOn 230 = .ok (.aload_n 0, 1) := by decide +kernel
theorem dX5_goOn_231 : decode cX5_goOn 231 = .ok (.iconst 2, 1) := by decide +kernel
theorem dX5_goOn_232 : decode cX5_goOn 232 = .ok (.aload_n 0, 1) := by decide +kernel
theorem dX5_goOn_233 : decode cX5_goOn 233 = .ok (.iconst 2, 1) := by decide +kernel
theorem dX5_goOn_234 : decode cX5_goOn 234 = .ok (.iaload, 1) := by decide +kernel
theorem dX5_goOn_235 : decode cX5_goOn 235 = .ok (.bipush 7, 2) := by decide +kernel
theorem dX5_goOn_237 : decode cX5_goOn 237 = .ok (.imul, 1) := by decide +kernel
theorem dX5_goOn_238 : decode cX5_goOn 238 = .ok (.bipush 10, 2) := by decide +kernel
theorem dX5_goOn_240 : decode cX5_goOn 240 = .ok (.idiv, 1) := by decide +kernel
theorem dX5_goOn_241 : decode cX5_goOn 241 = .ok (.iastore, 1) := by decide +kernel
theorem dX5_goOn_242 : decode cX5_goOn 242 = .ok (.aload_n 0, 1) := by decide +kernel
theorem dX5_goOn_243 : decode cX5_goOn 243 = .ok (.iconst 3, 1) := by decide +kernel
theorem dX5_goOn_244 : decode cX5_goOn 244 = .ok (.aload_n 0, 1) := by decide +kernel
theorem dX5_goOn_245 : decode cX5_goOn 245 = .ok (.iconst 3, 1) := by decide +kernel
theorem dX5_goOn_246 : decode cX5_goOn 246 = .ok (.iaload, 1) := by decide +kernel
theorem dX5_goOn_247 : decode cX5_goOn 247 = .ok (.iload 7, 2) := by decide +kernel
theorem dX5_goOn_249 : decode cX5_goOn 249 = .ok (.iconst 2, 1) := by decide +kernel
theorem dX5_goOn_250 : decode cX5_goOn 250 = .ok (.if_icmp .ne 8, 3) := by decide +kernel
theorem dX5_goOn_253 : decode cX5_goOn 253 = .ok (.bipush 8, 2) := by decide +kernel
theorem dX5_goOn_255 : decode cX5_goOn 255 = .ok (.goto 4, 3) := by decide +kernel
theorem dX5_goOn_258 : decode cX5_goOn 258 = .ok (.iconst 4, 1) := by decide +kernel
theorem dX5_goOn_259 : decode cX5_goOn 259 = .ok (.iload 6, 2) := by decide +kernel
theorem dX5_goOn_261 : decode cX5_goOn 261 = .ok (.imul, 1) := by decide +kernel
theorem dX5_goOn_262 : decode cX5_goOn 262 = .ok (.iadd, 1) := by decide +kernel
theorem dX5_goOn_263 : decode cX5_goOn 263 = .ok (.invokestatic 70, 3) := by decide +kernel
theorem dX5_goOn_266 : decode cX5_goOn 266 = .ok (.goto 22, 3) := by decide +kernel
theorem dX5_goOn_269 : decode cX5_goOn 269 = .ok (.aload_n 0, 1) := by decide +kernel
theorem dX5_goOn_270 : decode cX5_goOn 270 = .ok (.iconst 2, 1) := by decide +kernel
theorem dX5_goOn_271 : decode cX5_goOn 271 = .ok (.aload_n 0, 1) := by decide +kernel
theorem dX5_goOn_272 : decode cX5_goOn 272 = .ok (.iconst 2, 1) := by decide +kernel
theorem dX5_goOn_273 : decode cX5_goOn 273 = .ok (.iaload, 1) := by decide +kernel
theorem dX5_goOn_274 : decode cX5_goOn 274 = .ok (.bipush 95, 2) := by decide +kernel
theorem dX5_goOn_276 : decode cX5_goOn 276 = .ok (.imul, 1) := by decide +kernel
theorem dX5_goOn_277 : decode cX5_goOn 277 = .ok (.bipush 100, 2) := by decide +kernel
theorem dX5_goOn_279 : decode cX5_goOn 279 = .ok (.idiv, 1) := by decide +kernel
theorem dX5_goOn_280 : decode cX5_goOn 280 = .ok (.iastore, 1) := by decide +kernel
theorem dX5_goOn_281 : decode cX5_goOn 281 = .ok (.aload_n 0, 1) := by decide +kernel
theorem dX5_goOn_282 : decode cX5_goOn 282 = .ok (.iconst 3, 1) := by decide +kernel
theorem dX5_goOn_283 : decode cX5_goOn 283 = .ok (.dup2, 1) := by decide +kernel
theorem dX5_goOn_284 : decode cX5_goOn 284 = .ok (.iaload, 1) := by decide +kernel
theorem dX5_goOn_285 : decode cX5_goOn 285 = .ok (.iconst 2, 1) := by decide +kernel
theorem dX5_goOn_286 : decode cX5_goOn 286 = .ok (.idiv, 1) := by decide +kernel
theorem dX5_goOn_287 : decode cX5_goOn 287 = .ok (.iastore, 1) := by decide +kernel
theorem dX5_goOn_288 : decode cX5_goOn 288 = .ok (.return_, 1) := by decide +kernel
set_option maxRecDepth 20000 in
theorem ggX5_then_X5_at : GoodIn wsX5_then wsX5_at := goodIn_r _ [10] (by decide +kernel) (by decide +kernel)
set_option maxRecDepth 20000 in
theorem gX5_then_X5_at : GoodIn wsX5_then (va_wsS RX5 77 yX5_at wsX5_at) := goodIn_app (goodIn_of _ (by decide +kernel)) ggX5_then_X5_at
set_option maxRecDepth 20000 in
theorem ggX5_then_X5_goOn : GoodIn wsX5_then wsX5_goOn := goodIn_r _ [13, 14, 15, 16, 17, 18, 19, 9, 20, 21, 22, 23, 24, 25, 26, 27] (by decide +kernel) (by decide +kernel)
set_option maxRecDepth 20000 in
theorem gX5_then_X5_goOn : GoodIn wsX5_then (va_wsS RX5 86 yX5_goOn wsX5_goOn) := goodIn_app (goodIn_of _ (by decide +kernel)) ggX5_then_X5_goOn
theorem dX5_then_0 : decode cX5_then 0 = .ok (.bipush 60, 2) := by decide +kernel
theorem dX5_then_2 : decode cX5_then 2 = .ok (.newarray .int, 2) := by decide +kernel
theorem dX5_then_4 : decode cX5_then 4 = .ok (.astore 6, 2) := by decide +kernel
theorem dX5_then_6 : decode cX5_then 6 = .ok (.iconst 5, 1) := by decide +kernel
theorem dX5_then_7 : decode cX5_then 7 = .ok (.newarray .int, 2) := by decide +kernel
theorem dX5_then_9 : decode cX5_then 9 = .ok (.astore 7, 2) := by decide +kernel
theorem dX5_then_11 : decode cX5_then 11 = .ok (.iconst 0, 1) := by decide +kernel
theorem dX5_then_12 : decode cX5_then 12 = .ok (.istore 8, 2) := by decide +kernel
theorem dX5_then_14 : decode cX5_then 14 = .ok (.iload 8, 2) := by decide +kernel
theorem dX5_then_16 : decode cX5_then 16 = .ok (.bipush 12, 2) := by decide +kernel
theorem dX5_then_18 : decode cX5_then 18 = .ok (.if_icmp .ge 52, 3) := by decide +kernel
theorem dX5_then_21 : decode cX5_then 21 = .ok (.aload_n 0, 1) := by decide +kernel
theorem dX5_then_22 : decode cX5_then 22 = .ok (.getfield 9, 3) := by decide +kernel
theorem dX5_then_25 : decode cX5_then 25 = .ok (.iload_n 1, 1) := by decide +kernel
theorem dX5_then_26 : decode cX5_then 26 = .ok (.iload 8, 2) := by decide +kernel
theorem dX5_then_28 : decode cX5_then 28 = .ok (.invokestatic 77, 3) := by decide +kernel
theorem dX5_then_31 : decode cX5_then 31 = .ok (.aload 7, 2) := by decide +kernel
theorem dX5_then_33 : decode cX5_then 33 = .ok (.iconst 0, 1) := by decide +kernel
theorem dX5_then_34 : decode cX5_then 34 = .ok (.iconst 5, 1) := by decide +kernel
theorem dX5_then_35 : decode cX5_then 35 = .ok (.invokestatic 80, 3) := by decide +kernel
theorem dX5_then_38 : decode cX5_then 38 = .ok (.aload 7, 2) := by decide +kernel
theorem dX5_then_40 : decode cX5_then 40 = .ok (.iload 8, 2) := by decide +kernel
theorem dX5_then_42 : decode cX5_then 42 = .ok (.iload_n 2, 1) := by decide +kernel
theorem dX5_then_43 : decode cX5_then 43 = .ok (.iload_n 3, 1) := by decide +kernel
theorem dX5_then_44 : decode cX5_then 44 = .ok (.iload 4, 2) := by decide +kernel
theorem dX5_then_46 : decode cX5_then 46 = .ok (.iload 5, 2) := by decide +kernel
theorem dX5_then_48 : decode cX5_then 48 = .ok (.invokestatic 86, 3) := by decide +kernel
theorem dX5_then_51 : decode cX5_then 51 = .ok (.aload 7, 2) := by decide +kernel
theorem dX5_then_53 : decode cX5_then 53 = .ok (.iconst 0, 1) := by decide +kernel
theorem dX5_then_54 : decode cX5_then 54 = .ok (.aload 6, 2) := by decide +kernel
theorem dX5_then_56 : decode cX5_then 56 = .ok (.iconst 5, 1) := by decide +kernel
theorem dX5_then_57 : decode cX5_then 57 = .ok (.iload 8, 2) := by decide +kernel
theorem dX5_then_59 : decode cX5_then 59 = .ok (.imul, 1) := by decide +kernel
theorem dX5_then_60 : decode cX5_then 60 = .ok (.iconst 5, 1) := by decide +kernel
theorem dX5_then_61 : decode cX5_then 61 = .ok (.invokestatic 80, 3) := by decide +kernel
theorem dX5_then_64 : decode cX5_then 64 = .ok (.iinc 8 1, 3) := by decide +kernel
theorem dX5_then_67 : decode cX5_then 67 = .ok (.goto (-53), 3) := by decide +kernel
theorem dX5_then_70 : decode cX5_then 70 = .ok (.aload 6, 2) := by decide +kernel
theorem dX5_then_72 : decode cX5_then 72 = .ok (.areturn, 1) := by decide +kernel
set_option maxRecDepth 20000 in
theorem ggX5_end_X5_no : GoodIn wsX5_end wsX5_no := goodIn_r _ [14, 1, 45, 46, 47, 48, 49, 50, 51, 52, 53, 54, 55, 56, 57] (by decide +kernel) (by decide +kernel)
set_option maxRecDepth 20000 in
theorem gX5_end_X5_no : GoodIn wsX5_end (wsV RX5 53 RX5 yX5_no wsX5_no) := goodIn_app (goodIn_of _ (by decide +kernel)) ggX5_end_X5_no
set_option maxRecDepth 20000 in
theorem ggX5_end_X5_then : GoodIn wsX5_end wsX5_then := goodIn_r _ [18, 19, 5, 6, 7, 8, 9, 20, 21, 13, 22, 23, 24, 25, 26, 27, 28, 29, 30, 31, 32, 33, 34, 35, 36, 37, 38, 39, 45, 46, 47, 48, 49, 50, 51, 52, 53, 54, 55, 56, 57] (by decide +kernel) (by decide +kernel)
set_option maxRecDepth 20000 in
theorem gX5_end_X5_then : GoodIn wsX5_end (wsV RX5 93 RX5 yX5_then wsX5_then) := goodIn_app (goodIn_of _ (by decide +kernel)) ggX5_end_X5_then
set_option maxRecDepth 20000 in
theorem ggX5_end_X5_at : GoodIn wsX5_end wsX5_at := goodIn_r _ [22] (by decide +kernel) (by decide +kernel)
set_option maxRecDepth 20000 in
theorem gX5_end_X5_at : GoodIn wsX5_end (va_wsS RX5 77 yX5_at wsX5_at) := goodIn_app (goodIn_of _ (by decide +kernel)) ggX5_end_X5_at
set_option maxRecDepth 20000 in
theorem ggX5_end_X5_calm : GoodIn wsX5_end wsX5_calm := goodIn_r _ [43, 44, 4, 45, 46, 47, 48, 49, 50, 51, 52, 53, 54, 55, 56, 57] (by decide +kernel) (by decide +kernel)
set_option maxRecDepth 20000 in
theorem gX5_end_X5_calm : GoodIn wsX5_end (wsV RX5 35 RX5 yX5_calm wsX5_calm) := goodIn_app (goodIn_of _ (by decide +kernel)) ggX5_end_X5_calm
theorem dX5_end_0 : decode cX5_end 0 = .ok (.aload_n 0, 1) := by decide +kernel
theorem dX5_end_1 : decode cX5_end 1 = .ok (.iconst 0, 1) := by decide +kernel
theorem dX5_end_2 : decode cX5_end 2 = .ok (.putfield 38, 3) := by decide +kernel
theorem dX5_end_5 : decode cX5_end 5 = .ok (.aload_n 0, 1) := by decide +kernel
theorem dX5_end_6 : decode cX5_end 6 = .ok (.getfield 90, 3) := by decide +kernel
theorem dX5_end_9 : decode cX5_end 9 = .ok (.bipush 60, 2) := by decide +kernel
theorem dX5_end_11 : decode cX5_end 11 = .ok (.if_icmp .ne 9, 3) := by decide +kernel
theorem dX5_end_14 : decode cX5_end 14 = .ok (.aload_n 0, 1) := by decide +kernel
theorem dX5_end_15 : decode cX5_end 15 = .ok (.iconst 1, 1) := by decide +kernel
theorem dX5_end_16 : decode cX5_end 16 = .ok (.invokevirtual 53, 3) := by decide +kernel
theorem dX5_end_19 : decode cX5_end 19 = .ok (.ireturn, 1) := by decide +kernel
theorem dX5_end_20 : decode cX5_end 20 = .ok (.iconst 0, 1) := by decide +kernel
theorem dX5_end_21 : decode cX5_end 21 = .ok (.istore_n 1, 1) := by decide +kernel
theorem dX5_end_22 : decode cX5_end 22 = .ok (.iload_n 1, 1) := by decide +kernel
theorem dX5_end_23 : decode cX5_end 23 = .ok (.aload_n 0, 1) := by decide +kernel
theorem dX5_end_24 : decode cX5_end 24 = .ok (.getfield 42, 3) := by decide +kernel
theorem dX5_end_27 : decode cX5_end 27 = .ok (.if_icmp .ge 67, 3) := by decide +kernel
theorem dX5_end_30 : decode cX5_end 30 = .ok (.aload_n 0, 1) := by decide +kernel
theorem dX5_end_31 : decode cX5_end 31 = .ok (.iload_n 1, 1) := by decide +kernel
theorem dX5_end_32 : decode cX5_end 32 = .ok (.aload_n 0, 1) := by decide +kernel
theorem dX5_end_33 : decode cX5_end 33 = .ok (.getfield 13, 3) := by decide +kernel
theorem dX5_end_36 : decode cX5_end 36 = .ok (.iconst 4, 1) := by decide +kernel
theorem dX5_end_37 : decode cX5_end 37 = .ok (.iload_n 1, 1) := by decide +kernel
theorem dX5_end_38 : decode cX5_end 38 = .ok (.imul, 1) := by decide +kernel
theorem dX5_end_39 : decode cX5_end 39 = .ok (.iaload, 1) := by decide +kernel
theorem dX5_end_40 : decode cX5_end 40 = .ok (.aload_n 0, 1) := by decide +kernel
theorem dX5_end_41 : decode cX5_end 41 = .ok (.getfield 13, 3) := by decide +kernel
theorem dX5_end_44 : decode cX5_end 44 = .ok (.iconst 4, 1) := by decide +kernel
theorem dX5_end_45 : decode cX5_end 45 = .ok (.iload_n 1, 1) := by decide +kernel
theorem dX5_end_46 : decode cX5_end 46 = .ok (.imul, 1) := by decide +kernel
theorem dX5_end_47 : decode cX5_end 47 = .ok (.iconst 1, 1) := by decide +kernel
theorem dX5_end_48 : decode cX5_end 48 = .ok (.iadd, 1) := by decide +kernel
theorem dX5_end_49 : decode cX5_end 49 = .ok (.iaload, 1) := by decide +kernel
theorem dX5_end_50 : decode cX5_end 50 = .ok (.aload_n 0, 1) := by decide +kernel
theorem dX5_end_51 : decode cX5_end 51 = .ok (.getfield 13, 3) := by decide +kernel
theorem dX5_end_54 : decode cX5_end 54 = .ok (.iconst 4, 1) := by decide +kernel
theorem dX5_end_55 : decode cX5_end 55 = .ok (.iload_n 1, 1) := by decide +kernel
theorem dX5_end_56 : decode cX5_end 56 = .ok (.imul, 1) := by decide +kernel
theorem dX5_end_57 : decode cX5_end 57 = .ok (.iconst 2, 1) := by decide +kernel
theorem dX5_end_58 : decode cX5_end 58 = .ok (.iadd, 1) := by decide +kernel
theorem dX5_end_59 : decode cX5_end 59 = .ok (.iaload, 1) := by decide +kernel
theorem dX5_end_60 : decode cX5_end 60 = .ok (.aload_n 0, 1) := by decide +kernel
theorem dX5_end_61 : decode cX5_end 61 = .ok (.getfield 13, 3) := by decide +kernel
theorem dX5_end_64 : decode cX5_end 64 = .ok (.iconst 4, 1) := by decide +kernel
theorem dX5_end_65 : decode cX5_end 65 = .ok (.iload_n 1, 1) := by decide +kernel
theorem dX5_end_66 : decode cX5_end 66 = .ok (.imul, 1) := by decide +kernel
theorem dX5_end_67 : decode cX5_end 67 = .ok (.iconst 3, 1) := by decide +kernel
theorem dX5_end_68 : decode cX5_end 68 = .ok (.iadd, 1) := by decide +kernel
theorem dX5_end_69 : decode cX5_end 69 = .ok (.iaload, 1) := by decide +kernel
theorem dX5_end_70 : decode cX5_end 70 = .ok (.invokevirtual 93, 3) := by decide +kernel
theorem dX5_end_73 : decode cX5_end 73 = .ok (.iconst 0, 1) := by decide +kernel
theorem dX5_end_74 : decode cX5_end 74 = .ok (.aload_n 0, 1) := by decide +kernel
theorem dX5_end_75 : decode cX5_end 75 = .ok (.getfield 9, 3) := by decide +kernel
theorem dX5_end_78 : decode cX5_end 78 = .ok (.iload_n 1, 1) := by decide +kernel
theorem dX5_end_79 : decode cX5_end 79 = .ok (.iconst 0, 1) := by decide +kernel
theorem dX5_end_80 : decode cX5_end 80 = .ok (.invokestatic 77, 3) := by decide +kernel
theorem dX5_end_83 : decode cX5_end 83 = .ok (.bipush 60, 2) := by decide +kernel
theorem dX5_end_85 : decode cX5_end 85 = .ok (.invokestatic 80, 3) := by decide +kernel
theorem dX5_end_88 : decode cX5_end 88 = .ok (.iinc 1 1, 3) := by decide +kernel
theorem dX5_end_91 : decode cX5_end 91 = .ok (.goto (-69), 3) := by decide +kernel
theorem dX5_end_94 : decode cX5_end 94 = .ok (.aload_n 0, 1) := by decide +kernel
theorem dX5_end_95 : decode cX5_end 95 = .ok (.invokevirtual 35, 3) := by decide +kernel
theorem dX5_end_98 : decode cX5_end 98 = .ok (.aload_n 0, 1) := by decide +kernel
theorem dX5_end_99 : decode cX5_end 99 = .ok (.dup, 1) := by decide +kernel
theorem dX5_end_100 : decode cX5_end 100 = .ok (.getfield 90, 3) := by decide +kernel
theorem dX5_end_103 : decode cX5_end 103 = .ok (.iconst 1, 1) := by decide +kernel
theorem dX5_end_104 : decode cX5_end 104 = .ok (.iadd, 1) := by decide +kernel
theorem dX5_end_105 : decode cX5_end 105 = .ok (.putfield 90, 3) := by decide +kernel
theorem dX5_end_108 : decode cX5_end 108 = .ok (.aload_n 0, 1) := by decide +kernel
theorem dX5_end_109 : decode cX5_end 109 = .ok (.getfield 90, 3) := by decide +kernel
theorem dX5_end_112 : decode cX5_end 112 = .ok (.ireturn, 1) := by decide +kernel
theorem dX5_day_0 : decode cX5_day 0 = .ok (.aload_n 0, 1) := by decide +kernel
theorem dX5_day_1 : decode cX5_day 1 = .ok (.iconst 0, 1) := by decide +kernel
theorem dX5_day_2 : decode cX5_day 2 = .ok (.putfield 38, 3) := by decide +kernel
theorem dX5_day_5 : decode cX5_day 5 = .ok (.aload_n 0, 1) := by decide +kernel
theorem dX5_day_6 : decode cX5_day 6 = .ok (.getfield 90, 3) := by decide +kernel
theorem dX5_day_9 : decode cX5_day 9 = .ok (.ireturn, 1) := by decide +kernel
set_option maxRecDepth 20000 in
theorem ggX5_sector_X5_isSector : GoodIn wsX5_sector wsX5_isSector := goodIn_r _ [7, 8, 9, 10, 6, 11, 12, 13, 14, 15, 23, 24, 25, 26, 27, 28, 29, 30, 31, 32, 33, 34, 35] (by decide +kernel) (by decide +kernel)
set_option maxRecDepth 20000 in
theorem gX5_sector_X5_isSector : GoodIn wsX5_sector (wsV RX5 97 RX5 yX5_isSector wsX5_isSector) := goodIn_app (goodIn_of _ (by decide +kernel)) ggX5_sector_X5_isSector
set_option maxRecDepth 20000 in
theorem ggX5_sector_X5_isIn : GoodIn wsX5_sector wsX5_isIn := goodIn_r _ [15] (by decide +kernel) (by decide +kernel)
set_option maxRecDepth 20000 in
theorem gX5_sector_X5_isIn : GoodIn wsX5_sector (va_wsS RX5 45 yX5_isIn wsX5_isIn) := goodIn_app (goodIn_of _ (by decide +kernel)) ggX5_sector_X5_isIn
set_option maxRecDepth 20000 in
theorem ggX5_sector_X5_at : GoodIn wsX5_sector wsX5_at := goodIn_r _ [18] (by decide +kernel) (by decide +kernel)
set_option maxRecDepth 20000 in
theorem gX5_sector_X5_at : GoodIn wsX5_sector (va_wsS RX5 77 yX5_at wsX5_at) := goodIn_app (goodIn_of _ (by decide +kernel)) ggX5_sector_X5_at
set_option maxRecDepth 20000 in
theorem ggX5_sector_X5_no : GoodIn wsX5_sector wsX5_no := goodIn_r _ [22, 1, 23, 24, 25, 26, 27, 28, 29, 30, 31, 32, 33, 34, 35] (by decide +kernel) (by decide +kernel)
set_option maxRecDepth 20000 in
theorem gX5_sector_X5_no : GoodIn wsX5_sector (wsV RX5 53 RX5 yX5_no wsX5_no) := goodIn_app (goodIn_of _ (by decide +kernel)) ggX5_sector_X5_no
theorem dX5_sector_0 : decode cX5_sector 0 = .ok (.aload_n 0, 1) := by decide +kernel
theorem dX5_sector_1 : decode cX5_sector 1 = .ok (.iconst 0, 1) := by decide +kernel
theorem dX5_sector_2 : decode cX5_sector 2 = .ok (.putfield 38, 3) := by decide +kernel
theorem dX5_sector_5 : decode cX5_sector 5 = .ok (.aload_n 0, 1) := by decide +kernel
theorem dX5_sector_6 : decode cX5_sector 6 = .ok (.iload_n 1, 1) := by decide +kernel
theorem dX5_sector_7 : decode cX5_sector 7 = .ok (.iload_n 2, 1) := by decide +kernel
theorem dX5_sector_8 : decode cX5_sector 8 = .ok (.invokevirtual 97, 3) := by decide +kernel
theorem dX5_sector_11 : decode cX5_sector 11 = .ok (.ifCond .eq 27, 3) := by decide +kernel
theorem dX5_sector_14 : decode cX5_sector 14 = .ok (.iload_n 3, 1) := by decide +kernel
theorem dX5_sector_15 : decode cX5_sector 15 = .ok (.iconst 0, 1) := by decide +kernel
theorem dX5_sector_16 : decode cX5_sector 16 = .ok (.iconst 4, 1) := by decide +kernel
theorem dX5_sector_17 : decode cX5_sector 17 = .ok (.invokestatic 45, 3) := by decide +kernel
theorem dX5_sector_20 : decode cX5_sector 20 = .ok (.ifCond .eq 18, 3) := by decide +kernel
theorem dX5_sector_23 : decode cX5_sector 23 = .ok (.aload_n 0, 1) := by decide +kernel
theorem dX5_sector_24 : decode cX5_sector 24 = .ok (.getfield 9, 3) := by decide +kernel
theorem dX5_sector_27 : decode cX5_sector 27 = .ok (.iload_n 1, 1) := by decide +kernel
theorem dX5_sector_28 : decode cX5_sector 28 = .ok (.iload_n 2, 1) := by decide +kernel
theorem dX5_sector_29 : decode cX5_sector 29 = .ok (.invokestatic 77, 3) := by decide +kernel
theorem dX5_sector_32 : decode cX5_sector 32 = .ok (.iload_n 3, 1) := by decide +kernel
theorem dX5_sector_33 : decode cX5_sector 33 = .ok (.iadd, 1) := by decide +kernel
theorem dX5_sector_34 : decode cX5_sector 34 = .ok (.iaload, 1) := by decide +kernel
theorem dX5_sector_35 : decode cX5_sector 35 = .ok (.goto 8, 3) := by decide +kernel
theorem dX5_sector_38 : decode cX5_sector 38 = .ok (.aload_n 0, 1) := by decide +kernel
theorem dX5_sector_39 : decode cX5_sector 39 = .ok (.iconst 1, 1) := by decide +kernel
theorem dX5_sector_40 : decode cX5_sector 40 = .ok (.invokevirtual 53, 3) := by decide +kernel
theorem dX5_sector_43 : decode cX5_sector 43 = .ok (.ireturn, 1) := by decide +kernel
set_option maxRecDepth 20000 in
theorem ggX5_set_X5_isSector : GoodIn wsX5_set wsX5_isSector := goodIn_r _ [7, 8, 9, 10, 6, 11, 12, 13, 14, 15, 26, 27, 28, 29, 30, 31, 32, 33, 34, 35, 36, 37, 38] (by decide +kernel) (by decide +kernel)
set_option maxRecDepth 20000 in
theorem gX5_set_X5_isSector : GoodIn wsX5_set (wsV RX5 97 RX5 yX5_isSector wsX5_isSector) := goodIn_app (goodIn_of _ (by decide +kernel)) ggX5_set_X5_isSector
set_option maxRecDepth 20000 in
theorem ggX5_set_X5_isIn : GoodIn wsX5_set wsX5_isIn := goodIn_r _ [15] (by decide +kernel) (by decide +kernel)
set_option maxRecDepth 20000 in
theorem gX5_set_X5_isIn : GoodIn wsX5_set (va_wsS RX5 45 yX5_isIn wsX5_isIn) := goodIn_app (goodIn_of _ (by decide +kernel)) ggX5_set_X5_isIn
set_option maxRecDepth 20000 in
theorem ggX5_set_X5_no : GoodIn wsX5_set wsX5_no := goodIn_r _ [19, 1, 26, 27, 28, 29, 30, 31, 32, 33, 34, 35, 36, 37, 38] (by decide +kernel) (by decide +kernel)
set_option maxRecDepth 20000 in
theorem gX5_set_X5_no : GoodIn wsX5_set (wsV RX5 53 RX5 yX5_no wsX5_no) := goodIn_app (goodIn_of _ (by decide +kernel)) ggX5_set_X5_no
set_option maxRecDepth 20000 in
theorem ggX5_set_X5_most : GoodIn wsX5_set wsX5_most := goodIn_r _ [22] (by decide +kernel) (by decide +kernel)
set_option maxRecDepth 20000 in
theorem gX5_set_X5_most : GoodIn wsX5_set (va_wsS RX5 61 yX5_most wsX5_most) := goodIn_app (goodIn_of _ (by decide +kernel)) ggX5_set_X5_most
set_option maxRecDepth 20000 in
theorem ggX5_set_X5_at : GoodIn wsX5_set wsX5_at := goodIn_r _ [25] (by decide +kernel) (by decide +kernel)
set_option maxRecDepth 20000 in
theorem gX5_set_X5_at : GoodIn wsX5_set (va_wsS RX5 77 yX5_at wsX5_at) := goodIn_app (goodIn_of _ (by decide +kernel)) ggX5_set_X5_at
