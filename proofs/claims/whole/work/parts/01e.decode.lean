theorem dX5_set_0 : decode cX5_set 0 = .ok (.aload_n 0, 1) := by decide +kernel
theorem dX5_set_1 : decode cX5_set 1 = .ok (.iconst 0, 1) := by decide +kernel
theorem dX5_set_2 : decode cX5_set 2 = .ok (.putfield 38, 3) := by decide +kernel
theorem dX5_set_5 : decode cX5_set 5 = .ok (.aload_n 0, 1) := by decide +kernel
theorem dX5_set_6 : decode cX5_set 6 = .ok (.iload_n 1, 1) := by decide +kernel
theorem dX5_set_7 : decode cX5_set 7 = .ok (.iload_n 2, 1) := by decide +kernel
theorem dX5_set_8 : decode cX5_set 8 = .ok (.invokevirtual 97, 3) := by decide +kernel
theorem dX5_set_11 : decode cX5_set 11 = .ok (.ifCond .eq 12, 3) := by decide +kernel
theorem dX5_set_14 : decode cX5_set 14 = .ok (.iload_n 3, 1) := by decide +kernel
theorem dX5_set_15 : decode cX5_set 15 = .ok (.iconst 0, 1) := by decide +kernel
theorem dX5_set_16 : decode cX5_set 16 = .ok (.iconst 4, 1) := by decide +kernel
theorem dX5_set_17 : decode cX5_set 17 = .ok (.invokestatic 45, 3) := by decide +kernel
theorem dX5_set_20 : decode cX5_set 20 = .ok (.ifCond .ne 9, 3) := by decide +kernel
theorem dX5_set_23 : decode cX5_set 23 = .ok (.aload_n 0, 1) := by decide +kernel
theorem dX5_set_24 : decode cX5_set 24 = .ok (.iconst 1, 1) := by decide +kernel
theorem dX5_set_25 : decode cX5_set 25 = .ok (.invokevirtual 53, 3) := by decide +kernel
theorem dX5_set_28 : decode cX5_set 28 = .ok (.ireturn, 1) := by decide +kernel
theorem dX5_set_29 : decode cX5_set 29 = .ok (.iload 4, 2) := by decide +kernel
theorem dX5_set_31 : decode cX5_set 31 = .ok (.iconst 0, 1) := by decide +kernel
theorem dX5_set_32 : decode cX5_set 32 = .ok (.iload_n 3, 1) := by decide +kernel
theorem dX5_set_33 : decode cX5_set 33 = .ok (.invokestatic 61, 3) := by decide +kernel
theorem dX5_set_36 : decode cX5_set 36 = .ok (.invokestatic 45, 3) := by decide +kernel
theorem dX5_set_39 : decode cX5_set 39 = .ok (.ifCond .ne 9, 3) := by decide +kernel
theorem dX5_set_42 : decode cX5_set 42 = .ok (.aload_n 0, 1) := by decide +kernel
theorem dX5_set_43 : decode cX5_set 43 = .ok (.iconst 2, 1) := by decide +kernel
theorem dX5_set_44 : decode cX5_set 44 = .ok (.invokevirtual 53, 3) := by decide +kernel
theorem dX5_set_47 : decode cX5_set 47 = .ok (.ireturn, 1) := by decide +kernel
theorem dX5_set_48 : decode cX5_set 48 = .ok (.aload_n 0, 1) := by decide +kernel
theorem dX5_set_49 : decode cX5_set 49 = .ok (.getfield 9, 3) := by decide +kernel
theorem dX5_set_52 : decode cX5_set 52 = .ok (.iload_n 1, 1) := by decide +kernel
theorem dX5_set_53 : decode cX5_set 53 = .ok (.iload_n 2, 1) := by decide +kernel
theorem dX5_set_54 : decode cX5_set 54 = .ok (.invokestatic 77, 3) := by decide +kernel
theorem dX5_set_57 : decode cX5_set 57 = .ok (.iload_n 3, 1) := by decide +kernel
theorem dX5_set_58 : decode cX5_set 58 = .ok (.iadd, 1) := by decide +kernel
theorem dX5_set_59 : decode cX5_set 59 = .ok (.iaload, 1) := by decide +kernel
theorem dX5_set_60 : decode cX5_set 60 = .ok (.istore 5, 2) := by decide +kernel
theorem dX5_set_62 : decode cX5_set 62 = .ok (.aload_n 0, 1) := by decide +kernel
theorem dX5_set_63 : decode cX5_set 63 = .ok (.getfield 9, 3) := by decide +kernel
theorem dX5_set_66 : decode cX5_set 66 = .ok (.iload_n 1, 1) := by decide +kernel
theorem dX5_set_67 : decode cX5_set 67 = .ok (.iload_n 2, 1) := by decide +kernel
theorem dX5_set_68 : decode cX5_set 68 = .ok (.invokestatic 77, 3) := by decide +kernel
theorem dX5_set_71 : decode cX5_set 71 = .ok (.iload_n 3, 1) := by decide +kernel
theorem dX5_set_72 : decode cX5_set 72 = .ok (.iadd, 1) := by decide +kernel
theorem dX5_set_73 : decode cX5_set 73 = .ok (.iload 4, 2) := by decide +kernel
theorem dX5_set_75 : decode cX5_set 75 = .ok (.iastore, 1) := by decide +kernel
theorem dX5_set_76 : decode cX5_set 76 = .ok (.iload 5, 2) := by decide +kernel
theorem dX5_set_78 : decode cX5_set 78 = .ok (.ireturn, 1) := by decide +kernel
theorem dX5_problemOf_0 : decode cX5_problemOf 0 = .ok (.iload_n 2, 1) := by decide +kernel
theorem dX5_problemOf_1 : decode cX5_problemOf 1 = .ok (.iconst 2, 1) := by decide +kernel
theorem dX5_problemOf_2 : decode cX5_problemOf 2 = .ok (.if_icmp .eq 9, 3) := by decide +kernel
theorem dX5_problemOf_5 : decode cX5_problemOf 5 = .ok (.aload_n 0, 1) := by decide +kernel
theorem dX5_problemOf_6 : decode cX5_problemOf 6 = .ok (.iload_n 1, 1) := by decide +kernel
theorem dX5_problemOf_7 : decode cX5_problemOf 7 = .ok (.iload_n 2, 1) := by decide +kernel
theorem dX5_problemOf_8 : decode cX5_problemOf 8 = .ok (.iadd, 1) := by decide +kernel
theorem dX5_problemOf_9 : decode cX5_problemOf 9 = .ok (.iaload, 1) := by decide +kernel
theorem dX5_problemOf_10 : decode cX5_problemOf 10 = .ok (.ireturn, 1) := by decide +kernel
theorem dX5_problemOf_11 : decode cX5_problemOf 11 = .ok (.aload_n 0, 1) := by decide +kernel
theorem dX5_problemOf_12 : decode cX5_problemOf 12 = .ok (.iload_n 1, 1) := by decide +kernel
theorem dX5_problemOf_13 : decode cX5_problemOf 13 = .ok (.iconst 2, 1) := by decide +kernel
theorem dX5_problemOf_14 : decode cX5_problemOf 14 = .ok (.iadd, 1) := by decide +kernel
theorem dX5_problemOf_15 : decode cX5_problemOf 15 = .ok (.iaload, 1) := by decide +kernel
theorem dX5_problemOf_16 : decode cX5_problemOf 16 = .ok (.bipush 100, 2) := by decide +kernel
theorem dX5_problemOf_18 : decode cX5_problemOf 18 = .ok (.aload_n 0, 1) := by decide +kernel
theorem dX5_problemOf_19 : decode cX5_problemOf 19 = .ok (.iload_n 1, 1) := by decide +kernel
theorem dX5_problemOf_20 : decode cX5_problemOf 20 = .ok (.iconst 0, 1) := by decide +kernel
theorem dX5_problemOf_21 : decode cX5_problemOf 21 = .ok (.iadd, 1) := by decide +kernel
theorem dX5_problemOf_22 : decode cX5_problemOf 22 = .ok (.iaload, 1) := by decide +kernel
theorem dX5_problemOf_23 : decode cX5_problemOf 23 = .ok (.aload_n 0, 1) := by decide +kernel
theorem dX5_problemOf_24 : decode cX5_problemOf 24 = .ok (.iload_n 1, 1) := by decide +kernel
theorem dX5_problemOf_25 : decode cX5_problemOf 25 = .ok (.iconst 1, 1) := by decide +kernel
theorem dX5_problemOf_26 : decode cX5_problemOf 26 = .ok (.iadd, 1) := by decide +kernel
theorem dX5_problemOf_27 : decode cX5_problemOf 27 = .ok (.iaload, 1) := by decide +kernel
theorem dX5_problemOf_28 : decode cX5_problemOf 28 = .ok (.iadd, 1) := by decide +kernel
theorem dX5_problemOf_29 : decode cX5_problemOf 29 = .ok (.invokestatic 64, 3) := by decide +kernel
theorem dX5_problemOf_32 : decode cX5_problemOf 32 = .ok (.imul, 1) := by decide +kernel
theorem dX5_problemOf_33 : decode cX5_problemOf 33 = .ok (.bipush 100, 2) := by decide +kernel
theorem dX5_problemOf_35 : decode cX5_problemOf 35 = .ok (.idiv, 1) := by decide +kernel
theorem dX5_problemOf_36 : decode cX5_problemOf 36 = .ok (.ireturn, 1) := by decide +kernel
set_option maxRecDepth 20000 in
theorem ggX5_dangerOf_X5_problemOf : GoodIn wsX5_dangerOf wsX5_problemOf := goodIn_r _ [8, 9, 10, 3, 11] (by decide +kernel) (by decide +kernel)
set_option maxRecDepth 20000 in
theorem gX5_dangerOf_X5_problemOf : GoodIn wsX5_dangerOf (va_wsS RX5 101 yX5_problemOf wsX5_problemOf) := goodIn_app (goodIn_of _ (by decide +kernel)) ggX5_dangerOf_X5_problemOf
theorem dX5_dangerOf_0 : decode cX5_dangerOf 0 = .ok (.iconst 0, 1) := by decide +kernel
theorem dX5_dangerOf_1 : decode cX5_dangerOf 1 = .ok (.istore_n 2, 1) := by decide +kernel
theorem dX5_dangerOf_2 : decode cX5_dangerOf 2 = .ok (.iconst 0, 1) := by decide +kernel
theorem dX5_dangerOf_3 : decode cX5_dangerOf 3 = .ok (.istore_n 3, 1) := by decide +kernel
theorem dX5_dangerOf_4 : decode cX5_dangerOf 4 = .ok (.iconst 0, 1) := by decide +kernel
theorem dX5_dangerOf_5 : decode cX5_dangerOf 5 = .ok (.istore 4, 2) := by decide +kernel
theorem dX5_dangerOf_7 : decode cX5_dangerOf 7 = .ok (.iload 4, 2) := by decide +kernel
theorem dX5_dangerOf_9 : decode cX5_dangerOf 9 = .ok (.iconst 4, 1) := by decide +kernel
theorem dX5_dangerOf_10 : decode cX5_dangerOf 10 = .ok (.if_icmp .ge 42, 3) := by decide +kernel
theorem dX5_dangerOf_13 : decode cX5_dangerOf 13 = .ok (.aload_n 0, 1) := by decide +kernel
theorem dX5_dangerOf_14 : decode cX5_dangerOf 14 = .ok (.iload_n 1, 1) := by decide +kernel
theorem dX5_dangerOf_15 : decode cX5_dangerOf 15 = .ok (.iload 4, 2) := by decide +kernel
theorem dX5_dangerOf_17 : decode cX5_dangerOf 17 = .ok (.invokestatic 101, 3) := by decide +kernel
theorem dX5_dangerOf_20 : decode cX5_dangerOf 20 = .ok (.istore 5, 2) := by decide +kernel
theorem dX5_dangerOf_22 : decode cX5_dangerOf 22 = .ok (.iload 5, 2) := by decide +kernel
theorem dX5_dangerOf_24 : decode cX5_dangerOf 24 = .ok (.iload_n 2, 1) := by decide +kernel
theorem dX5_dangerOf_25 : decode cX5_dangerOf 25 = .ok (.if_icmp .lt 7, 3) := by decide +kernel
theorem dX5_dangerOf_28 : decode cX5_dangerOf 28 = .ok (.iload_n 2, 1) := by decide +kernel
theorem dX5_dangerOf_29 : decode cX5_dangerOf 29 = .ok (.goto 9, 3) := by decide +kernel
theorem dX5_dangerOf_32 : decode cX5_dangerOf 32 = .ok (.iload_n 3, 1) := by decide +kernel
theorem dX5_dangerOf_33 : decode cX5_dangerOf 33 = .ok (.iload 5, 2) := by decide +kernel
theorem dX5_dangerOf_35 : decode cX5_dangerOf 35 = .ok (.invokestatic 105, 3) := by decide +kernel
theorem dX5_dangerOf_38 : decode cX5_dangerOf 38 = .ok (.istore_n 3, 1) := by decide +kernel
theorem dX5_dangerOf_39 : decode cX5_dangerOf 39 = .ok (.iload_n 2, 1) := by decide +kernel
theorem dX5_dangerOf_40 : decode cX5_dangerOf 40 = .ok (.iload 5, 2) := by decide +kernel
theorem dX5_dangerOf_42 : decode cX5_dangerOf 42 = .ok (.invokestatic 105, 3) := by decide +kernel
theorem dX5_dangerOf_45 : decode cX5_dangerOf 45 = .ok (.istore_n 2, 1) := by decide +kernel
theorem dX5_dangerOf_46 : decode cX5_dangerOf 46 = .ok (.iinc 4 1, 3) := by decide +kernel
theorem dX5_dangerOf_49 : decode cX5_dangerOf 49 = .ok (.goto (-42), 3) := by decide +kernel
theorem dX5_dangerOf_52 : decode cX5_dangerOf 52 = .ok (.iload_n 2, 1) := by decide +kernel
theorem dX5_dangerOf_53 : decode cX5_dangerOf 53 = .ok (.iload_n 3, 1) := by decide +kernel
theorem dX5_dangerOf_54 : decode cX5_dangerOf 54 = .ok (.iconst 4, 1) := by decide +kernel
theorem dX5_dangerOf_55 : decode cX5_dangerOf 55 = .ok (.idiv, 1) := by decide +kernel
theorem dX5_dangerOf_56 : decode cX5_dangerOf 56 = .ok (.iadd, 1) := by decide +kernel
theorem dX5_dangerOf_57 : decode cX5_dangerOf 57 = .ok (.ireturn, 1) := by decide +kernel
theorem dX5_levelBy_0 : decode cX5_levelBy 0 = .ok (.iload_n 0, 1) := by decide +kernel
theorem dX5_levelBy_1 : decode cX5_levelBy 1 = .ok (.bipush 10, 2) := by decide +kernel
theorem dX5_levelBy_3 : decode cX5_levelBy 3 = .ok (.if_icmp .ge 7, 3) := by decide +kernel
theorem dX5_levelBy_6 : decode cX5_levelBy 6 = .ok (.iconst 1, 1) := by decide +kernel
theorem dX5_levelBy_7 : decode cX5_levelBy 7 = .ok (.goto 34, 3) := by decide +kernel
theorem dX5_levelBy_10 : decode cX5_levelBy 10 = .ok (.iload_n 0, 1) := by decide +kernel
theorem dX5_levelBy_11 : decode cX5_levelBy 11 = .ok (.bipush 30, 2) := by decide +kernel
theorem dX5_levelBy_13 : decode cX5_levelBy 13 = .ok (.if_icmp .ge 7, 3) := by decide +kernel
theorem dX5_levelBy_16 : decode cX5_levelBy 16 = .ok (.iconst 2, 1) := by decide +kernel
theorem dX5_levelBy_17 : decode cX5_levelBy 17 = .ok (.goto 24, 3) := by decide +kernel
theorem dX5_levelBy_20 : decode cX5_levelBy 20 = .ok (.iload_n 0, 1) := by decide +kernel
theorem dX5_levelBy_21 : decode cX5_levelBy 21 = .ok (.bipush 55, 2) := by decide +kernel
theorem dX5_levelBy_23 : decode cX5_levelBy 23 = .ok (.if_icmp .ge 7, 3) := by decide +kernel
theorem dX5_levelBy_26 : decode cX5_levelBy 26 = .ok (.iconst 3, 1) := by decide +kernel
theorem dX5_levelBy_27 : decode cX5_levelBy 27 = .ok (.goto 14, 3) := by decide +kernel
theorem dX5_levelBy_30 : decode cX5_levelBy 30 = .ok (.iload_n 0, 1) := by decide +kernel
theorem dX5_levelBy_31 : decode cX5_levelBy 31 = .ok (.bipush 80, 2) := by decide +kernel
theorem dX5_levelBy_33 : decode cX5_levelBy 33 = .ok (.if_icmp .ge 7, 3) := by decide +kernel
theorem dX5_levelBy_36 : decode cX5_levelBy 36 = .ok (.iconst 4, 1) := by decide +kernel
theorem dX5_levelBy_37 : decode cX5_levelBy 37 = .ok (.goto 4, 3) := by decide +kernel
theorem dX5_levelBy_40 : decode cX5_levelBy 40 = .ok (.iconst 5, 1) := by decide +kernel
theorem dX5_levelBy_41 : decode cX5_levelBy 41 = .ok (.ireturn, 1) := by decide +kernel
set_option maxRecDepth 20000 in
theorem ggX5_levelOf_X5_dangerOf : GoodIn wsX5_levelOf wsX5_dangerOf := goodIn_r _ [4, 5, 6, 7, 8, 9, 10, 3, 11, 12, 13, 14] (by decide +kernel) (by decide +kernel)
set_option maxRecDepth 20000 in
theorem gX5_levelOf_X5_dangerOf : GoodIn wsX5_levelOf (va_wsS RX5 108 yX5_dangerOf wsX5_dangerOf) := goodIn_app (goodIn_of _ (by decide +kernel)) ggX5_levelOf_X5_dangerOf
set_option maxRecDepth 20000 in
theorem ggX5_levelOf_X5_levelBy : GoodIn wsX5_levelOf wsX5_levelBy := goodIn_r _ [17] (by decide +kernel) (by decide +kernel)
set_option maxRecDepth 20000 in
theorem gX5_levelOf_X5_levelBy : GoodIn wsX5_levelOf (va_wsS RX5 112 yX5_levelBy wsX5_levelBy) := goodIn_app (goodIn_of _ (by decide +kernel)) ggX5_levelOf_X5_levelBy
theorem dX5_levelOf_0 : decode cX5_levelOf 0 = .ok (.iconst 5, 1) := by decide +kernel
theorem dX5_levelOf_1 : decode cX5_levelOf 1 = .ok (.istore_n 2, 1) := by decide +kernel
theorem dX5_levelOf_2 : decode cX5_levelOf 2 = .ok (.iconst 0, 1) := by decide +kernel
theorem dX5_levelOf_3 : decode cX5_levelOf 3 = .ok (.istore_n 3, 1) := by decide +kernel
theorem dX5_levelOf_4 : decode cX5_levelOf 4 = .ok (.iload_n 3, 1) := by decide +kernel
theorem dX5_levelOf_5 : decode cX5_levelOf 5 = .ok (.iconst 2, 1) := by decide +kernel
theorem dX5_levelOf_6 : decode cX5_levelOf 6 = .ok (.if_icmp .ge 62, 3) := by decide +kernel
theorem dX5_levelOf_9 : decode cX5_levelOf 9 = .ok (.iconst 0, 1) := by decide +kernel
theorem dX5_levelOf_10 : decode cX5_levelOf 10 = .ok (.istore_n 3, 1) := by decide +kernel
theorem dX5_levelOf_11 : decode cX5_levelOf 11 = .ok (.iconst 0, 1) := by decide +kernel
theorem dX5_levelOf_12 : decode cX5_levelOf 12 = .ok (.istore 4, 2) := by decide +kernel
theorem dX5_levelOf_14 : decode cX5_levelOf 14 = .ok (.iload 4, 2) := by decide +kernel
theorem dX5_levelOf_16 : decode cX5_levelOf 16 = .ok (.bipush 12, 2) := by decide +kernel
theorem dX5_levelOf_18 : decode cX5_levelOf 18 = .ok (.if_icmp .ge 34, 3) := by decide +kernel
theorem dX5_levelOf_21 : decode cX5_levelOf 21 = .ok (.iload_n 3, 1) := by decide +kernel
theorem dX5_levelOf_22 : decode cX5_levelOf 22 = .ok (.aload_n 0, 1) := by decide +kernel
theorem dX5_levelOf_23 : decode cX5_levelOf 23 = .ok (.iload_n 1, 1) := by decide +kernel
theorem dX5_levelOf_24 : decode cX5_levelOf 24 = .ok (.iconst 5, 1) := by decide +kernel
theorem dX5_levelOf_25 : decode cX5_levelOf 25 = .ok (.iload 4, 2) := by decide +kernel
theorem dX5_levelOf_27 : decode cX5_levelOf 27 = .ok (.imul, 1) := by decide +kernel
theorem dX5_levelOf_28 : decode cX5_levelOf 28 = .ok (.iadd, 1) := by decide +kernel
theorem dX5_levelOf_29 : decode cX5_levelOf 29 = .ok (.invokestatic 108, 3) := by decide +kernel
theorem dX5_levelOf_32 : decode cX5_levelOf 32 = .ok (.invokestatic 112, 3) := by decide +kernel
theorem dX5_levelOf_35 : decode cX5_levelOf 35 = .ok (.iload_n 2, 1) := by decide +kernel
theorem dX5_levelOf_36 : decode cX5_levelOf 36 = .ok (.if_icmp .lt 7, 3) := by decide +kernel
theorem dX5_levelOf_39 : decode cX5_levelOf 39 = .ok (.iconst 1, 1) := by decide +kernel
theorem dX5_levelOf_40 : decode cX5_levelOf 40 = .ok (.goto 4, 3) := by decide +kernel
theorem dX5_levelOf_43 : decode cX5_levelOf 43 = .ok (.iconst 0, 1) := by decide +kernel
theorem dX5_levelOf_44 : decode cX5_levelOf 44 = .ok (.iadd, 1) := by decide +kernel
theorem dX5_levelOf_45 : decode cX5_levelOf 45 = .ok (.istore_n 3, 1) := by decide +kernel
theorem dX5_levelOf_46 : decode cX5_levelOf 46 = .ok (.iinc 4 1, 3) := by decide +kernel
theorem dX5_levelOf_49 : decode cX5_levelOf 49 = .ok (.goto (-35), 3) := by decide +kernel
theorem dX5_levelOf_52 : decode cX5_levelOf 52 = .ok (.iload_n 2, 1) := by decide +kernel
theorem dX5_levelOf_53 : decode cX5_levelOf 53 = .ok (.iload_n 3, 1) := by decide +kernel
theorem dX5_levelOf_54 : decode cX5_levelOf 54 = .ok (.iconst 2, 1) := by decide +kernel
theorem dX5_levelOf_55 : decode cX5_levelOf 55 = .ok (.if_icmp .ge 7, 3) := by decide +kernel
theorem dX5_levelOf_58 : decode cX5_levelOf 58 = .ok (.iconst 1, 1) := by decide +kernel
theorem dX5_levelOf_59 : decode cX5_levelOf 59 = .ok (.goto 4, 3) := by decide +kernel
theorem dX5_levelOf_62 : decode cX5_levelOf 62 = .ok (.iconst 0, 1) := by decide +kernel
theorem dX5_levelOf_63 : decode cX5_levelOf 63 = .ok (.isub, 1) := by decide +kernel
theorem dX5_levelOf_64 : decode cX5_levelOf 64 = .ok (.istore_n 2, 1) := by decide +kernel
theorem dX5_levelOf_65 : decode cX5_levelOf 65 = .ok (.goto (-61), 3) := by decide +kernel
theorem dX5_levelOf_68 : decode cX5_levelOf 68 = .ok (.iload_n 2, 1) := by decide +kernel
theorem dX5_levelOf_69 : decode cX5_levelOf 69 = .ok (.ireturn, 1) := by decide +kernel
set_option maxRecDepth 20000 in
theorem ggX5_level_X5_at : GoodIn wsX5_level wsX5_at := goodIn_r _ [4] (by decide +kernel) (by decide +kernel)
set_option maxRecDepth 20000 in
theorem gX5_level_X5_at : GoodIn wsX5_level (va_wsS RX5 77 yX5_at wsX5_at) := goodIn_app (goodIn_of _ (by decide +kernel)) ggX5_level_X5_at
set_option maxRecDepth 20000 in
theorem ggX5_level_X5_levelOf : GoodIn wsX5_level wsX5_levelOf := goodIn_r _ [7, 8, 9, 3, 10, 11, 12, 13, 14, 15, 16, 17, 18, 19, 20, 21, 22, 23] (by decide +kernel) (by decide +kernel)
set_option maxRecDepth 20000 in
theorem gX5_level_X5_levelOf : GoodIn wsX5_level (va_wsS RX5 115 yX5_levelOf wsX5_levelOf) := goodIn_app (goodIn_of _ (by decide +kernel)) ggX5_level_X5_levelOf
theorem dX5_level_0 : decode cX5_level 0 = .ok (.aload_n 1, 1) := by decide +kernel
theorem dX5_level_1 : decode cX5_level 1 = .ok (.iload_n 2, 1) := by decide +kernel
theorem dX5_level_2 : decode cX5_level 2 = .ok (.iconst 0, 1) := by decide +kernel
theorem dX5_level_3 : decode cX5_level 3 = .ok (.invokestatic 77, 3) := by decide +kernel
theorem dX5_level_6 : decode cX5_level 6 = .ok (.invokestatic 115, 3) := by decide +kernel
theorem dX5_level_9 : decode cX5_level 9 = .ok (.ireturn, 1) := by decide +kernel
set_option maxRecDepth 20000 in
theorem ggX5_coreOf_X5_level : GoodIn wsX5_coreOf wsX5_level := goodIn_r _ [6, 7, 8, 5, 9, 10, 11, 12, 13, 14, 15, 16, 17, 18, 19, 20, 21, 22, 23, 24, 25, 26, 27, 28] (by decide +kernel) (by decide +kernel)
set_option maxRecDepth 20000 in
theorem gX5_coreOf_X5_level : GoodIn wsX5_coreOf (wsV RX5 118 RX5 yX5_level wsX5_level) := goodIn_app (goodIn_of _ (by decide +kernel)) ggX5_coreOf_X5_level
set_option maxRecDepth 20000 in
theorem ggX5_coreOf_X5_at : GoodIn wsX5_coreOf wsX5_at := goodIn_r _ [9] (by decide +kernel) (by decide +kernel)
set_option maxRecDepth 20000 in
theorem gX5_coreOf_X5_at : GoodIn wsX5_coreOf (va_wsS RX5 77 yX5_at wsX5_at) := goodIn_app (goodIn_of _ (by decide +kernel)) ggX5_coreOf_X5_at
set_option maxRecDepth 20000 in
theorem ggX5_coreOf_X5_dangerOf : GoodIn wsX5_coreOf wsX5_dangerOf := goodIn_r _ [15, 16, 17, 18, 19, 20, 21, 5, 22, 23, 24, 25] (by decide +kernel) (by decide +kernel)
set_option maxRecDepth 20000 in
theorem gX5_coreOf_X5_dangerOf : GoodIn wsX5_coreOf (va_wsS RX5 108 yX5_dangerOf wsX5_dangerOf) := goodIn_app (goodIn_of _ (by decide +kernel)) ggX5_coreOf_X5_dangerOf
set_option maxRecDepth 20000 in
theorem ggX5_coreOf_X5_levelBy : GoodIn wsX5_coreOf wsX5_levelBy := goodIn_r _ [28] (by decide +kernel) (by decide +kernel)
set_option maxRecDepth 20000 in
theorem gX5_coreOf_X5_levelBy : GoodIn wsX5_coreOf (va_wsS RX5 112 yX5_levelBy wsX5_levelBy) := goodIn_app (goodIn_of _ (by decide +kernel)) ggX5_coreOf_X5_levelBy
theorem dX5_coreOf_0 : decode cX5_coreOf 0 = .ok (.iconst 0, 1) := by decide +kernel
theorem dX5_coreOf_1 : decode cX5_coreOf 1 = .ok (.istore_n 2, 1) := by decide +kernel
theorem dX5_coreOf_2 : decode cX5_coreOf 2 = .ok (.aload_n 0, 1) := by decide +kernel
theorem dX5_coreOf_3 : decode cX5_coreOf 3 = .ok (.aload_n 0, 1) := by decide +kernel
theorem dX5_coreOf_4 : decode cX5_coreOf 4 = .ok (.getfield 9, 3) := by decide +kernel
theorem dX5_coreOf_7 : decode cX5_coreOf 7 = .ok (.iload_n 1, 1) := by decide +kernel
theorem dX5_coreOf_8 : decode cX5_coreOf 8 = .ok (.invokevirtual 118, 3) := by decide +kernel
theorem dX5_coreOf_11 : decode cX5_coreOf 11 = .ok (.istore_n 3, 1) := by decide +kernel
theorem dX5_coreOf_12 : decode cX5_coreOf 12 = .ok (.iconst 0, 1) := by decide +kernel
theorem dX5_coreOf_13 : decode cX5_coreOf 13 = .ok (.istore 4, 2) := by decide +kernel
theorem dX5_coreOf_15 : decode cX5_coreOf 15 = .ok (.iload 4, 2) := by decide +kernel
theorem dX5_coreOf_17 : decode cX5_coreOf 17 = .ok (.bipush 12, 2) := by decide +kernel
theorem dX5_coreOf_19 : decode cX5_coreOf 19 = .ok (.if_icmp .ge 36, 3) := by decide +kernel
theorem dX5_coreOf_22 : decode cX5_coreOf 22 = .ok (.aload_n 0, 1) := by decide +kernel
theorem dX5_coreOf_23 : decode cX5_coreOf 23 = .ok (.getfield 9, 3) := by decide +kernel
theorem dX5_coreOf_26 : decode cX5_coreOf 26 = .ok (.iload_n 1, 1) := by decide +kernel
theorem dX5_coreOf_27 : decode cX5_coreOf 27 = .ok (.iload 4, 2) := by decide +kernel
theorem dX5_coreOf_29 : decode cX5_coreOf 29 = .ok (.invokestatic 77, 3) := by decide +kernel
theorem dX5_coreOf_32 : decode cX5_coreOf 32 = .ok (.invokestatic 108, 3) := by decide +kernel
theorem dX5_coreOf_35 : decode cX5_coreOf 35 = .ok (.invokestatic 112, 3) := by decide +kernel
theorem dX5_coreOf_38 : decode cX5_coreOf 38 = .ok (.iload_n 3, 1) := by decide +kernel
theorem dX5_coreOf_39 : decode cX5_coreOf 39 = .ok (.if_icmp .lt 10, 3) := by decide +kernel
theorem dX5_coreOf_42 : decode cX5_coreOf 42 = .ok (.iload_n 2, 1) := by decide +kernel
theorem dX5_coreOf_43 : decode cX5_coreOf 43 = .ok (.iconst 1, 1) := by decide +kernel
theorem dX5_coreOf_44 : decode cX5_coreOf 44 = .ok (.iload 4, 2) := by decide +kernel
theorem dX5_coreOf_46 : decode cX5_coreOf 46 = .ok (.ishl, 1) := by decide +kernel
theorem dX5_coreOf_47 : decode cX5_coreOf 47 = .ok (.ior, 1) := by decide +kernel
theorem dX5_coreOf_48 : decode cX5_coreOf 48 = .ok (.istore_n 2, 1) := by decide +kernel
theorem dX5_coreOf_49 : decode cX5_coreOf 49 = .ok (.iinc 4 1, 3) := by decide +kernel
theorem dX5_coreOf_52 : decode cX5_coreOf 52 = .ok (.goto (-37), 3) := by decide +kernel
theorem dX5_coreOf_55 : decode cX5_coreOf 55 = .ok (.iload_n 2, 1) := by decide +kernel
theorem dX5_coreOf_56 : decode cX5_coreOf 56 = .ok (.ireturn, 1) := by decide +kernel
set_option maxRecDepth 20000 in
theorem ggX5_mainOf_X5_coreOf : GoodIn wsX5_mainOf wsX5_coreOf := goodIn_r _ [6, 1, 7, 8, 9, 5, 10, 11, 12, 13, 14, 15, 16, 17, 18, 19, 20, 21, 22, 23, 24, 25, 26, 27, 28, 29, 30, 31, 32, 33, 34, 35, 36, 37, 38, 39, 40, 41, 42, 43, 44, 45] (by decide +kernel) (by decide +kernel)
set_option maxRecDepth 20000 in
theorem gX5_mainOf_X5_coreOf : GoodIn wsX5_mainOf (wsV RX5 121 RX5 yX5_coreOf wsX5_coreOf) := goodIn_app (goodIn_of _ (by decide +kernel)) ggX5_mainOf_X5_coreOf
set_option maxRecDepth 20000 in
theorem ggX5_mainOf_X5_at : GoodIn wsX5_mainOf wsX5_at := goodIn_r _ [13] (by decide +kernel) (by decide +kernel)
set_option maxRecDepth 20000 in
theorem gX5_mainOf_X5_at : GoodIn wsX5_mainOf (va_wsS RX5 77 yX5_at wsX5_at) := goodIn_app (goodIn_of _ (by decide +kernel)) ggX5_mainOf_X5_at
set_option maxRecDepth 20000 in
theorem ggX5_mainOf_X5_problemOf : GoodIn wsX5_mainOf wsX5_problemOf := goodIn_r _ [26, 27, 28, 22, 29] (by decide +kernel) (by decide +kernel)
set_option maxRecDepth 20000 in
theorem gX5_mainOf_X5_problemOf : GoodIn wsX5_mainOf (va_wsS RX5 101 yX5_problemOf wsX5_problemOf) := goodIn_app (goodIn_of _ (by decide +kernel)) ggX5_mainOf_X5_problemOf
theorem dX5_mainOf_0 : decode cX5_mainOf 0 = .ok (.iconst 0, 1) := by decide +kernel
theorem dX5_mainOf_1 : decode cX5_mainOf 1 = .ok (.istore_n 2, 1) := by decide +kernel
theorem dX5_mainOf_2 : decode cX5_mainOf 2 = .ok (.iconst (-1), 1) := by decide +kernel
theorem dX5_mainOf_3 : decode cX5_mainOf 3 = .ok (.istore_n 3, 1) := by decide +kernel
theorem dX5_mainOf_4 : decode cX5_mainOf 4 = .ok (.aload_n 0, 1) := by decide +kernel
theorem dX5_mainOf_5 : decode cX5_mainOf 5 = .ok (.iload_n 1, 1) := by decide +kernel
theorem dX5_mainOf_6 : decode cX5_mainOf 6 = .ok (.invokevirtual 121, 3) := by decide +kernel
theorem dX5_mainOf_9 : decode cX5_mainOf 9 = .ok (.istore 4, 2) := by decide +kernel
theorem dX5_mainOf_11 : decode cX5_mainOf 11 = .ok (.iconst 0, 1) := by decide +kernel
theorem dX5_mainOf_12 : decode cX5_mainOf 12 = .ok (.istore 5, 2) := by decide +kernel
theorem dX5_mainOf_14 : decode cX5_mainOf 14 = .ok (.iload 5, 2) := by decide +kernel
theorem dX5_mainOf_16 : decode cX5_mainOf 16 = .ok (.iconst 4, 1) := by decide +kernel
theorem dX5_mainOf_17 : decode cX5_mainOf 17 = .ok (.if_icmp .ge 78, 3) := by decide +kernel
theorem dX5_mainOf_20 : decode cX5_mainOf 20 = .ok (.iconst 0, 1) := by decide +kernel
theorem dX5_mainOf_21 : decode cX5_mainOf 21 = .ok (.istore 6, 2) := by decide +kernel
theorem dX5_mainOf_23 : decode cX5_mainOf 23 = .ok (.iconst 0, 1) := by decide +kernel
theorem dX5_mainOf_24 : decode cX5_mainOf 24 = .ok (.istore 7, 2) := by decide +kernel
theorem dX5_mainOf_26 : decode cX5_mainOf 26 = .ok (.iload 7, 2) := by decide +kernel
theorem dX5_mainOf_28 : decode cX5_mainOf 28 = .ok (.bipush 12, 2) := by decide +kernel
theorem dX5_mainOf_30 : decode cX5_mainOf 30 = .ok (.if_icmp .ge 44, 3) := by decide +kernel
theorem dX5_mainOf_33 : decode cX5_mainOf 33 = .ok (.iload 6, 2) := by decide +kernel
theorem dX5_mainOf_35 : decode cX5_mainOf 35 = .ok (.iload 4, 2) := by decide +kernel
theorem dX5_mainOf_37 : decode cX5_mainOf 37 = .ok (.iload 7, 2) := by decide +kernel
theorem dX5_mainOf_39 : decode cX5_mainOf 39 = .ok (.ishr, 1) := by decide +kernel
theorem dX5_mainOf_40 : decode cX5_mainOf 40 = .ok (.iconst 1, 1) := by decide +kernel
theorem dX5_mainOf_41 : decode cX5_mainOf 41 = .ok (.iand, 1) := by decide +kernel
theorem dX5_mainOf_42 : decode cX5_mainOf 42 = .ok (.iconst 1, 1) := by decide +kernel
theorem dX5_mainOf_43 : decode cX5_mainOf 43 = .ok (.if_icmp .ne 21, 3) := by decide +kernel
theorem dX5_mainOf_46 : decode cX5_mainOf 46 = .ok (.aload_n 0, 1) := by decide +kernel
theorem dX5_mainOf_47 : decode cX5_mainOf 47 = .ok (.getfield 9, 3) := by decide +kernel
theorem dX5_mainOf_50 : decode cX5_mainOf 50 = .ok (.iload_n 1, 1) := by decide +kernel
theorem dX5_mainOf_51 : decode cX5_mainOf 51 = .ok (.iload 7, 2) := by decide +kernel
theorem dX5_mainOf_53 : decode cX5_mainOf 53 = .ok (.invokestatic 77, 3) := by decide +kernel
theorem dX5_mainOf_56 : decode cX5_mainOf 56 = .ok (.iload 5, 2) := by decide +kernel
theorem dX5_mainOf_58 : decode cX5_mainOf 58 = .ok (.invokestatic 101, 3) := by decide +kernel
theorem dX5_mainOf_61 : decode cX5_mainOf 61 = .ok (.goto 4, 3) := by decide +kernel
theorem dX5_mainOf_64 : decode cX5_mainOf 64 = .ok (.iconst 0, 1) := by decide +kernel
theorem dX5_mainOf_65 : decode cX5_mainOf 65 = .ok (.iadd, 1) := by decide +kernel
theorem dX5_mainOf_66 : decode cX5_mainOf 66 = .ok (.istore 6, 2) := by decide +kernel
theorem dX5_mainOf_68 : decode cX5_mainOf 68 = .ok (.iinc 7 1, 3) := by decide +kernel
theorem dX5_mainOf_71 : decode cX5_mainOf 71 = .ok (.goto (-45), 3) := by decide +kernel
theorem dX5_mainOf_74 : decode cX5_mainOf 74 = .ok (.iload 6, 2) := by decide +kernel
theorem dX5_mainOf_76 : decode cX5_mainOf 76 = .ok (.iload_n 3, 1) := by decide +kernel
theorem dX5_mainOf_77 : decode cX5_mainOf 77 = .ok (.if_icmp .gt 6, 3) := by decide +kernel
theorem dX5_mainOf_80 : decode cX5_mainOf 80 = .ok (.goto 9, 3) := by decide +kernel
theorem dX5_mainOf_83 : decode cX5_mainOf 83 = .ok (.iload 5, 2) := by decide +kernel
theorem dX5_mainOf_85 : decode cX5_mainOf 85 = .ok (.istore_n 2, 1) := by decide +kernel
theorem dX5_mainOf_86 : decode cX5_mainOf 86 = .ok (.iload 6, 2) := by decide +kernel
theorem dX5_mainOf_88 : decode cX5_mainOf 88 = .ok (.istore_n 3, 1) := by decide +kernel
theorem dX5_mainOf_89 : decode cX5_mainOf 89 = .ok (.iinc 5 1, 3) := by decide +kernel
theorem dX5_mainOf_92 : decode cX5_mainOf 92 = .ok (.goto (-78), 3) := by decide +kernel
theorem dX5_mainOf_95 : decode cX5_mainOf 95 = .ok (.iload_n 2, 1) := by decide +kernel
theorem dX5_mainOf_96 : decode cX5_mainOf 96 = .ok (.ireturn, 1) := by decide +kernel
set_option maxRecDepth 20000 in
theorem ggX5_problem_X5_isSector : GoodIn wsX5_problem wsX5_isSector := goodIn_r _ [7, 8, 9, 10, 6, 11, 12, 13, 14, 15, 30, 31, 32, 33, 34, 35, 36, 37, 38, 39, 40, 41, 42] (by decide +kernel) (by decide +kernel)
set_option maxRecDepth 20000 in
theorem gX5_problem_X5_isSector : GoodIn wsX5_problem (wsV RX5 97 RX5 yX5_isSector wsX5_isSector) := goodIn_app (goodIn_of _ (by decide +kernel)) ggX5_problem_X5_isSector
set_option maxRecDepth 20000 in
theorem ggX5_problem_X5_isIn : GoodIn wsX5_problem wsX5_isIn := goodIn_r _ [15] (by decide +kernel) (by decide +kernel)
set_option maxRecDepth 20000 in
theorem gX5_problem_X5_isIn : GoodIn wsX5_problem (va_wsS RX5 45 yX5_isIn wsX5_isIn) := goodIn_app (goodIn_of _ (by decide +kernel)) ggX5_problem_X5_isIn
set_option maxRecDepth 20000 in
theorem ggX5_problem_X5_at : GoodIn wsX5_problem wsX5_at := goodIn_r _ [18] (by decide +kernel) (by decide +kernel)
set_option maxRecDepth 20000 in
theorem gX5_problem_X5_at : GoodIn wsX5_problem (va_wsS RX5 77 yX5_at wsX5_at) := goodIn_app (goodIn_of _ (by decide +kernel)) ggX5_problem_X5_at
set_option maxRecDepth 20000 in
theorem ggX5_problem_X5_problemOf : GoodIn wsX5_problem wsX5_problemOf := goodIn_r _ [21, 22, 23, 24, 25] (by decide +kernel) (by decide +kernel)
set_option maxRecDepth 20000 in
theorem gX5_problem_X5_problemOf : GoodIn wsX5_problem (va_wsS RX5 101 yX5_problemOf wsX5_problemOf) := goodIn_app (goodIn_of _ (by decide +kernel)) ggX5_problem_X5_problemOf
set_option maxRecDepth 20000 in
theorem ggX5_problem_X5_no : GoodIn wsX5_problem wsX5_no := goodIn_r _ [29, 1, 30, 31, 32, 33, 34, 35, 36, 37, 38, 39, 40, 41, 42] (by decide +kernel) (by decide +kernel)
set_option maxRecDepth 20000 in
theorem gX5_problem_X5_no : GoodIn wsX5_problem (wsV RX5 53 RX5 yX5_no wsX5_no) := goodIn_app (goodIn_of _ (by decide +kernel)) ggX5_problem_X5_no
theorem dX5_problem_0 : decode cX5_problem 0 = .ok (.aload_n 0, 1) := by decide +kernel
theorem dX5_problem_1 : decode cX5_problem 1 = .ok (.iconst 0, 1) := by decide +kernel
theorem dX5_problem_2 : decode cX5_problem 2 = .ok (.putfield 38, 3) := by decide +kernel
theorem dX5_problem_5 : decode cX5_problem 5 = .ok (.aload_n 0, 1) := by decide +kernel
theorem dX5_problem_6 : decode cX5_problem 6 = .ok (.iload_n 1, 1) := by decide +kernel
theorem dX5_problem_7 : decode cX5_problem 7 = .ok (.iload_n 2, 1) := by decide +kernel
theorem dX5_problem_8 : decode cX5_problem 8 = .ok (.invokevirtual 97, 3) := by decide +kernel
theorem dX5_problem_11 : decode cX5_problem 11 = .ok (.ifCond .eq 28, 3) := by decide +kernel
theorem dX5_problem_14 : decode cX5_problem 14 = .ok (.iload_n 3, 1) := by decide +kernel
theorem dX5_problem_15 : decode cX5_problem 15 = .ok (.iconst 0, 1) := by decide +kernel
theorem dX5_problem_16 : decode cX5_problem 16 = .ok (.iconst 3, 1) := by decide +kernel
theorem dX5_problem_17 : decode cX5_problem 17 = .ok (.invokestatic 45, 3) := by decide +kernel
theorem dX5_problem_20 : decode cX5_problem 20 = .ok (.ifCond .eq 19, 3) := by decide +kernel
theorem dX5_problem_23 : decode cX5_problem 23 = .ok (.aload_n 0, 1) := by decide +kernel
theorem dX5_problem_24 : decode cX5_problem 24 = .ok (.getfield 9, 3) := by decide +kernel
theorem dX5_problem_27 : decode cX5_problem 27 = .ok (.iload_n 1, 1) := by decide +kernel
theorem dX5_problem_28 : decode cX5_problem 28 = .ok (.iload_n 2, 1) := by decide +kernel
theorem dX5_problem_29 : decode cX5_problem 29 = .ok (.invokestatic 77, 3) := by decide +kernel
theorem dX5_problem_32 : decode cX5_problem 32 = .ok (.iload_n 3, 1) := by decide +kernel
theorem dX5_problem_33 : decode cX5_problem 33 = .ok (.invokestatic 101, 3) := by decide +kernel
theorem dX5_problem_36 : decode cX5_problem 36 = .ok (.goto 8, 3) := by decide +kernel
theorem dX5_problem_39 : decode cX5_problem 39 = .ok (.aload_n 0, 1) := by decide +kernel
theorem dX5_problem_40 : decode cX5_problem 40 = .ok (.iconst 1, 1) := by decide +kernel
theorem dX5_problem_41 : decode cX5_problem 41 = .ok (.invokevirtual 53, 3) := by decide +kernel
theorem dX5_problem_44 : decode cX5_problem 44 = .ok (.ireturn, 1) := by decide +kernel
set_option maxRecDepth 20000 in
theorem ggX5_danger_X5_isSector : GoodIn wsX5_danger wsX5_isSector := goodIn_r _ [7, 8, 9, 10, 6, 11, 12, 13, 14, 15, 39, 40, 41, 42, 43, 44, 45, 46, 47, 48, 49, 50, 51] (by decide +kernel) (by decide +kernel)
set_option maxRecDepth 20000 in
theorem gX5_danger_X5_isSector : GoodIn wsX5_danger (wsV RX5 97 RX5 yX5_isSector wsX5_isSector) := goodIn_app (goodIn_of _ (by decide +kernel)) ggX5_danger_X5_isSector
set_option maxRecDepth 20000 in
theorem ggX5_danger_X5_no : GoodIn wsX5_danger wsX5_no := goodIn_r _ [19, 1, 39, 40, 41, 42, 43, 44, 45, 46, 47, 48, 49, 50, 51] (by decide +kernel) (by decide +kernel)
set_option maxRecDepth 20000 in
theorem gX5_danger_X5_no : GoodIn wsX5_danger (wsV RX5 53 RX5 yX5_no wsX5_no) := goodIn_app (goodIn_of _ (by decide +kernel)) ggX5_danger_X5_no
set_option maxRecDepth 20000 in
theorem ggX5_danger_X5_at : GoodIn wsX5_danger wsX5_at := goodIn_r _ [22] (by decide +kernel) (by decide +kernel)
set_option maxRecDepth 20000 in
theorem gX5_danger_X5_at : GoodIn wsX5_danger (va_wsS RX5 77 yX5_at wsX5_at) := goodIn_app (goodIn_of _ (by decide +kernel)) ggX5_danger_X5_at
set_option maxRecDepth 20000 in
theorem ggX5_danger_X5_dangerOf : GoodIn wsX5_danger wsX5_dangerOf := goodIn_r _ [25, 26, 27, 28, 29, 30, 31, 6, 32, 33, 34, 35] (by decide +kernel) (by decide +kernel)
set_option maxRecDepth 20000 in
theorem gX5_danger_X5_dangerOf : GoodIn wsX5_danger (va_wsS RX5 108 yX5_dangerOf wsX5_dangerOf) := goodIn_app (goodIn_of _ (by decide +kernel)) ggX5_danger_X5_dangerOf
set_option maxRecDepth 20000 in
theorem ggX5_danger_X5_levelBy : GoodIn wsX5_danger wsX5_levelBy := goodIn_r _ [38] (by decide +kernel) (by decide +kernel)
set_option maxRecDepth 20000 in
theorem gX5_danger_X5_levelBy : GoodIn wsX5_danger (va_wsS RX5 112 yX5_levelBy wsX5_levelBy) := goodIn_app (goodIn_of _ (by decide +kernel)) ggX5_danger_X5_levelBy
theorem dX5_danger_0 : decode cX5_danger 0 = .ok (.aload_n 0, 1) := by decide +kernel
theorem dX5_danger_1 : decode cX5_danger 1 = .ok (.iconst 0, 1) := by decide +kernel
theorem dX5_danger_2 : decode cX5_danger 2 = .ok (.putfield 38, 3) := by decide +kernel
theorem dX5_danger_5 : decode cX5_danger 5 = .ok (.aload_n 0, 1) := by decide +kernel
theorem dX5_danger_6 : decode cX5_danger 6 = .ok (.iload_n 1, 1) := by decide +kernel
theorem dX5_danger_7 : decode cX5_danger 7 = .ok (.iload_n 2, 1) := by decide +kernel
theorem dX5_danger_8 : decode cX5_danger 8 = .ok (.invokevirtual 97, 3) := by decide +kernel
theorem dX5_danger_11 : decode cX5_danger 11 = .ok (.ifCond .ne 9, 3) := by decide +kernel
theorem dX5_danger_14 : decode cX5_danger 14 = .ok (.aload_n 0, 1) := by decide +kernel
theorem dX5_danger_15 : decode cX5_danger 15 = .ok (.iconst 1, 1) := by decide +kernel
theorem dX5_danger_16 : decode cX5_danger 16 = .ok (.invokevirtual 53, 3) := by decide +kernel
theorem dX5_danger_19 : decode cX5_danger 19 = .ok (.ireturn, 1) := by decide +kernel
theorem dX5_danger_20 : decode cX5_danger 20 = .ok (.aload_n 0, 1) := by decide +kernel
theorem dX5_danger_21 : decode cX5_danger 21 = .ok (.getfield 9, 3) := by decide +kernel
theorem dX5_danger_24 : decode cX5_danger 24 = .ok (.iload_n 1, 1) := by decide +kernel
theorem dX5_danger_25 : decode cX5_danger 25 = .ok (.iload_n 2, 1) := by decide +kernel
theorem dX5_danger_26 : decode cX5_danger 26 = .ok (.invokestatic 77, 3) := by decide +kernel
theorem dX5_danger_29 : decode cX5_danger 29 = .ok (.invokestatic 108, 3) := by decide +kernel
theorem dX5_danger_32 : decode cX5_danger 32 = .ok (.istore 4, 2) := by decide +kernel
theorem dX5_danger_34 : decode cX5_danger 34 = .ok (.iload_n 3, 1) := by decide +kernel
theorem dX5_danger_35 : decode cX5_danger 35 = .ok (.ifCond .eq 11, 3) := by decide +kernel
theorem dX5_danger_38 : decode cX5_danger 38 = .ok (.iload 4, 2) := by decide +kernel
theorem dX5_danger_40 : decode cX5_danger 40 = .ok (.invokestatic 112, 3) := by decide +kernel
theorem dX5_danger_43 : decode cX5_danger 43 = .ok (.goto 5, 3) := by decide +kernel
theorem dX5_danger_46 : decode cX5_danger 46 = .ok (.iload 4, 2) := by decide +kernel
theorem dX5_danger_48 : decode cX5_danger 48 = .ok (.ireturn, 1) := by decide +kernel
set_option maxRecDepth 20000 in
theorem ggX5_level__X5_isRegion : GoodIn wsX5_level_ wsX5_isRegion := goodIn_r _ [7, 8, 9, 10, 6, 11, 42, 43, 44, 45, 46, 47, 48, 49, 50, 51, 52, 53, 54] (by decide +kernel) (by decide +kernel)
set_option maxRecDepth 20000 in
theorem gX5_level__X5_isRegion : GoodIn wsX5_level_ (wsV RX5 49 RX5 yX5_isRegion wsX5_isRegion) := goodIn_app (goodIn_of _ (by decide +kernel)) ggX5_level__X5_isRegion
set_option maxRecDepth 20000 in
theorem ggX5_level__X5_level : GoodIn wsX5_level_ wsX5_level := goodIn_r _ [15, 16, 17, 6, 18, 19, 20, 21, 22, 23, 24, 25, 26, 27, 28, 29, 30, 31, 32, 33, 34, 35, 36, 37] (by decide +kernel) (by decide +kernel)
set_option maxRecDepth 20000 in
theorem gX5_level__X5_level : GoodIn wsX5_level_ (wsV RX5 118 RX5 yX5_level wsX5_level) := goodIn_app (goodIn_of _ (by decide +kernel)) ggX5_level__X5_level
set_option maxRecDepth 20000 in
theorem ggX5_level__X5_no : GoodIn wsX5_level_ wsX5_no := goodIn_r _ [41, 1, 42, 43, 44, 45, 46, 47, 48, 49, 50, 51, 52, 53, 54] (by decide +kernel) (by decide +kernel)
set_option maxRecDepth 20000 in
theorem gX5_level__X5_no : GoodIn wsX5_level_ (wsV RX5 53 RX5 yX5_no wsX5_no) := goodIn_app (goodIn_of _ (by decide +kernel)) ggX5_level__X5_no
theorem dX5_level__0 : decode cX5_level_ 0 = .ok (.aload_n 0, 1) := by decide +kernel
theorem dX5_level__1 : decode cX5_level_ 1 = .ok (.iconst 0, 1) := by decide +kernel
theorem dX5_level__2 : decode cX5_level_ 2 = .ok (.putfield 38, 3) := by decide +kernel
theorem dX5_level__5 : decode cX5_level_ 5 = .ok (.aload_n 0, 1) := by decide +kernel
theorem dX5_level__6 : decode cX5_level_ 6 = .ok (.iload_n 1, 1) := by decide +kernel
theorem dX5_level__7 : decode cX5_level_ 7 = .ok (.invokevirtual 49, 3) := by decide +kernel
theorem dX5_level__10 : decode cX5_level_ 10 = .ok (.ifCond .eq 15, 3) := by decide +kernel
theorem dX5_level__13 : decode cX5_level_ 13 = .ok (.aload_n 0, 1) := by decide +kernel
theorem dX5_level__14 : decode cX5_level_ 14 = .ok (.aload_n 0, 1) := by decide +kernel
theorem dX5_level__15 : decode cX5_level_ 15 = .ok (.getfield 9, 3) := by decide +kernel
theorem dX5_level__18 : decode cX5_level_ 18 = .ok (.iload_n 1, 1) := by decide +kernel
theorem dX5_level__19 : decode cX5_level_ 19 = .ok (.invokevirtual 118, 3) := by decide +kernel
theorem dX5_level__22 : decode cX5_level_ 22 = .ok (.goto 8, 3) := by decide +kernel
theorem dX5_level__25 : decode cX5_level_ 25 = .ok (.aload_n 0, 1) := by decide +kernel
theorem dX5_level__26 : decode cX5_level_ 26 = .ok (.iconst 1, 1) := by decide +kernel
theorem dX5_level__27 : decode cX5_level_ 27 = .ok (.invokevirtual 53, 3) := by decide +kernel
theorem dX5_level__30 : decode cX5_level_ 30 = .ok (.ireturn, 1) := by decide +kernel
set_option maxRecDepth 20000 in
theorem ggX5_core_X5_isRegion : GoodIn wsX5_core wsX5_isRegion := goodIn_r _ [6, 7, 8, 9, 5, 10, 46, 47, 48, 49, 50, 51, 52, 53, 54, 55, 56, 57, 58] (by decide +kernel) (by decide +kernel)
set_option maxRecDepth 20000 in
theorem gX5_core_X5_isRegion : GoodIn wsX5_core (wsV RX5 49 RX5 yX5_isRegion wsX5_isRegion) := goodIn_app (goodIn_of _ (by decide +kernel)) ggX5_core_X5_isRegion
set_option maxRecDepth 20000 in
theorem ggX5_core_X5_coreOf : GoodIn wsX5_core wsX5_coreOf := goodIn_r _ [14, 15, 16, 17, 18, 5, 19, 20, 21, 22, 23, 24, 25, 26, 27, 28, 29, 30, 31, 32, 33, 34, 35, 36, 37, 38, 39, 40, 41, 46, 47, 48, 49, 50, 51, 52, 53, 54, 55, 56, 57, 58] (by decide +kernel) (by decide +kernel)
set_option maxRecDepth 20000 in
theorem gX5_core_X5_coreOf : GoodIn wsX5_core (wsV RX5 121 RX5 yX5_coreOf wsX5_coreOf) := goodIn_app (goodIn_of _ (by decide +kernel)) ggX5_core_X5_coreOf
set_option maxRecDepth 20000 in
theorem ggX5_core_X5_no : GoodIn wsX5_core wsX5_no := goodIn_r _ [45, 1, 46, 47, 48, 49, 50, 51, 52, 53, 54, 55, 56, 57, 58] (by decide +kernel) (by decide +kernel)
set_option maxRecDepth 20000 in
theorem gX5_core_X5_no : GoodIn wsX5_core (wsV RX5 53 RX5 yX5_no wsX5_no) := goodIn_app (goodIn_of _ (by decide +kernel)) ggX5_core_X5_no
theorem dX5_core_0 : decode cX5_core 0 = .ok (.aload_n 0, 1) := by decide +kernel
theorem dX5_core_1 : decode cX5_core 1 = .ok (.iconst 0, 1) := by decide +kernel
theorem dX5_core_2 : decode cX5_core 2 = .ok (.putfield 38, 3) := by decide +kernel
theorem dX5_core_5 : decode cX5_core 5 = .ok (.aload_n 0, 1) := by decide +kernel
theorem dX5_core_6 : decode cX5_core 6 = .ok (.iload_n 1, 1) := by decide +kernel
theorem dX5_core_7 : decode cX5_core 7 = .ok (.invokevirtual 49, 3) := by decide +kernel
theorem dX5_core_10 : decode cX5_core 10 = .ok (.ifCond .eq 11, 3) := by decide +kernel
theorem dX5_core_13 : decode cX5_core 13 = .ok (.aload_n 0, 1) := by decide +kernel
theorem dX5_core_14 : decode cX5_core 14 = .ok (.iload_n 1, 1) := by decide +kernel
theorem dX5_core_15 : decode cX5_core 15 = .ok (.invokevirtual 121, 3) := by decide +kernel
theorem dX5_core_18 : decode cX5_core 18 = .ok (.goto 8, 3) := by decide +kernel
theorem dX5_core_21 : decode cX5_core 21 = .ok (.aload_n 0, 1) := by decide +kernel
theorem dX5_core_22 : decode cX5_core 22 = .ok (.iconst 1, 1) := by decide +kernel
theorem dX5_core_23 : decode cX5_core 23 = .ok (.invokevirtual 53, 3) := by decide +kernel
theorem dX5_core_26 : decode cX5_core 26 = .ok (.ireturn, 1) := by decide +kernel
set_option maxRecDepth 20000 in
theorem ggX5_mainProblem_X5_isRegion : GoodIn wsX5_mainProblem wsX5_isRegion := goodIn_r _ [6, 7, 8, 9, 5, 10, 50, 51, 52, 53, 54, 55, 56, 57, 58, 59, 60, 61, 62] (by decide +kernel) (by decide +kernel)
set_option maxRecDepth 20000 in
theorem gX5_mainProblem_X5_isRegion : GoodIn wsX5_mainProblem (wsV RX5 49 RX5 yX5_isRegion wsX5_isRegion) := goodIn_app (goodIn_of _ (by decide +kernel)) ggX5_mainProblem_X5_isRegion
set_option maxRecDepth 20000 in
theorem ggX5_mainProblem_X5_mainOf : GoodIn wsX5_mainProblem wsX5_mainOf := goodIn_r _ [14, 15, 16, 17, 18, 5, 19, 20, 21, 22, 23, 24, 25, 26, 27, 28, 29, 30, 31, 32, 33, 34, 35, 36, 37, 38, 39, 40, 41, 42, 43, 44, 45, 50, 51, 52, 53, 54, 55, 56, 57, 58, 59, 60, 61, 62] (by decide +kernel) (by decide +kernel)
set_option maxRecDepth 20000 in
theorem gX5_mainProblem_X5_mainOf : GoodIn wsX5_mainProblem (wsV RX5 124 RX5 yX5_mainOf wsX5_mainOf) := goodIn_app (goodIn_of _ (by decide +kernel)) ggX5_mainProblem_X5_mainOf
set_option maxRecDepth 20000 in
theorem ggX5_mainProblem_X5_no : GoodIn wsX5_mainProblem wsX5_no := goodIn_r _ [49, 1, 50, 51, 52, 53, 54, 55, 56, 57, 58, 59, 60, 61, 62] (by decide +kernel) (by decide +kernel)
set_option maxRecDepth 20000 in
theorem gX5_mainProblem_X5_no : GoodIn wsX5_mainProblem (wsV RX5 53 RX5 yX5_no wsX5_no) := goodIn_app (goodIn_of _ (by decide +kernel)) ggX5_mainProblem_X5_no
theorem dX5_mainProblem_0 : decode cX5_mainProblem 0 = .ok (.aload_n 0, 1) := by decide +kernel
theorem dX5_mainProblem_1 : decode cX5_mainProblem 1 = .ok (.iconst 0, 1) := by decide +kernel
theorem dX5_mainProblem_2 : decode cX5_mainProblem 2 = .ok (.putfield 38, 3) := by decide +kernel
theorem dX5_mainProblem_5 : decode cX5_mainProblem 5 = .ok (.aload_n 0, 1) := by decide +kernel
theorem dX5_mainProblem_6 : decode cX5_mainProblem 6 = .ok (.iload_n 1, 1) := by decide +kernel
theorem dX5_mainProblem_7 : decode cX5_mainProblem 7 = .ok (.invokevirtual 49, 3) := by decide +kernel
theorem dX5_mainProblem_10 : decode cX5_mainProblem 10 = .ok (.ifCond .eq 11, 3) := by decide +kernel
theorem dX5_mainProblem_13 : decode cX5_mainProblem 13 = .ok (.aload_n 0, 1) := by decide +kernel
theorem dX5_mainProblem_14 : decode cX5_mainProblem 14 = .ok (.iload_n 1, 1) := by decide +kernel
theorem dX5_mainProblem_15 : decode cX5_mainProblem 15 = .ok (.invokevirtual 124, 3) := by decide +kernel
theorem dX5_mainProblem_18 : decode cX5_mainProblem 18 = .ok (.goto 8, 3) := by decide +kernel
theorem dX5_mainProblem_21 : decode cX5_mainProblem 21 = .ok (.aload_n 0, 1) := by decide +kernel
theorem dX5_mainProblem_22 : decode cX5_mainProblem 22 = .ok (.iconst 1, 1) := by decide +kernel
theorem dX5_mainProblem_23 : decode cX5_mainProblem 23 = .ok (.invokevirtual 53, 3) := by decide +kernel
theorem dX5_mainProblem_26 : decode cX5_mainProblem 26 = .ok (.ireturn, 1) := by decide +kernel
set_option maxRecDepth 20000 in
theorem ggX5_outlook_X5_isRegion : GoodIn wsX5_outlook wsX5_isRegion := goodIn_r _ [6, 7, 8, 9, 5, 10, 63, 64, 65, 66, 67, 68, 69, 70, 71, 72, 73, 74, 75] (by decide +kernel) (by decide +kernel)
set_option maxRecDepth 20000 in
theorem gX5_outlook_X5_isRegion : GoodIn wsX5_outlook (wsV RX5 49 RX5 yX5_isRegion wsX5_isRegion) := goodIn_app (goodIn_of _ (by decide +kernel)) ggX5_outlook_X5_isRegion
set_option maxRecDepth 20000 in
theorem ggX5_outlook_X5_no : GoodIn wsX5_outlook wsX5_no := goodIn_r _ [14, 1, 63, 64, 65, 66, 67, 68, 69, 70, 71, 72, 73, 74, 75] (by decide +kernel) (by decide +kernel)
set_option maxRecDepth 20000 in
theorem gX5_outlook_X5_no : GoodIn wsX5_outlook (wsV RX5 53 RX5 yX5_no wsX5_no) := goodIn_app (goodIn_of _ (by decide +kernel)) ggX5_outlook_X5_no
set_option maxRecDepth 20000 in
theorem ggX5_outlook_X5_isWeather : GoodIn wsX5_outlook wsX5_isWeather := goodIn_r _ [17, 8, 9, 5, 10] (by decide +kernel) (by decide +kernel)
set_option maxRecDepth 20000 in
theorem gX5_outlook_X5_isWeather : GoodIn wsX5_outlook (va_wsS RX5 57 yX5_isWeather wsX5_isWeather) := goodIn_app (goodIn_of _ (by decide +kernel)) ggX5_outlook_X5_isWeather
set_option maxRecDepth 20000 in
theorem ggX5_outlook_X5_then : GoodIn wsX5_outlook wsX5_then := goodIn_r _ [21, 22, 23, 24, 25, 26, 27, 28, 29, 5, 30, 31, 32, 33, 34, 35, 36, 37, 38, 39, 40, 41, 42, 43, 44, 45, 46, 47, 63, 64, 65, 66, 67, 68, 69, 70, 71, 72, 73, 74, 75] (by decide +kernel) (by decide +kernel)
set_option maxRecDepth 20000 in
theorem gX5_outlook_X5_then : GoodIn wsX5_outlook (wsV RX5 93 RX5 yX5_then wsX5_then) := goodIn_app (goodIn_of _ (by decide +kernel)) ggX5_outlook_X5_then
set_option maxRecDepth 20000 in
theorem ggX5_outlook_X5_levelOf : GoodIn wsX5_outlook wsX5_levelOf := goodIn_r _ [50, 51, 52, 5, 53, 54, 55, 36, 56, 57, 58, 59, 34, 35, 37, 60, 61, 62] (by decide +kernel) (by decide +kernel)
set_option maxRecDepth 20000 in
theorem gX5_outlook_X5_levelOf : GoodIn wsX5_outlook (va_wsS RX5 115 yX5_levelOf wsX5_levelOf) := goodIn_app (goodIn_of _ (by decide +kernel)) ggX5_outlook_X5_levelOf
theorem dX5_outlook_0 : decode cX5_outlook 0 = .ok (.aload_n 0, 1) := by decide +kernel
theorem dX5_outlook_1 : decode cX5_outlook 1 = .ok (.iconst 0, 1) := by decide +kernel
theorem dX5_outlook_2 : decode cX5_outlook 2 = .ok (.putfield 38, 3) := by decide +kernel
theorem dX5_outlook_5 : decode cX5_outlook 5 = .ok (.aload_n 0, 1) := by decide +kernel
theorem dX5_outlook_6 : decode cX5_outlook 6 = .ok (.iload_n 1, 1) := by decide +kernel
theorem dX5_outlook_7 : decode cX5_outlook 7 = .ok (.invokevirtual 49, 3) := by decide +kernel
theorem dX5_outlook_10 : decode cX5_outlook 10 = .ok (.ifCond .ne 9, 3) := by decide +kernel
theorem dX5_outlook_13 : decode cX5_outlook 13 = .ok (.aload_n 0, 1) := by decide +kernel
theorem dX5_outlook_14 : decode cX5_outlook 14 = .ok (.iconst 1, 1) := by decide +kernel
theorem dX5_outlook_15 : decode cX5_outlook 15 = .ok (.invokevirtual 53, 3) := by decide +kernel
theorem dX5_outlook_18 : decode cX5_outlook 18 = .ok (.ireturn, 1) := by decide +kernel
theorem dX5_outlook_19 : decode cX5_outlook 19 = .ok (.iload_n 2, 1) := by decide +kernel
theorem dX5_outlook_20 : decode cX5_outlook 20 = .ok (.iload_n 3, 1) := by decide +kernel
theorem dX5_outlook_21 : decode cX5_outlook 21 = .ok (.iload 4, 2) := by decide +kernel
theorem dX5_outlook_23 : decode cX5_outlook 23 = .ok (.iload 5, 2) := by decide +kernel
theorem dX5_outlook_25 : decode cX5_outlook 25 = .ok (.invokestatic 57, 3) := by decide +kernel
theorem dX5_outlook_28 : decode cX5_outlook 28 = .ok (.ifCond .eq 21, 3) := by decide +kernel
theorem dX5_outlook_31 : decode cX5_outlook 31 = .ok (.aload_n 0, 1) := by decide +kernel
theorem dX5_outlook_32 : decode cX5_outlook 32 = .ok (.iload_n 1, 1) := by decide +kernel
theorem dX5_outlook_33 : decode cX5_outlook 33 = .ok (.iload_n 2, 1) := by decide +kernel
theorem dX5_outlook_34 : decode cX5_outlook 34 = .ok (.iload_n 3, 1) := by decide +kernel
theorem dX5_outlook_35 : decode cX5_outlook 35 = .ok (.iload 4, 2) := by decide +kernel
theorem dX5_outlook_37 : decode cX5_outlook 37 = .ok (.iload 5, 2) := by decide +kernel
theorem dX5_outlook_39 : decode cX5_outlook 39 = .ok (.invokevirtual 93, 3) := by decide +kernel
theorem dX5_outlook_42 : decode cX5_outlook 42 = .ok (.iconst 0, 1) := by decide +kernel
theorem dX5_outlook_43 : decode cX5_outlook 43 = .ok (.invokestatic 115, 3) := by decide +kernel
theorem dX5_outlook_46 : decode cX5_outlook 46 = .ok (.goto 8, 3) := by decide +kernel
theorem dX5_outlook_49 : decode cX5_outlook 49 = .ok (.aload_n 0, 1) := by decide +kernel
theorem dX5_outlook_50 : decode cX5_outlook 50 = .ok (.iconst 2, 1) := by decide +kernel
theorem dX5_outlook_51 : decode cX5_outlook 51 = .ok (.invokevirtual 53, 3) := by decide +kernel
theorem dX5_outlook_54 : decode cX5_outlook 54 = .ok (.ireturn, 1) := by decide +kernel
theorem dX5_place_0 : decode cX5_place 0 = .ok (.bipush 6, 2) := by decide +kernel
theorem dX5_place_2 : decode cX5_place 2 = .ok (.iload_n 0, 1) := by decide +kernel
theorem dX5_place_3 : decode cX5_place 3 = .ok (.imul, 1) := by decide +kernel
theorem dX5_place_4 : decode cX5_place 4 = .ok (.iload_n 1, 1) := by decide +kernel
theorem dX5_place_5 : decode cX5_place 5 = .ok (.iadd, 1) := by decide +kernel
theorem dX5_place_6 : decode cX5_place 6 = .ok (.iconst 3, 1) := by decide +kernel
theorem dX5_place_7 : decode cX5_place 7 = .ok (.imul, 1) := by decide +kernel
theorem dX5_place_8 : decode cX5_place 8 = .ok (.ireturn, 1) := by decide +kernel
set_option maxRecDepth 20000 in
theorem ggX5_publish_X5_no : GoodIn wsX5_publish wsX5_no := goodIn_r _ [15, 1, 49, 50, 51, 52, 53, 54, 55, 56, 57, 58, 59, 60, 61] (by decide +kernel) (by decide +kernel)
set_option maxRecDepth 20000 in
theorem gX5_publish_X5_no : GoodIn wsX5_publish (wsV RX5 53 RX5 yX5_no wsX5_no) := goodIn_app (goodIn_of _ (by decide +kernel)) ggX5_publish_X5_no
set_option maxRecDepth 20000 in
theorem ggX5_publish_X5_place : GoodIn wsX5_publish wsX5_place := goodIn_r _ [18] (by decide +kernel) (by decide +kernel)
set_option maxRecDepth 20000 in
theorem gX5_publish_X5_place : GoodIn wsX5_publish (va_wsS RX5 127 yX5_place wsX5_place) := goodIn_app (goodIn_of _ (by decide +kernel)) ggX5_publish_X5_place
set_option maxRecDepth 20000 in
theorem ggX5_publish_X5_level : GoodIn wsX5_publish wsX5_level := goodIn_r _ [22, 23, 24, 14, 25, 26, 27, 28, 29, 30, 31, 7, 8, 9, 10, 32, 33, 34, 35, 36, 37, 38, 39, 40] (by decide +kernel) (by decide +kernel)
set_option maxRecDepth 20000 in
theorem gX5_publish_X5_level : GoodIn wsX5_publish (wsV RX5 118 RX5 yX5_level wsX5_level) := goodIn_app (goodIn_of _ (by decide +kernel)) ggX5_publish_X5_level
set_option maxRecDepth 20000 in
theorem ggX5_publish_X5_coreOf : GoodIn wsX5_publish wsX5_coreOf := goodIn_r _ [44, 6, 19, 20, 21, 14, 22, 23, 24, 25, 26, 27, 28, 29, 30, 31, 7, 8, 9, 10, 32, 33, 34, 35, 36, 37, 38, 39, 40, 49, 50, 51, 52, 53, 54, 55, 56, 57, 58, 59, 60, 61] (by decide +kernel) (by decide +kernel)
set_option maxRecDepth 20000 in
theorem gX5_publish_X5_coreOf : GoodIn wsX5_publish (wsV RX5 121 RX5 yX5_coreOf wsX5_coreOf) := goodIn_app (goodIn_of _ (by decide +kernel)) ggX5_publish_X5_coreOf
set_option maxRecDepth 20000 in
theorem ggX5_publish_X5_mainOf : GoodIn wsX5_publish wsX5_mainOf := goodIn_r _ [48, 6, 41, 42, 43, 14, 44, 19, 20, 21, 22, 23, 24, 25, 26, 27, 28, 29, 30, 31, 7, 8, 9, 10, 32, 33, 34, 35, 36, 37, 38, 39, 40, 49, 50, 51, 52, 53, 54, 55, 56, 57, 58, 59, 60, 61] (by decide +kernel) (by decide +kernel)
set_option maxRecDepth 20000 in
theorem gX5_publish_X5_mainOf : GoodIn wsX5_publish (wsV RX5 124 RX5 yX5_mainOf wsX5_mainOf) := goodIn_app (goodIn_of _ (by decide +kernel)) ggX5_publish_X5_mainOf
theorem dX5_publish_0 : decode cX5_publish 0 = .ok (.aload_n 0, 1) := by decide +kernel
theorem dX5_publish_1 : decode cX5_publish 1 = .ok (.iconst 0, 1) := by decide +kernel
theorem dX5_publish_2 : decode cX5_publish 2 = .ok (.putfield 38, 3) := by decide +kernel
theorem dX5_publish_5 : decode cX5_publish 5 = .ok (.aload_n 0, 1) := by decide +kernel
theorem dX5_publish_6 : decode cX5_publish 6 = .ok (.getfield 20, 3) := by decide +kernel
theorem dX5_publish_9 : decode cX5_publish 9 = .ok (.aload_n 0, 1) := by decide +kernel
theorem dX5_publish_10 : decode cX5_publish 10 = .ok (.getfield 90, 3) := by decide +kernel
theorem dX5_publish_13 : decode cX5_publish 13 = .ok (.iaload, 1) := by decide +kernel
theorem dX5_publish_14 : decode cX5_publish 14 = .ok (.ifCond .gt 10, 3) := by decide +kernel
theorem dX5_publish_17 : decode cX5_publish 17 = .ok (.aload_n 0, 1) := by decide +kernel
theorem dX5_publish_18 : decode cX5_publish 18 = .ok (.getfield 42, 3) := by decide +kernel
theorem dX5_publish_21 : decode cX5_publish 21 = .ok (.ifCond .ne 9, 3) := by decide +kernel
theorem dX5_publish_24 : decode cX5_publish 24 = .ok (.aload_n 0, 1) := by decide +kernel
theorem dX5_publish_25 : decode cX5_publish 25 = .ok (.iconst 1, 1) := by decide +kernel
theorem dX5_publish_26 : decode cX5_publish 26 = .ok (.invokevirtual 53, 3) := by decide +kernel
theorem dX5_publish_29 : decode cX5_publish 29 = .ok (.ireturn, 1) := by decide +kernel
theorem dX5_publish_30 : decode cX5_publish 30 = .ok (.aload_n 0, 1) := by decide +kernel
theorem dX5_publish_31 : decode cX5_publish 31 = .ok (.getfield 20, 3) := by decide +kernel
theorem dX5_publish_34 : decode cX5_publish 34 = .ok (.aload_n 0, 1) := by decide +kernel
theorem dX5_publish_35 : decode cX5_publish 35 = .ok (.getfield 90, 3) := by decide +kernel
theorem dX5_publish_38 : decode cX5_publish 38 = .ok (.aload_n 0, 1) := by decide +kernel
theorem dX5_publish_39 : decode cX5_publish 39 = .ok (.getfield 42, 3) := by decide +kernel
theorem dX5_publish_42 : decode cX5_publish 42 = .ok (.iastore, 1) := by decide +kernel
theorem dX5_publish_43 : decode cX5_publish 43 = .ok (.iconst 0, 1) := by decide +kernel
theorem dX5_publish_44 : decode cX5_publish 44 = .ok (.istore_n 1, 1) := by decide +kernel
theorem dX5_publish_45 : decode cX5_publish 45 = .ok (.iconst 0, 1) := by decide +kernel
theorem dX5_publish_46 : decode cX5_publish 46 = .ok (.istore_n 2, 1) := by decide +kernel
theorem dX5_publish_47 : decode cX5_publish 47 = .ok (.iload_n 2, 1) := by decide +kernel
theorem dX5_publish_48 : decode cX5_publish 48 = .ok (.aload_n 0, 1) := by decide +kernel
theorem dX5_publish_49 : decode cX5_publish 49 = .ok (.getfield 42, 3) := by decide +kernel
theorem dX5_publish_52 : decode cX5_publish 52 = .ok (.if_icmp .ge 89, 3) := by decide +kernel
theorem dX5_publish_55 : decode cX5_publish 55 = .ok (.aload_n 0, 1) := by decide +kernel
theorem dX5_publish_56 : decode cX5_publish 56 = .ok (.getfield 23, 3) := by decide +kernel
theorem dX5_publish_59 : decode cX5_publish 59 = .ok (.aload_n 0, 1) := by decide +kernel
theorem dX5_publish_60 : decode cX5_publish 60 = .ok (.getfield 90, 3) := by decide +kernel
theorem dX5_publish_63 : decode cX5_publish 63 = .ok (.iload_n 2, 1) := by decide +kernel
theorem dX5_publish_64 : decode cX5_publish 64 = .ok (.invokestatic 127, 3) := by decide +kernel
theorem dX5_publish_67 : decode cX5_publish 67 = .ok (.aload_n 0, 1) := by decide +kernel
theorem dX5_publish_68 : decode cX5_publish 68 = .ok (.aload_n 0, 1) := by decide +kernel
theorem dX5_publish_69 : decode cX5_publish 69 = .ok (.getfield 9, 3) := by decide +kernel
theorem dX5_publish_72 : decode cX5_publish 72 = .ok (.iload_n 2, 1) := by decide +kernel
theorem dX5_publish_73 : decode cX5_publish 73 = .ok (.invokevirtual 118, 3) := by decide +kernel
theorem dX5_publish_76 : decode cX5_publish 76 = .ok (.iastore, 1) := by decide +kernel
theorem dX5_publish_77 : decode cX5_publish 77 = .ok (.aload_n 0, 1) := by decide +kernel
theorem dX5_publish_78 : decode cX5_publish 78 = .ok (.getfield 23, 3) := by decide +kernel
theorem dX5_publish_81 : decode cX5_publish 81 = .ok (.aload_n 0, 1) := by decide +kernel
theorem dX5_publish_82 : decode cX5_publish 82 = .ok (.getfield 90, 3) := by decide +kernel
theorem dX5_publish_85 : decode cX5_publish 85 = .ok (.iload_n 2, 1) := by decide +kernel
theorem dX5_publish_86 : decode cX5_publish 86 = .ok (.invokestatic 127, 3) := by decide +kernel
theorem dX5_publish_89 : decode cX5_publish 89 = .ok (.iconst 1, 1) := by decide +kernel
theorem dX5_publish_90 : decode cX5_publish 90 = .ok (.iadd, 1) := by decide +kernel
theorem dX5_publish_91 : decode cX5_publish 91 = .ok (.aload_n 0, 1) := by decide +kernel
theorem dX5_publish_92 : decode cX5_publish 92 = .ok (.iload_n 2, 1) := by decide +kernel
theorem dX5_publish_93 : decode cX5_publish 93 = .ok (.invokevirtual 121, 3) := by decide +kernel
theorem dX5_publish_96 : decode cX5_publish 96 = .ok (.iastore, 1) := by decide +kernel
theorem dX5_publish_97 : decode cX5_publish 97 = .ok (.aload_n 0, 1) := by decide +kernel
theorem dX5_publish_98 : decode cX5_publish 98 = .ok (.getfield 23, 3) := by decide +kernel
theorem dX5_publish_101 : decode cX5_publish 101 = .ok (.aload_n 0, 1) := by decide +kernel
theorem dX5_publish_102 : decode cX5_publish 102 = .ok (.getfield 90, 3) := by decide +kernel
theorem dX5_publish_105 : decode cX5_publish 105 = .ok (.iload_n 2, 1) := by decide +kernel
theorem dX5_publish_106 : decode cX5_publish 106 = .ok (.invokestatic 127, 3) := by decide +kernel
theorem dX5_publish_109 : decode cX5_publish 109 = .ok (.iconst 2, 1) := by decide +kernel
theorem dX5_publish_110 : decode cX5_publish 110 = .ok (.iadd, 1) := by decide +kernel
theorem dX5_publish_111 : decode cX5_publish 111 = .ok (.aload_n 0, 1) := by decide +kernel
theorem dX5_publish_112 : decode cX5_publish 112 = .ok (.iload_n 2, 1) := by decide +kernel
theorem dX5_publish_113 : decode cX5_publish 113 = .ok (.invokevirtual 124, 3) := by decide +kernel
theorem dX5_publish_116 : decode cX5_publish 116 = .ok (.iastore, 1) := by decide +kernel
theorem dX5_publish_117 : decode cX5_publish 117 = .ok (.iload_n 1, 1) := by decide +kernel
theorem dX5_publish_118 : decode cX5_publish 118 = .ok (.aload_n 0, 1) := by decide +kernel
theorem dX5_publish_119 : decode cX5_publish 119 = .ok (.getfield 23, 3) := by decide +kernel
theorem dX5_publish_122 : decode cX5_publish 122 = .ok (.aload_n 0, 1) := by decide +kernel
theorem dX5_publish_123 : decode cX5_publish 123 = .ok (.getfield 90, 3) := by decide +kernel
theorem dX5_publish_126 : decode cX5_publish 126 = .ok (.iload_n 2, 1) := by decide +kernel
theorem dX5_publish_127 : decode cX5_publish 127 = .ok (.invokestatic 127, 3) := by decide +kernel
theorem dX5_publish_130 : decode cX5_publish 130 = .ok (.iaload, 1) := by decide +kernel
theorem dX5_publish_131 : decode cX5_publish 131 = .ok (.invokestatic 105, 3) := by decide +kernel
theorem dX5_publish_134 : decode cX5_publish 134 = .ok (.istore_n 1, 1) := by decide +kernel
theorem dX5_publish_135 : decode cX5_publish 135 = .ok (.iinc 2 1, 3) := by decide +kernel
theorem dX5_publish_138 : decode cX5_publish 138 = .ok (.goto (-91), 3) := by decide +kernel
theorem dX5_publish_141 : decode cX5_publish 141 = .ok (.iload_n 1, 1) := by decide +kernel
theorem dX5_publish_142 : decode cX5_publish 142 = .ok (.ireturn, 1) := by decide +kernel
set_option maxRecDepth 20000 in
theorem ggX5_bulletin_X5_isIn : GoodIn wsX5_bulletin wsX5_isIn := goodIn_r _ [7] (by decide +kernel) (by decide +kernel)
set_option maxRecDepth 20000 in
theorem gX5_bulletin_X5_isIn : GoodIn wsX5_bulletin (va_wsS RX5 45 yX5_isIn wsX5_isIn) := goodIn_app (goodIn_of _ (by decide +kernel)) ggX5_bulletin_X5_isIn
set_option maxRecDepth 20000 in
theorem ggX5_bulletin_X5_no : GoodIn wsX5_bulletin wsX5_no := goodIn_r _ [11, 1, 15, 16, 17, 18, 19, 20, 21, 22, 23, 24, 25, 26, 27] (by decide +kernel) (by decide +kernel)
set_option maxRecDepth 20000 in
theorem gX5_bulletin_X5_no : GoodIn wsX5_bulletin (wsV RX5 53 RX5 yX5_no wsX5_no) := goodIn_app (goodIn_of _ (by decide +kernel)) ggX5_bulletin_X5_no
set_option maxRecDepth 20000 in
theorem ggX5_bulletin_X5_place : GoodIn wsX5_bulletin wsX5_place := goodIn_r _ [14] (by decide +kernel) (by decide +kernel)
set_option maxRecDepth 20000 in
theorem gX5_bulletin_X5_place : GoodIn wsX5_bulletin (va_wsS RX5 127 yX5_place wsX5_place) := goodIn_app (goodIn_of _ (by decide +kernel)) ggX5_bulletin_X5_place
theorem dX5_bulletin_0 : decode cX5_bulletin 0 = .ok (.aload_n 0, 1) := by decide +kernel
theorem dX5_bulletin_1 : decode cX5_bulletin 1 = .ok (.iconst 0, 1) := by decide +kernel
theorem dX5_bulletin_2 : decode cX5_bulletin 2 = .ok (.putfield 38, 3) := by decide +kernel
theorem dX5_bulletin_5 : decode cX5_bulletin 5 = .ok (.iload_n 1, 1) := by decide +kernel
theorem dX5_bulletin_6 : decode cX5_bulletin 6 = .ok (.iconst 0, 1) := by decide +kernel
theorem dX5_bulletin_7 : decode cX5_bulletin 7 = .ok (.bipush 60, 2) := by decide +kernel
theorem dX5_bulletin_9 : decode cX5_bulletin 9 = .ok (.invokestatic 45, 3) := by decide +kernel
theorem dX5_bulletin_12 : decode cX5_bulletin 12 = .ok (.ifCond .eq 28, 3) := by decide +kernel
theorem dX5_bulletin_15 : decode cX5_bulletin 15 = .ok (.iload_n 2, 1) := by decide +kernel
theorem dX5_bulletin_16 : decode cX5_bulletin 16 = .ok (.iconst 0, 1) := by decide +kernel
theorem dX5_bulletin_17 : decode cX5_bulletin 17 = .ok (.aload_n 0, 1) := by decide +kernel
theorem dX5_bulletin_18 : decode cX5_bulletin 18 = .ok (.getfield 20, 3) := by decide +kernel
theorem dX5_bulletin_21 : decode cX5_bulletin 21 = .ok (.iload_n 1, 1) := by decide +kernel
theorem dX5_bulletin_22 : decode cX5_bulletin 22 = .ok (.iaload, 1) := by decide +kernel
theorem dX5_bulletin_23 : decode cX5_bulletin 23 = .ok (.iconst 1, 1) := by decide +kernel
theorem dX5_bulletin_24 : decode cX5_bulletin 24 = .ok (.isub, 1) := by decide +kernel
theorem dX5_bulletin_25 : decode cX5_bulletin 25 = .ok (.invokestatic 45, 3) := by decide +kernel
theorem dX5_bulletin_28 : decode cX5_bulletin 28 = .ok (.ifCond .eq 12, 3) := by decide +kernel
theorem dX5_bulletin_31 : decode cX5_bulletin 31 = .ok (.iload_n 3, 1) := by decide +kernel
theorem dX5_bulletin_32 : decode cX5_bulletin 32 = .ok (.iconst 0, 1) := by decide +kernel
theorem dX5_bulletin_33 : decode cX5_bulletin 33 = .ok (.iconst 2, 1) := by decide +kernel
theorem dX5_bulletin_34 : decode cX5_bulletin 34 = .ok (.invokestatic 45, 3) := by decide +kernel
theorem dX5_bulletin_37 : decode cX5_bulletin 37 = .ok (.ifCond .ne 9, 3) := by decide +kernel
theorem dX5_bulletin_40 : decode cX5_bulletin 40 = .ok (.aload_n 0, 1) := by decide +kernel
theorem dX5_bulletin_41 : decode cX5_bulletin 41 = .ok (.iconst 1, 1) := by decide +kernel
theorem dX5_bulletin_42 : decode cX5_bulletin 42 = .ok (.invokevirtual 53, 3) := by decide +kernel
theorem dX5_bulletin_45 : decode cX5_bulletin 45 = .ok (.ireturn, 1) := by decide +kernel
theorem dX5_bulletin_46 : decode cX5_bulletin 46 = .ok (.aload_n 0, 1) := by decide +kernel
theorem dX5_bulletin_47 : decode cX5_bulletin 47 = .ok (.getfield 23, 3) := by decide +kernel
theorem dX5_bulletin_50 : decode cX5_bulletin 50 = .ok (.iload_n 1, 1) := by decide +kernel
theorem dX5_bulletin_51 : decode cX5_bulletin 51 = .ok (.iload_n 2, 1) := by decide +kernel
theorem dX5_bulletin_52 : decode cX5_bulletin 52 = .ok (.invokestatic 127, 3) := by decide +kernel
theorem dX5_bulletin_55 : decode cX5_bulletin 55 = .ok (.iload_n 3, 1) := by decide +kernel
theorem dX5_bulletin_56 : decode cX5_bulletin 56 = .ok (.iadd, 1) := by decide +kernel
theorem dX5_bulletin_57 : decode cX5_bulletin 57 = .ok (.iaload, 1) := by decide +kernel
theorem dX5_bulletin_58 : decode cX5_bulletin 58 = .ok (.ireturn, 1) := by decide +kernel
theorem dX5_bulletins_0 : decode cX5_bulletins 0 = .ok (.aload_n 0, 1) := by decide +kernel
theorem dX5_bulletins_1 : decode cX5_bulletins 1 = .ok (.iconst 0, 1) := by decide +kernel
theorem dX5_bulletins_2 : decode cX5_bulletins 2 = .ok (.putfield 38, 3) := by decide +kernel
theorem dX5_bulletins_5 : decode cX5_bulletins 5 = .ok (.iconst 0, 1) := by decide +kernel
theorem dX5_bulletins_6 : decode cX5_bulletins 6 = .ok (.istore_n 1, 1) := by decide +kernel
theorem dX5_bulletins_7 : decode cX5_bulletins 7 = .ok (.aload_n 0, 1) := by decide +kernel
theorem dX5_bulletins_8 : decode cX5_bulletins 8 = .ok (.getfield 20, 3) := by decide +kernel
theorem dX5_bulletins_11 : decode cX5_bulletins 11 = .ok (.astore_n 2, 1) := by decide +kernel
theorem dX5_bulletins_12 : decode cX5_bulletins 12 = .ok (.aload_n 2, 1) := by decide +kernel
theorem dX5_bulletins_13 : decode cX5_bulletins 13 = .ok (.arraylength, 1) := by decide +kernel
theorem dX5_bulletins_14 : decode cX5_bulletins 14 = .ok (.istore_n 3, 1) := by decide +kernel
theorem dX5_bulletins_15 : decode cX5_bulletins 15 = .ok (.iconst 0, 1) := by decide +kernel
theorem dX5_bulletins_16 : decode cX5_bulletins 16 = .ok (.istore 4, 2) := by decide +kernel
theorem dX5_bulletins_18 : decode cX5_bulletins 18 = .ok (.iload 4, 2) := by decide +kernel
theorem dX5_bulletins_20 : decode cX5_bulletins 20 = .ok (.iload_n 3, 1) := by decide +kernel
theorem dX5_bulletins_21 : decode cX5_bulletins 21 = .ok (.if_icmp .ge 28, 3) := by decide +kernel
theorem dX5_bulletins_24 : decode cX5_bulletins 24 = .ok (.aload_n 2, 1) := by decide +kernel
theorem dX5_bulletins_25 : decode cX5_bulletins 25 = .ok (.iload 4, 2) := by decide +kernel
theorem dX5_bulletins_27 : decode cX5_bulletins 27 = .ok (.iaload, 1) := by decide +kernel
theorem dX5_bulletins_28 : decode cX5_bulletins 28 = .ok (.istore 5, 2) := by decide +kernel
theorem dX5_bulletins_30 : decode cX5_bulletins 30 = .ok (.iload_n 1, 1) := by decide +kernel
theorem dX5_bulletins_31 : decode cX5_bulletins 31 = .ok (.iload 5, 2) := by decide +kernel
theorem dX5_bulletins_33 : decode cX5_bulletins 33 = .ok (.ifCond .le 7, 3) := by decide +kernel
theorem dX5_bulletins_36 : decode cX5_bulletins 36 = .ok (.iconst 1, 1) := by decide +kernel
theorem dX5_bulletins_37 : decode cX5_bulletins 37 = .ok (.goto 4, 3) := by decide +kernel
theorem dX5_bulletins_40 : decode cX5_bulletins 40 = .ok (.iconst 0, 1) := by decide +kernel
theorem dX5_bulletins_41 : decode cX5_bulletins 41 = .ok (.iadd, 1) := by decide +kernel
theorem dX5_bulletins_42 : decode cX5_bulletins 42 = .ok (.istore_n 1, 1) := by decide +kernel
theorem dX5_bulletins_43 : decode cX5_bulletins 43 = .ok (.iinc 4 1, 3) := by decide +kernel
theorem dX5_bulletins_46 : decode cX5_bulletins 46 = .ok (.goto (-28), 3) := by decide +kernel
theorem dX5_bulletins_49 : decode cX5_bulletins 49 = .ok (.iload_n 1, 1) := by decide +kernel
theorem dX5_bulletins_50 : decode cX5_bulletins 50 = .ok (.ireturn, 1) := by decide +kernel
theorem dX5_activityOf_0 : decode cX5_activityOf 0 = .ok (.iconst 0, 1) := by decide +kernel
theorem dX5_activityOf_1 : decode cX5_activityOf 1 = .ok (.istore_n 3, 1) := by decide +kernel
theorem dX5_activityOf_2 : decode cX5_activityOf 2 = .ok (.iconst 0, 1) := by decide +kernel
theorem dX5_activityOf_3 : decode cX5_activityOf 3 = .ok (.istore 4, 2) := by decide +kernel
theorem dX5_activityOf_5 : decode cX5_activityOf 5 = .ok (.iload 4, 2) := by decide +kernel
theorem dX5_activityOf_7 : decode cX5_activityOf 7 = .ok (.aload_n 0, 1) := by decide +kernel
theorem dX5_activityOf_8 : decode cX5_activityOf 8 = .ok (.getfield 130, 3) := by decide +kernel
theorem dX5_activityOf_11 : decode cX5_activityOf 11 = .ok (.if_icmp .ge 63, 3) := by decide +kernel
theorem dX5_activityOf_14 : decode cX5_activityOf 14 = .ok (.aload_n 0, 1) := by decide +kernel
theorem dX5_activityOf_15 : decode cX5_activityOf 15 = .ok (.getfield 26, 3) := by decide +kernel
theorem dX5_activityOf_18 : decode cX5_activityOf 18 = .ok (.iconst 4, 1) := by decide +kernel
theorem dX5_activityOf_19 : decode cX5_activityOf 19 = .ok (.iload 4, 2) := by decide +kernel
theorem dX5_activityOf_21 : decode cX5_activityOf 21 = .ok (.imul, 1) := by decide +kernel
theorem dX5_activityOf_22 : decode cX5_activityOf 22 = .ok (.iaload, 1) := by decide +kernel
theorem dX5_activityOf_23 : decode cX5_activityOf 23 = .ok (.iload_n 1, 1) := by decide +kernel
theorem dX5_activityOf_24 : decode cX5_activityOf 24 = .ok (.if_icmp .ne 44, 3) := by decide +kernel
theorem dX5_activityOf_27 : decode cX5_activityOf 27 = .ok (.aload_n 0, 1) := by decide +kernel
theorem dX5_activityOf_28 : decode cX5_activityOf 28 = .ok (.getfield 26, 3) := by decide +kernel
theorem dX5_activityOf_31 : decode cX5_activityOf 31 = .ok (.iconst 4, 1) := by decide +kernel
theorem dX5_activityOf_32 : decode cX5_activityOf 32 = .ok (.iload 4, 2) := by decide +kernel
theorem dX5_activityOf_34 : decode cX5_activityOf 34 = .ok (.imul, 1) := by decide +kernel
theorem dX5_activityOf_35 : decode cX5_activityOf 35 = .ok (.iconst 1, 1) := by decide +kernel
theorem dX5_activityOf_36 : decode cX5_activityOf 36 = .ok (.iadd, 1) := by decide +kernel
theorem dX5_activityOf_37 : decode cX5_activityOf 37 = .ok (.iaload, 1) := by decide +kernel
theorem dX5_activityOf_38 : decode cX5_activityOf 38 = .ok (.iload_n 2, 1) := by decide +kernel
theorem dX5_activityOf_39 : decode cX5_activityOf 39 = .ok (.if_icmp .ne 29, 3) := by decide +kernel
theorem dX5_activityOf_42 : decode cX5_activityOf 42 = .ok (.iload_n 3, 1) := by decide +kernel
theorem dX5_activityOf_43 : decode cX5_activityOf 43 = .ok (.aload_n 0, 1) := by decide +kernel
theorem dX5_activityOf_44 : decode cX5_activityOf 44 = .ok (.getfield 26, 3) := by decide +kernel
theorem dX5_activityOf_47 : decode cX5_activityOf 47 = .ok (.iconst 4, 1) := by decide +kernel
theorem dX5_activityOf_48 : decode cX5_activityOf 48 = .ok (.iload 4, 2) := by decide +kernel
theorem dX5_activityOf_50 : decode cX5_activityOf 50 = .ok (.imul, 1) := by decide +kernel
theorem dX5_activityOf_51 : decode cX5_activityOf 51 = .ok (.iconst 3, 1) := by decide +kernel
theorem dX5_activityOf_52 : decode cX5_activityOf 52 = .ok (.iadd, 1) := by decide +kernel
theorem dX5_activityOf_53 : decode cX5_activityOf 53 = .ok (.iaload, 1) := by decide +kernel
theorem dX5_activityOf_54 : decode cX5_activityOf 54 = .ok (.aload_n 0, 1) := by decide +kernel
theorem dX5_activityOf_55 : decode cX5_activityOf 55 = .ok (.getfield 26, 3) := by decide +kernel
theorem dX5_activityOf_58 : decode cX5_activityOf 58 = .ok (.iconst 4, 1) := by decide +kernel
theorem dX5_activityOf_59 : decode cX5_activityOf 59 = .ok (.iload 4, 2) := by decide +kernel
theorem dX5_activityOf_61 : decode cX5_activityOf 61 = .ok (.imul, 1) := by decide +kernel
theorem dX5_activityOf_62 : decode cX5_activityOf 62 = .ok (.iconst 3, 1) := by decide +kernel
theorem dX5_activityOf_63 : decode cX5_activityOf 63 = .ok (.iadd, 1) := by decide +kernel
theorem dX5_activityOf_64 : decode cX5_activityOf 64 = .ok (.iaload, 1) := by decide +kernel
theorem dX5_activityOf_65 : decode cX5_activityOf 65 = .ok (.imul, 1) := by decide +kernel
theorem dX5_activityOf_66 : decode cX5_activityOf 66 = .ok (.iadd, 1) := by decide +kernel
theorem dX5_activityOf_67 : decode cX5_activityOf 67 = .ok (.istore_n 3, 1) := by decide +kernel
theorem dX5_activityOf_68 : decode cX5_activityOf 68 = .ok (.iinc 4 1, 3) := by decide +kernel
theorem dX5_activityOf_71 : decode cX5_activityOf 71 = .ok (.goto (-66), 3) := by decide +kernel
theorem dX5_activityOf_74 : decode cX5_activityOf 74 = .ok (.iload_n 3, 1) := by decide +kernel
theorem dX5_activityOf_75 : decode cX5_activityOf 75 = .ok (.ireturn, 1) := by decide +kernel
set_option maxRecDepth 20000 in
theorem ggX5_see_X5_isSector : GoodIn wsX5_see wsX5_isSector := goodIn_r _ [14, 15, 16, 17, 13, 18, 19, 20, 21, 22, 31, 32, 33, 34, 35, 36, 37, 38, 39, 40, 41, 42, 43] (by decide +kernel) (by decide +kernel)
set_option maxRecDepth 20000 in
theorem gX5_see_X5_isSector : GoodIn wsX5_see (wsV RX5 97 RX5 yX5_isSector wsX5_isSector) := goodIn_app (goodIn_of _ (by decide +kernel)) ggX5_see_X5_isSector
set_option maxRecDepth 20000 in
theorem ggX5_see_X5_no : GoodIn wsX5_see wsX5_no := goodIn_r _ [26, 1, 31, 32, 33, 34, 35, 36, 37, 38, 39, 40, 41, 42, 43] (by decide +kernel) (by decide +kernel)
set_option maxRecDepth 20000 in
theorem gX5_see_X5_no : GoodIn wsX5_see (wsV RX5 53 RX5 yX5_no wsX5_no) := goodIn_app (goodIn_of _ (by decide +kernel)) ggX5_see_X5_no
set_option maxRecDepth 20000 in
theorem ggX5_see_X5_isIn : GoodIn wsX5_see wsX5_isIn := goodIn_r _ [22] (by decide +kernel) (by decide +kernel)
set_option maxRecDepth 20000 in
theorem gX5_see_X5_isIn : GoodIn wsX5_see (va_wsS RX5 45 yX5_isIn wsX5_isIn) := goodIn_app (goodIn_of _ (by decide +kernel)) ggX5_see_X5_isIn
set_option maxRecDepth 20000 in
theorem ggX5_see_X5_activityOf : GoodIn wsX5_see wsX5_activityOf := goodIn_r _ [30, 2, 5, 31, 32, 33, 34, 35, 36, 37, 38, 39, 40, 41, 42, 43] (by decide +kernel) (by decide +kernel)
set_option maxRecDepth 20000 in
theorem gX5_see_X5_activityOf : GoodIn wsX5_see (wsV RX5 133 RX5 yX5_activityOf wsX5_activityOf) := goodIn_app (goodIn_of _ (by decide +kernel)) ggX5_see_X5_activityOf
theorem dX5_see_0 : decode cX5_see 0 = .ok (.aload_n 0, 1) := by decide +kernel
theorem dX5_see_1 : decode cX5_see 1 = .ok (.iconst 0, 1) := by decide +kernel
theorem dX5_see_2 : decode cX5_see 2 = .ok (.putfield 38, 3) := by decide +kernel
theorem dX5_see_5 : decode cX5_see 5 = .ok (.aload_n 0, 1) := by decide +kernel
theorem dX5_see_6 : decode cX5_see 6 = .ok (.iload_n 1, 1) := by decide +kernel
theorem dX5_see_7 : decode cX5_see 7 = .ok (.iload_n 2, 1) := by decide +kernel
theorem dX5_see_8 : decode cX5_see 8 = .ok (.invokevirtual 97, 3) := by decide +kernel
theorem dX5_see_11 : decode cX5_see 11 = .ok (.ifCond .ne 9, 3) := by decide +kernel
theorem dX5_see_14 : decode cX5_see 14 = .ok (.aload_n 0, 1) := by decide +kernel
theorem dX5_see_15 : decode cX5_see 15 = .ok (.iconst 1, 1) := by decide +kernel
theorem dX5_see_16 : decode cX5_see 16 = .ok (.invokevirtual 53, 3) := by decide +kernel
theorem dX5_see_19 : decode cX5_see 19 = .ok (.ireturn, 1) := by decide +kernel
theorem dX5_see_20 : decode cX5_see 20 = .ok (.iload_n 3, 1) := by decide +kernel
theorem dX5_see_21 : decode cX5_see 21 = .ok (.iconst 1, 1) := by decide +kernel
theorem dX5_see_22 : decode cX5_see 22 = .ok (.iconst 5, 1) := by decide +kernel
theorem dX5_see_23 : decode cX5_see 23 = .ok (.invokestatic 45, 3) := by decide +kernel
theorem dX5_see_26 : decode cX5_see 26 = .ok (.ifCond .ne 9, 3) := by decide +kernel
theorem dX5_see_29 : decode cX5_see 29 = .ok (.aload_n 0, 1) := by decide +kernel
theorem dX5_see_30 : decode cX5_see 30 = .ok (.iconst 2, 1) := by decide +kernel
theorem dX5_see_31 : decode cX5_see 31 = .ok (.invokevirtual 53, 3) := by decide +kernel
theorem dX5_see_34 : decode cX5_see 34 = .ok (.ireturn, 1) := by decide +kernel
theorem dX5_see_35 : decode cX5_see 35 = .ok (.aload_n 0, 1) := by decide +kernel
theorem dX5_see_36 : decode cX5_see 36 = .ok (.getfield 130, 3) := by decide +kernel
theorem dX5_see_39 : decode cX5_see 39 = .ok (.sipush 200, 3) := by decide +kernel
theorem dX5_see_42 : decode cX5_see 42 = .ok (.if_icmp .ne 9, 3) := by decide +kernel
theorem dX5_see_45 : decode cX5_see 45 = .ok (.aload_n 0, 1) := by decide +kernel
theorem dX5_see_46 : decode cX5_see 46 = .ok (.iconst 3, 1) := by decide +kernel
theorem dX5_see_47 : decode cX5_see 47 = .ok (.invokevirtual 53, 3) := by decide +kernel
theorem dX5_see_50 : decode cX5_see 50 = .ok (.ireturn, 1) := by decide +kernel
theorem dX5_see_51 : decode cX5_see 51 = .ok (.iconst 4, 1) := by decide +kernel
theorem dX5_see_52 : decode cX5_see 52 = .ok (.newarray .int, 2) := by decide +kernel
theorem dX5_see_54 : decode cX5_see 54 = .ok (.dup, 1) := by decide +kernel
theorem dX5_see_55 : decode cX5_see 55 = .ok (.iconst 0, 1) := by decide +kernel
theorem dX5_see_56 : decode cX5_see 56 = .ok (.aload_n 0, 1) := by decide +kernel
theorem dX5_see_57 : decode cX5_see 57 = .ok (.getfield 90, 3) := by decide +kernel
theorem dX5_see_60 : decode cX5_see 60 = .ok (.iastore, 1) := by decide +kernel
theorem dX5_see_61 : decode cX5_see 61 = .ok (.dup, 1) := by decide +kernel
theorem dX5_see_62 : decode cX5_see 62 = .ok (.iconst 1, 1) := by decide +kernel
theorem dX5_see_63 : decode cX5_see 63 = .ok (.iload_n 1, 1) := by decide +kernel
theorem dX5_see_64 : decode cX5_see 64 = .ok (.iastore, 1) := by decide +kernel
theorem dX5_see_65 : decode cX5_see 65 = .ok (.dup, 1) := by decide +kernel
theorem dX5_see_66 : decode cX5_see 66 = .ok (.iconst 2, 1) := by decide +kernel
theorem dX5_see_67 : decode cX5_see 67 = .ok (.iload_n 2, 1) := by decide +kernel
theorem dX5_see_68 : decode cX5_see 68 = .ok (.iastore, 1) := by decide +kernel
theorem dX5_see_69 : decode cX5_see 69 = .ok (.dup, 1) := by decide +kernel
theorem dX5_see_70 : decode cX5_see 70 = .ok (.iconst 3, 1) := by decide +kernel
theorem dX5_see_71 : decode cX5_see 71 = .ok (.iload_n 3, 1) := by decide +kernel
theorem dX5_see_72 : decode cX5_see 72 = .ok (.iastore, 1) := by decide +kernel
theorem dX5_see_73 : decode cX5_see 73 = .ok (.astore 4, 2) := by decide +kernel
theorem dX5_see_75 : decode cX5_see 75 = .ok (.aload 4, 2) := by decide +kernel
theorem dX5_see_77 : decode cX5_see 77 = .ok (.iconst 0, 1) := by decide +kernel
theorem dX5_see_78 : decode cX5_see 78 = .ok (.aload_n 0, 1) := by decide +kernel
theorem dX5_see_79 : decode cX5_see 79 = .ok (.getfield 26, 3) := by decide +kernel
theorem dX5_see_82 : decode cX5_see 82 = .ok (.iconst 4, 1) := by decide +kernel
theorem dX5_see_83 : decode cX5_see 83 = .ok (.aload_n 0, 1) := by decide +kernel
theorem dX5_see_84 : decode cX5_see 84 = .ok (.getfield 130, 3) := by decide +kernel
theorem dX5_see_87 : decode cX5_see 87 = .ok (.imul, 1) := by decide +kernel
theorem dX5_see_88 : decode cX5_see 88 = .ok (.iconst 4, 1) := by decide +kernel
theorem dX5_see_89 : decode cX5_see 89 = .ok (.invokestatic 80, 3) := by decide +kernel
theorem dX5_see_92 : decode cX5_see 92 = .ok (.aload_n 0, 1) := by decide +kernel
theorem dX5_see_93 : decode cX5_see 93 = .ok (.dup, 1) := by decide +kernel
theorem dX5_see_94 : decode cX5_see 94 = .ok (.getfield 130, 3) := by decide +kernel
theorem dX5_see_97 : decode cX5_see 97 = .ok (.iconst 1, 1) := by decide +kernel
theorem dX5_see_98 : decode cX5_see 98 = .ok (.iadd, 1) := by decide +kernel
theorem dX5_see_99 : decode cX5_see 99 = .ok (.putfield 130, 3) := by decide +kernel
theorem dX5_see_102 : decode cX5_see 102 = .ok (.aload_n 0, 1) := by decide +kernel
theorem dX5_see_103 : decode cX5_see 103 = .ok (.aload_n 0, 1) := by decide +kernel
theorem dX5_see_104 : decode cX5_see 104 = .ok (.getfield 90, 3) := by decide +kernel
theorem dX5_see_107 : decode cX5_see 107 = .ok (.iload_n 1, 1) := by decide +kernel
theorem dX5_see_108 : decode cX5_see 108 = .ok (.invokevirtual 133, 3) := by decide +kernel
theorem dX5_see_111 : decode cX5_see 111 = .ok (.ireturn, 1) := by decide +kernel
set_option maxRecDepth 20000 in
theorem ggX5_activity_X5_isIn : GoodIn wsX5_activity wsX5_isIn := goodIn_r _ [6] (by decide +kernel) (by decide +kernel)
set_option maxRecDepth 20000 in
theorem gX5_activity_X5_isIn : GoodIn wsX5_activity (va_wsS RX5 45 yX5_isIn wsX5_isIn) := goodIn_app (goodIn_of _ (by decide +kernel)) ggX5_activity_X5_isIn
set_option maxRecDepth 20000 in
theorem ggX5_activity_X5_isRegion : GoodIn wsX5_activity wsX5_isRegion := goodIn_r _ [10, 11, 3, 4, 5, 6, 22, 23, 24, 25, 26, 27, 28, 29, 30, 31, 32, 33, 34] (by decide +kernel) (by decide +kernel)
set_option maxRecDepth 20000 in
theorem gX5_activity_X5_isRegion : GoodIn wsX5_activity (wsV RX5 49 RX5 yX5_isRegion wsX5_isRegion) := goodIn_app (goodIn_of _ (by decide +kernel)) ggX5_activity_X5_isRegion
set_option maxRecDepth 20000 in
theorem ggX5_activity_X5_activityOf : GoodIn wsX5_activity wsX5_activityOf := goodIn_r _ [15, 16, 17, 22, 23, 24, 25, 26, 27, 28, 29, 30, 31, 32, 33, 34] (by decide +kernel) (by decide +kernel)
set_option maxRecDepth 20000 in
theorem gX5_activity_X5_activityOf : GoodIn wsX5_activity (wsV RX5 133 RX5 yX5_activityOf wsX5_activityOf) := goodIn_app (goodIn_of _ (by decide +kernel)) ggX5_activity_X5_activityOf
set_option maxRecDepth 20000 in
theorem ggX5_activity_X5_no : GoodIn wsX5_activity wsX5_no := goodIn_r _ [21, 1, 22, 23, 24, 25, 26, 27, 28, 29, 30, 31, 32, 33, 34] (by decide +kernel) (by decide +kernel)
set_option maxRecDepth 20000 in
theorem gX5_activity_X5_no : GoodIn wsX5_activity (wsV RX5 53 RX5 yX5_no wsX5_no) := goodIn_app (goodIn_of _ (by decide +kernel)) ggX5_activity_X5_no
theorem dX5_activity_0 : decode cX5_activity 0 = .ok (.aload_n 0, 1) := by decide +kernel
theorem dX5_activity_1 : decode cX5_activity 1 = .ok (.iconst 0, 1) := by decide +kernel
theorem dX5_activity_2 : decode cX5_activity 2 = .ok (.putfield 38, 3) := by decide +kernel
theorem dX5_activity_5 : decode cX5_activity 5 = .ok (.iload_n 1, 1) := by decide +kernel
theorem dX5_activity_6 : decode cX5_activity 6 = .ok (.iconst 0, 1) := by decide +kernel
theorem dX5_activity_7 : decode cX5_activity 7 = .ok (.aload_n 0, 1) := by decide +kernel
theorem dX5_activity_8 : decode cX5_activity 8 = .ok (.getfield 90, 3) := by decide +kernel
theorem dX5_activity_11 : decode cX5_activity 11 = .ok (.invokestatic 45, 3) := by decide +kernel
theorem dX5_activity_14 : decode cX5_activity 14 = .ok (.ifCond .eq 20, 3) := by decide +kernel
theorem dX5_activity_17 : decode cX5_activity 17 = .ok (.aload_n 0, 1) := by decide +kernel
theorem dX5_activity_18 : decode cX5_activity 18 = .ok (.iload_n 2, 1) := by decide +kernel
theorem dX5_activity_19 : decode cX5_activity 19 = .ok (.invokevirtual 49, 3) := by decide +kernel
theorem dX5_activity_22 : decode cX5_activity 22 = .ok (.ifCond .eq 12, 3) := by decide +kernel
theorem dX5_activity_25 : decode cX5_activity 25 = .ok (.aload_n 0, 1) := by decide +kernel
theorem dX5_activity_26 : decode cX5_activity 26 = .ok (.iload_n 1, 1) := by decide +kernel
theorem dX5_activity_27 : decode cX5_activity 27 = .ok (.iload_n 2, 1) := by decide +kernel
theorem dX5_activity_28 : decode cX5_activity 28 = .ok (.invokevirtual 133, 3) := by decide +kernel
theorem dX5_activity_31 : decode cX5_activity 31 = .ok (.goto 8, 3) := by decide +kernel
theorem dX5_activity_34 : decode cX5_activity 34 = .ok (.aload_n 0, 1) := by decide +kernel
theorem dX5_activity_35 : decode cX5_activity 35 = .ok (.iconst 1, 1) := by decide +kernel
theorem dX5_activity_36 : decode cX5_activity 36 = .ok (.invokevirtual 53, 3) := by decide +kernel
theorem dX5_activity_39 : decode cX5_activity 39 = .ok (.ireturn, 1) := by decide +kernel
theorem dX5_how_0 : decode cX5_how 0 = .ok (.iconst 5, 1) := by decide +kernel
theorem dX5_how_1 : decode cX5_how 1 = .ok (.newarray .int, 2) := by decide +kernel
theorem dX5_how_3 : decode cX5_how 3 = .ok (.dup, 1) := by decide +kernel
theorem dX5_how_4 : decode cX5_how 4 = .ok (.iconst 0, 1) := by decide +kernel
theorem dX5_how_5 : decode cX5_how 5 = .ok (.iconst 0, 1) := by decide +kernel
theorem dX5_how_6 : decode cX5_how 6 = .ok (.iastore, 1) := by decide +kernel
theorem dX5_how_7 : decode cX5_how 7 = .ok (.dup, 1) := by decide +kernel
theorem dX5_how_8 : decode cX5_how 8 = .ok (.iconst 1, 1) := by decide +kernel
theorem dX5_how_9 : decode cX5_how 9 = .ok (.iconst 0, 1) := by decide +kernel
theorem dX5_how_10 : decode cX5_how 10 = .ok (.iastore, 1) := by decide +kernel
theorem dX5_how_11 : decode cX5_how 11 = .ok (.dup, 1) := by decide +kernel
theorem dX5_how_12 : decode cX5_how 12 = .ok (.iconst 2, 1) := by decide +kernel
theorem dX5_how_13 : decode cX5_how 13 = .ok (.iconst 4, 1) := by decide +kernel
theorem dX5_how_14 : decode cX5_how 14 = .ok (.iastore, 1) := by decide +kernel
theorem dX5_how_15 : decode cX5_how 15 = .ok (.dup, 1) := by decide +kernel
theorem dX5_how_16 : decode cX5_how 16 = .ok (.iconst 3, 1) := by decide +kernel
theorem dX5_how_17 : decode cX5_how 17 = .ok (.bipush 25, 2) := by decide +kernel
theorem dX5_how_19 : decode cX5_how 19 = .ok (.iastore, 1) := by decide +kernel
theorem dX5_how_20 : decode cX5_how 20 = .ok (.dup, 1) := by decide +kernel
theorem dX5_how_21 : decode cX5_how 21 = .ok (.iconst 4, 1) := by decide +kernel
theorem dX5_how_22 : decode cX5_how 22 = .ok (.bipush 80, 2) := by decide +kernel
theorem dX5_how_24 : decode cX5_how 24 = .ok (.iastore, 1) := by decide +kernel
theorem dX5_how_25 : decode cX5_how 25 = .ok (.astore_n 2, 1) := by decide +kernel
theorem dX5_how_26 : decode cX5_how 26 = .ok (.iconst 5, 1) := by decide +kernel
theorem dX5_how_27 : decode cX5_how 27 = .ok (.newarray .int, 2) := by decide +kernel
theorem dX5_how_29 : decode cX5_how 29 = .ok (.dup, 1) := by decide +kernel
theorem dX5_how_30 : decode cX5_how 30 = .ok (.iconst 0, 1) := by decide +kernel
theorem dX5_how_31 : decode cX5_how 31 = .ok (.iconst 1, 1) := by decide +kernel
theorem dX5_how_32 : decode cX5_how 32 = .ok (.iastore, 1) := by decide +kernel
theorem dX5_how_33 : decode cX5_how 33 = .ok (.dup, 1) := by decide +kernel
theorem dX5_how_34 : decode cX5_how 34 = .ok (.iconst 1, 1) := by decide +kernel
theorem dX5_how_35 : decode cX5_how 35 = .ok (.bipush 9, 2) := by decide +kernel
theorem dX5_how_37 : decode cX5_how 37 = .ok (.iastore, 1) := by decide +kernel
theorem dX5_how_38 : decode cX5_how 38 = .ok (.dup, 1) := by decide +kernel
theorem dX5_how_39 : decode cX5_how 39 = .ok (.iconst 2, 1) := by decide +kernel
theorem dX5_how_40 : decode cX5_how 40 = .ok (.bipush 40, 2) := by decide +kernel
theorem dX5_how_42 : decode cX5_how 42 = .ok (.iastore, 1) := by decide +kernel
theorem dX5_how_43 : decode cX5_how 43 = .ok (.dup, 1) := by decide +kernel
theorem dX5_how_44 : decode cX5_how 44 = .ok (.iconst 3, 1) := by decide +kernel
theorem dX5_how_45 : decode cX5_how 45 = .ok (.bipush 120, 2) := by decide +kernel
theorem dX5_how_47 : decode cX5_how 47 = .ok (.iastore, 1) := by decide +kernel
theorem dX5_how_48 : decode cX5_how 48 = .ok (.dup, 1) := by decide +kernel
theorem dX5_how_49 : decode cX5_how 49 = .ok (.iconst 4, 1) := by decide +kernel
theorem dX5_how_50 : decode cX5_how 50 = .ok (.ldc 138, 2) := by decide +kernel
theorem dX5_how_52 : decode cX5_how 52 = .ok (.iastore, 1) := by decide +kernel
theorem dX5_how_53 : decode cX5_how 53 = .ok (.astore_n 3, 1) := by decide +kernel
theorem dX5_how_54 : decode cX5_how 54 = .ok (.iload_n 1, 1) := by decide +kernel
theorem dX5_how_55 : decode cX5_how 55 = .ok (.aload_n 2, 1) := by decide +kernel
theorem dX5_how_56 : decode cX5_how 56 = .ok (.iload_n 0, 1) := by decide +kernel
theorem dX5_how_57 : decode cX5_how 57 = .ok (.iconst 1, 1) := by decide +kernel
theorem dX5_how_58 : decode cX5_how 58 = .ok (.isub, 1) := by decide +kernel
theorem dX5_how_59 : decode cX5_how 59 = .ok (.iaload, 1) := by decide +kernel
theorem dX5_how_60 : decode cX5_how 60 = .ok (.if_icmp .ge 7, 3) := by decide +kernel
theorem dX5_how_63 : decode cX5_how 63 = .ok (.iconst (-1), 1) := by decide +kernel
theorem dX5_how_64 : decode cX5_how 64 = .ok (.goto 17, 3) := by decide +kernel
theorem dX5_how_67 : decode cX5_how 67 = .ok (.iload_n 1, 1) := by decide +kernel
theorem dX5_how_68 : decode cX5_how 68 = .ok (.aload_n 3, 1) := by decide +kernel
theorem dX5_how_69 : decode cX5_how 69 = .ok (.iload_n 0, 1) := by decide +kernel
theorem dX5_how_70 : decode cX5_how 70 = .ok (.iconst 1, 1) := by decide +kernel
theorem dX5_how_71 : decode cX5_how 71 = .ok (.isub, 1) := by decide +kernel
theorem dX5_how_72 : decode cX5_how 72 = .ok (.iaload, 1) := by decide +kernel
theorem dX5_how_73 : decode cX5_how 73 = .ok (.if_icmp .le 7, 3) := by decide +kernel
theorem dX5_how_76 : decode cX5_how 76 = .ok (.iconst 1, 1) := by decide +kernel
theorem dX5_how_77 : decode cX5_how 77 = .ok (.goto 4, 3) := by decide +kernel
theorem dX5_how_80 : decode cX5_how 80 = .ok (.iconst 0, 1) := by decide +kernel
theorem dX5_how_81 : decode cX5_how 81 = .ok (.ireturn, 1) := by decide +kernel
set_option maxRecDepth 20000 in
theorem ggX5_borneOut_X5_isIn : GoodIn wsX5_borneOut wsX5_isIn := goodIn_r _ [7] (by decide +kernel) (by decide +kernel)
set_option maxRecDepth 20000 in
theorem gX5_borneOut_X5_isIn : GoodIn wsX5_borneOut (va_wsS RX5 45 yX5_isIn wsX5_isIn) := goodIn_app (goodIn_of _ (by decide +kernel)) ggX5_borneOut_X5_isIn
set_option maxRecDepth 20000 in
theorem ggX5_borneOut_X5_no : GoodIn wsX5_borneOut wsX5_no := goodIn_r _ [11, 1, 26, 27, 28, 29, 30, 31, 32, 33, 34, 35, 36, 37, 38] (by decide +kernel) (by decide +kernel)
set_option maxRecDepth 20000 in
theorem gX5_borneOut_X5_no : GoodIn wsX5_borneOut (wsV RX5 53 RX5 yX5_no wsX5_no) := goodIn_app (goodIn_of _ (by decide +kernel)) ggX5_borneOut_X5_no
set_option maxRecDepth 20000 in
theorem ggX5_borneOut_X5_place : GoodIn wsX5_borneOut wsX5_place := goodIn_r _ [14] (by decide +kernel) (by decide +kernel)
set_option maxRecDepth 20000 in
theorem gX5_borneOut_X5_place : GoodIn wsX5_borneOut (va_wsS RX5 127 yX5_place wsX5_place) := goodIn_app (goodIn_of _ (by decide +kernel)) ggX5_borneOut_X5_place
set_option maxRecDepth 20000 in
theorem ggX5_borneOut_X5_activityOf : GoodIn wsX5_borneOut wsX5_activityOf := goodIn_r _ [18, 19, 20, 26, 27, 28, 29, 30, 31, 32, 33, 34, 35, 36, 37, 38] (by decide +kernel) (by decide +kernel)
set_option maxRecDepth 20000 in
theorem gX5_borneOut_X5_activityOf : GoodIn wsX5_borneOut (wsV RX5 133 RX5 yX5_activityOf wsX5_activityOf) := goodIn_app (goodIn_of _ (by decide +kernel)) ggX5_borneOut_X5_activityOf
set_option maxRecDepth 20000 in
theorem ggX5_borneOut_X5_how : GoodIn wsX5_borneOut wsX5_how := goodIn_r _ [23, 24, 25] (by decide +kernel) (by decide +kernel)
set_option maxRecDepth 20000 in
theorem gX5_borneOut_X5_how : GoodIn wsX5_borneOut (va_wsS RX5 139 yX5_how wsX5_how) := goodIn_app (goodIn_of _ (by decide +kernel)) ggX5_borneOut_X5_how
theorem dX5_borneOut_0 : decode cX5_borneOut 0 = .ok (.aload_n 0, 1) := by decide +kernel
theorem dX5_borneOut_1 : decode cX5_borneOut 1 = .ok (.iconst 0, 1) := by decide +kernel
theorem dX5_borneOut_2 : decode cX5_borneOut 2 = .ok (.putfield 38, 3) := by decide +kernel
theorem dX5_borneOut_5 : decode cX5_borneOut 5 = .ok (.iload_n 1, 1) := by decide +kernel
theorem dX5_borneOut_6 : decode cX5_borneOut 6 = .ok (.iconst (-1), 1) := by decide +kernel
theorem dX5_borneOut_7 : decode cX5_borneOut 7 = .ok (.iconst 1, 1) := by decide +kernel
theorem dX5_borneOut_8 : decode cX5_borneOut 8 = .ok (.invokestatic 45, 3) := by decide +kernel
theorem dX5_borneOut_11 : decode cX5_borneOut 11 = .ok (.ifCond .ne 9, 3) := by decide +kernel
theorem dX5_borneOut_14 : decode cX5_borneOut 14 = .ok (.aload_n 0, 1) := by decide +kernel
theorem dX5_borneOut_15 : decode cX5_borneOut 15 = .ok (.iconst 1, 1) := by decide +kernel
theorem dX5_borneOut_16 : decode cX5_borneOut 16 = .ok (.invokevirtual 53, 3) := by decide +kernel
theorem dX5_borneOut_19 : decode cX5_borneOut 19 = .ok (.ireturn, 1) := by decide +kernel
theorem dX5_borneOut_20 : decode cX5_borneOut 20 = .ok (.iconst 0, 1) := by decide +kernel
theorem dX5_borneOut_21 : decode cX5_borneOut 21 = .ok (.istore_n 2, 1) := by decide +kernel
theorem dX5_borneOut_22 : decode cX5_borneOut 22 = .ok (.iconst 0, 1) := by decide +kernel
theorem dX5_borneOut_23 : decode cX5_borneOut 23 = .ok (.istore_n 3, 1) := by decide +kernel
theorem dX5_borneOut_24 : decode cX5_borneOut 24 = .ok (.iload_n 3, 1) := by decide +kernel
theorem dX5_borneOut_25 : decode cX5_borneOut 25 = .ok (.bipush 60, 2) := by decide +kernel
theorem dX5_borneOut_27 : decode cX5_borneOut 27 = .ok (.if_icmp .gt 62, 3) := by decide +kernel
theorem dX5_borneOut_30 : decode cX5_borneOut 30 = .ok (.iconst 0, 1) := by decide +kernel
theorem dX5_borneOut_31 : decode cX5_borneOut 31 = .ok (.istore 4, 2) := by decide +kernel
theorem dX5_borneOut_33 : decode cX5_borneOut 33 = .ok (.iload 4, 2) := by decide +kernel
theorem dX5_borneOut_35 : decode cX5_borneOut 35 = .ok (.aload_n 0, 1) := by decide +kernel
theorem dX5_borneOut_36 : decode cX5_borneOut 36 = .ok (.getfield 20, 3) := by decide +kernel
theorem dX5_borneOut_39 : decode cX5_borneOut 39 = .ok (.iload_n 3, 1) := by decide +kernel
theorem dX5_borneOut_40 : decode cX5_borneOut 40 = .ok (.iaload, 1) := by decide +kernel
theorem dX5_borneOut_41 : decode cX5_borneOut 41 = .ok (.if_icmp .ge 42, 3) := by decide +kernel
theorem dX5_borneOut_44 : decode cX5_borneOut 44 = .ok (.iload_n 2, 1) := by decide +kernel
theorem dX5_borneOut_45 : decode cX5_borneOut 45 = .ok (.aload_n 0, 1) := by decide +kernel
theorem dX5_borneOut_46 : decode cX5_borneOut 46 = .ok (.getfield 23, 3) := by decide +kernel
theorem dX5_borneOut_49 : decode cX5_borneOut 49 = .ok (.iload_n 3, 1) := by decide +kernel
theorem dX5_borneOut_50 : decode cX5_borneOut 50 = .ok (.iload 4, 2) := by decide +kernel
theorem dX5_borneOut_52 : decode cX5_borneOut 52 = .ok (.invokestatic 127, 3) := by decide +kernel
theorem dX5_borneOut_55 : decode cX5_borneOut 55 = .ok (.iaload, 1) := by decide +kernel
theorem dX5_borneOut_56 : decode cX5_borneOut 56 = .ok (.aload_n 0, 1) := by decide +kernel
theorem dX5_borneOut_57 : decode cX5_borneOut 57 = .ok (.iload_n 3, 1) := by decide +kernel
theorem dX5_borneOut_58 : decode cX5_borneOut 58 = .ok (.iload 4, 2) := by decide +kernel
theorem dX5_borneOut_60 : decode cX5_borneOut 60 = .ok (.invokevirtual 133, 3) := by decide +kernel
theorem dX5_borneOut_63 : decode cX5_borneOut 63 = .ok (.invokestatic 139, 3) := by decide +kernel
theorem dX5_borneOut_66 : decode cX5_borneOut 66 = .ok (.iload_n 1, 1) := by decide +kernel
theorem dX5_borneOut_67 : decode cX5_borneOut 67 = .ok (.if_icmp .ne 7, 3) := by decide +kernel
theorem dX5_borneOut_70 : decode cX5_borneOut 70 = .ok (.iconst 1, 1) := by decide +kernel
theorem dX5_borneOut_71 : decode cX5_borneOut 71 = .ok (.goto 4, 3) := by decide +kernel
theorem dX5_borneOut_74 : decode cX5_borneOut 74 = .ok (.iconst 0, 1) := by decide +kernel
theorem dX5_borneOut_75 : decode cX5_borneOut 75 = .ok (.iadd, 1) := by decide +kernel
theorem dX5_borneOut_76 : decode cX5_borneOut 76 = .ok (.istore_n 2, 1) := by decide +kernel
theorem dX5_borneOut_77 : decode cX5_borneOut 77 = .ok (.iinc 4 1, 3) := by decide +kernel
theorem dX5_borneOut_80 : decode cX5_borneOut 80 = .ok (.goto (-47), 3) := by decide +kernel
theorem dX5_borneOut_83 : decode cX5_borneOut 83 = .ok (.iinc 3 1, 3) := by decide +kernel
theorem dX5_borneOut_86 : decode cX5_borneOut 86 = .ok (.goto (-62), 3) := by decide +kernel
theorem dX5_borneOut_89 : decode cX5_borneOut 89 = .ok (.iload_n 2, 1) := by decide +kernel
theorem dX5_borneOut_90 : decode cX5_borneOut 90 = .ok (.ireturn, 1) := by decide +kernel
set_option maxRecDepth 20000 in
theorem ggX5_inCore_X5_isRegion : GoodIn wsX5_inCore wsX5_isRegion := goodIn_r _ [10, 11, 12, 13, 9, 14, 18, 19, 20, 21, 22, 23, 24, 25, 26, 27, 28, 29, 30] (by decide +kernel) (by decide +kernel)
set_option maxRecDepth 20000 in
theorem gX5_inCore_X5_isRegion : GoodIn wsX5_inCore (wsV RX5 49 RX5 yX5_isRegion wsX5_isRegion) := goodIn_app (goodIn_of _ (by decide +kernel)) ggX5_inCore_X5_isRegion
set_option maxRecDepth 20000 in
theorem ggX5_inCore_X5_place : GoodIn wsX5_inCore wsX5_place := goodIn_r _ [17] (by decide +kernel) (by decide +kernel)
set_option maxRecDepth 20000 in
theorem gX5_inCore_X5_place : GoodIn wsX5_inCore (va_wsS RX5 127 yX5_place wsX5_place) := goodIn_app (goodIn_of _ (by decide +kernel)) ggX5_inCore_X5_place
theorem dX5_inCore_0 : decode cX5_inCore 0 = .ok (.aload_n 0, 1) := by decide +kernel
theorem dX5_inCore_1 : decode cX5_inCore 1 = .ok (.aload_n 0, 1) := by decide +kernel
theorem dX5_inCore_2 : decode cX5_inCore 2 = .ok (.iload_n 1, 1) := by decide +kernel
theorem dX5_inCore_3 : decode cX5_inCore 3 = .ok (.invokevirtual 49, 3) := by decide +kernel
theorem dX5_inCore_6 : decode cX5_inCore 6 = .ok (.ifCond .eq 7, 3) := by decide +kernel
theorem dX5_inCore_9 : decode cX5_inCore 9 = .ok (.iconst 0, 1) := by decide +kernel
theorem dX5_inCore_10 : decode cX5_inCore 10 = .ok (.goto 4, 3) := by decide +kernel
theorem dX5_inCore_13 : decode cX5_inCore 13 = .ok (.iconst 1, 1) := by decide +kernel
theorem dX5_inCore_14 : decode cX5_inCore 14 = .ok (.putfield 38, 3) := by decide +kernel
theorem dX5_inCore_17 : decode cX5_inCore 17 = .ok (.aload_n 0, 1) := by decide +kernel
theorem dX5_inCore_18 : decode cX5_inCore 18 = .ok (.getfield 38, 3) := by decide +kernel
theorem dX5_inCore_21 : decode cX5_inCore 21 = .ok (.ifCond .eq 5, 3) := by decide +kernel
theorem dX5_inCore_24 : decode cX5_inCore 24 = .ok (.dconst 0, 1) := by decide +kernel
theorem dX5_inCore_25 : decode cX5_inCore 25 = .ok (.dreturn, 1) := by decide +kernel
theorem dX5_inCore_26 : decode cX5_inCore 26 = .ok (.iconst 0, 1) := by decide +kernel
theorem dX5_inCore_27 : decode cX5_inCore 27 = .ok (.istore_n 2, 1) := by decide +kernel
theorem dX5_inCore_28 : decode cX5_inCore 28 = .ok (.iconst 0, 1) := by decide +kernel
theorem dX5_inCore_29 : decode cX5_inCore 29 = .ok (.istore_n 3, 1) := by decide +kernel
theorem dX5_inCore_30 : decode cX5_inCore 30 = .ok (.iconst 0, 1) := by decide +kernel
theorem dX5_inCore_31 : decode cX5_inCore 31 = .ok (.istore 4, 2) := by decide +kernel
theorem dX5_inCore_33 : decode cX5_inCore 33 = .ok (.iload 4, 2) := by decide +kernel
theorem dX5_inCore_35 : decode cX5_inCore 35 = .ok (.aload_n 0, 1) := by decide +kernel
theorem dX5_inCore_36 : decode cX5_inCore 36 = .ok (.getfield 130, 3) := by decide +kernel
theorem dX5_inCore_39 : decode cX5_inCore 39 = .ok (.if_icmp .ge 82, 3) := by decide +kernel
theorem dX5_inCore_42 : decode cX5_inCore 42 = .ok (.aload_n 0, 1) := by decide +kernel
theorem dX5_inCore_43 : decode cX5_inCore 43 = .ok (.getfield 26, 3) := by decide +kernel
theorem dX5_inCore_46 : decode cX5_inCore 46 = .ok (.iconst 4, 1) := by decide +kernel
theorem dX5_inCore_47 : decode cX5_inCore 47 = .ok (.iload 4, 2) := by decide +kernel
theorem dX5_inCore_49 : decode cX5_inCore 49 = .ok (.imul, 1) := by decide +kernel
theorem dX5_inCore_50 : decode cX5_inCore 50 = .ok (.iaload, 1) := by decide +kernel
theorem dX5_inCore_51 : decode cX5_inCore 51 = .ok (.istore 5, 2) := by decide +kernel
theorem dX5_inCore_53 : decode cX5_inCore 53 = .ok (.aload_n 0, 1) := by decide +kernel
theorem dX5_inCore_54 : decode cX5_inCore 54 = .ok (.getfield 26, 3) := by decide +kernel
theorem dX5_inCore_57 : decode cX5_inCore 57 = .ok (.iconst 4, 1) := by decide +kernel
theorem dX5_inCore_58 : decode cX5_inCore 58 = .ok (.iload 4, 2) := by decide +kernel
theorem dX5_inCore_60 : decode cX5_inCore 60 = .ok (.imul, 1) := by decide +kernel
theorem dX5_inCore_61 : decode cX5_inCore 61 = .ok (.iconst 1, 1) := by decide +kernel
theorem dX5_inCore_62 : decode cX5_inCore 62 = .ok (.iadd, 1) := by decide +kernel
theorem dX5_inCore_63 : decode cX5_inCore 63 = .ok (.iaload, 1) := by decide +kernel
theorem dX5_inCore_64 : decode cX5_inCore 64 = .ok (.iload_n 1, 1) := by decide +kernel
theorem dX5_inCore_65 : decode cX5_inCore 65 = .ok (.if_icmp .ne 50, 3) := by decide +kernel
theorem dX5_inCore_68 : decode cX5_inCore 68 = .ok (.iload_n 1, 1) := by decide +kernel
theorem dX5_inCore_69 : decode cX5_inCore 69 = .ok (.aload_n 0, 1) := by decide +kernel
theorem dX5_inCore_70 : decode cX5_inCore 70 = .ok (.getfield 20, 3) := by decide +kernel
theorem dX5_inCore_73 : decode cX5_inCore 73 = .ok (.iload 5, 2) := by decide +kernel
theorem dX5_inCore_75 : decode cX5_inCore 75 = .ok (.iaload, 1) := by decide +kernel
theorem dX5_inCore_76 : decode cX5_inCore 76 = .ok (.if_icmp .lt 6, 3) := by decide +kernel
theorem dX5_inCore_79 : decode cX5_inCore 79 = .ok (.goto 36, 3) := by decide +kernel
theorem dX5_inCore_82 : decode cX5_inCore 82 = .ok (.iinc 3 1, 3) := by decide +kernel
theorem dX5_inCore_85 : decode cX5_inCore 85 = .ok (.iload_n 2, 1) := by decide +kernel
theorem dX5_inCore_86 : decode cX5_inCore 86 = .ok (.aload_n 0, 1) := by decide +kernel
theorem dX5_inCore_87 : decode cX5_inCore 87 = .ok (.getfield 23, 3) := by decide +kernel
theorem dX5_inCore_90 : decode cX5_inCore 90 = .ok (.iload 5, 2) := by decide +kernel
theorem dX5_inCore_92 : decode cX5_inCore 92 = .ok (.iload_n 1, 1) := by decide +kernel
theorem dX5_inCore_93 : decode cX5_inCore 93 = .ok (.invokestatic 127, 3) := by decide +kernel
theorem dX5_inCore_96 : decode cX5_inCore 96 = .ok (.iconst 1, 1) := by decide +kernel
theorem dX5_inCore_97 : decode cX5_inCore 97 = .ok (.iadd, 1) := by decide +kernel
theorem dX5_inCore_98 : decode cX5_inCore 98 = .ok (.iaload, 1) := by decide +kernel
theorem dX5_inCore_99 : decode cX5_inCore 99 = .ok (.aload_n 0, 1) := by decide +kernel
theorem dX5_inCore_100 : decode cX5_inCore 100 = .ok (.getfield 26, 3) := by decide +kernel
theorem dX5_inCore_103 : decode cX5_inCore 103 = .ok (.iconst 4, 1) := by decide +kernel
theorem dX5_inCore_104 : decode cX5_inCore 104 = .ok (.iload 4, 2) := by decide +kernel
theorem dX5_inCore_106 : decode cX5_inCore 106 = .ok (.imul, 1) := by decide +kernel
theorem dX5_inCore_107 : decode cX5_inCore 107 = .ok (.iconst 2, 1) := by decide +kernel
theorem dX5_inCore_108 : decode cX5_inCore 108 = .ok (.iadd, 1) := by decide +kernel
theorem dX5_inCore_109 : decode cX5_inCore 109 = .ok (.iaload, 1) := by decide +kernel
theorem dX5_inCore_110 : decode cX5_inCore 110 = .ok (.ishr, 1) := by decide +kernel
theorem dX5_inCore_111 : decode cX5_inCore 111 = .ok (.iconst 1, 1) := by decide +kernel
theorem dX5_inCore_112 : decode cX5_inCore 112 = .ok (.iand, 1) := by decide +kernel
theorem dX5_inCore_113 : decode cX5_inCore 113 = .ok (.iadd, 1) := by decide +kernel
theorem dX5_inCore_114 : decode cX5_inCore 114 = .ok (.istore_n 2, 1) := by decide +kernel
theorem dX5_inCore_115 : decode cX5_inCore 115 = .ok (.iinc 4 1, 3) := by decide +kernel
theorem dX5_inCore_118 : decode cX5_inCore 118 = .ok (.goto (-85), 3) := by decide +kernel
theorem dX5_inCore_121 : decode cX5_inCore 121 = .ok (.iload_n 3, 1) := by decide +kernel
theorem dX5_inCore_122 : decode cX5_inCore 122 = .ok (.ifCond .ne 7, 3) := by decide +kernel
theorem dX5_inCore_125 : decode cX5_inCore 125 = .ok (.dconst 1, 1) := by decide +kernel
theorem dX5_inCore_126 : decode cX5_inCore 126 = .ok (.goto 8, 3) := by decide +kernel
theorem dX5_inCore_129 : decode cX5_inCore 129 = .ok (.iload_n 2, 1) := by decide +kernel
theorem dX5_inCore_130 : decode cX5_inCore 130 = .ok (.i2d, 1) := by decide +kernel
theorem dX5_inCore_131 : decode cX5_inCore 131 = .ok (.iload_n 3, 1) := by decide +kernel
theorem dX5_inCore_132 : decode cX5_inCore 132 = .ok (.i2d, 1) := by decide +kernel
theorem dX5_inCore_133 : decode cX5_inCore 133 = .ok (.ddiv, 1) := by decide +kernel
theorem dX5_inCore_134 : decode cX5_inCore 134 = .ok (.dreturn, 1) := by decide +kernel
set_option maxRecDepth 20000 in
theorem ggX5_addLeg_X5_isIn : GoodIn wsX5_addLeg wsX5_isIn := goodIn_r _ [8] (by decide +kernel) (by decide +kernel)
set_option maxRecDepth 20000 in
theorem gX5_addLeg_X5_isIn : GoodIn wsX5_addLeg (va_wsS RX5 45 yX5_isIn wsX5_isIn) := goodIn_app (goodIn_of _ (by decide +kernel)) ggX5_addLeg_X5_isIn
set_option maxRecDepth 20000 in
theorem ggX5_addLeg_X5_no : GoodIn wsX5_addLeg wsX5_no := goodIn_r _ [12, 1, 13, 14, 15, 16, 17, 18, 19, 20, 21, 22, 23, 24, 25] (by decide +kernel) (by decide +kernel)
set_option maxRecDepth 20000 in
theorem gX5_addLeg_X5_no : GoodIn wsX5_addLeg (wsV RX5 53 RX5 yX5_no wsX5_no) := goodIn_app (goodIn_of _ (by decide +kernel)) ggX5_addLeg_X5_no
theorem dX5_addLeg_0 : decode cX5_addLeg 0 = .ok (.aload_n 0, 1) := by decide +kernel
theorem dX5_addLeg_1 : decode cX5_addLeg 1 = .ok (.iconst 0, 1) := by decide +kernel
theorem dX5_addLeg_2 : decode cX5_addLeg 2 = .ok (.putfield 38, 3) := by decide +kernel
theorem dX5_addLeg_5 : decode cX5_addLeg 5 = .ok (.iload_n 1, 1) := by decide +kernel
theorem dX5_addLeg_6 : decode cX5_addLeg 6 = .ok (.iconst 0, 1) := by decide +kernel
theorem dX5_addLeg_7 : decode cX5_addLeg 7 = .ok (.bipush 11, 2) := by decide +kernel
theorem dX5_addLeg_9 : decode cX5_addLeg 9 = .ok (.invokestatic 45, 3) := by decide +kernel
theorem dX5_addLeg_12 : decode cX5_addLeg 12 = .ok (.ifCond .eq 14, 3) := by decide +kernel
theorem dX5_addLeg_15 : decode cX5_addLeg 15 = .ok (.iload_n 2, 1) := by decide +kernel
theorem dX5_addLeg_16 : decode cX5_addLeg 16 = .ok (.bipush 20, 2) := by decide +kernel
theorem dX5_addLeg_18 : decode cX5_addLeg 18 = .ok (.bipush 50, 2) := by decide +kernel
theorem dX5_addLeg_20 : decode cX5_addLeg 20 = .ok (.invokestatic 45, 3) := by decide +kernel
theorem dX5_addLeg_23 : decode cX5_addLeg 23 = .ok (.ifCond .ne 9, 3) := by decide +kernel
theorem dX5_addLeg_26 : decode cX5_addLeg 26 = .ok (.aload_n 0, 1) := by decide +kernel
theorem dX5_addLeg_27 : decode cX5_addLeg 27 = .ok (.iconst 1, 1) := by decide +kernel
theorem dX5_addLeg_28 : decode cX5_addLeg 28 = .ok (.invokevirtual 53, 3) := by decide +kernel
theorem dX5_addLeg_31 : decode cX5_addLeg 31 = .ok (.ireturn, 1) := by decide +kernel
theorem dX5_addLeg_32 : decode cX5_addLeg 32 = .ok (.aload_n 0, 1) := by decide +kernel
theorem dX5_addLeg_33 : decode cX5_addLeg 33 = .ok (.getfield 142, 3) := by decide +kernel
theorem dX5_addLeg_36 : decode cX5_addLeg 36 = .ok (.bipush 20, 2) := by decide +kernel
theorem dX5_addLeg_38 : decode cX5_addLeg 38 = .ok (.if_icmp .ne 9, 3) := by decide +kernel
theorem dX5_addLeg_41 : decode cX5_addLeg 41 = .ok (.aload_n 0, 1) := by decide +kernel
theorem dX5_addLeg_42 : decode cX5_addLeg 42 = .ok (.iconst 2, 1) := by decide +kernel
theorem dX5_addLeg_43 : decode cX5_addLeg 43 = .ok (.invokevirtual 53, 3) := by decide +kernel
theorem dX5_addLeg_46 : decode cX5_addLeg 46 = .ok (.ireturn, 1) := by decide +kernel
theorem dX5_addLeg_47 : decode cX5_addLeg 47 = .ok (.aload_n 0, 1) := by decide +kernel
theorem dX5_addLeg_48 : decode cX5_addLeg 48 = .ok (.getfield 29, 3) := by decide +kernel
theorem dX5_addLeg_51 : decode cX5_addLeg 51 = .ok (.aload_n 0, 1) := by decide +kernel
theorem dX5_addLeg_52 : decode cX5_addLeg 52 = .ok (.getfield 142, 3) := by decide +kernel
theorem dX5_addLeg_55 : decode cX5_addLeg 55 = .ok (.iload_n 1, 1) := by decide +kernel
theorem dX5_addLeg_56 : decode cX5_addLeg 56 = .ok (.iastore, 1) := by decide +kernel
theorem dX5_addLeg_57 : decode cX5_addLeg 57 = .ok (.aload_n 0, 1) := by decide +kernel
theorem dX5_addLeg_58 : decode cX5_addLeg 58 = .ok (.getfield 32, 3) := by decide +kernel
theorem dX5_addLeg_61 : decode cX5_addLeg 61 = .ok (.aload_n 0, 1) := by decide +kernel
theorem dX5_addLeg_62 : decode cX5_addLeg 62 = .ok (.getfield 142, 3) := by decide +kernel
theorem dX5_addLeg_65 : decode cX5_addLeg 65 = .ok (.iload_n 2, 1) := by decide +kernel
theorem dX5_addLeg_66 : decode cX5_addLeg 66 = .ok (.iastore, 1) := by decide +kernel
theorem dX5_addLeg_67 : decode cX5_addLeg 67 = .ok (.aload_n 0, 1) := by decide +kernel
theorem dX5_addLeg_68 : decode cX5_addLeg 68 = .ok (.dup, 1) := by decide +kernel
theorem dX5_addLeg_69 : decode cX5_addLeg 69 = .ok (.getfield 142, 3) := by decide +kernel
theorem dX5_addLeg_72 : decode cX5_addLeg 72 = .ok (.iconst 1, 1) := by decide +kernel
theorem dX5_addLeg_73 : decode cX5_addLeg 73 = .ok (.iadd, 1) := by decide +kernel
theorem dX5_addLeg_74 : decode cX5_addLeg 74 = .ok (.putfield 142, 3) := by decide +kernel
theorem dX5_addLeg_77 : decode cX5_addLeg 77 = .ok (.aload_n 0, 1) := by decide +kernel
theorem dX5_addLeg_78 : decode cX5_addLeg 78 = .ok (.getfield 142, 3) := by decide +kernel
theorem dX5_addLeg_81 : decode cX5_addLeg 81 = .ok (.ireturn, 1) := by decide +kernel
theorem dX5_clearRoute_0 : decode cX5_clearRoute 0 = .ok (.aload_n 0, 1) := by decide +kernel
theorem dX5_clearRoute_1 : decode cX5_clearRoute 1 = .ok (.iconst 0, 1) := by decide +kernel
theorem dX5_clearRoute_2 : decode cX5_clearRoute 2 = .ok (.putfield 38, 3) := by decide +kernel
theorem dX5_clearRoute_5 : decode cX5_clearRoute 5 = .ok (.aload_n 0, 1) := by decide +kernel
theorem dX5_clearRoute_6 : decode cX5_clearRoute 6 = .ok (.getfield 142, 3) := by decide +kernel
theorem dX5_clearRoute_9 : decode cX5_clearRoute 9 = .ok (.istore_n 1, 1) := by decide +kernel
theorem dX5_clearRoute_10 : decode cX5_clearRoute 10 = .ok (.aload_n 0, 1) := by decide +kernel
theorem dX5_clearRoute_11 : decode cX5_clearRoute 11 = .ok (.iconst 0, 1) := by decide +kernel
theorem dX5_clearRoute_12 : decode cX5_clearRoute 12 = .ok (.putfield 142, 3) := by decide +kernel
theorem dX5_clearRoute_15 : decode cX5_clearRoute 15 = .ok (.iload_n 1, 1) := by decide +kernel
theorem dX5_clearRoute_16 : decode cX5_clearRoute 16 = .ok (.ireturn, 1) := by decide +kernel
set_option maxRecDepth 20000 in
theorem ggX5_riskOf_X5_level : GoodIn wsX5_riskOf wsX5_level := goodIn_r _ [8, 9, 10, 7, 11, 12, 13, 14, 15, 16, 17, 18, 19, 20, 21, 22, 23, 24, 25, 26, 27, 28, 29, 30] (by decide +kernel) (by decide +kernel)
set_option maxRecDepth 20000 in
theorem gX5_riskOf_X5_level : GoodIn wsX5_riskOf (wsV RX5 118 RX5 yX5_level wsX5_level) := goodIn_app (goodIn_of _ (by decide +kernel)) ggX5_riskOf_X5_level
set_option maxRecDepth 20000 in
theorem ggX5_riskOf_X5_coreOf : GoodIn wsX5_riskOf wsX5_coreOf := goodIn_r _ [34, 1, 4, 5, 6, 7, 8, 9, 10, 11, 12, 13, 14, 15, 16, 17, 18, 19, 20, 21, 22, 23, 24, 25, 26, 27, 28, 29, 30, 35, 36, 37, 38, 39, 40, 41, 42, 43, 44, 45, 46, 47] (by decide +kernel) (by decide +kernel)
set_option maxRecDepth 20000 in
theorem gX5_riskOf_X5_coreOf : GoodIn wsX5_riskOf (wsV RX5 121 RX5 yX5_coreOf wsX5_coreOf) := goodIn_app (goodIn_of _ (by decide +kernel)) ggX5_riskOf_X5_coreOf
theorem dX5_riskOf_0 : decode cX5_riskOf 0 = .ok (.bipush 100, 2) := by decide +kernel
theorem dX5_riskOf_2 : decode cX5_riskOf 2 = .ok (.aload_n 0, 1) := by decide +kernel
theorem dX5_riskOf_3 : decode cX5_riskOf 3 = .ok (.aload_n 0, 1) := by decide +kernel
theorem dX5_riskOf_4 : decode cX5_riskOf 4 = .ok (.getfield 9, 3) := by decide +kernel
theorem dX5_riskOf_7 : decode cX5_riskOf 7 = .ok (.iload_n 1, 1) := by decide +kernel
theorem dX5_riskOf_8 : decode cX5_riskOf 8 = .ok (.invokevirtual 118, 3) := by decide +kernel
theorem dX5_riskOf_11 : decode cX5_riskOf 11 = .ok (.ishl, 1) := by decide +kernel
theorem dX5_riskOf_12 : decode cX5_riskOf 12 = .ok (.istore_n 3, 1) := by decide +kernel
theorem dX5_riskOf_13 : decode cX5_riskOf 13 = .ok (.aload_n 0, 1) := by decide +kernel
theorem dX5_riskOf_14 : decode cX5_riskOf 14 = .ok (.iload_n 1, 1) := by decide +kernel
theorem dX5_riskOf_15 : decode cX5_riskOf 15 = .ok (.invokevirtual 121, 3) := by decide +kernel
theorem dX5_riskOf_18 : decode cX5_riskOf 18 = .ok (.aload_n 0, 1) := by decide +kernel
theorem dX5_riskOf_19 : decode cX5_riskOf 19 = .ok (.getfield 29, 3) := by decide +kernel
theorem dX5_riskOf_22 : decode cX5_riskOf 22 = .ok (.iload_n 2, 1) := by decide +kernel
theorem dX5_riskOf_23 : decode cX5_riskOf 23 = .ok (.iaload, 1) := by decide +kernel
theorem dX5_riskOf_24 : decode cX5_riskOf 24 = .ok (.ishr, 1) := by decide +kernel
theorem dX5_riskOf_25 : decode cX5_riskOf 25 = .ok (.iconst 1, 1) := by decide +kernel
theorem dX5_riskOf_26 : decode cX5_riskOf 26 = .ok (.iand, 1) := by decide +kernel
theorem dX5_riskOf_27 : decode cX5_riskOf 27 = .ok (.ifCond .ne 7, 3) := by decide +kernel
theorem dX5_riskOf_30 : decode cX5_riskOf 30 = .ok (.iload_n 3, 1) := by decide +kernel
theorem dX5_riskOf_31 : decode cX5_riskOf 31 = .ok (.iconst 4, 1) := by decide +kernel
theorem dX5_riskOf_32 : decode cX5_riskOf 32 = .ok (.idiv, 1) := by decide +kernel
theorem dX5_riskOf_33 : decode cX5_riskOf 33 = .ok (.istore_n 3, 1) := by decide +kernel
theorem dX5_riskOf_34 : decode cX5_riskOf 34 = .ok (.aload_n 0, 1) := by decide +kernel
theorem dX5_riskOf_35 : decode cX5_riskOf 35 = .ok (.getfield 32, 3) := by decide +kernel
theorem dX5_riskOf_38 : decode cX5_riskOf 38 = .ok (.iload_n 2, 1) := by decide +kernel
theorem dX5_riskOf_39 : decode cX5_riskOf 39 = .ok (.iaload, 1) := by decide +kernel
theorem dX5_riskOf_40 : decode cX5_riskOf 40 = .ok (.istore 4, 2) := by decide +kernel
theorem dX5_riskOf_42 : decode cX5_riskOf 42 = .ok (.iload_n 3, 1) := by decide +kernel
theorem dX5_riskOf_43 : decode cX5_riskOf 43 = .ok (.iload 4, 2) := by decide +kernel
theorem dX5_riskOf_45 : decode cX5_riskOf 45 = .ok (.bipush 40, 2) := by decide +kernel
theorem dX5_riskOf_47 : decode cX5_riskOf 47 = .ok (.if_icmp .lt 7, 3) := by decide +kernel
theorem dX5_riskOf_50 : decode cX5_riskOf 50 = .ok (.iconst 1, 1) := by decide +kernel
theorem dX5_riskOf_51 : decode cX5_riskOf 51 = .ok (.goto 27, 3) := by decide +kernel
theorem dX5_riskOf_54 : decode cX5_riskOf 54 = .ok (.iload 4, 2) := by decide +kernel
theorem dX5_riskOf_56 : decode cX5_riskOf 56 = .ok (.bipush 35, 2) := by decide +kernel
theorem dX5_riskOf_58 : decode cX5_riskOf 58 = .ok (.if_icmp .lt 7, 3) := by decide +kernel
theorem dX5_riskOf_61 : decode cX5_riskOf 61 = .ok (.iconst 2, 1) := by decide +kernel
theorem dX5_riskOf_62 : decode cX5_riskOf 62 = .ok (.goto 16, 3) := by decide +kernel
theorem dX5_riskOf_65 : decode cX5_riskOf 65 = .ok (.iload 4, 2) := by decide +kernel
theorem dX5_riskOf_67 : decode cX5_riskOf 67 = .ok (.bipush 30, 2) := by decide +kernel
theorem dX5_riskOf_69 : decode cX5_riskOf 69 = .ok (.if_icmp .lt 7, 3) := by decide +kernel
theorem dX5_riskOf_72 : decode cX5_riskOf 72 = .ok (.iconst 4, 1) := by decide +kernel
theorem dX5_riskOf_73 : decode cX5_riskOf 73 = .ok (.goto 5, 3) := by decide +kernel
theorem dX5_riskOf_76 : decode cX5_riskOf 76 = .ok (.bipush 8, 2) := by decide +kernel
theorem dX5_riskOf_78 : decode cX5_riskOf 78 = .ok (.idiv, 1) := by decide +kernel
theorem dX5_riskOf_79 : decode cX5_riskOf 79 = .ok (.ireturn, 1) := by decide +kernel
set_option maxRecDepth 20000 in
theorem ggX5_risk_X5_isRegion : GoodIn wsX5_risk wsX5_isRegion := goodIn_r _ [7, 8, 9, 10, 6, 11, 53, 54, 55, 56, 57, 58, 59, 60, 61, 62, 63, 64, 65] (by decide +kernel) (by decide +kernel)
set_option maxRecDepth 20000 in
theorem gX5_risk_X5_isRegion : GoodIn wsX5_risk (wsV RX5 49 RX5 yX5_isRegion wsX5_isRegion) := goodIn_app (goodIn_of _ (by decide +kernel)) ggX5_risk_X5_isRegion
set_option maxRecDepth 20000 in
theorem ggX5_risk_X5_isIn : GoodIn wsX5_risk wsX5_isIn := goodIn_r _ [11] (by decide +kernel) (by decide +kernel)
set_option maxRecDepth 20000 in
theorem gX5_risk_X5_isIn : GoodIn wsX5_risk (va_wsS RX5 45 yX5_isIn wsX5_isIn) := goodIn_app (goodIn_of _ (by decide +kernel)) ggX5_risk_X5_isIn
set_option maxRecDepth 20000 in
theorem ggX5_risk_X5_riskOf : GoodIn wsX5_risk wsX5_riskOf := goodIn_r _ [15, 16, 17, 18, 19, 20, 21, 6, 22, 23, 24, 25, 26, 27, 28, 29, 30, 31, 32, 33, 34, 35, 36, 37, 38, 39, 40, 41, 42, 43, 44, 45, 46, 47, 48, 53, 54, 55, 56, 57, 58, 59, 60, 61, 62, 63, 64, 65] (by decide +kernel) (by decide +kernel)
set_option maxRecDepth 20000 in
theorem gX5_risk_X5_riskOf : GoodIn wsX5_risk (wsV RX5 145 RX5 yX5_riskOf wsX5_riskOf) := goodIn_app (goodIn_of _ (by decide +kernel)) ggX5_risk_X5_riskOf
set_option maxRecDepth 20000 in
theorem ggX5_risk_X5_no : GoodIn wsX5_risk wsX5_no := goodIn_r _ [52, 1, 53, 54, 55, 56, 57, 58, 59, 60, 61, 62, 63, 64, 65] (by decide +kernel) (by decide +kernel)
set_option maxRecDepth 20000 in
theorem gX5_risk_X5_no : GoodIn wsX5_risk (wsV RX5 53 RX5 yX5_no wsX5_no) := goodIn_app (goodIn_of _ (by decide +kernel)) ggX5_risk_X5_no
theorem dX5_risk_0 : decode cX5_risk 0 = .ok (.aload_n 0, 1) := by decide +kernel
theorem dX5_risk_1 : decode cX5_risk 1 = .ok (.iconst 0, 1) := by decide +kernel
theorem dX5_risk_2 : decode cX5_risk 2 = .ok (.putfield 38, 3) := by decide +kernel
theorem dX5_risk_5 : decode cX5_risk 5 = .ok (.aload_n 0, 1) := by decide +kernel
theorem dX5_risk_6 : decode cX5_risk 6 = .ok (.iload_n 1, 1) := by decide +kernel
theorem dX5_risk_7 : decode cX5_risk 7 = .ok (.invokevirtual 49, 3) := by decide +kernel
theorem dX5_risk_10 : decode cX5_risk 10 = .ok (.ifCond .eq 26, 3) := by decide +kernel
theorem dX5_risk_13 : decode cX5_risk 13 = .ok (.iload_n 2, 1) := by decide +kernel
theorem dX5_risk_14 : decode cX5_risk 14 = .ok (.iconst 0, 1) := by decide +kernel
theorem dX5_risk_15 : decode cX5_risk 15 = .ok (.aload_n 0, 1) := by decide +kernel
theorem dX5_risk_16 : decode cX5_risk 16 = .ok (.getfield 142, 3) := by decide +kernel
theorem dX5_risk_19 : decode cX5_risk 19 = .ok (.iconst 1, 1) := by decide +kernel
theorem dX5_risk_20 : decode cX5_risk 20 = .ok (.isub, 1) := by decide +kernel
theorem dX5_risk_21 : decode cX5_risk 21 = .ok (.invokestatic 45, 3) := by decide +kernel
theorem dX5_risk_24 : decode cX5_risk 24 = .ok (.ifCond .eq 12, 3) := by decide +kernel
theorem dX5_risk_27 : decode cX5_risk 27 = .ok (.aload_n 0, 1) := by decide +kernel
theorem dX5_risk_28 : decode cX5_risk 28 = .ok (.iload_n 1, 1) := by decide +kernel
theorem dX5_risk_29 : decode cX5_risk 29 = .ok (.iload_n 2, 1) := by decide +kernel
theorem dX5_risk_30 : decode cX5_risk 30 = .ok (.invokevirtual 145, 3) := by decide +kernel
theorem dX5_risk_33 : decode cX5_risk 33 = .ok (.goto 8, 3) := by decide +kernel
theorem dX5_risk_36 : decode cX5_risk 36 = .ok (.aload_n 0, 1) := by decide +kernel
theorem dX5_risk_37 : decode cX5_risk 37 = .ok (.iconst 1, 1) := by decide +kernel
theorem dX5_risk_38 : decode cX5_risk 38 = .ok (.invokevirtual 53, 3) := by decide +kernel
theorem dX5_risk_41 : decode cX5_risk 41 = .ok (.ireturn, 1) := by decide +kernel
set_option maxRecDepth 20000 in
theorem ggX5_worst_X5_riskOf : GoodIn wsX5_worst wsX5_riskOf := goodIn_r _ [6, 7, 8, 9, 10, 11, 12, 5, 13, 14, 15, 16, 17, 18, 19, 20, 21, 22, 23, 24, 25, 26, 27, 28, 29, 30, 31, 32, 33, 34, 35, 36, 37, 38, 39, 40, 41, 42, 43, 44, 45, 46, 47, 48, 49, 50, 51, 52] (by decide +kernel) (by decide +kernel)
set_option maxRecDepth 20000 in
theorem gX5_worst_X5_riskOf : GoodIn wsX5_worst (wsV RX5 145 RX5 yX5_riskOf wsX5_riskOf) := goodIn_app (goodIn_of _ (by decide +kernel)) ggX5_worst_X5_riskOf
theorem dX5_worst_0 : decode cX5_worst 0 = .ok (.iconst (-1), 1) := by decide +kernel
theorem dX5_worst_1 : decode cX5_worst 1 = .ok (.istore_n 2, 1) := by decide +kernel
theorem dX5_worst_2 : decode cX5_worst 2 = .ok (.iconst 0, 1) := by decide +kernel
theorem dX5_worst_3 : decode cX5_worst 3 = .ok (.istore_n 3, 1) := by decide +kernel
theorem dX5_worst_4 : decode cX5_worst 4 = .ok (.iload_n 3, 1) := by decide +kernel
theorem dX5_worst_5 : decode cX5_worst 5 = .ok (.aload_n 0, 1) := by decide +kernel
theorem dX5_worst_6 : decode cX5_worst 6 = .ok (.getfield 142, 3) := by decide +kernel
theorem dX5_worst_9 : decode cX5_worst 9 = .ok (.if_icmp .ge 31, 3) := by decide +kernel
theorem dX5_worst_12 : decode cX5_worst 12 = .ok (.iload_n 2, 1) := by decide +kernel
theorem dX5_worst_13 : decode cX5_worst 13 = .ok (.iconst (-1), 1) := by decide +kernel
theorem dX5_worst_14 : decode cX5_worst 14 = .ok (.if_icmp .eq 18, 3) := by decide +kernel
theorem dX5_worst_17 : decode cX5_worst 17 = .ok (.aload_n 0, 1) := by decide +kernel
theorem dX5_worst_18 : decode cX5_worst 18 = .ok (.iload_n 1, 1) := by decide +kernel
theorem dX5_worst_19 : decode cX5_worst 19 = .ok (.iload_n 3, 1) := by decide +kernel
theorem dX5_worst_20 : decode cX5_worst 20 = .ok (.invokevirtual 145, 3) := by decide +kernel
theorem dX5_worst_23 : decode cX5_worst 23 = .ok (.aload_n 0, 1) := by decide +kernel
theorem dX5_worst_24 : decode cX5_worst 24 = .ok (.iload_n 1, 1) := by decide +kernel
theorem dX5_worst_25 : decode cX5_worst 25 = .ok (.iload_n 2, 1) := by decide +kernel
theorem dX5_worst_26 : decode cX5_worst 26 = .ok (.invokevirtual 145, 3) := by decide +kernel
theorem dX5_worst_29 : decode cX5_worst 29 = .ok (.if_icmp .le 5, 3) := by decide +kernel
theorem dX5_worst_32 : decode cX5_worst 32 = .ok (.iload_n 3, 1) := by decide +kernel
theorem dX5_worst_33 : decode cX5_worst 33 = .ok (.istore_n 2, 1) := by decide +kernel
theorem dX5_worst_34 : decode cX5_worst 34 = .ok (.iinc 3 1, 3) := by decide +kernel
theorem dX5_worst_37 : decode cX5_worst 37 = .ok (.goto (-33), 3) := by decide +kernel
theorem dX5_worst_40 : decode cX5_worst 40 = .ok (.iload_n 2, 1) := by decide +kernel
theorem dX5_worst_41 : decode cX5_worst 41 = .ok (.ireturn, 1) := by decide +kernel
set_option maxRecDepth 20000 in
theorem ggX5_worstLeg_X5_isRegion : GoodIn wsX5_worstLeg wsX5_isRegion := goodIn_r _ [6, 7, 8, 9, 5, 10, 57, 58, 59, 60, 61, 62, 63, 64, 65, 66, 67, 68, 69] (by decide +kernel) (by decide +kernel)
set_option maxRecDepth 20000 in
theorem gX5_worstLeg_X5_isRegion : GoodIn wsX5_worstLeg (wsV RX5 49 RX5 yX5_isRegion wsX5_isRegion) := goodIn_app (goodIn_of _ (by decide +kernel)) ggX5_worstLeg_X5_isRegion
set_option maxRecDepth 20000 in
theorem ggX5_worstLeg_X5_worst : GoodIn wsX5_worstLeg wsX5_worst := goodIn_r _ [14, 15, 16, 17, 18, 5, 19, 20, 21, 22, 23, 24, 25, 26, 27, 28, 29, 30, 31, 32, 33, 34, 35, 36, 37, 38, 39, 40, 41, 42, 43, 44, 45, 46, 47, 48, 49, 50, 51, 52, 57, 58, 59, 60, 61, 62, 63, 64, 65, 66, 67, 68, 69] (by decide +kernel) (by decide +kernel)
set_option maxRecDepth 20000 in
theorem gX5_worstLeg_X5_worst : GoodIn wsX5_worstLeg (wsV RX5 148 RX5 yX5_worst wsX5_worst) := goodIn_app (goodIn_of _ (by decide +kernel)) ggX5_worstLeg_X5_worst
set_option maxRecDepth 20000 in
theorem ggX5_worstLeg_X5_no : GoodIn wsX5_worstLeg wsX5_no := goodIn_r _ [56, 1, 57, 58, 59, 60, 61, 62, 63, 64, 65, 66, 67, 68, 69] (by decide +kernel) (by decide +kernel)
set_option maxRecDepth 20000 in
theorem gX5_worstLeg_X5_no : GoodIn wsX5_worstLeg (wsV RX5 53 RX5 yX5_no wsX5_no) := goodIn_app (goodIn_of _ (by decide +kernel)) ggX5_worstLeg_X5_no
theorem dX5_worstLeg_0 : decode cX5_worstLeg 0 = .ok (.aload_n 0, 1) := by decide +kernel
theorem dX5_worstLeg_1 : decode cX5_worstLeg 1 = .ok (.iconst 0, 1) := by decide +kernel
theorem dX5_worstLeg_2 : decode cX5_worstLeg 2 = .ok (.putfield 38, 3) := by decide +kernel
theorem dX5_worstLeg_5 : decode cX5_worstLeg 5 = .ok (.aload_n 0, 1) := by decide +kernel
theorem dX5_worstLeg_6 : decode cX5_worstLeg 6 = .ok (.iload_n 1, 1) := by decide +kernel
theorem dX5_worstLeg_7 : decode cX5_worstLeg 7 = .ok (.invokevirtual 49, 3) := by decide +kernel
theorem dX5_worstLeg_10 : decode cX5_worstLeg 10 = .ok (.ifCond .eq 11, 3) := by decide +kernel
theorem dX5_worstLeg_13 : decode cX5_worstLeg 13 = .ok (.aload_n 0, 1) := by decide +kernel
theorem dX5_worstLeg_14 : decode cX5_worstLeg 14 = .ok (.iload_n 1, 1) := by decide +kernel
theorem dX5_worstLeg_15 : decode cX5_worstLeg 15 = .ok (.invokevirtual 148, 3) := by decide +kernel
theorem dX5_worstLeg_18 : decode cX5_worstLeg 18 = .ok (.goto 8, 3) := by decide +kernel
theorem dX5_worstLeg_21 : decode cX5_worstLeg 21 = .ok (.aload_n 0, 1) := by decide +kernel
theorem dX5_worstLeg_22 : decode cX5_worstLeg 22 = .ok (.iconst 1, 1) := by decide +kernel
theorem dX5_worstLeg_23 : decode cX5_worstLeg 23 = .ok (.invokevirtual 53, 3) := by decide +kernel
theorem dX5_worstLeg_26 : decode cX5_worstLeg 26 = .ok (.ireturn, 1) := by decide +kernel
set_option maxRecDepth 20000 in
theorem ggX5_bestRegion_X5_worst : GoodIn wsX5_bestRegion wsX5_worst := goodIn_r _ [8, 3, 9, 10, 11, 7, 12, 13, 14, 15, 16, 17, 18, 19, 20, 21, 22, 23, 24, 25, 26, 27, 28, 29, 30, 31, 32, 33, 34, 35, 36, 37, 38, 39, 40, 41, 42, 43, 44, 45, 46, 47, 48, 49, 50, 51, 52, 53, 54, 55, 56, 57, 58] (by decide +kernel) (by decide +kernel)
set_option maxRecDepth 20000 in
theorem gX5_bestRegion_X5_worst : GoodIn wsX5_bestRegion (wsV RX5 148 RX5 yX5_worst wsX5_worst) := goodIn_app (goodIn_of _ (by decide +kernel)) ggX5_bestRegion_X5_worst
set_option maxRecDepth 20000 in
theorem ggX5_bestRegion_X5_riskOf : GoodIn wsX5_bestRegion wsX5_riskOf := goodIn_r _ [12, 13, 14, 15, 16, 17, 18, 7, 19, 20, 21, 22, 23, 24, 25, 26, 27, 28, 29, 30, 31, 32, 33, 34, 35, 36, 37, 38, 39, 40, 41, 42, 43, 44, 45, 46, 47, 48, 49, 50, 51, 52, 53, 54, 55, 56, 57, 58] (by decide +kernel) (by decide +kernel)
set_option maxRecDepth 20000 in
theorem gX5_bestRegion_X5_riskOf : GoodIn wsX5_bestRegion (wsV RX5 145 RX5 yX5_riskOf wsX5_riskOf) := goodIn_app (goodIn_of _ (by decide +kernel)) ggX5_bestRegion_X5_riskOf
theorem dX5_bestRegion_0 : decode cX5_bestRegion 0 = .ok (.aload_n 0, 1) := by decide +kernel
theorem dX5_bestRegion_1 : decode cX5_bestRegion 1 = .ok (.iconst 0, 1) := by decide +kernel
theorem dX5_bestRegion_2 : decode cX5_bestRegion 2 = .ok (.putfield 38, 3) := by decide +kernel
theorem dX5_bestRegion_5 : decode cX5_bestRegion 5 = .ok (.iconst (-1), 1) := by decide +kernel
theorem dX5_bestRegion_6 : decode cX5_bestRegion 6 = .ok (.istore_n 1, 1) := by decide +kernel
theorem dX5_bestRegion_7 : decode cX5_bestRegion 7 = .ok (.iconst 0, 1) := by decide +kernel
theorem dX5_bestRegion_8 : decode cX5_bestRegion 8 = .ok (.istore_n 2, 1) := by decide +kernel
theorem dX5_bestRegion_9 : decode cX5_bestRegion 9 = .ok (.iload_n 2, 1) := by decide +kernel
theorem dX5_bestRegion_10 : decode cX5_bestRegion 10 = .ok (.aload_n 0, 1) := by decide +kernel
theorem dX5_bestRegion_11 : decode cX5_bestRegion 11 = .ok (.getfield 42, 3) := by decide +kernel
theorem dX5_bestRegion_14 : decode cX5_bestRegion 14 = .ok (.if_icmp .ge 46, 3) := by decide +kernel
theorem dX5_bestRegion_17 : decode cX5_bestRegion 17 = .ok (.aload_n 0, 1) := by decide +kernel
theorem dX5_bestRegion_18 : decode cX5_bestRegion 18 = .ok (.getfield 142, 3) := by decide +kernel
theorem dX5_bestRegion_21 : decode cX5_bestRegion 21 = .ok (.ifCond .le 39, 3) := by decide +kernel
theorem dX5_bestRegion_24 : decode cX5_bestRegion 24 = .ok (.iload_n 1, 1) := by decide +kernel
theorem dX5_bestRegion_25 : decode cX5_bestRegion 25 = .ok (.iconst (-1), 1) := by decide +kernel
theorem dX5_bestRegion_26 : decode cX5_bestRegion 26 = .ok (.if_icmp .eq 26, 3) := by decide +kernel
theorem dX5_bestRegion_29 : decode cX5_bestRegion 29 = .ok (.aload_n 0, 1) := by decide +kernel
theorem dX5_bestRegion_30 : decode cX5_bestRegion 30 = .ok (.iload_n 2, 1) := by decide +kernel
theorem dX5_bestRegion_31 : decode cX5_bestRegion 31 = .ok (.aload_n 0, 1) := by decide +kernel
theorem dX5_bestRegion_32 : decode cX5_bestRegion 32 = .ok (.iload_n 2, 1) := by decide +kernel
theorem dX5_bestRegion_33 : decode cX5_bestRegion 33 = .ok (.invokevirtual 148, 3) := by decide +kernel
theorem dX5_bestRegion_36 : decode cX5_bestRegion 36 = .ok (.invokevirtual 145, 3) := by decide +kernel
theorem dX5_bestRegion_39 : decode cX5_bestRegion 39 = .ok (.aload_n 0, 1) := by decide +kernel
theorem dX5_bestRegion_40 : decode cX5_bestRegion 40 = .ok (.iload_n 1, 1) := by decide +kernel
theorem dX5_bestRegion_41 : decode cX5_bestRegion 41 = .ok (.aload_n 0, 1) := by decide +kernel
theorem dX5_bestRegion_42 : decode cX5_bestRegion 42 = .ok (.iload_n 1, 1) := by decide +kernel
theorem dX5_bestRegion_43 : decode cX5_bestRegion 43 = .ok (.invokevirtual 148, 3) := by decide +kernel
theorem dX5_bestRegion_46 : decode cX5_bestRegion 46 = .ok (.invokevirtual 145, 3) := by decide +kernel
theorem dX5_bestRegion_49 : decode cX5_bestRegion 49 = .ok (.if_icmp .ge 5, 3) := by decide +kernel
theorem dX5_bestRegion_52 : decode cX5_bestRegion 52 = .ok (.iload_n 2, 1) := by decide +kernel
theorem dX5_bestRegion_53 : decode cX5_bestRegion 53 = .ok (.istore_n 1, 1) := by decide +kernel
theorem dX5_bestRegion_54 : decode cX5_bestRegion 54 = .ok (.iinc 2 1, 3) := by decide +kernel
theorem dX5_bestRegion_57 : decode cX5_bestRegion 57 = .ok (.goto (-48), 3) := by decide +kernel
theorem dX5_bestRegion_60 : decode cX5_bestRegion 60 = .ok (.iload_n 1, 1) := by decide +kernel
theorem dX5_bestRegion_61 : decode cX5_bestRegion 61 = .ok (.ireturn, 1) := by decide +kernel
set_option maxRecDepth 20000 in
theorem ggX5_digest_X5_at : GoodIn wsX5_digest wsX5_at := goodIn_r _ [16] (by decide +kernel) (by decide +kernel)
set_option maxRecDepth 20000 in
theorem gX5_digest_X5_at : GoodIn wsX5_digest (va_wsS RX5 77 yX5_at wsX5_at) := goodIn_app (goodIn_of _ (by decide +kernel)) ggX5_digest_X5_at
set_option maxRecDepth 20000 in
theorem ggX5_digest_X5_level : GoodIn wsX5_digest wsX5_level := goodIn_r _ [20, 13, 14, 15, 16, 21, 22, 23, 24, 25, 26, 27, 28, 29, 30, 31, 32, 33, 34, 35, 36, 37, 38, 39] (by decide +kernel) (by decide +kernel)
set_option maxRecDepth 20000 in
theorem gX5_digest_X5_level : GoodIn wsX5_digest (wsV RX5 118 RX5 yX5_level wsX5_level) := goodIn_app (goodIn_of _ (by decide +kernel)) ggX5_digest_X5_level
set_option maxRecDepth 20000 in
theorem ggX5_digest_X5_coreOf : GoodIn wsX5_digest wsX5_coreOf := goodIn_r _ [43, 6, 17, 18, 19, 15, 20, 13, 14, 16, 21, 22, 23, 24, 25, 26, 27, 28, 29, 30, 31, 32, 33, 34, 35, 36, 37, 38, 39, 56, 57, 58, 59, 60, 61, 62, 63, 64, 65, 66, 67, 68] (by decide +kernel) (by decide +kernel)
set_option maxRecDepth 20000 in
theorem gX5_digest_X5_coreOf : GoodIn wsX5_digest (wsV RX5 121 RX5 yX5_coreOf wsX5_coreOf) := goodIn_app (goodIn_of _ (by decide +kernel)) ggX5_digest_X5_coreOf
set_option maxRecDepth 20000 in
theorem ggX5_digest_X5_mainOf : GoodIn wsX5_digest wsX5_mainOf := goodIn_r _ [47, 6, 40, 41, 42, 15, 43, 17, 18, 19, 20, 13, 14, 16, 21, 22, 23, 24, 25, 26, 27, 28, 29, 30, 31, 32, 33, 34, 35, 36, 37, 38, 39, 56, 57, 58, 59, 60, 61, 62, 63, 64, 65, 66, 67, 68] (by decide +kernel) (by decide +kernel)
set_option maxRecDepth 20000 in
theorem gX5_digest_X5_mainOf : GoodIn wsX5_digest (wsV RX5 124 RX5 yX5_mainOf wsX5_mainOf) := goodIn_app (goodIn_of _ (by decide +kernel)) ggX5_digest_X5_mainOf
set_option maxRecDepth 20000 in
theorem ggX5_digest_X5_activityOf : GoodIn wsX5_digest wsX5_activityOf := goodIn_r _ [51, 9, 52, 56, 57, 58, 59, 60, 61, 62, 63, 64, 65, 66, 67, 68] (by decide +kernel) (by decide +kernel)
set_option maxRecDepth 20000 in
theorem gX5_digest_X5_activityOf : GoodIn wsX5_digest (wsV RX5 133 RX5 yX5_activityOf wsX5_activityOf) := goodIn_app (goodIn_of _ (by decide +kernel)) ggX5_digest_X5_activityOf
set_option maxRecDepth 20000 in
theorem ggX5_digest_X5_place : GoodIn wsX5_digest wsX5_place := goodIn_r _ [55] (by decide +kernel) (by decide +kernel)
set_option maxRecDepth 20000 in
theorem gX5_digest_X5_place : GoodIn wsX5_digest (va_wsS RX5 127 yX5_place wsX5_place) := goodIn_app (goodIn_of _ (by decide +kernel)) ggX5_digest_X5_place
theorem dX5_digest_0 : decode cX5_digest 0 = .ok (.aload_n 0, 1) := by decide +kernel
theorem dX5_digest_1 : decode cX5_digest 1 = .ok (.iconst 0, 1) := by decide +kernel
theorem dX5_digest_2 : decode cX5_digest 2 = .ok (.putfield 38, 3) := by decide +kernel
theorem dX5_digest_5 : decode cX5_digest 5 = .ok (.ldc2_w 151, 3) := by decide +kernel
theorem dX5_digest_8 : decode cX5_digest 8 = .ok (.aload_n 0, 1) := by decide +kernel
theorem dX5_digest_9 : decode cX5_digest 9 = .ok (.getfield 90, 3) := by decide +kernel
theorem dX5_digest_12 : decode cX5_digest 12 = .ok (.i2l, 1) := by decide +kernel
theorem dX5_digest_13 : decode cX5_digest 13 = .ok (.ladd, 1) := by decide +kernel
theorem dX5_digest_14 : decode cX5_digest 14 = .ok (.ldc2_w 153, 3) := by decide +kernel
theorem dX5_digest_17 : decode cX5_digest 17 = .ok (.lmul, 1) := by decide +kernel
theorem dX5_digest_18 : decode cX5_digest 18 = .ok (.aload_n 0, 1) := by decide +kernel
theorem dX5_digest_19 : decode cX5_digest 19 = .ok (.getfield 42, 3) := by decide +kernel
theorem dX5_digest_22 : decode cX5_digest 22 = .ok (.i2l, 1) := by decide +kernel
theorem dX5_digest_23 : decode cX5_digest 23 = .ok (.ladd, 1) := by decide +kernel
theorem dX5_digest_24 : decode cX5_digest 24 = .ok (.lstore_n 1, 1) := by decide +kernel
theorem dX5_digest_25 : decode cX5_digest 25 = .ok (.iconst 0, 1) := by decide +kernel
theorem dX5_digest_26 : decode cX5_digest 26 = .ok (.istore_n 3, 1) := by decide +kernel
theorem dX5_digest_27 : decode cX5_digest 27 = .ok (.iload_n 3, 1) := by decide +kernel
theorem dX5_digest_28 : decode cX5_digest 28 = .ok (.aload_n 0, 1) := by decide +kernel
theorem dX5_digest_29 : decode cX5_digest 29 = .ok (.getfield 42, 3) := by decide +kernel
theorem dX5_digest_32 : decode cX5_digest 32 = .ok (.if_icmp .ge 100, 3) := by decide +kernel
theorem dX5_digest_35 : decode cX5_digest 35 = .ok (.iconst 0, 1) := by decide +kernel
theorem dX5_digest_36 : decode cX5_digest 36 = .ok (.istore 4, 2) := by decide +kernel
theorem dX5_digest_38 : decode cX5_digest 38 = .ok (.iload 4, 2) := by decide +kernel
theorem dX5_digest_40 : decode cX5_digest 40 = .ok (.bipush 60, 2) := by decide +kernel
theorem dX5_digest_42 : decode cX5_digest 42 = .ok (.if_icmp .ge 30, 3) := by decide +kernel
theorem dX5_digest_45 : decode cX5_digest 45 = .ok (.lload_n 1, 1) := by decide +kernel
theorem dX5_digest_46 : decode cX5_digest 46 = .ok (.ldc2_w 153, 3) := by decide +kernel
theorem dX5_digest_49 : decode cX5_digest 49 = .ok (.lmul, 1) := by decide +kernel
theorem dX5_digest_50 : decode cX5_digest 50 = .ok (.aload_n 0, 1) := by decide +kernel
theorem dX5_digest_51 : decode cX5_digest 51 = .ok (.getfield 9, 3) := by decide +kernel
theorem dX5_digest_54 : decode cX5_digest 54 = .ok (.iload_n 3, 1) := by decide +kernel
theorem dX5_digest_55 : decode cX5_digest 55 = .ok (.iconst 0, 1) := by decide +kernel
theorem dX5_digest_56 : decode cX5_digest 56 = .ok (.invokestatic 77, 3) := by decide +kernel
theorem dX5_digest_59 : decode cX5_digest 59 = .ok (.iload 4, 2) := by decide +kernel
theorem dX5_digest_61 : decode cX5_digest 61 = .ok (.iadd, 1) := by decide +kernel
theorem dX5_digest_62 : decode cX5_digest 62 = .ok (.iaload, 1) := by decide +kernel
theorem dX5_digest_63 : decode cX5_digest 63 = .ok (.i2l, 1) := by decide +kernel
theorem dX5_digest_64 : decode cX5_digest 64 = .ok (.ladd, 1) := by decide +kernel
theorem dX5_digest_65 : decode cX5_digest 65 = .ok (.lstore_n 1, 1) := by decide +kernel
theorem dX5_digest_66 : decode cX5_digest 66 = .ok (.iinc 4 1, 3) := by decide +kernel
theorem dX5_digest_69 : decode cX5_digest 69 = .ok (.goto (-31), 3) := by decide +kernel
theorem dX5_digest_72 : decode cX5_digest 72 = .ok (.lload_n 1, 1) := by decide +kernel
theorem dX5_digest_73 : decode cX5_digest 73 = .ok (.ldc2_w 153, 3) := by decide +kernel
theorem dX5_digest_76 : decode cX5_digest 76 = .ok (.lmul, 1) := by decide +kernel
theorem dX5_digest_77 : decode cX5_digest 77 = .ok (.aload_n 0, 1) := by decide +kernel
theorem dX5_digest_78 : decode cX5_digest 78 = .ok (.aload_n 0, 1) := by decide +kernel
theorem dX5_digest_79 : decode cX5_digest 79 = .ok (.getfield 9, 3) := by decide +kernel
theorem dX5_digest_82 : decode cX5_digest 82 = .ok (.iload_n 3, 1) := by decide +kernel
theorem dX5_digest_83 : decode cX5_digest 83 = .ok (.invokevirtual 118, 3) := by decide +kernel
theorem dX5_digest_86 : decode cX5_digest 86 = .ok (.i2l, 1) := by decide +kernel
theorem dX5_digest_87 : decode cX5_digest 87 = .ok (.ladd, 1) := by decide +kernel
theorem dX5_digest_88 : decode cX5_digest 88 = .ok (.ldc2_w 153, 3) := by decide +kernel
theorem dX5_digest_91 : decode cX5_digest 91 = .ok (.lmul, 1) := by decide +kernel
theorem dX5_digest_92 : decode cX5_digest 92 = .ok (.aload_n 0, 1) := by decide +kernel
theorem dX5_digest_93 : decode cX5_digest 93 = .ok (.iload_n 3, 1) := by decide +kernel
theorem dX5_digest_94 : decode cX5_digest 94 = .ok (.invokevirtual 121, 3) := by decide +kernel
theorem dX5_digest_97 : decode cX5_digest 97 = .ok (.i2l, 1) := by decide +kernel
theorem dX5_digest_98 : decode cX5_digest 98 = .ok (.ladd, 1) := by decide +kernel
theorem dX5_digest_99 : decode cX5_digest 99 = .ok (.ldc2_w 153, 3) := by decide +kernel
theorem dX5_digest_102 : decode cX5_digest 102 = .ok (.lmul, 1) := by decide +kernel
theorem dX5_digest_103 : decode cX5_digest 103 = .ok (.aload_n 0, 1) := by decide +kernel
theorem dX5_digest_104 : decode cX5_digest 104 = .ok (.iload_n 3, 1) := by decide +kernel
theorem dX5_digest_105 : decode cX5_digest 105 = .ok (.invokevirtual 124, 3) := by decide +kernel
theorem dX5_digest_108 : decode cX5_digest 108 = .ok (.i2l, 1) := by decide +kernel
theorem dX5_digest_109 : decode cX5_digest 109 = .ok (.ladd, 1) := by decide +kernel
theorem dX5_digest_110 : decode cX5_digest 110 = .ok (.ldc2_w 153, 3) := by decide +kernel
theorem dX5_digest_113 : decode cX5_digest 113 = .ok (.lmul, 1) := by decide +kernel
theorem dX5_digest_114 : decode cX5_digest 114 = .ok (.aload_n 0, 1) := by decide +kernel
theorem dX5_digest_115 : decode cX5_digest 115 = .ok (.aload_n 0, 1) := by decide +kernel
theorem dX5_digest_116 : decode cX5_digest 116 = .ok (.getfield 90, 3) := by decide +kernel
theorem dX5_digest_119 : decode cX5_digest 119 = .ok (.iload_n 3, 1) := by decide +kernel
theorem dX5_digest_120 : decode cX5_digest 120 = .ok (.invokevirtual 133, 3) := by decide +kernel
theorem dX5_digest_123 : decode cX5_digest 123 = .ok (.i2l, 1) := by decide +kernel
theorem dX5_digest_124 : decode cX5_digest 124 = .ok (.ladd, 1) := by decide +kernel
theorem dX5_digest_125 : decode cX5_digest 125 = .ok (.lstore_n 1, 1) := by decide +kernel
theorem dX5_digest_126 : decode cX5_digest 126 = .ok (.iinc 3 1, 3) := by decide +kernel
theorem dX5_digest_129 : decode cX5_digest 129 = .ok (.goto (-102), 3) := by decide +kernel
theorem dX5_digest_132 : decode cX5_digest 132 = .ok (.iconst 0, 1) := by decide +kernel
