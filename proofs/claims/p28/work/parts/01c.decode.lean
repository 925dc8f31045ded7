theorem dX0_init_0 : decode cX0_init 0 = .ok (.aload_n 0, 1) := by decide +kernel
theorem dX0_init_1 : decode cX0_init 1 = .ok (.invokespecial 3, 3) := by decide +kernel
theorem dX0_init_4 : decode cX0_init 4 = .ok (.aload_n 0, 1) := by decide +kernel
theorem dX0_init_5 : decode cX0_init 5 = .ok (.sipush 200, 3) := by decide +kernel
theorem dX0_init_8 : decode cX0_init 8 = .ok (.newarray .int, 2) := by decide +kernel
theorem dX0_init_10 : decode cX0_init 10 = .ok (.putfield 11, 3) := by decide +kernel
theorem dX0_init_13 : decode cX0_init 13 = .ok (.aload_n 0, 1) := by decide +kernel
theorem dX0_init_14 : decode cX0_init 14 = .ok (.sipush 200, 3) := by decide +kernel
theorem dX0_init_17 : decode cX0_init 17 = .ok (.newarray .int, 2) := by decide +kernel
theorem dX0_init_19 : decode cX0_init 19 = .ok (.putfield 15, 3) := by decide +kernel
theorem dX0_init_22 : decode cX0_init 22 = .ok (.aload_n 0, 1) := by decide +kernel
theorem dX0_init_23 : decode cX0_init 23 = .ok (.sipush 200, 3) := by decide +kernel
theorem dX0_init_26 : decode cX0_init 26 = .ok (.newarray .int, 2) := by decide +kernel
theorem dX0_init_28 : decode cX0_init 28 = .ok (.putfield 18, 3) := by decide +kernel
theorem dX0_init_31 : decode cX0_init 31 = .ok (.aload_n 0, 1) := by decide +kernel
theorem dX0_init_32 : decode cX0_init 32 = .ok (.sipush 366, 3) := by decide +kernel
theorem dX0_init_35 : decode cX0_init 35 = .ok (.newarray .int, 2) := by decide +kernel
theorem dX0_init_37 : decode cX0_init 37 = .ok (.putfield 21, 3) := by decide +kernel
theorem dX0_init_40 : decode cX0_init 40 = .ok (.return_, 1) := by decide +kernel
theorem dX0_isFull_0 : decode cX0_isFull 0 = .ok (.aload_n 0, 1) := by decide +kernel
theorem dX0_isFull_1 : decode cX0_isFull 1 = .ok (.getfield 24, 3) := by decide +kernel
theorem dX0_isFull_4 : decode cX0_isFull 4 = .ok (.sipush 200, 3) := by decide +kernel
theorem dX0_isFull_7 : decode cX0_isFull 7 = .ok (.if_icmp .lt 7, 3) := by decide +kernel
theorem dX0_isFull_10 : decode cX0_isFull 10 = .ok (.iconst 1, 1) := by decide +kernel
theorem dX0_isFull_11 : decode cX0_isFull 11 = .ok (.goto 4, 3) := by decide +kernel
theorem dX0_isFull_14 : decode cX0_isFull 14 = .ok (.iconst 0, 1) := by decide +kernel
theorem dX0_isFull_15 : decode cX0_isFull 15 = .ok (.ireturn, 1) := by decide +kernel
theorem dX0_note_0 : decode cX0_note 0 = .ok (.aload_n 0, 1) := by decide +kernel
theorem dX0_note_1 : decode cX0_note 1 = .ok (.getfield 11, 3) := by decide +kernel
theorem dX0_note_4 : decode cX0_note 4 = .ok (.aload_n 0, 1) := by decide +kernel
theorem dX0_note_5 : decode cX0_note 5 = .ok (.getfield 24, 3) := by decide +kernel
theorem dX0_note_8 : decode cX0_note 8 = .ok (.iload_n 1, 1) := by decide +kernel
theorem dX0_note_9 : decode cX0_note 9 = .ok (.iastore, 1) := by decide +kernel
theorem dX0_note_10 : decode cX0_note 10 = .ok (.aload_n 0, 1) := by decide +kernel
theorem dX0_note_11 : decode cX0_note 11 = .ok (.getfield 15, 3) := by decide +kernel
theorem dX0_note_14 : decode cX0_note 14 = .ok (.aload_n 0, 1) := by decide +kernel
theorem dX0_note_15 : decode cX0_note 15 = .ok (.getfield 24, 3) := by decide +kernel
theorem dX0_note_18 : decode cX0_note 18 = .ok (.iload_n 2, 1) := by decide +kernel
theorem dX0_note_19 : decode cX0_note 19 = .ok (.iastore, 1) := by decide +kernel
theorem dX0_note_20 : decode cX0_note 20 = .ok (.aload_n 0, 1) := by decide +kernel
theorem dX0_note_21 : decode cX0_note 21 = .ok (.getfield 18, 3) := by decide +kernel
theorem dX0_note_24 : decode cX0_note 24 = .ok (.aload_n 0, 1) := by decide +kernel
theorem dX0_note_25 : decode cX0_note 25 = .ok (.getfield 24, 3) := by decide +kernel
theorem dX0_note_28 : decode cX0_note 28 = .ok (.iload_n 3, 1) := by decide +kernel
theorem dX0_note_29 : decode cX0_note 29 = .ok (.iastore, 1) := by decide +kernel
theorem dX0_note_30 : decode cX0_note 30 = .ok (.aload_n 0, 1) := by decide +kernel
theorem dX0_note_31 : decode cX0_note 31 = .ok (.dup, 1) := by decide +kernel
theorem dX0_note_32 : decode cX0_note 32 = .ok (.getfield 24, 3) := by decide +kernel
theorem dX0_note_35 : decode cX0_note 35 = .ok (.iconst 1, 1) := by decide +kernel
theorem dX0_note_36 : decode cX0_note 36 = .ok (.iadd, 1) := by decide +kernel
theorem dX0_note_37 : decode cX0_note 37 = .ok (.putfield 24, 3) := by decide +kernel
theorem dX0_note_40 : decode cX0_note 40 = .ok (.aload_n 0, 1) := by decide +kernel
theorem dX0_note_41 : decode cX0_note 41 = .ok (.getfield 21, 3) := by decide +kernel
theorem dX0_note_44 : decode cX0_note 44 = .ok (.iload_n 1, 1) := by decide +kernel
theorem dX0_note_45 : decode cX0_note 45 = .ok (.bipush 6, 2) := by decide +kernel
theorem dX0_note_47 : decode cX0_note 47 = .ok (.imul, 1) := by decide +kernel
theorem dX0_note_48 : decode cX0_note 48 = .ok (.iload_n 2, 1) := by decide +kernel
theorem dX0_note_49 : decode cX0_note 49 = .ok (.iadd, 1) := by decide +kernel
theorem dX0_note_50 : decode cX0_note 50 = .ok (.dup2, 1) := by decide +kernel
theorem dX0_note_51 : decode cX0_note 51 = .ok (.iaload, 1) := by decide +kernel
theorem dX0_note_52 : decode cX0_note 52 = .ok (.iload 4, 2) := by decide +kernel
theorem dX0_note_54 : decode cX0_note 54 = .ok (.iload 4, 2) := by decide +kernel
theorem dX0_note_56 : decode cX0_note 56 = .ok (.imul, 1) := by decide +kernel
theorem dX0_note_57 : decode cX0_note 57 = .ok (.iadd, 1) := by decide +kernel
theorem dX0_note_58 : decode cX0_note 58 = .ok (.iastore, 1) := by decide +kernel
theorem dX0_note_59 : decode cX0_note 59 = .ok (.return_, 1) := by decide +kernel
theorem dX0_activityOn_0 : decode cX0_activityOn 0 = .ok (.aload_n 0, 1) := by decide +kernel
theorem dX0_activityOn_1 : decode cX0_activityOn 1 = .ok (.getfield 21, 3) := by decide +kernel
theorem dX0_activityOn_4 : decode cX0_activityOn 4 = .ok (.iload_n 1, 1) := by decide +kernel
theorem dX0_activityOn_5 : decode cX0_activityOn 5 = .ok (.bipush 6, 2) := by decide +kernel
theorem dX0_activityOn_7 : decode cX0_activityOn 7 = .ok (.imul, 1) := by decide +kernel
theorem dX0_activityOn_8 : decode cX0_activityOn 8 = .ok (.iload_n 2, 1) := by decide +kernel
theorem dX0_activityOn_9 : decode cX0_activityOn 9 = .ok (.iadd, 1) := by decide +kernel
theorem dX0_activityOn_10 : decode cX0_activityOn 10 = .ok (.iaload, 1) := by decide +kernel
theorem dX0_activityOn_11 : decode cX0_activityOn 11 = .ok (.ireturn, 1) := by decide +kernel
theorem dX1_init_0 : decode cX1_init 0 = .ok (.aload_n 0, 1) := by decide +kernel
theorem dX1_init_1 : decode cX1_init 1 = .ok (.invokespecial 3, 3) := by decide +kernel
theorem dX1_init_4 : decode cX1_init 4 = .ok (.aload_n 0, 1) := by decide +kernel
theorem dX1_init_5 : decode cX1_init 5 = .ok (.bipush 61, 2) := by decide +kernel
theorem dX1_init_7 : decode cX1_init 7 = .ok (.newarray .int, 2) := by decide +kernel
theorem dX1_init_9 : decode cX1_init 9 = .ok (.putfield 9, 3) := by decide +kernel
theorem dX1_init_12 : decode cX1_init 12 = .ok (.aload_n 0, 1) := by decide +kernel
theorem dX1_init_13 : decode cX1_init 13 = .ok (.sipush 1098, 3) := by decide +kernel
theorem dX1_init_16 : decode cX1_init 16 = .ok (.newarray .int, 2) := by decide +kernel
theorem dX1_init_18 : decode cX1_init 18 = .ok (.putfield 15, 3) := by decide +kernel
theorem dX1_init_21 : decode cX1_init 21 = .ok (.return_, 1) := by decide +kernel
set_option maxRecDepth 20000 in
theorem ggX1_hasDay_X1_tells : GoodIn wsX1_hasDay wsX1_tells := goodIn_r _ [5, 6, 7, 8, 9] (by decide +kernel) (by decide +kernel)
set_option maxRecDepth 20000 in
theorem gX1_hasDay_X1_tells : GoodIn wsX1_hasDay (wsV RX1 18 RX1 yX1_tells wsX1_tells) := goodIn_app (goodIn_of _ (by decide +kernel)) ggX1_hasDay_X1_tells
theorem dX1_hasDay_0 : decode cX1_hasDay 0 = .ok (.aload_n 0, 1) := by decide +kernel
theorem dX1_hasDay_1 : decode cX1_hasDay 1 = .ok (.iload_n 1, 1) := by decide +kernel
theorem dX1_hasDay_2 : decode cX1_hasDay 2 = .ok (.iconst 0, 1) := by decide +kernel
theorem dX1_hasDay_3 : decode cX1_hasDay 3 = .ok (.invokevirtual 18, 3) := by decide +kernel
theorem dX1_hasDay_6 : decode cX1_hasDay 6 = .ok (.ireturn, 1) := by decide +kernel
theorem dX1_tells_0 : decode cX1_tells 0 = .ok (.iload_n 1, 1) := by decide +kernel
theorem dX1_tells_1 : decode cX1_tells 1 = .ok (.ifCond .lt 27, 3) := by decide +kernel
theorem dX1_tells_4 : decode cX1_tells 4 = .ok (.iload_n 1, 1) := by decide +kernel
theorem dX1_tells_5 : decode cX1_tells 5 = .ok (.bipush 60, 2) := by decide +kernel
theorem dX1_tells_7 : decode cX1_tells 7 = .ok (.if_icmp .gt 21, 3) := by decide +kernel
theorem dX1_tells_10 : decode cX1_tells 10 = .ok (.iload_n 2, 1) := by decide +kernel
theorem dX1_tells_11 : decode cX1_tells 11 = .ok (.ifCond .lt 17, 3) := by decide +kernel
theorem dX1_tells_14 : decode cX1_tells 14 = .ok (.iload_n 2, 1) := by decide +kernel
theorem dX1_tells_15 : decode cX1_tells 15 = .ok (.aload_n 0, 1) := by decide +kernel
theorem dX1_tells_16 : decode cX1_tells 16 = .ok (.getfield 9, 3) := by decide +kernel
theorem dX1_tells_19 : decode cX1_tells 19 = .ok (.iload_n 1, 1) := by decide +kernel
theorem dX1_tells_20 : decode cX1_tells 20 = .ok (.iaload, 1) := by decide +kernel
theorem dX1_tells_21 : decode cX1_tells 21 = .ok (.if_icmp .ge 7, 3) := by decide +kernel
theorem dX1_tells_24 : decode cX1_tells 24 = .ok (.iconst 1, 1) := by decide +kernel
theorem dX1_tells_25 : decode cX1_tells 25 = .ok (.goto 4, 3) := by decide +kernel
theorem dX1_tells_28 : decode cX1_tells 28 = .ok (.iconst 0, 1) := by decide +kernel
theorem dX1_tells_29 : decode cX1_tells 29 = .ok (.ireturn, 1) := by decide +kernel
set_option maxRecDepth 20000 in
theorem ggX1_write_X1_rowOf : GoodIn wsX1_write wsX1_rowOf := goodIn_r _ [5] (by decide +kernel) (by decide +kernel)
set_option maxRecDepth 20000 in
theorem gX1_write_X1_rowOf : GoodIn wsX1_write (va_wsS RX1 22 yX1_rowOf wsX1_rowOf) := goodIn_app (goodIn_of _ (by decide +kernel)) ggX1_write_X1_rowOf
theorem dX1_write_0 : decode cX1_write 0 = .ok (.iload_n 1, 1) := by decide +kernel
theorem dX1_write_1 : decode cX1_write 1 = .ok (.iload_n 2, 1) := by decide +kernel
theorem dX1_write_2 : decode cX1_write 2 = .ok (.invokestatic 22, 3) := by decide +kernel
theorem dX1_write_5 : decode cX1_write 5 = .ok (.istore 6, 2) := by decide +kernel
theorem dX1_write_7 : decode cX1_write 7 = .ok (.aload_n 0, 1) := by decide +kernel
theorem dX1_write_8 : decode cX1_write 8 = .ok (.getfield 15, 3) := by decide +kernel
theorem dX1_write_11 : decode cX1_write 11 = .ok (.iload 6, 2) := by decide +kernel
theorem dX1_write_13 : decode cX1_write 13 = .ok (.iconst 0, 1) := by decide +kernel
theorem dX1_write_14 : decode cX1_write 14 = .ok (.iadd, 1) := by decide +kernel
theorem dX1_write_15 : decode cX1_write 15 = .ok (.iload_n 3, 1) := by decide +kernel
theorem dX1_write_16 : decode cX1_write 16 = .ok (.iastore, 1) := by decide +kernel
theorem dX1_write_17 : decode cX1_write 17 = .ok (.aload_n 0, 1) := by decide +kernel
theorem dX1_write_18 : decode cX1_write 18 = .ok (.getfield 15, 3) := by decide +kernel
theorem dX1_write_21 : decode cX1_write 21 = .ok (.iload 6, 2) := by decide +kernel
theorem dX1_write_23 : decode cX1_write 23 = .ok (.iconst 1, 1) := by decide +kernel
theorem dX1_write_24 : decode cX1_write 24 = .ok (.iadd, 1) := by decide +kernel
theorem dX1_write_25 : decode cX1_write 25 = .ok (.iload 4, 2) := by decide +kernel
theorem dX1_write_27 : decode cX1_write 27 = .ok (.iastore, 1) := by decide +kernel
theorem dX1_write_28 : decode cX1_write 28 = .ok (.aload_n 0, 1) := by decide +kernel
theorem dX1_write_29 : decode cX1_write 29 = .ok (.getfield 15, 3) := by decide +kernel
theorem dX1_write_32 : decode cX1_write 32 = .ok (.iload 6, 2) := by decide +kernel
theorem dX1_write_34 : decode cX1_write 34 = .ok (.iconst 2, 1) := by decide +kernel
theorem dX1_write_35 : decode cX1_write 35 = .ok (.iadd, 1) := by decide +kernel
theorem dX1_write_36 : decode cX1_write 36 = .ok (.iload 5, 2) := by decide +kernel
theorem dX1_write_38 : decode cX1_write 38 = .ok (.iastore, 1) := by decide +kernel
theorem dX1_write_39 : decode cX1_write 39 = .ok (.return_, 1) := by decide +kernel
theorem dX1_close_0 : decode cX1_close 0 = .ok (.aload_n 0, 1) := by decide +kernel
theorem dX1_close_1 : decode cX1_close 1 = .ok (.getfield 9, 3) := by decide +kernel
theorem dX1_close_4 : decode cX1_close 4 = .ok (.iload_n 1, 1) := by decide +kernel
theorem dX1_close_5 : decode cX1_close 5 = .ok (.iload_n 2, 1) := by decide +kernel
theorem dX1_close_6 : decode cX1_close 6 = .ok (.iastore, 1) := by decide +kernel
theorem dX1_close_7 : decode cX1_close 7 = .ok (.aload_n 0, 1) := by decide +kernel
theorem dX1_close_8 : decode cX1_close 8 = .ok (.dup, 1) := by decide +kernel
theorem dX1_close_9 : decode cX1_close 9 = .ok (.getfield 26, 3) := by decide +kernel
theorem dX1_close_12 : decode cX1_close 12 = .ok (.iconst 1, 1) := by decide +kernel
theorem dX1_close_13 : decode cX1_close 13 = .ok (.iadd, 1) := by decide +kernel
theorem dX1_close_14 : decode cX1_close 14 = .ok (.putfield 26, 3) := by decide +kernel
theorem dX1_close_17 : decode cX1_close 17 = .ok (.return_, 1) := by decide +kernel
set_option maxRecDepth 20000 in
theorem ggX1_read_X1_rowOf : GoodIn wsX1_read wsX1_rowOf := goodIn_r _ [5] (by decide +kernel) (by decide +kernel)
set_option maxRecDepth 20000 in
theorem gX1_read_X1_rowOf : GoodIn wsX1_read (va_wsS RX1 22 yX1_rowOf wsX1_rowOf) := goodIn_app (goodIn_of _ (by decide +kernel)) ggX1_read_X1_rowOf
theorem dX1_read_0 : decode cX1_read 0 = .ok (.aload_n 0, 1) := by decide +kernel
theorem dX1_read_1 : decode cX1_read 1 = .ok (.getfield 15, 3) := by decide +kernel
theorem dX1_read_4 : decode cX1_read 4 = .ok (.iload_n 1, 1) := by decide +kernel
theorem dX1_read_5 : decode cX1_read 5 = .ok (.iload_n 2, 1) := by decide +kernel
theorem dX1_read_6 : decode cX1_read 6 = .ok (.invokestatic 22, 3) := by decide +kernel
theorem dX1_read_9 : decode cX1_read 9 = .ok (.iload_n 3, 1) := by decide +kernel
theorem dX1_read_10 : decode cX1_read 10 = .ok (.iadd, 1) := by decide +kernel
theorem dX1_read_11 : decode cX1_read 11 = .ok (.iaload, 1) := by decide +kernel
theorem dX1_read_12 : decode cX1_read 12 = .ok (.ireturn, 1) := by decide +kernel
theorem dX1_rowOf_0 : decode cX1_rowOf 0 = .ok (.iload_n 0, 1) := by decide +kernel
theorem dX1_rowOf_1 : decode cX1_rowOf 1 = .ok (.bipush 6, 2) := by decide +kernel
theorem dX1_rowOf_3 : decode cX1_rowOf 3 = .ok (.imul, 1) := by decide +kernel
theorem dX1_rowOf_4 : decode cX1_rowOf 4 = .ok (.iload_n 1, 1) := by decide +kernel
theorem dX1_rowOf_5 : decode cX1_rowOf 5 = .ok (.iadd, 1) := by decide +kernel
theorem dX1_rowOf_6 : decode cX1_rowOf 6 = .ok (.iconst 3, 1) := by decide +kernel
theorem dX1_rowOf_7 : decode cX1_rowOf 7 = .ok (.imul, 1) := by decide +kernel
theorem dX1_rowOf_8 : decode cX1_rowOf 8 = .ok (.ireturn, 1) := by decide +kernel
theorem dX2_init_0 : decode cX2_init 0 = .ok (.aload_n 0, 1) := by decide +kernel
theorem dX2_init_1 : decode cX2_init 1 = .ok (.invokespecial 3, 3) := by decide +kernel
theorem dX2_init_4 : decode cX2_init 4 = .ok (.aload_n 0, 1) := by decide +kernel
theorem dX2_init_5 : decode cX2_init 5 = .ok (.bipush 60, 2) := by decide +kernel
theorem dX2_init_7 : decode cX2_init 7 = .ok (.newarray .int, 2) := by decide +kernel
theorem dX2_init_9 : decode cX2_init 9 = .ok (.putfield 9, 3) := by decide +kernel
theorem dX2_init_12 : decode cX2_init 12 = .ok (.aload_n 0, 1) := by decide +kernel
theorem dX2_init_13 : decode cX2_init 13 = .ok (.bipush (-5), 2) := by decide +kernel
theorem dX2_init_15 : decode cX2_init 15 = .ok (.putfield 15, 3) := by decide +kernel
theorem dX2_init_18 : decode cX2_init 18 = .ok (.return_, 1) := by decide +kernel
theorem dX2_greatestOf_0 : decode cX2_greatestOf 0 = .ok (.iload_n 0, 1) := by decide +kernel
theorem dX2_greatestOf_1 : decode cX2_greatestOf 1 = .ok (.iconst 4, 1) := by decide +kernel
theorem dX2_greatestOf_2 : decode cX2_greatestOf 2 = .ok (.if_icmp .ne 8, 3) := by decide +kernel
theorem dX2_greatestOf_5 : decode cX2_greatestOf 5 = .ok (.bipush 10, 2) := by decide +kernel
theorem dX2_greatestOf_7 : decode cX2_greatestOf 7 = .ok (.goto 5, 3) := by decide +kernel
theorem dX2_greatestOf_10 : decode cX2_greatestOf 10 = .ok (.bipush 100, 2) := by decide +kernel
theorem dX2_greatestOf_12 : decode cX2_greatestOf 12 = .ok (.ireturn, 1) := by decide +kernel
theorem dX2_levelOfDanger_0 : decode cX2_levelOfDanger 0 = .ok (.iload_n 0, 1) := by decide +kernel
theorem dX2_levelOfDanger_1 : decode cX2_levelOfDanger 1 = .ok (.bipush 10, 2) := by decide +kernel
theorem dX2_levelOfDanger_3 : decode cX2_levelOfDanger 3 = .ok (.if_icmp .ge 5, 3) := by decide +kernel
theorem dX2_levelOfDanger_6 : decode cX2_levelOfDanger 6 = .ok (.iconst 1, 1) := by decide +kernel
theorem dX2_levelOfDanger_7 : decode cX2_levelOfDanger 7 = .ok (.ireturn, 1) := by decide +kernel
theorem dX2_levelOfDanger_8 : decode cX2_levelOfDanger 8 = .ok (.iload_n 0, 1) := by decide +kernel
theorem dX2_levelOfDanger_9 : decode cX2_levelOfDanger 9 = .ok (.bipush 30, 2) := by decide +kernel
theorem dX2_levelOfDanger_11 : decode cX2_levelOfDanger 11 = .ok (.if_icmp .ge 5, 3) := by decide +kernel
theorem dX2_levelOfDanger_14 : decode cX2_levelOfDanger 14 = .ok (.iconst 2, 1) := by decide +kernel
theorem dX2_levelOfDanger_15 : decode cX2_levelOfDanger 15 = .ok (.ireturn, 1) := by decide +kernel
theorem dX2_levelOfDanger_16 : decode cX2_levelOfDanger 16 = .ok (.iload_n 0, 1) := by decide +kernel
theorem dX2_levelOfDanger_17 : decode cX2_levelOfDanger 17 = .ok (.bipush 55, 2) := by decide +kernel
theorem dX2_levelOfDanger_19 : decode cX2_levelOfDanger 19 = .ok (.if_icmp .ge 5, 3) := by decide +kernel
theorem dX2_levelOfDanger_22 : decode cX2_levelOfDanger 22 = .ok (.iconst 3, 1) := by decide +kernel
theorem dX2_levelOfDanger_23 : decode cX2_levelOfDanger 23 = .ok (.ireturn, 1) := by decide +kernel
theorem dX2_levelOfDanger_24 : decode cX2_levelOfDanger 24 = .ok (.iload_n 0, 1) := by decide +kernel
theorem dX2_levelOfDanger_25 : decode cX2_levelOfDanger 25 = .ok (.bipush 80, 2) := by decide +kernel
theorem dX2_levelOfDanger_27 : decode cX2_levelOfDanger 27 = .ok (.if_icmp .ge 7, 3) := by decide +kernel
theorem dX2_levelOfDanger_30 : decode cX2_levelOfDanger 30 = .ok (.iconst 4, 1) := by decide +kernel
theorem dX2_levelOfDanger_31 : decode cX2_levelOfDanger 31 = .ok (.goto 4, 3) := by decide +kernel
theorem dX2_levelOfDanger_34 : decode cX2_levelOfDanger 34 = .ok (.iconst 5, 1) := by decide +kernel
theorem dX2_levelOfDanger_35 : decode cX2_levelOfDanger 35 = .ok (.ireturn, 1) := by decide +kernel
theorem dX2_numberAt_0 : decode cX2_numberAt 0 = .ok (.aload_n 0, 1) := by decide +kernel
theorem dX2_numberAt_1 : decode cX2_numberAt 1 = .ok (.getfield 9, 3) := by decide +kernel
theorem dX2_numberAt_4 : decode cX2_numberAt 4 = .ok (.iload_n 1, 1) := by decide +kernel
theorem dX2_numberAt_5 : decode cX2_numberAt 5 = .ok (.iconst 5, 1) := by decide +kernel
theorem dX2_numberAt_6 : decode cX2_numberAt 6 = .ok (.imul, 1) := by decide +kernel
theorem dX2_numberAt_7 : decode cX2_numberAt 7 = .ok (.iload_n 2, 1) := by decide +kernel
theorem dX2_numberAt_8 : decode cX2_numberAt 8 = .ok (.iadd, 1) := by decide +kernel
theorem dX2_numberAt_9 : decode cX2_numberAt 9 = .ok (.iaload, 1) := by decide +kernel
theorem dX2_numberAt_10 : decode cX2_numberAt 10 = .ok (.ireturn, 1) := by decide +kernel
set_option maxRecDepth 20000 in
theorem ggX2_put_X2_greatestOf : GoodIn wsX2_put wsX2_greatestOf := goodIn_r _ [9] (by decide +kernel) (by decide +kernel)
set_option maxRecDepth 20000 in
theorem gX2_put_X2_greatestOf : GoodIn wsX2_put (va_wsS RX2 19 yX2_greatestOf wsX2_greatestOf) := goodIn_app (goodIn_of _ (by decide +kernel)) ggX2_put_X2_greatestOf
theorem dX2_put_0 : decode cX2_put 0 = .ok (.aload_n 0, 1) := by decide +kernel
theorem dX2_put_1 : decode cX2_put 1 = .ok (.getfield 9, 3) := by decide +kernel
theorem dX2_put_4 : decode cX2_put 4 = .ok (.iload_n 1, 1) := by decide +kernel
theorem dX2_put_5 : decode cX2_put 5 = .ok (.iconst 5, 1) := by decide +kernel
theorem dX2_put_6 : decode cX2_put 6 = .ok (.imul, 1) := by decide +kernel
theorem dX2_put_7 : decode cX2_put 7 = .ok (.iload_n 2, 1) := by decide +kernel
theorem dX2_put_8 : decode cX2_put 8 = .ok (.iadd, 1) := by decide +kernel
theorem dX2_put_9 : decode cX2_put 9 = .ok (.iload_n 3, 1) := by decide +kernel
theorem dX2_put_10 : decode cX2_put 10 = .ok (.iload_n 2, 1) := by decide +kernel
theorem dX2_put_11 : decode cX2_put 11 = .ok (.invokestatic 19, 3) := by decide +kernel
theorem dX2_put_14 : decode cX2_put 14 = .ok (.invokestatic 23, 3) := by decide +kernel
theorem dX2_put_17 : decode cX2_put 17 = .ok (.iastore, 1) := by decide +kernel
theorem dX2_put_18 : decode cX2_put 18 = .ok (.return_, 1) := by decide +kernel
theorem dX2_tellWeather_0 : decode cX2_tellWeather 0 = .ok (.aload_n 0, 1) := by decide +kernel
theorem dX2_tellWeather_1 : decode cX2_tellWeather 1 = .ok (.iconst 1, 1) := by decide +kernel
theorem dX2_tellWeather_2 : decode cX2_tellWeather 2 = .ok (.putfield 35, 3) := by decide +kernel
theorem dX2_tellWeather_5 : decode cX2_tellWeather 5 = .ok (.aload_n 0, 1) := by decide +kernel
theorem dX2_tellWeather_6 : decode cX2_tellWeather 6 = .ok (.iload_n 1, 1) := by decide +kernel
theorem dX2_tellWeather_7 : decode cX2_tellWeather 7 = .ok (.putfield 39, 3) := by decide +kernel
theorem dX2_tellWeather_10 : decode cX2_tellWeather 10 = .ok (.aload_n 0, 1) := by decide +kernel
theorem dX2_tellWeather_11 : decode cX2_tellWeather 11 = .ok (.iload_n 2, 1) := by decide +kernel
theorem dX2_tellWeather_12 : decode cX2_tellWeather 12 = .ok (.putfield 42, 3) := by decide +kernel
theorem dX2_tellWeather_15 : decode cX2_tellWeather 15 = .ok (.aload_n 0, 1) := by decide +kernel
theorem dX2_tellWeather_16 : decode cX2_tellWeather 16 = .ok (.iload_n 3, 1) := by decide +kernel
theorem dX2_tellWeather_17 : decode cX2_tellWeather 17 = .ok (.putfield 45, 3) := by decide +kernel
theorem dX2_tellWeather_20 : decode cX2_tellWeather 20 = .ok (.aload_n 0, 1) := by decide +kernel
theorem dX2_tellWeather_21 : decode cX2_tellWeather 21 = .ok (.iload 4, 2) := by decide +kernel
theorem dX2_tellWeather_23 : decode cX2_tellWeather 23 = .ok (.putfield 15, 3) := by decide +kernel
theorem dX2_tellWeather_26 : decode cX2_tellWeather 26 = .ok (.return_, 1) := by decide +kernel
set_option maxRecDepth 20000 in
theorem ggX2_forgetWeather_X2_tellWeather : GoodIn wsX2_forgetWeather wsX2_tellWeather := goodIn_r _ [6, 1, 7, 8, 9, 10, 11, 12, 13, 14, 15, 16] (by decide +kernel) (by decide +kernel)
set_option maxRecDepth 20000 in
theorem gX2_forgetWeather_X2_tellWeather : GoodIn wsX2_forgetWeather (wsV RX2 48 RX2 yX2_tellWeather wsX2_tellWeather) := goodIn_app (goodIn_of _ (by decide +kernel)) ggX2_forgetWeather_X2_tellWeather
theorem dX2_forgetWeather_0 : decode cX2_forgetWeather 0 = .ok (.aload_n 0, 1) := by decide +kernel
theorem dX2_forgetWeather_1 : decode cX2_forgetWeather 1 = .ok (.iconst 0, 1) := by decide +kernel
theorem dX2_forgetWeather_2 : decode cX2_forgetWeather 2 = .ok (.iconst 0, 1) := by decide +kernel
theorem dX2_forgetWeather_3 : decode cX2_forgetWeather 3 = .ok (.iconst 0, 1) := by decide +kernel
theorem dX2_forgetWeather_4 : decode cX2_forgetWeather 4 = .ok (.bipush (-5), 2) := by decide +kernel
theorem dX2_forgetWeather_6 : decode cX2_forgetWeather 6 = .ok (.invokevirtual 48, 3) := by decide +kernel
theorem dX2_forgetWeather_9 : decode cX2_forgetWeather 9 = .ok (.aload_n 0, 1) := by decide +kernel
theorem dX2_forgetWeather_10 : decode cX2_forgetWeather 10 = .ok (.iconst 0, 1) := by decide +kernel
theorem dX2_forgetWeather_11 : decode cX2_forgetWeather 11 = .ok (.putfield 35, 3) := by decide +kernel
theorem dX2_forgetWeather_14 : decode cX2_forgetWeather 14 = .ok (.return_, 1) := by decide +kernel
set_option maxRecDepth 20000 in
theorem ggX2_passDay_X2_settle : GoodIn wsX2_passDay wsX2_settle := goodIn_r _ [7, 2, 8, 9, 10, 6, 11, 12, 13, 14, 15, 16, 17, 18, 19, 20, 21, 22, 23, 24, 25, 26, 27, 46, 47, 48, 49, 50, 51] (by decide +kernel) (by decide +kernel)
set_option maxRecDepth 20000 in
theorem gX2_passDay_X2_settle : GoodIn wsX2_passDay (wsV RX2 52 RX2 yX2_settle wsX2_settle) := goodIn_app (goodIn_of _ (by decide +kernel)) ggX2_passDay_X2_settle
set_option maxRecDepth 20000 in
theorem ggX2_passDay_X2_blow : GoodIn wsX2_passDay wsX2_blow := goodIn_r _ [31, 32, 17, 18, 19, 20, 33, 34, 35, 36, 6, 37, 8, 9, 10, 11, 12, 13, 14, 15, 16, 21, 22, 23, 24, 25, 26, 27, 46, 47, 48, 49, 50, 51] (by decide +kernel) (by decide +kernel)
set_option maxRecDepth 20000 in
theorem gX2_passDay_X2_blow : GoodIn wsX2_passDay (wsV RX2 56 RX2 yX2_blow wsX2_blow) := goodIn_app (goodIn_of _ (by decide +kernel)) ggX2_passDay_X2_blow
set_option maxRecDepth 20000 in
theorem ggX2_passDay_X2_buryHoar : GoodIn wsX2_passDay wsX2_buryHoar := goodIn_r _ [41, 32, 8, 9, 10, 6, 11, 12, 24, 25, 26, 27, 13, 14, 15, 16, 17, 18, 19, 20, 21, 22, 23, 46, 47, 48, 49, 50, 51] (by decide +kernel) (by decide +kernel)
set_option maxRecDepth 20000 in
theorem gX2_passDay_X2_buryHoar : GoodIn wsX2_passDay (wsV RX2 60 RX2 yX2_buryHoar wsX2_buryHoar) := goodIn_app (goodIn_of _ (by decide +kernel)) ggX2_passDay_X2_buryHoar
set_option maxRecDepth 20000 in
theorem ggX2_passDay_X2_thaw : GoodIn wsX2_passDay wsX2_thaw := goodIn_r _ [45, 34, 35, 36, 6, 37, 8, 9, 10, 11, 12, 13, 14, 15, 16, 17, 18, 19, 20, 21, 22, 23, 24, 25, 26, 27, 46, 47, 48, 49, 50, 51] (by decide +kernel) (by decide +kernel)
set_option maxRecDepth 20000 in
theorem gX2_passDay_X2_thaw : GoodIn wsX2_passDay (wsV RX2 63 RX2 yX2_thaw wsX2_thaw) := goodIn_app (goodIn_of _ (by decide +kernel)) ggX2_passDay_X2_thaw
theorem dX2_passDay_0 : decode cX2_passDay 0 = .ok (.iconst 0, 1) := by decide +kernel
theorem dX2_passDay_1 : decode cX2_passDay 1 = .ok (.istore_n 1, 1) := by decide +kernel
theorem dX2_passDay_2 : decode cX2_passDay 2 = .ok (.iload_n 1, 1) := by decide +kernel
theorem dX2_passDay_3 : decode cX2_passDay 3 = .ok (.bipush 12, 2) := by decide +kernel
theorem dX2_passDay_5 : decode cX2_passDay 5 = .ok (.if_icmp .ge 62, 3) := by decide +kernel
theorem dX2_passDay_8 : decode cX2_passDay 8 = .ok (.aload_n 0, 1) := by decide +kernel
theorem dX2_passDay_9 : decode cX2_passDay 9 = .ok (.getfield 15, 3) := by decide +kernel
theorem dX2_passDay_12 : decode cX2_passDay 12 = .ok (.bipush 6, 2) := by decide +kernel
theorem dX2_passDay_14 : decode cX2_passDay 14 = .ok (.iconst 1, 1) := by decide +kernel
theorem dX2_passDay_15 : decode cX2_passDay 15 = .ok (.iload_n 1, 1) := by decide +kernel
theorem dX2_passDay_16 : decode cX2_passDay 16 = .ok (.iconst 4, 1) := by decide +kernel
theorem dX2_passDay_17 : decode cX2_passDay 17 = .ok (.idiv, 1) := by decide +kernel
theorem dX2_passDay_18 : decode cX2_passDay 18 = .ok (.isub, 1) := by decide +kernel
theorem dX2_passDay_19 : decode cX2_passDay 19 = .ok (.imul, 1) := by decide +kernel
theorem dX2_passDay_20 : decode cX2_passDay 20 = .ok (.iadd, 1) := by decide +kernel
theorem dX2_passDay_21 : decode cX2_passDay 21 = .ok (.istore_n 2, 1) := by decide +kernel
theorem dX2_passDay_22 : decode cX2_passDay 22 = .ok (.iload_n 2, 1) := by decide +kernel
theorem dX2_passDay_23 : decode cX2_passDay 23 = .ok (.iconst 1, 1) := by decide +kernel
theorem dX2_passDay_24 : decode cX2_passDay 24 = .ok (.if_icmp .gt 10, 3) := by decide +kernel
theorem dX2_passDay_27 : decode cX2_passDay 27 = .ok (.aload_n 0, 1) := by decide +kernel
theorem dX2_passDay_28 : decode cX2_passDay 28 = .ok (.getfield 39, 3) := by decide +kernel
theorem dX2_passDay_31 : decode cX2_passDay 31 = .ok (.goto 4, 3) := by decide +kernel
theorem dX2_passDay_34 : decode cX2_passDay 34 = .ok (.iconst 0, 1) := by decide +kernel
theorem dX2_passDay_35 : decode cX2_passDay 35 = .ok (.istore_n 3, 1) := by decide +kernel
theorem dX2_passDay_36 : decode cX2_passDay 36 = .ok (.aload_n 0, 1) := by decide +kernel
theorem dX2_passDay_37 : decode cX2_passDay 37 = .ok (.iload_n 1, 1) := by decide +kernel
theorem dX2_passDay_38 : decode cX2_passDay 38 = .ok (.iload_n 2, 1) := by decide +kernel
theorem dX2_passDay_39 : decode cX2_passDay 39 = .ok (.iload_n 3, 1) := by decide +kernel
theorem dX2_passDay_40 : decode cX2_passDay 40 = .ok (.invokevirtual 52, 3) := by decide +kernel
theorem dX2_passDay_43 : decode cX2_passDay 43 = .ok (.aload_n 0, 1) := by decide +kernel
theorem dX2_passDay_44 : decode cX2_passDay 44 = .ok (.iload_n 1, 1) := by decide +kernel
theorem dX2_passDay_45 : decode cX2_passDay 45 = .ok (.invokevirtual 56, 3) := by decide +kernel
theorem dX2_passDay_48 : decode cX2_passDay 48 = .ok (.aload_n 0, 1) := by decide +kernel
theorem dX2_passDay_49 : decode cX2_passDay 49 = .ok (.iload_n 1, 1) := by decide +kernel
theorem dX2_passDay_50 : decode cX2_passDay 50 = .ok (.iload_n 2, 1) := by decide +kernel
theorem dX2_passDay_51 : decode cX2_passDay 51 = .ok (.iload_n 3, 1) := by decide +kernel
theorem dX2_passDay_52 : decode cX2_passDay 52 = .ok (.invokevirtual 60, 3) := by decide +kernel
theorem dX2_passDay_55 : decode cX2_passDay 55 = .ok (.aload_n 0, 1) := by decide +kernel
theorem dX2_passDay_56 : decode cX2_passDay 56 = .ok (.iload_n 1, 1) := by decide +kernel
theorem dX2_passDay_57 : decode cX2_passDay 57 = .ok (.iload_n 2, 1) := by decide +kernel
theorem dX2_passDay_58 : decode cX2_passDay 58 = .ok (.invokevirtual 63, 3) := by decide +kernel
theorem dX2_passDay_61 : decode cX2_passDay 61 = .ok (.iinc 1 1, 3) := by decide +kernel
theorem dX2_passDay_64 : decode cX2_passDay 64 = .ok (.goto (-62), 3) := by decide +kernel
theorem dX2_passDay_67 : decode cX2_passDay 67 = .ok (.return_, 1) := by decide +kernel
set_option maxRecDepth 20000 in
theorem ggX2_grow_X2_numberAt : GoodIn wsX2_grow wsX2_numberAt := goodIn_r _ [5, 6, 18, 19, 20, 21, 22, 23] (by decide +kernel) (by decide +kernel)
set_option maxRecDepth 20000 in
theorem gX2_grow_X2_numberAt : GoodIn wsX2_grow (wsV RX2 67 RX2 yX2_numberAt wsX2_numberAt) := goodIn_app (goodIn_of _ (by decide +kernel)) ggX2_grow_X2_numberAt
set_option maxRecDepth 20000 in
theorem ggX2_grow_X2_put : GoodIn wsX2_grow wsX2_put := goodIn_r _ [10, 6, 11, 12, 13, 14, 15, 16, 4, 17, 18, 19, 20, 21, 22, 23] (by decide +kernel) (by decide +kernel)
set_option maxRecDepth 20000 in
theorem gX2_grow_X2_put : GoodIn wsX2_grow (wsV RX2 70 RX2 yX2_put wsX2_put) := goodIn_app (goodIn_of _ (by decide +kernel)) ggX2_grow_X2_put
theorem dX2_grow_0 : decode cX2_grow 0 = .ok (.aload_n 0, 1) := by decide +kernel
theorem dX2_grow_1 : decode cX2_grow 1 = .ok (.iload_n 1, 1) := by decide +kernel
theorem dX2_grow_2 : decode cX2_grow 2 = .ok (.iload_n 2, 1) := by decide +kernel
theorem dX2_grow_3 : decode cX2_grow 3 = .ok (.aload_n 0, 1) := by decide +kernel
theorem dX2_grow_4 : decode cX2_grow 4 = .ok (.iload_n 1, 1) := by decide +kernel
theorem dX2_grow_5 : decode cX2_grow 5 = .ok (.iload_n 2, 1) := by decide +kernel
theorem dX2_grow_6 : decode cX2_grow 6 = .ok (.invokevirtual 67, 3) := by decide +kernel
theorem dX2_grow_9 : decode cX2_grow 9 = .ok (.iload_n 3, 1) := by decide +kernel
theorem dX2_grow_10 : decode cX2_grow 10 = .ok (.iadd, 1) := by decide +kernel
theorem dX2_grow_11 : decode cX2_grow 11 = .ok (.invokevirtual 70, 3) := by decide +kernel
theorem dX2_grow_14 : decode cX2_grow 14 = .ok (.return_, 1) := by decide +kernel
set_option maxRecDepth 20000 in
theorem ggX2_keepPercent_X2_numberAt : GoodIn wsX2_keepPercent wsX2_numberAt := goodIn_r _ [5, 6, 18, 19, 20, 21, 22, 23] (by decide +kernel) (by decide +kernel)
set_option maxRecDepth 20000 in
theorem gX2_keepPercent_X2_numberAt : GoodIn wsX2_keepPercent (wsV RX2 67 RX2 yX2_numberAt wsX2_numberAt) := goodIn_app (goodIn_of _ (by decide +kernel)) ggX2_keepPercent_X2_numberAt
set_option maxRecDepth 20000 in
theorem ggX2_keepPercent_X2_put : GoodIn wsX2_keepPercent wsX2_put := goodIn_r _ [10, 6, 11, 12, 13, 14, 15, 16, 4, 17, 18, 19, 20, 21, 22, 23] (by decide +kernel) (by decide +kernel)
set_option maxRecDepth 20000 in
theorem gX2_keepPercent_X2_put : GoodIn wsX2_keepPercent (wsV RX2 70 RX2 yX2_put wsX2_put) := goodIn_app (goodIn_of _ (by decide +kernel)) ggX2_keepPercent_X2_put
theorem dX2_keepPercent_0 : decode cX2_keepPercent 0 = .ok (.aload_n 0, 1) := by decide +kernel
theorem dX2_keepPercent_1 : decode cX2_keepPercent 1 = .ok (.iload_n 1, 1) := by decide +kernel
theorem dX2_keepPercent_2 : decode cX2_keepPercent 2 = .ok (.iload_n 2, 1) := by decide +kernel
theorem dX2_keepPercent_3 : decode cX2_keepPercent 3 = .ok (.aload_n 0, 1) := by decide +kernel
theorem dX2_keepPercent_4 : decode cX2_keepPercent 4 = .ok (.iload_n 1, 1) := by decide +kernel
theorem dX2_keepPercent_5 : decode cX2_keepPercent 5 = .ok (.iload_n 2, 1) := by decide +kernel
theorem dX2_keepPercent_6 : decode cX2_keepPercent 6 = .ok (.invokevirtual 67, 3) := by decide +kernel
theorem dX2_keepPercent_9 : decode cX2_keepPercent 9 = .ok (.iload_n 3, 1) := by decide +kernel
theorem dX2_keepPercent_10 : decode cX2_keepPercent 10 = .ok (.imul, 1) := by decide +kernel
theorem dX2_keepPercent_11 : decode cX2_keepPercent 11 = .ok (.bipush 100, 2) := by decide +kernel
theorem dX2_keepPercent_13 : decode cX2_keepPercent 13 = .ok (.idiv, 1) := by decide +kernel
theorem dX2_keepPercent_14 : decode cX2_keepPercent 14 = .ok (.invokevirtual 70, 3) := by decide +kernel
theorem dX2_keepPercent_17 : decode cX2_keepPercent 17 = .ok (.return_, 1) := by decide +kernel
set_option maxRecDepth 20000 in
theorem ggX2_settle_X2_numberAt : GoodIn wsX2_settle wsX2_numberAt := goodIn_r _ [6, 7, 23, 24, 25, 26, 27, 28] (by decide +kernel) (by decide +kernel)
set_option maxRecDepth 20000 in
theorem gX2_settle_X2_numberAt : GoodIn wsX2_settle (wsV RX2 67 RX2 yX2_numberAt wsX2_numberAt) := goodIn_app (goodIn_of _ (by decide +kernel)) ggX2_settle_X2_numberAt
set_option maxRecDepth 20000 in
theorem ggX2_settle_X2_put : GoodIn wsX2_settle wsX2_put := goodIn_r _ [11, 7, 12, 13, 14, 15, 16, 17, 5, 18, 23, 24, 25, 26, 27, 28] (by decide +kernel) (by decide +kernel)
set_option maxRecDepth 20000 in
theorem gX2_settle_X2_put : GoodIn wsX2_settle (wsV RX2 70 RX2 yX2_put wsX2_put) := goodIn_app (goodIn_of _ (by decide +kernel)) ggX2_settle_X2_put
set_option maxRecDepth 20000 in
theorem ggX2_settle_X2_grow : GoodIn wsX2_settle wsX2_grow := goodIn_r _ [22, 2, 3, 4, 5, 6, 7, 8, 9, 10, 11, 12, 13, 14, 15, 16, 17, 18, 23, 24, 25, 26, 27, 28] (by decide +kernel) (by decide +kernel)
set_option maxRecDepth 20000 in
theorem gX2_settle_X2_grow : GoodIn wsX2_settle (wsV RX2 73 RX2 yX2_grow wsX2_grow) := goodIn_app (goodIn_of _ (by decide +kernel)) ggX2_settle_X2_grow
theorem dX2_settle_0 : decode cX2_settle 0 = .ok (.aload_n 0, 1) := by decide +kernel
theorem dX2_settle_1 : decode cX2_settle 1 = .ok (.iload_n 1, 1) := by decide +kernel
theorem dX2_settle_2 : decode cX2_settle 2 = .ok (.iconst 0, 1) := by decide +kernel
theorem dX2_settle_3 : decode cX2_settle 3 = .ok (.aload_n 0, 1) := by decide +kernel
theorem dX2_settle_4 : decode cX2_settle 4 = .ok (.iload_n 1, 1) := by decide +kernel
theorem dX2_settle_5 : decode cX2_settle 5 = .ok (.iconst 0, 1) := by decide +kernel
theorem dX2_settle_6 : decode cX2_settle 6 = .ok (.invokevirtual 67, 3) := by decide +kernel
theorem dX2_settle_9 : decode cX2_settle 9 = .ok (.bipush 6, 2) := by decide +kernel
theorem dX2_settle_11 : decode cX2_settle 11 = .ok (.imul, 1) := by decide +kernel
theorem dX2_settle_12 : decode cX2_settle 12 = .ok (.bipush 10, 2) := by decide +kernel
theorem dX2_settle_14 : decode cX2_settle 14 = .ok (.idiv, 1) := by decide +kernel
theorem dX2_settle_15 : decode cX2_settle 15 = .ok (.iload_n 3, 1) := by decide +kernel
theorem dX2_settle_16 : decode cX2_settle 16 = .ok (.iadd, 1) := by decide +kernel
theorem dX2_settle_17 : decode cX2_settle 17 = .ok (.invokevirtual 70, 3) := by decide +kernel
theorem dX2_settle_20 : decode cX2_settle 20 = .ok (.iload_n 2, 1) := by decide +kernel
theorem dX2_settle_21 : decode cX2_settle 21 = .ok (.iconst 1, 1) := by decide +kernel
theorem dX2_settle_22 : decode cX2_settle 22 = .ok (.if_icmp .le 15, 3) := by decide +kernel
theorem dX2_settle_25 : decode cX2_settle 25 = .ok (.aload_n 0, 1) := by decide +kernel
theorem dX2_settle_26 : decode cX2_settle 26 = .ok (.iload_n 1, 1) := by decide +kernel
theorem dX2_settle_27 : decode cX2_settle 27 = .ok (.iconst 3, 1) := by decide +kernel
theorem dX2_settle_28 : decode cX2_settle 28 = .ok (.aload_n 0, 1) := by decide +kernel
theorem dX2_settle_29 : decode cX2_settle 29 = .ok (.getfield 39, 3) := by decide +kernel
theorem dX2_settle_32 : decode cX2_settle 32 = .ok (.iconst 2, 1) := by decide +kernel
theorem dX2_settle_33 : decode cX2_settle 33 = .ok (.idiv, 1) := by decide +kernel
theorem dX2_settle_34 : decode cX2_settle 34 = .ok (.invokevirtual 73, 3) := by decide +kernel
theorem dX2_settle_37 : decode cX2_settle 37 = .ok (.return_, 1) := by decide +kernel
set_option maxRecDepth 20000 in
theorem ggX2_blow_X2_keepPercent : GoodIn wsX2_blow wsX2_keepPercent := goodIn_r _ [11, 12, 13, 14, 10, 15, 16, 17, 18, 19, 20, 2, 3, 4, 5, 21, 22, 23, 28, 29, 30, 31, 32, 33] (by decide +kernel) (by decide +kernel)
set_option maxRecDepth 20000 in
theorem gX2_blow_X2_keepPercent : GoodIn wsX2_blow (wsV RX2 76 RX2 yX2_keepPercent wsX2_keepPercent) := goodIn_app (goodIn_of _ (by decide +kernel)) ggX2_blow_X2_keepPercent
set_option maxRecDepth 20000 in
theorem ggX2_blow_X2_numberAt : GoodIn wsX2_blow wsX2_numberAt := goodIn_r _ [15, 16, 28, 29, 30, 31, 32, 33] (by decide +kernel) (by decide +kernel)
set_option maxRecDepth 20000 in
theorem gX2_blow_X2_numberAt : GoodIn wsX2_blow (wsV RX2 67 RX2 yX2_numberAt wsX2_numberAt) := goodIn_app (goodIn_of _ (by decide +kernel)) ggX2_blow_X2_numberAt
set_option maxRecDepth 20000 in
theorem ggX2_blow_X2_grow : GoodIn wsX2_blow wsX2_grow := goodIn_r _ [27, 12, 13, 14, 10, 15, 16, 17, 18, 19, 20, 2, 3, 4, 5, 21, 22, 23, 28, 29, 30, 31, 32, 33] (by decide +kernel) (by decide +kernel)
set_option maxRecDepth 20000 in
theorem gX2_blow_X2_grow : GoodIn wsX2_blow (wsV RX2 73 RX2 yX2_grow wsX2_grow) := goodIn_app (goodIn_of _ (by decide +kernel)) ggX2_blow_X2_grow
theorem dX2_blow_0 : decode cX2_blow 0 = .ok (.aload_n 0, 1) := by decide +kernel
theorem dX2_blow_1 : decode cX2_blow 1 = .ok (.getfield 42, 3) := by decide +kernel
theorem dX2_blow_4 : decode cX2_blow 4 = .ok (.bipush 25, 2) := by decide +kernel
theorem dX2_blow_6 : decode cX2_blow 6 = .ok (.if_icmp .ge 12, 3) := by decide +kernel
theorem dX2_blow_9 : decode cX2_blow 9 = .ok (.aload_n 0, 1) := by decide +kernel
theorem dX2_blow_10 : decode cX2_blow 10 = .ok (.iload_n 1, 1) := by decide +kernel
theorem dX2_blow_11 : decode cX2_blow 11 = .ok (.iconst 1, 1) := by decide +kernel
theorem dX2_blow_12 : decode cX2_blow 12 = .ok (.bipush 80, 2) := by decide +kernel
theorem dX2_blow_14 : decode cX2_blow 14 = .ok (.invokevirtual 76, 3) := by decide +kernel
theorem dX2_blow_17 : decode cX2_blow 17 = .ok (.return_, 1) := by decide +kernel
theorem dX2_blow_18 : decode cX2_blow 18 = .ok (.aload_n 0, 1) := by decide +kernel
theorem dX2_blow_19 : decode cX2_blow 19 = .ok (.iload_n 1, 1) := by decide +kernel
theorem dX2_blow_20 : decode cX2_blow 20 = .ok (.iconst 0, 1) := by decide +kernel
theorem dX2_blow_21 : decode cX2_blow 21 = .ok (.invokevirtual 67, 3) := by decide +kernel
theorem dX2_blow_24 : decode cX2_blow 24 = .ok (.bipush 40, 2) := by decide +kernel
theorem dX2_blow_26 : decode cX2_blow 26 = .ok (.invokestatic 23, 3) := by decide +kernel
theorem dX2_blow_29 : decode cX2_blow 29 = .ok (.aload_n 0, 1) := by decide +kernel
theorem dX2_blow_30 : decode cX2_blow 30 = .ok (.getfield 42, 3) := by decide +kernel
theorem dX2_blow_33 : decode cX2_blow 33 = .ok (.bipush 20, 2) := by decide +kernel
theorem dX2_blow_35 : decode cX2_blow 35 = .ok (.isub, 1) := by decide +kernel
theorem dX2_blow_36 : decode cX2_blow 36 = .ok (.imul, 1) := by decide +kernel
theorem dX2_blow_37 : decode cX2_blow 37 = .ok (.bipush 40, 2) := by decide +kernel
theorem dX2_blow_39 : decode cX2_blow 39 = .ok (.idiv, 1) := by decide +kernel
theorem dX2_blow_40 : decode cX2_blow 40 = .ok (.istore_n 2, 1) := by decide +kernel
theorem dX2_blow_41 : decode cX2_blow 41 = .ok (.iload_n 1, 1) := by decide +kernel
theorem dX2_blow_42 : decode cX2_blow 42 = .ok (.iconst 4, 1) := by decide +kernel
theorem dX2_blow_43 : decode cX2_blow 43 = .ok (.irem, 1) := by decide +kernel
theorem dX2_blow_44 : decode cX2_blow 44 = .ok (.aload_n 0, 1) := by decide +kernel
theorem dX2_blow_45 : decode cX2_blow 45 = .ok (.getfield 45, 3) := by decide +kernel
theorem dX2_blow_48 : decode cX2_blow 48 = .ok (.isub, 1) := by decide +kernel
theorem dX2_blow_49 : decode cX2_blow 49 = .ok (.iconst 4, 1) := by decide +kernel
theorem dX2_blow_50 : decode cX2_blow 50 = .ok (.iadd, 1) := by decide +kernel
theorem dX2_blow_51 : decode cX2_blow 51 = .ok (.iconst 4, 1) := by decide +kernel
theorem dX2_blow_52 : decode cX2_blow 52 = .ok (.irem, 1) := by decide +kernel
theorem dX2_blow_53 : decode cX2_blow 53 = .ok (.istore_n 3, 1) := by decide +kernel
theorem dX2_blow_54 : decode cX2_blow 54 = .ok (.iload_n 3, 1) := by decide +kernel
theorem dX2_blow_55 : decode cX2_blow 55 = .ok (.iconst 2, 1) := by decide +kernel
theorem dX2_blow_56 : decode cX2_blow 56 = .ok (.if_icmp .ne 13, 3) := by decide +kernel
theorem dX2_blow_59 : decode cX2_blow 59 = .ok (.aload_n 0, 1) := by decide +kernel
theorem dX2_blow_60 : decode cX2_blow 60 = .ok (.iload_n 1, 1) := by decide +kernel
theorem dX2_blow_61 : decode cX2_blow 61 = .ok (.iconst 1, 1) := by decide +kernel
theorem dX2_blow_62 : decode cX2_blow 62 = .ok (.iload_n 2, 1) := by decide +kernel
theorem dX2_blow_63 : decode cX2_blow 63 = .ok (.invokevirtual 73, 3) := by decide +kernel
theorem dX2_blow_66 : decode cX2_blow 66 = .ok (.goto 16, 3) := by decide +kernel
theorem dX2_blow_69 : decode cX2_blow 69 = .ok (.iload_n 3, 1) := by decide +kernel
theorem dX2_blow_70 : decode cX2_blow 70 = .ok (.ifCond .eq 12, 3) := by decide +kernel
theorem dX2_blow_73 : decode cX2_blow 73 = .ok (.aload_n 0, 1) := by decide +kernel
theorem dX2_blow_74 : decode cX2_blow 74 = .ok (.iload_n 1, 1) := by decide +kernel
theorem dX2_blow_75 : decode cX2_blow 75 = .ok (.iconst 1, 1) := by decide +kernel
theorem dX2_blow_76 : decode cX2_blow 76 = .ok (.iload_n 2, 1) := by decide +kernel
theorem dX2_blow_77 : decode cX2_blow 77 = .ok (.iconst 2, 1) := by decide +kernel
theorem dX2_blow_78 : decode cX2_blow 78 = .ok (.idiv, 1) := by decide +kernel
theorem dX2_blow_79 : decode cX2_blow 79 = .ok (.invokevirtual 73, 3) := by decide +kernel
theorem dX2_blow_82 : decode cX2_blow 82 = .ok (.return_, 1) := by decide +kernel
set_option maxRecDepth 20000 in
theorem ggX2_buryHoar_X2_numberAt : GoodIn wsX2_buryHoar wsX2_numberAt := goodIn_r _ [6, 7, 23, 24, 25, 26, 27, 28] (by decide +kernel) (by decide +kernel)
set_option maxRecDepth 20000 in
theorem gX2_buryHoar_X2_numberAt : GoodIn wsX2_buryHoar (wsV RX2 67 RX2 yX2_numberAt wsX2_numberAt) := goodIn_app (goodIn_of _ (by decide +kernel)) ggX2_buryHoar_X2_numberAt
set_option maxRecDepth 20000 in
theorem ggX2_buryHoar_X2_grow : GoodIn wsX2_buryHoar wsX2_grow := goodIn_r _ [11, 2, 3, 4, 5, 6, 7, 12, 13, 14, 15, 16, 17, 18, 19, 20, 21, 22, 23, 24, 25, 26, 27, 28] (by decide +kernel) (by decide +kernel)
set_option maxRecDepth 20000 in
theorem gX2_buryHoar_X2_grow : GoodIn wsX2_buryHoar (wsV RX2 73 RX2 yX2_grow wsX2_grow) := goodIn_app (goodIn_of _ (by decide +kernel)) ggX2_buryHoar_X2_grow
set_option maxRecDepth 20000 in
theorem ggX2_buryHoar_X2_put : GoodIn wsX2_buryHoar wsX2_put := goodIn_r _ [15, 7, 16, 17, 18, 19, 20, 21, 5, 22, 23, 24, 25, 26, 27, 28] (by decide +kernel) (by decide +kernel)
set_option maxRecDepth 20000 in
theorem gX2_buryHoar_X2_put : GoodIn wsX2_buryHoar (wsV RX2 70 RX2 yX2_put wsX2_put) := goodIn_app (goodIn_of _ (by decide +kernel)) ggX2_buryHoar_X2_put
theorem dX2_buryHoar_0 : decode cX2_buryHoar 0 = .ok (.iload_n 3, 1) := by decide +kernel
theorem dX2_buryHoar_1 : decode cX2_buryHoar 1 = .ok (.bipush 10, 2) := by decide +kernel
theorem dX2_buryHoar_3 : decode cX2_buryHoar 3 = .ok (.if_icmp .lt 28, 3) := by decide +kernel
theorem dX2_buryHoar_6 : decode cX2_buryHoar 6 = .ok (.aload_n 0, 1) := by decide +kernel
theorem dX2_buryHoar_7 : decode cX2_buryHoar 7 = .ok (.iload_n 1, 1) := by decide +kernel
theorem dX2_buryHoar_8 : decode cX2_buryHoar 8 = .ok (.iconst 2, 1) := by decide +kernel
theorem dX2_buryHoar_9 : decode cX2_buryHoar 9 = .ok (.bipush 15, 2) := by decide +kernel
theorem dX2_buryHoar_11 : decode cX2_buryHoar 11 = .ok (.aload_n 0, 1) := by decide +kernel
theorem dX2_buryHoar_12 : decode cX2_buryHoar 12 = .ok (.iload_n 1, 1) := by decide +kernel
theorem dX2_buryHoar_13 : decode cX2_buryHoar 13 = .ok (.iconst 4, 1) := by decide +kernel
theorem dX2_buryHoar_14 : decode cX2_buryHoar 14 = .ok (.invokevirtual 67, 3) := by decide +kernel
theorem dX2_buryHoar_17 : decode cX2_buryHoar 17 = .ok (.imul, 1) := by decide +kernel
theorem dX2_buryHoar_18 : decode cX2_buryHoar 18 = .ok (.invokevirtual 73, 3) := by decide +kernel
theorem dX2_buryHoar_21 : decode cX2_buryHoar 21 = .ok (.aload_n 0, 1) := by decide +kernel
theorem dX2_buryHoar_22 : decode cX2_buryHoar 22 = .ok (.iload_n 1, 1) := by decide +kernel
theorem dX2_buryHoar_23 : decode cX2_buryHoar 23 = .ok (.iconst 4, 1) := by decide +kernel
theorem dX2_buryHoar_24 : decode cX2_buryHoar 24 = .ok (.iconst 0, 1) := by decide +kernel
theorem dX2_buryHoar_25 : decode cX2_buryHoar 25 = .ok (.invokevirtual 70, 3) := by decide +kernel
theorem dX2_buryHoar_28 : decode cX2_buryHoar 28 = .ok (.goto 52, 3) := by decide +kernel
theorem dX2_buryHoar_31 : decode cX2_buryHoar 31 = .ok (.aload_n 0, 1) := by decide +kernel
theorem dX2_buryHoar_32 : decode cX2_buryHoar 32 = .ok (.getfield 42, 3) := by decide +kernel
theorem dX2_buryHoar_35 : decode cX2_buryHoar 35 = .ok (.bipush 40, 2) := by decide +kernel
theorem dX2_buryHoar_37 : decode cX2_buryHoar 37 = .ok (.if_icmp .ge 7, 3) := by decide +kernel
theorem dX2_buryHoar_40 : decode cX2_buryHoar 40 = .ok (.iload_n 2, 1) := by decide +kernel
theorem dX2_buryHoar_41 : decode cX2_buryHoar 41 = .ok (.ifCond .le 13, 3) := by decide +kernel
theorem dX2_buryHoar_44 : decode cX2_buryHoar 44 = .ok (.aload_n 0, 1) := by decide +kernel
theorem dX2_buryHoar_45 : decode cX2_buryHoar 45 = .ok (.iload_n 1, 1) := by decide +kernel
theorem dX2_buryHoar_46 : decode cX2_buryHoar 46 = .ok (.iconst 4, 1) := by decide +kernel
theorem dX2_buryHoar_47 : decode cX2_buryHoar 47 = .ok (.iconst 0, 1) := by decide +kernel
theorem dX2_buryHoar_48 : decode cX2_buryHoar 48 = .ok (.invokevirtual 70, 3) := by decide +kernel
theorem dX2_buryHoar_51 : decode cX2_buryHoar 51 = .ok (.goto 29, 3) := by decide +kernel
theorem dX2_buryHoar_54 : decode cX2_buryHoar 54 = .ok (.iload_n 3, 1) := by decide +kernel
theorem dX2_buryHoar_55 : decode cX2_buryHoar 55 = .ok (.ifCond .ne 25, 3) := by decide +kernel
theorem dX2_buryHoar_58 : decode cX2_buryHoar 58 = .ok (.aload_n 0, 1) := by decide +kernel
theorem dX2_buryHoar_59 : decode cX2_buryHoar 59 = .ok (.getfield 42, 3) := by decide +kernel
theorem dX2_buryHoar_62 : decode cX2_buryHoar 62 = .ok (.bipush 15, 2) := by decide +kernel
theorem dX2_buryHoar_64 : decode cX2_buryHoar 64 = .ok (.if_icmp .ge 16, 3) := by decide +kernel
theorem dX2_buryHoar_67 : decode cX2_buryHoar 67 = .ok (.iload_n 2, 1) := by decide +kernel
theorem dX2_buryHoar_68 : decode cX2_buryHoar 68 = .ok (.bipush (-8), 2) := by decide +kernel
theorem dX2_buryHoar_70 : decode cX2_buryHoar 70 = .ok (.if_icmp .ge 10, 3) := by decide +kernel
theorem dX2_buryHoar_73 : decode cX2_buryHoar 73 = .ok (.aload_n 0, 1) := by decide +kernel
theorem dX2_buryHoar_74 : decode cX2_buryHoar 74 = .ok (.iload_n 1, 1) := by decide +kernel
theorem dX2_buryHoar_75 : decode cX2_buryHoar 75 = .ok (.iconst 4, 1) := by decide +kernel
theorem dX2_buryHoar_76 : decode cX2_buryHoar 76 = .ok (.iconst 1, 1) := by decide +kernel
theorem dX2_buryHoar_77 : decode cX2_buryHoar 77 = .ok (.invokevirtual 73, 3) := by decide +kernel
theorem dX2_buryHoar_80 : decode cX2_buryHoar 80 = .ok (.return_, 1) := by decide +kernel
set_option maxRecDepth 20000 in
theorem ggX2_thaw_X2_keepPercent : GoodIn wsX2_thaw wsX2_keepPercent := goodIn_r _ [5, 6, 7, 8, 4, 9, 10, 11, 12, 13, 14, 15, 16, 17, 18, 19, 20, 21, 26, 27, 28, 29, 30, 31] (by decide +kernel) (by decide +kernel)
set_option maxRecDepth 20000 in
theorem gX2_thaw_X2_keepPercent : GoodIn wsX2_thaw (wsV RX2 76 RX2 yX2_keepPercent wsX2_keepPercent) := goodIn_app (goodIn_of _ (by decide +kernel)) ggX2_thaw_X2_keepPercent
set_option maxRecDepth 20000 in
theorem ggX2_thaw_X2_grow : GoodIn wsX2_thaw wsX2_grow := goodIn_r _ [25, 6, 7, 8, 4, 9, 10, 11, 12, 13, 14, 15, 16, 17, 18, 19, 20, 21, 26, 27, 28, 29, 30, 31] (by decide +kernel) (by decide +kernel)
set_option maxRecDepth 20000 in
theorem gX2_thaw_X2_grow : GoodIn wsX2_thaw (wsV RX2 73 RX2 yX2_grow wsX2_grow) := goodIn_app (goodIn_of _ (by decide +kernel)) ggX2_thaw_X2_grow
theorem dX2_thaw_0 : decode cX2_thaw 0 = .ok (.iload_n 2, 1) := by decide +kernel
theorem dX2_thaw_1 : decode cX2_thaw 1 = .ok (.ifCond .le 35, 3) := by decide +kernel
theorem dX2_thaw_4 : decode cX2_thaw 4 = .ok (.aload_n 0, 1) := by decide +kernel
theorem dX2_thaw_5 : decode cX2_thaw 5 = .ok (.iload_n 1, 1) := by decide +kernel
theorem dX2_thaw_6 : decode cX2_thaw 6 = .ok (.iconst 2, 1) := by decide +kernel
theorem dX2_thaw_7 : decode cX2_thaw 7 = .ok (.bipush 70, 2) := by decide +kernel
theorem dX2_thaw_9 : decode cX2_thaw 9 = .ok (.invokevirtual 76, 3) := by decide +kernel
theorem dX2_thaw_12 : decode cX2_thaw 12 = .ok (.aload_n 0, 1) := by decide +kernel
theorem dX2_thaw_13 : decode cX2_thaw 13 = .ok (.iload_n 1, 1) := by decide +kernel
theorem dX2_thaw_14 : decode cX2_thaw 14 = .ok (.iconst 3, 1) := by decide +kernel
theorem dX2_thaw_15 : decode cX2_thaw 15 = .ok (.iload_n 1, 1) := by decide +kernel
theorem dX2_thaw_16 : decode cX2_thaw 16 = .ok (.iconst 4, 1) := by decide +kernel
theorem dX2_thaw_17 : decode cX2_thaw 17 = .ok (.irem, 1) := by decide +kernel
theorem dX2_thaw_18 : decode cX2_thaw 18 = .ok (.iconst 2, 1) := by decide +kernel
theorem dX2_thaw_19 : decode cX2_thaw 19 = .ok (.if_icmp .ne 8, 3) := by decide +kernel
theorem dX2_thaw_22 : decode cX2_thaw 22 = .ok (.bipush 8, 2) := by decide +kernel
theorem dX2_thaw_24 : decode cX2_thaw 24 = .ok (.goto 4, 3) := by decide +kernel
theorem dX2_thaw_27 : decode cX2_thaw 27 = .ok (.iconst 4, 1) := by decide +kernel
theorem dX2_thaw_28 : decode cX2_thaw 28 = .ok (.iload_n 2, 1) := by decide +kernel
theorem dX2_thaw_29 : decode cX2_thaw 29 = .ok (.imul, 1) := by decide +kernel
theorem dX2_thaw_30 : decode cX2_thaw 30 = .ok (.invokevirtual 73, 3) := by decide +kernel
theorem dX2_thaw_33 : decode cX2_thaw 33 = .ok (.goto 19, 3) := by decide +kernel
theorem dX2_thaw_36 : decode cX2_thaw 36 = .ok (.aload_n 0, 1) := by decide +kernel
theorem dX2_thaw_37 : decode cX2_thaw 37 = .ok (.iload_n 1, 1) := by decide +kernel
theorem dX2_thaw_38 : decode cX2_thaw 38 = .ok (.iconst 2, 1) := by decide +kernel
theorem dX2_thaw_39 : decode cX2_thaw 39 = .ok (.bipush 95, 2) := by decide +kernel
theorem dX2_thaw_41 : decode cX2_thaw 41 = .ok (.invokevirtual 76, 3) := by decide +kernel
theorem dX2_thaw_44 : decode cX2_thaw 44 = .ok (.aload_n 0, 1) := by decide +kernel
theorem dX2_thaw_45 : decode cX2_thaw 45 = .ok (.iload_n 1, 1) := by decide +kernel
theorem dX2_thaw_46 : decode cX2_thaw 46 = .ok (.iconst 3, 1) := by decide +kernel
theorem dX2_thaw_47 : decode cX2_thaw 47 = .ok (.bipush 50, 2) := by decide +kernel
theorem dX2_thaw_49 : decode cX2_thaw 49 = .ok (.invokevirtual 76, 3) := by decide +kernel
theorem dX2_thaw_52 : decode cX2_thaw 52 = .ok (.return_, 1) := by decide +kernel
set_option maxRecDepth 20000 in
theorem ggX2_problemAt_X2_numberAt : GoodIn wsX2_problemAt wsX2_numberAt := goodIn_r _ [9, 10, 11, 12, 13, 14, 15, 16] (by decide +kernel) (by decide +kernel)
set_option maxRecDepth 20000 in
theorem gX2_problemAt_X2_numberAt : GoodIn wsX2_problemAt (wsV RX2 67 RX2 yX2_numberAt wsX2_numberAt) := goodIn_app (goodIn_of _ (by decide +kernel)) ggX2_problemAt_X2_numberAt
theorem dX2_problemAt_0 : decode cX2_problemAt 0 = .ok (.aload_n 0, 1) := by decide +kernel
theorem dX2_problemAt_1 : decode cX2_problemAt 1 = .ok (.iload_n 1, 1) := by decide +kernel
theorem dX2_problemAt_2 : decode cX2_problemAt 2 = .ok (.iload_n 2, 1) := by decide +kernel
theorem dX2_problemAt_3 : decode cX2_problemAt 3 = .ok (.invokevirtual 67, 3) := by decide +kernel
theorem dX2_problemAt_6 : decode cX2_problemAt 6 = .ok (.istore_n 3, 1) := by decide +kernel
theorem dX2_problemAt_7 : decode cX2_problemAt 7 = .ok (.iload_n 2, 1) := by decide +kernel
theorem dX2_problemAt_8 : decode cX2_problemAt 8 = .ok (.iconst 2, 1) := by decide +kernel
theorem dX2_problemAt_9 : decode cX2_problemAt 9 = .ok (.if_icmp .eq 5, 3) := by decide +kernel
theorem dX2_problemAt_12 : decode cX2_problemAt 12 = .ok (.iload_n 3, 1) := by decide +kernel
theorem dX2_problemAt_13 : decode cX2_problemAt 13 = .ok (.ireturn, 1) := by decide +kernel
theorem dX2_problemAt_14 : decode cX2_problemAt 14 = .ok (.aload_n 0, 1) := by decide +kernel
theorem dX2_problemAt_15 : decode cX2_problemAt 15 = .ok (.iload_n 1, 1) := by decide +kernel
theorem dX2_problemAt_16 : decode cX2_problemAt 16 = .ok (.iconst 0, 1) := by decide +kernel
theorem dX2_problemAt_17 : decode cX2_problemAt 17 = .ok (.invokevirtual 67, 3) := by decide +kernel
theorem dX2_problemAt_20 : decode cX2_problemAt 20 = .ok (.aload_n 0, 1) := by decide +kernel
theorem dX2_problemAt_21 : decode cX2_problemAt 21 = .ok (.iload_n 1, 1) := by decide +kernel
theorem dX2_problemAt_22 : decode cX2_problemAt 22 = .ok (.iconst 1, 1) := by decide +kernel
theorem dX2_problemAt_23 : decode cX2_problemAt 23 = .ok (.invokevirtual 67, 3) := by decide +kernel
theorem dX2_problemAt_26 : decode cX2_problemAt 26 = .ok (.iadd, 1) := by decide +kernel
theorem dX2_problemAt_27 : decode cX2_problemAt 27 = .ok (.istore 4, 2) := by decide +kernel
theorem dX2_problemAt_29 : decode cX2_problemAt 29 = .ok (.iload_n 3, 1) := by decide +kernel
theorem dX2_problemAt_30 : decode cX2_problemAt 30 = .ok (.bipush 100, 2) := by decide +kernel
theorem dX2_problemAt_32 : decode cX2_problemAt 32 = .ok (.iload 4, 2) := by decide +kernel
theorem dX2_problemAt_34 : decode cX2_problemAt 34 = .ok (.invokestatic 23, 3) := by decide +kernel
theorem dX2_problemAt_37 : decode cX2_problemAt 37 = .ok (.imul, 1) := by decide +kernel
theorem dX2_problemAt_38 : decode cX2_problemAt 38 = .ok (.bipush 100, 2) := by decide +kernel
theorem dX2_problemAt_40 : decode cX2_problemAt 40 = .ok (.idiv, 1) := by decide +kernel
theorem dX2_problemAt_41 : decode cX2_problemAt 41 = .ok (.ireturn, 1) := by decide +kernel
set_option maxRecDepth 20000 in
theorem ggX2_dangerAt_X2_problemAt : GoodIn wsX2_dangerAt wsX2_problemAt := goodIn_r _ [12, 1, 2, 3, 4, 13, 14, 15, 11, 16, 17, 18, 19, 20, 21, 22, 23] (by decide +kernel) (by decide +kernel)
set_option maxRecDepth 20000 in
theorem gX2_dangerAt_X2_problemAt : GoodIn wsX2_dangerAt (wsV RX2 79 RX2 yX2_problemAt wsX2_problemAt) := goodIn_app (goodIn_of _ (by decide +kernel)) ggX2_dangerAt_X2_problemAt
theorem dX2_dangerAt_0 : decode cX2_dangerAt 0 = .ok (.iconst 0, 1) := by decide +kernel
theorem dX2_dangerAt_1 : decode cX2_dangerAt 1 = .ok (.istore_n 2, 1) := by decide +kernel
theorem dX2_dangerAt_2 : decode cX2_dangerAt 2 = .ok (.iconst 0, 1) := by decide +kernel
theorem dX2_dangerAt_3 : decode cX2_dangerAt 3 = .ok (.istore_n 3, 1) := by decide +kernel
theorem dX2_dangerAt_4 : decode cX2_dangerAt 4 = .ok (.iconst 0, 1) := by decide +kernel
theorem dX2_dangerAt_5 : decode cX2_dangerAt 5 = .ok (.istore 4, 2) := by decide +kernel
theorem dX2_dangerAt_7 : decode cX2_dangerAt 7 = .ok (.iload 4, 2) := by decide +kernel
theorem dX2_dangerAt_9 : decode cX2_dangerAt 9 = .ok (.iconst 4, 1) := by decide +kernel
theorem dX2_dangerAt_10 : decode cX2_dangerAt 10 = .ok (.if_icmp .ge 36, 3) := by decide +kernel
theorem dX2_dangerAt_13 : decode cX2_dangerAt 13 = .ok (.aload_n 0, 1) := by decide +kernel
theorem dX2_dangerAt_14 : decode cX2_dangerAt 14 = .ok (.iload_n 1, 1) := by decide +kernel
theorem dX2_dangerAt_15 : decode cX2_dangerAt 15 = .ok (.iload 4, 2) := by decide +kernel
theorem dX2_dangerAt_17 : decode cX2_dangerAt 17 = .ok (.invokevirtual 79, 3) := by decide +kernel
theorem dX2_dangerAt_20 : decode cX2_dangerAt 20 = .ok (.istore 5, 2) := by decide +kernel
theorem dX2_dangerAt_22 : decode cX2_dangerAt 22 = .ok (.iload_n 3, 1) := by decide +kernel
theorem dX2_dangerAt_23 : decode cX2_dangerAt 23 = .ok (.iload 5, 2) := by decide +kernel
theorem dX2_dangerAt_25 : decode cX2_dangerAt 25 = .ok (.iload_n 2, 1) := by decide +kernel
theorem dX2_dangerAt_26 : decode cX2_dangerAt 26 = .ok (.invokestatic 23, 3) := by decide +kernel
theorem dX2_dangerAt_29 : decode cX2_dangerAt 29 = .ok (.invokestatic 82, 3) := by decide +kernel
theorem dX2_dangerAt_32 : decode cX2_dangerAt 32 = .ok (.istore_n 3, 1) := by decide +kernel
theorem dX2_dangerAt_33 : decode cX2_dangerAt 33 = .ok (.iload_n 2, 1) := by decide +kernel
theorem dX2_dangerAt_34 : decode cX2_dangerAt 34 = .ok (.iload 5, 2) := by decide +kernel
theorem dX2_dangerAt_36 : decode cX2_dangerAt 36 = .ok (.invokestatic 82, 3) := by decide +kernel
theorem dX2_dangerAt_39 : decode cX2_dangerAt 39 = .ok (.istore_n 2, 1) := by decide +kernel
theorem dX2_dangerAt_40 : decode cX2_dangerAt 40 = .ok (.iinc 4 1, 3) := by decide +kernel
theorem dX2_dangerAt_43 : decode cX2_dangerAt 43 = .ok (.goto (-36), 3) := by decide +kernel
theorem dX2_dangerAt_46 : decode cX2_dangerAt 46 = .ok (.iload_n 2, 1) := by decide +kernel
theorem dX2_dangerAt_47 : decode cX2_dangerAt 47 = .ok (.iload_n 3, 1) := by decide +kernel
theorem dX2_dangerAt_48 : decode cX2_dangerAt 48 = .ok (.iconst 4, 1) := by decide +kernel
theorem dX2_dangerAt_49 : decode cX2_dangerAt 49 = .ok (.idiv, 1) := by decide +kernel
theorem dX2_dangerAt_50 : decode cX2_dangerAt 50 = .ok (.iadd, 1) := by decide +kernel
theorem dX2_dangerAt_51 : decode cX2_dangerAt 51 = .ok (.ireturn, 1) := by decide +kernel
set_option maxRecDepth 20000 in
theorem ggX2_findLevel_X2_dangerAt : GoodIn wsX2_findLevel wsX2_dangerAt := goodIn_r _ [12, 1, 2, 3, 4, 5, 6, 7, 13, 14, 15, 11, 16, 17, 18, 19, 20, 21, 25, 26, 27, 28, 29, 30] (by decide +kernel) (by decide +kernel)
set_option maxRecDepth 20000 in
theorem gX2_findLevel_X2_dangerAt : GoodIn wsX2_findLevel (wsV RX2 85 RX2 yX2_dangerAt wsX2_dangerAt) := goodIn_app (goodIn_of _ (by decide +kernel)) ggX2_findLevel_X2_dangerAt
set_option maxRecDepth 20000 in
theorem ggX2_findLevel_X2_levelOfDanger : GoodIn wsX2_findLevel wsX2_levelOfDanger := goodIn_r _ [24] (by decide +kernel) (by decide +kernel)
set_option maxRecDepth 20000 in
theorem gX2_findLevel_X2_levelOfDanger : GoodIn wsX2_findLevel (va_wsS RX2 88 yX2_levelOfDanger wsX2_levelOfDanger) := goodIn_app (goodIn_of _ (by decide +kernel)) ggX2_findLevel_X2_levelOfDanger
theorem dX2_findLevel_0 : decode cX2_findLevel 0 = .ok (.iconst 0, 1) := by decide +kernel
theorem dX2_findLevel_1 : decode cX2_findLevel 1 = .ok (.istore_n 1, 1) := by decide +kernel
theorem dX2_findLevel_2 : decode cX2_findLevel 2 = .ok (.iconst 0, 1) := by decide +kernel
theorem dX2_findLevel_3 : decode cX2_findLevel 3 = .ok (.istore_n 2, 1) := by decide +kernel
theorem dX2_findLevel_4 : decode cX2_findLevel 4 = .ok (.iconst 0, 1) := by decide +kernel
theorem dX2_findLevel_5 : decode cX2_findLevel 5 = .ok (.istore_n 3, 1) := by decide +kernel
theorem dX2_findLevel_6 : decode cX2_findLevel 6 = .ok (.iload_n 3, 1) := by decide +kernel
theorem dX2_findLevel_7 : decode cX2_findLevel 7 = .ok (.bipush 12, 2) := by decide +kernel
theorem dX2_findLevel_9 : decode cX2_findLevel 9 = .ok (.if_icmp .ge 34, 3) := by decide +kernel
theorem dX2_findLevel_12 : decode cX2_findLevel 12 = .ok (.aload_n 0, 1) := by decide +kernel
theorem dX2_findLevel_13 : decode cX2_findLevel 13 = .ok (.iload_n 3, 1) := by decide +kernel
theorem dX2_findLevel_14 : decode cX2_findLevel 14 = .ok (.invokevirtual 85, 3) := by decide +kernel
theorem dX2_findLevel_17 : decode cX2_findLevel 17 = .ok (.istore 4, 2) := by decide +kernel
theorem dX2_findLevel_19 : decode cX2_findLevel 19 = .ok (.iload_n 2, 1) := by decide +kernel
theorem dX2_findLevel_20 : decode cX2_findLevel 20 = .ok (.iload 4, 2) := by decide +kernel
theorem dX2_findLevel_22 : decode cX2_findLevel 22 = .ok (.iload_n 1, 1) := by decide +kernel
theorem dX2_findLevel_23 : decode cX2_findLevel 23 = .ok (.invokestatic 23, 3) := by decide +kernel
theorem dX2_findLevel_26 : decode cX2_findLevel 26 = .ok (.invokestatic 82, 3) := by decide +kernel
theorem dX2_findLevel_29 : decode cX2_findLevel 29 = .ok (.istore_n 2, 1) := by decide +kernel
theorem dX2_findLevel_30 : decode cX2_findLevel 30 = .ok (.iload_n 1, 1) := by decide +kernel
theorem dX2_findLevel_31 : decode cX2_findLevel 31 = .ok (.iload 4, 2) := by decide +kernel
theorem dX2_findLevel_33 : decode cX2_findLevel 33 = .ok (.invokestatic 82, 3) := by decide +kernel
theorem dX2_findLevel_36 : decode cX2_findLevel 36 = .ok (.istore_n 1, 1) := by decide +kernel
theorem dX2_findLevel_37 : decode cX2_findLevel 37 = .ok (.iinc 3 1, 3) := by decide +kernel
theorem dX2_findLevel_40 : decode cX2_findLevel 40 = .ok (.goto (-34), 3) := by decide +kernel
theorem dX2_findLevel_43 : decode cX2_findLevel 43 = .ok (.iload_n 2, 1) := by decide +kernel
theorem dX2_findLevel_44 : decode cX2_findLevel 44 = .ok (.invokestatic 88, 3) := by decide +kernel
theorem dX2_findLevel_47 : decode cX2_findLevel 47 = .ok (.ireturn, 1) := by decide +kernel
set_option maxRecDepth 20000 in
theorem ggX2_findCore_X2_dangerAt : GoodIn wsX2_findCore wsX2_dangerAt := goodIn_r _ [5, 6, 7, 8, 9, 10, 11, 12, 13, 14, 15, 4, 16, 17, 18, 19, 20, 21, 25, 26, 27, 28, 29, 30] (by decide +kernel) (by decide +kernel)
set_option maxRecDepth 20000 in
theorem gX2_findCore_X2_dangerAt : GoodIn wsX2_findCore (wsV RX2 85 RX2 yX2_dangerAt wsX2_dangerAt) := goodIn_app (goodIn_of _ (by decide +kernel)) ggX2_findCore_X2_dangerAt
set_option maxRecDepth 20000 in
theorem ggX2_findCore_X2_levelOfDanger : GoodIn wsX2_findCore wsX2_levelOfDanger := goodIn_r _ [24] (by decide +kernel) (by decide +kernel)
set_option maxRecDepth 20000 in
theorem gX2_findCore_X2_levelOfDanger : GoodIn wsX2_findCore (va_wsS RX2 88 yX2_levelOfDanger wsX2_levelOfDanger) := goodIn_app (goodIn_of _ (by decide +kernel)) ggX2_findCore_X2_levelOfDanger
theorem dX2_findCore_0 : decode cX2_findCore 0 = .ok (.iconst 0, 1) := by decide +kernel
theorem dX2_findCore_1 : decode cX2_findCore 1 = .ok (.istore_n 2, 1) := by decide +kernel
theorem dX2_findCore_2 : decode cX2_findCore 2 = .ok (.iconst 0, 1) := by decide +kernel
theorem dX2_findCore_3 : decode cX2_findCore 3 = .ok (.istore_n 3, 1) := by decide +kernel
theorem dX2_findCore_4 : decode cX2_findCore 4 = .ok (.iload_n 3, 1) := by decide +kernel
theorem dX2_findCore_5 : decode cX2_findCore 5 = .ok (.bipush 12, 2) := by decide +kernel
theorem dX2_findCore_7 : decode cX2_findCore 7 = .ok (.if_icmp .ge 27, 3) := by decide +kernel
theorem dX2_findCore_10 : decode cX2_findCore 10 = .ok (.aload_n 0, 1) := by decide +kernel
theorem dX2_findCore_11 : decode cX2_findCore 11 = .ok (.iload_n 3, 1) := by decide +kernel
theorem dX2_findCore_12 : decode cX2_findCore 12 = .ok (.invokevirtual 85, 3) := by decide +kernel
theorem dX2_findCore_15 : decode cX2_findCore 15 = .ok (.invokestatic 88, 3) := by decide +kernel
theorem dX2_findCore_18 : decode cX2_findCore 18 = .ok (.iload_n 1, 1) := by decide +kernel
theorem dX2_findCore_19 : decode cX2_findCore 19 = .ok (.if_icmp .lt 9, 3) := by decide +kernel
theorem dX2_findCore_22 : decode cX2_findCore 22 = .ok (.iload_n 2, 1) := by decide +kernel
theorem dX2_findCore_23 : decode cX2_findCore 23 = .ok (.iconst 1, 1) := by decide +kernel
theorem dX2_findCore_24 : decode cX2_findCore 24 = .ok (.iload_n 3, 1) := by decide +kernel
theorem dX2_findCore_25 : decode cX2_findCore 25 = .ok (.ishl, 1) := by decide +kernel
theorem dX2_findCore_26 : decode cX2_findCore 26 = .ok (.ior, 1) := by decide +kernel
theorem dX2_findCore_27 : decode cX2_findCore 27 = .ok (.istore_n 2, 1) := by decide +kernel
theorem dX2_findCore_28 : decode cX2_findCore 28 = .ok (.iinc 3 1, 3) := by decide +kernel
theorem dX2_findCore_31 : decode cX2_findCore 31 = .ok (.goto (-27), 3) := by decide +kernel
theorem dX2_findCore_34 : decode cX2_findCore 34 = .ok (.iload_n 2, 1) := by decide +kernel
theorem dX2_findCore_35 : decode cX2_findCore 35 = .ok (.ireturn, 1) := by decide +kernel
set_option maxRecDepth 20000 in
theorem ggX2_findProblem_X2_sumInCore : GoodIn wsX2_findProblem wsX2_sumInCore := goodIn_r _ [5, 6, 7, 8, 9, 10, 11, 4, 12, 13, 14, 15, 16, 17, 18, 19, 20, 21, 22, 23, 24, 25, 26, 27] (by decide +kernel) (by decide +kernel)
set_option maxRecDepth 20000 in
theorem gX2_findProblem_X2_sumInCore : GoodIn wsX2_findProblem (wsV RX2 91 RX2 yX2_sumInCore wsX2_sumInCore) := goodIn_app (goodIn_of _ (by decide +kernel)) ggX2_findProblem_X2_sumInCore
theorem dX2_findProblem_0 : decode cX2_findProblem 0 = .ok (.iconst 0, 1) := by decide +kernel
theorem dX2_findProblem_1 : decode cX2_findProblem 1 = .ok (.istore_n 2, 1) := by decide +kernel
theorem dX2_findProblem_2 : decode cX2_findProblem 2 = .ok (.iconst (-1), 1) := by decide +kernel
theorem dX2_findProblem_3 : decode cX2_findProblem 3 = .ok (.istore_n 3, 1) := by decide +kernel
theorem dX2_findProblem_4 : decode cX2_findProblem 4 = .ok (.iconst 0, 1) := by decide +kernel
theorem dX2_findProblem_5 : decode cX2_findProblem 5 = .ok (.istore 4, 2) := by decide +kernel
theorem dX2_findProblem_7 : decode cX2_findProblem 7 = .ok (.iload 4, 2) := by decide +kernel
theorem dX2_findProblem_9 : decode cX2_findProblem 9 = .ok (.iconst 4, 1) := by decide +kernel
theorem dX2_findProblem_10 : decode cX2_findProblem 10 = .ok (.if_icmp .ge 30, 3) := by decide +kernel
theorem dX2_findProblem_13 : decode cX2_findProblem 13 = .ok (.aload_n 0, 1) := by decide +kernel
theorem dX2_findProblem_14 : decode cX2_findProblem 14 = .ok (.iload_n 1, 1) := by decide +kernel
theorem dX2_findProblem_15 : decode cX2_findProblem 15 = .ok (.iload 4, 2) := by decide +kernel
theorem dX2_findProblem_17 : decode cX2_findProblem 17 = .ok (.invokevirtual 91, 3) := by decide +kernel
theorem dX2_findProblem_20 : decode cX2_findProblem 20 = .ok (.istore 5, 2) := by decide +kernel
theorem dX2_findProblem_22 : decode cX2_findProblem 22 = .ok (.iload 5, 2) := by decide +kernel
theorem dX2_findProblem_24 : decode cX2_findProblem 24 = .ok (.iload_n 3, 1) := by decide +kernel
theorem dX2_findProblem_25 : decode cX2_findProblem 25 = .ok (.if_icmp .le 9, 3) := by decide +kernel
theorem dX2_findProblem_28 : decode cX2_findProblem 28 = .ok (.iload 4, 2) := by decide +kernel
theorem dX2_findProblem_30 : decode cX2_findProblem 30 = .ok (.istore_n 2, 1) := by decide +kernel
theorem dX2_findProblem_31 : decode cX2_findProblem 31 = .ok (.iload 5, 2) := by decide +kernel
theorem dX2_findProblem_33 : decode cX2_findProblem 33 = .ok (.istore_n 3, 1) := by decide +kernel
theorem dX2_findProblem_34 : decode cX2_findProblem 34 = .ok (.iinc 4 1, 3) := by decide +kernel
theorem dX2_findProblem_37 : decode cX2_findProblem 37 = .ok (.goto (-30), 3) := by decide +kernel
theorem dX2_findProblem_40 : decode cX2_findProblem 40 = .ok (.iload_n 2, 1) := by decide +kernel
theorem dX2_findProblem_41 : decode cX2_findProblem 41 = .ok (.ireturn, 1) := by decide +kernel
set_option maxRecDepth 20000 in
theorem ggX2_sumInCore_X4_bit : GoodIn wsX2_sumInCore wsX4_bit := goodIn_r _ [3] (by decide +kernel) (by decide +kernel)
set_option maxRecDepth 20000 in
theorem gX2_sumInCore_X4_bit_n94 : GoodIn wsX2_sumInCore (wsX4_bit) := ggX2_sumInCore_X4_bit
set_option maxRecDepth 20000 in
theorem ggX2_sumInCore_X2_problemAt : GoodIn wsX2_sumInCore wsX2_problemAt := goodIn_r _ [8, 9, 10, 11, 12, 13, 14, 15, 7, 16, 17, 18, 19, 20, 21, 22, 23] (by decide +kernel) (by decide +kernel)
set_option maxRecDepth 20000 in
theorem gX2_sumInCore_X2_problemAt : GoodIn wsX2_sumInCore (wsV RX2 79 RX2 yX2_problemAt wsX2_problemAt) := goodIn_app (goodIn_of _ (by decide +kernel)) ggX2_sumInCore_X2_problemAt
theorem dX2_sumInCore_0 : decode cX2_sumInCore 0 = .ok (.iconst 0, 1) := by decide +kernel
theorem dX2_sumInCore_1 : decode cX2_sumInCore 1 = .ok (.istore_n 3, 1) := by decide +kernel
theorem dX2_sumInCore_2 : decode cX2_sumInCore 2 = .ok (.iconst 0, 1) := by decide +kernel
theorem dX2_sumInCore_3 : decode cX2_sumInCore 3 = .ok (.istore 4, 2) := by decide +kernel
theorem dX2_sumInCore_5 : decode cX2_sumInCore 5 = .ok (.iload 4, 2) := by decide +kernel
theorem dX2_sumInCore_7 : decode cX2_sumInCore 7 = .ok (.bipush 12, 2) := by decide +kernel
theorem dX2_sumInCore_9 : decode cX2_sumInCore 9 = .ok (.if_icmp .ge 26, 3) := by decide +kernel
theorem dX2_sumInCore_12 : decode cX2_sumInCore 12 = .ok (.iload_n 3, 1) := by decide +kernel
theorem dX2_sumInCore_13 : decode cX2_sumInCore 13 = .ok (.iload_n 1, 1) := by decide +kernel
theorem dX2_sumInCore_14 : decode cX2_sumInCore 14 = .ok (.iload 4, 2) := by decide +kernel
theorem dX2_sumInCore_16 : decode cX2_sumInCore 16 = .ok (.invokestatic 94, 3) := by decide +kernel
theorem dX2_sumInCore_19 : decode cX2_sumInCore 19 = .ok (.aload_n 0, 1) := by decide +kernel
theorem dX2_sumInCore_20 : decode cX2_sumInCore 20 = .ok (.iload 4, 2) := by decide +kernel
theorem dX2_sumInCore_22 : decode cX2_sumInCore 22 = .ok (.iload_n 2, 1) := by decide +kernel
theorem dX2_sumInCore_23 : decode cX2_sumInCore 23 = .ok (.invokevirtual 79, 3) := by decide +kernel
theorem dX2_sumInCore_26 : decode cX2_sumInCore 26 = .ok (.imul, 1) := by decide +kernel
theorem dX2_sumInCore_27 : decode cX2_sumInCore 27 = .ok (.iadd, 1) := by decide +kernel
theorem dX2_sumInCore_28 : decode cX2_sumInCore 28 = .ok (.istore_n 3, 1) := by decide +kernel
theorem dX2_sumInCore_29 : decode cX2_sumInCore 29 = .ok (.iinc 4 1, 3) := by decide +kernel
theorem dX2_sumInCore_32 : decode cX2_sumInCore 32 = .ok (.goto (-27), 3) := by decide +kernel
theorem dX2_sumInCore_35 : decode cX2_sumInCore 35 = .ok (.iload_n 3, 1) := by decide +kernel
theorem dX2_sumInCore_36 : decode cX2_sumInCore 36 = .ok (.ireturn, 1) := by decide +kernel
theorem dX3_init_0 : decode cX3_init 0 = .ok (.aload_n 0, 1) := by decide +kernel
theorem dX3_init_1 : decode cX3_init 1 = .ok (.invokespecial 1, 3) := by decide +kernel
theorem dX3_init_4 : decode cX3_init 4 = .ok (.aload_n 0, 1) := by decide +kernel
theorem dX3_init_5 : decode cX3_init 5 = .ok (.bipush 20, 2) := by decide +kernel
theorem dX3_init_7 : decode cX3_init 7 = .ok (.newarray .int, 2) := by decide +kernel
theorem dX3_init_9 : decode cX3_init 9 = .ok (.putfield 9, 3) := by decide +kernel
theorem dX3_init_12 : decode cX3_init 12 = .ok (.aload_n 0, 1) := by decide +kernel
theorem dX3_init_13 : decode cX3_init 13 = .ok (.bipush 20, 2) := by decide +kernel
theorem dX3_init_15 : decode cX3_init 15 = .ok (.newarray .int, 2) := by decide +kernel
theorem dX3_init_17 : decode cX3_init 17 = .ok (.putfield 13, 3) := by decide +kernel
theorem dX3_init_20 : decode cX3_init 20 = .ok (.return_, 1) := by decide +kernel
set_option maxRecDepth 20000 in
theorem ggX4_init_X2_init : GoodIn wsX4_init wsX2_init := goodIn_r _ [22, 23, 2, 3, 24, 25, 26, 51, 52, 53, 54, 55, 56] (by decide +kernel) (by decide +kernel)
set_option maxRecDepth 20000 in
theorem gX4_init_X2_init_n15 : GoodIn wsX4_init (wsX2_init) := ggX4_init_X2_init
set_option maxRecDepth 20000 in
theorem ggX4_init_X1_init : GoodIn wsX4_init wsX1_init := goodIn_r _ [28, 29, 2, 3, 24, 30, 31, 57, 58, 59] (by decide +kernel) (by decide +kernel)
set_option maxRecDepth 20000 in
theorem gX4_init_X1_init_n22 : GoodIn wsX4_init (wsX1_init) := ggX4_init_X1_init
set_option maxRecDepth 20000 in
theorem ggX4_init_X0_init : GoodIn wsX4_init wsX0_init := goodIn_r _ [33, 34, 2, 3, 24, 35, 36, 37, 38, 60, 61, 62, 63, 64] (by decide +kernel) (by decide +kernel)
set_option maxRecDepth 20000 in
theorem gX4_init_X0_init_n29 : GoodIn wsX4_init (wsX0_init) := ggX4_init_X0_init
set_option maxRecDepth 20000 in
theorem ggX4_init_X3_init : GoodIn wsX4_init wsX3_init := goodIn_r _ [40, 41, 2, 3, 24, 42, 43, 65, 66, 67] (by decide +kernel) (by decide +kernel)
set_option maxRecDepth 20000 in
theorem gX4_init_X3_init_n36 : GoodIn wsX4_init (wsX3_init) := ggX4_init_X3_init
theorem dX4_init_0 : decode cX4_init 0 = .ok (.aload_n 0, 1) := by decide +kernel
theorem dX4_init_1 : decode cX4_init 1 = .ok (.invokespecial 1, 3) := by decide +kernel
theorem dX4_init_4 : decode cX4_init 4 = .ok (.aload_n 0, 1) := by decide +kernel
theorem dX4_init_5 : decode cX4_init 5 = .ok (.bipush 6, 2) := by decide +kernel
theorem dX4_init_7 : decode cX4_init 7 = .ok (.anewarray 9, 3) := by decide +kernel
theorem dX4_init_10 : decode cX4_init 10 = .ok (.putfield 11, 3) := by decide +kernel
theorem dX4_init_13 : decode cX4_init 13 = .ok (.aload_n 0, 1) := by decide +kernel
theorem dX4_init_14 : decode cX4_init 14 = .ok (.new 9, 3) := by decide +kernel
theorem dX4_init_17 : decode cX4_init 17 = .ok (.dup, 1) := by decide +kernel
theorem dX4_init_18 : decode cX4_init 18 = .ok (.invokespecial 15, 3) := by decide +kernel
theorem dX4_init_21 : decode cX4_init 21 = .ok (.putfield 16, 3) := by decide +kernel
theorem dX4_init_24 : decode cX4_init 24 = .ok (.aload_n 0, 1) := by decide +kernel
theorem dX4_init_25 : decode cX4_init 25 = .ok (.new 20, 3) := by decide +kernel
theorem dX4_init_28 : decode cX4_init 28 = .ok (.dup, 1) := by decide +kernel
theorem dX4_init_29 : decode cX4_init 29 = .ok (.invokespecial 22, 3) := by decide +kernel
theorem dX4_init_32 : decode cX4_init 32 = .ok (.putfield 23, 3) := by decide +kernel
theorem dX4_init_35 : decode cX4_init 35 = .ok (.aload_n 0, 1) := by decide +kernel
theorem dX4_init_36 : decode cX4_init 36 = .ok (.new 27, 3) := by decide +kernel
theorem dX4_init_39 : decode cX4_init 39 = .ok (.dup, 1) := by decide +kernel
theorem dX4_init_40 : decode cX4_init 40 = .ok (.invokespecial 29, 3) := by decide +kernel
theorem dX4_init_43 : decode cX4_init 43 = .ok (.putfield 30, 3) := by decide +kernel
theorem dX4_init_46 : decode cX4_init 46 = .ok (.aload_n 0, 1) := by decide +kernel
theorem dX4_init_47 : decode cX4_init 47 = .ok (.new 34, 3) := by decide +kernel
theorem dX4_init_50 : decode cX4_init 50 = .ok (.dup, 1) := by decide +kernel
theorem dX4_init_51 : decode cX4_init 51 = .ok (.invokespecial 36, 3) := by decide +kernel
theorem dX4_init_54 : decode cX4_init 54 = .ok (.putfield 37, 3) := by decide +kernel
theorem dX4_init_57 : decode cX4_init 57 = .ok (.iconst 0, 1) := by decide +kernel
theorem dX4_init_58 : decode cX4_init 58 = .ok (.istore_n 1, 1) := by decide +kernel
theorem dX4_init_59 : decode cX4_init 59 = .ok (.iload_n 1, 1) := by decide +kernel
theorem dX4_init_60 : decode cX4_init 60 = .ok (.bipush 6, 2) := by decide +kernel
theorem dX4_init_62 : decode cX4_init 62 = .ok (.if_icmp .ge 22, 3) := by decide +kernel
theorem dX4_init_65 : decode cX4_init 65 = .ok (.aload_n 0, 1) := by decide +kernel
theorem dX4_init_66 : decode cX4_init 66 = .ok (.getfield 11, 3) := by decide +kernel
theorem dX4_init_69 : decode cX4_init 69 = .ok (.iload_n 1, 1) := by decide +kernel
theorem dX4_init_70 : decode cX4_init 70 = .ok (.new 9, 3) := by decide +kernel
theorem dX4_init_73 : decode cX4_init 73 = .ok (.dup, 1) := by decide +kernel
theorem dX4_init_74 : decode cX4_init 74 = .ok (.invokespecial 15, 3) := by decide +kernel
theorem dX4_init_77 : decode cX4_init 77 = .ok (.aastore, 1) := by decide +kernel
theorem dX4_init_78 : decode cX4_init 78 = .ok (.iinc 1 1, 3) := by decide +kernel
theorem dX4_init_81 : decode cX4_init 81 = .ok (.goto (-22), 3) := by decide +kernel
theorem dX4_init_84 : decode cX4_init 84 = .ok (.return_, 1) := by decide +kernel
theorem dX4_addRegion_0 : decode cX4_addRegion 0 = .ok (.aload_n 0, 1) := by decide +kernel
theorem dX4_addRegion_1 : decode cX4_addRegion 1 = .ok (.getfield 41, 3) := by decide +kernel
theorem dX4_addRegion_4 : decode cX4_addRegion 4 = .ok (.bipush 6, 2) := by decide +kernel
theorem dX4_addRegion_6 : decode cX4_addRegion 6 = .ok (.if_icmp .lt 13, 3) := by decide +kernel
theorem dX4_addRegion_9 : decode cX4_addRegion 9 = .ok (.new 45, 3) := by decide +kernel
theorem dX4_addRegion_12 : decode cX4_addRegion 12 = .ok (.dup, 1) := by decide +kernel
theorem dX4_addRegion_13 : decode cX4_addRegion 13 = .ok (.ldc 47, 2) := by decide +kernel
theorem dX4_addRegion_15 : decode cX4_addRegion 15 = .ok (.invokespecial 49, 3) := by decide +kernel
theorem dX4_addRegion_18 : decode cX4_addRegion 18 = .ok (.athrow, 1) := by decide +kernel
theorem dX4_addRegion_19 : decode cX4_addRegion 19 = .ok (.aload_n 0, 1) := by decide +kernel
theorem dX4_addRegion_20 : decode cX4_addRegion 20 = .ok (.dup, 1) := by decide +kernel
theorem dX4_addRegion_21 : decode cX4_addRegion 21 = .ok (.getfield 41, 3) := by decide +kernel
theorem dX4_addRegion_24 : decode cX4_addRegion 24 = .ok (.dup_x1, 1) := by decide +kernel
theorem dX4_addRegion_25 : decode cX4_addRegion 25 = .ok (.iconst 1, 1) := by decide +kernel
theorem dX4_addRegion_26 : decode cX4_addRegion 26 = .ok (.iadd, 1) := by decide +kernel
theorem dX4_addRegion_27 : decode cX4_addRegion 27 = .ok (.putfield 41, 3) := by decide +kernel
theorem dX4_addRegion_30 : decode cX4_addRegion 30 = .ok (.ireturn, 1) := by decide +kernel
set_option maxRecDepth 20000 in
theorem ggX4_weather_X4_checkRegion : GoodIn wsX4_weather wsX4_checkRegion := goodIn_ca (goodIn_r _ [6, 7, 8, 9, 25, 26, 27, 28, 29, 30, 31] (by decide +kernel) (by decide +kernel)) (goodIn_sub (fun _ h => List.mem_cons_of_mem _ (List.mem_append_left _ (List.mem_append_right _ h))) (by decide +kernel))
set_option maxRecDepth 20000 in
theorem gX4_weather_X4_checkRegion : GoodIn wsX4_weather (wsV RX4 52 RX4 yX4_checkRegion wsX4_checkRegion) := goodIn_app (goodIn_of _ (by decide +kernel)) ggX4_weather_X4_checkRegion
set_option maxRecDepth 20000 in
theorem ggX4_weather_X4_checkWeather : GoodIn wsX4_weather wsX4_checkWeather := goodIn_ca (goodIn_r _ [12, 13, 14] (by decide +kernel) (by decide +kernel)) (goodIn_sub (fun _ h => List.mem_cons_of_mem _ (List.mem_append_right _ h)) (by decide +kernel))
set_option maxRecDepth 20000 in
theorem gX4_weather_X4_checkWeather : GoodIn wsX4_weather (va_wsS RX4 56 yX4_checkWeather wsX4_checkWeather) := goodIn_app (goodIn_of _ (by decide +kernel)) ggX4_weather_X4_checkWeather
set_option maxRecDepth 20000 in
theorem ggX4_weather_X2_tellWeather : GoodIn wsX4_weather wsX2_tellWeather := goodIn_r _ [19, 20, 21, 22, 23, 24, 32, 33, 34, 35, 36, 37] (by decide +kernel) (by decide +kernel)
set_option maxRecDepth 20000 in
theorem gX4_weather_X2_tellWeather : GoodIn wsX4_weather (wsV RX4 64 RX2 yX2_tellWeather wsX2_tellWeather) := goodIn_app (goodIn_of _ (by decide +kernel)) ggX4_weather_X2_tellWeather
theorem dX4_weather_0 : decode cX4_weather 0 = .ok (.aload_n 0, 1) := by decide +kernel
theorem dX4_weather_1 : decode cX4_weather 1 = .ok (.iload_n 1, 1) := by decide +kernel
theorem dX4_weather_2 : decode cX4_weather 2 = .ok (.invokevirtual 52, 3) := by decide +kernel
theorem dX4_weather_5 : decode cX4_weather 5 = .ok (.iload_n 2, 1) := by decide +kernel
theorem dX4_weather_6 : decode cX4_weather 6 = .ok (.iload_n 3, 1) := by decide +kernel
theorem dX4_weather_7 : decode cX4_weather 7 = .ok (.iload 4, 2) := by decide +kernel
theorem dX4_weather_9 : decode cX4_weather 9 = .ok (.iload 5, 2) := by decide +kernel
theorem dX4_weather_11 : decode cX4_weather 11 = .ok (.invokestatic 56, 3) := by decide +kernel
theorem dX4_weather_14 : decode cX4_weather 14 = .ok (.aload_n 0, 1) := by decide +kernel
theorem dX4_weather_15 : decode cX4_weather 15 = .ok (.getfield 11, 3) := by decide +kernel
theorem dX4_weather_18 : decode cX4_weather 18 = .ok (.iload_n 1, 1) := by decide +kernel
theorem dX4_weather_19 : decode cX4_weather 19 = .ok (.aaload, 1) := by decide +kernel
theorem dX4_weather_20 : decode cX4_weather 20 = .ok (.astore 6, 2) := by decide +kernel
theorem dX4_weather_22 : decode cX4_weather 22 = .ok (.aload 6, 2) := by decide +kernel
theorem dX4_weather_24 : decode cX4_weather 24 = .ok (.getfield 60, 3) := by decide +kernel
theorem dX4_weather_27 : decode cX4_weather 27 = .ok (.ifCond .ne 7, 3) := by decide +kernel
theorem dX4_weather_30 : decode cX4_weather 30 = .ok (.iconst 1, 1) := by decide +kernel
theorem dX4_weather_31 : decode cX4_weather 31 = .ok (.goto 4, 3) := by decide +kernel
theorem dX4_weather_34 : decode cX4_weather 34 = .ok (.iconst 0, 1) := by decide +kernel
theorem dX4_weather_35 : decode cX4_weather 35 = .ok (.istore 7, 2) := by decide +kernel
theorem dX4_weather_37 : decode cX4_weather 37 = .ok (.aload 6, 2) := by decide +kernel
theorem dX4_weather_39 : decode cX4_weather 39 = .ok (.iload_n 2, 1) := by decide +kernel
theorem dX4_weather_40 : decode cX4_weather 40 = .ok (.iload_n 3, 1) := by decide +kernel
theorem dX4_weather_41 : decode cX4_weather 41 = .ok (.iload 4, 2) := by decide +kernel
theorem dX4_weather_43 : decode cX4_weather 43 = .ok (.iload 5, 2) := by decide +kernel
theorem dX4_weather_45 : decode cX4_weather 45 = .ok (.invokevirtual 64, 3) := by decide +kernel
theorem dX4_weather_48 : decode cX4_weather 48 = .ok (.iload 7, 2) := by decide +kernel
theorem dX4_weather_50 : decode cX4_weather 50 = .ok (.ireturn, 1) := by decide +kernel
set_option maxRecDepth 20000 in
theorem ggX4_end_X2_passDay : GoodIn wsX4_end wsX2_passDay := goodIn_r _ [10, 11, 12, 13, 14, 15, 9, 16, 17, 18, 19, 20, 21, 22, 23, 24, 25, 26, 27, 28, 29, 30, 31, 32, 33, 34, 35, 36, 37, 38, 39, 40, 41, 42, 43, 44, 45, 46, 47, 48, 49, 50, 51, 52, 53, 54, 71, 72, 73, 74, 75, 76] (by decide +kernel) (by decide +kernel)
set_option maxRecDepth 20000 in
theorem gX4_end_X2_passDay : GoodIn wsX4_end (wsV RX4 72 RX2 yX2_passDay wsX2_passDay) := goodIn_app (goodIn_of _ (by decide +kernel)) ggX4_end_X2_passDay
set_option maxRecDepth 20000 in
theorem ggX4_end_X2_forgetWeather : GoodIn wsX4_end wsX2_forgetWeather := goodIn_r _ [58, 59, 60, 61, 62, 9, 63, 12, 41, 42, 11, 71, 72, 73, 74, 75, 76] (by decide +kernel) (by decide +kernel)
set_option maxRecDepth 20000 in
theorem gX4_end_X2_forgetWeather : GoodIn wsX4_end (wsV RX4 75 RX2 yX2_forgetWeather wsX2_forgetWeather) := goodIn_app (goodIn_of _ (by decide +kernel)) ggX4_end_X2_forgetWeather
theorem dX4_end_0 : decode cX4_end 0 = .ok (.aload_n 0, 1) := by decide +kernel
theorem dX4_end_1 : decode cX4_end 1 = .ok (.getfield 67, 3) := by decide +kernel
theorem dX4_end_4 : decode cX4_end 4 = .ok (.bipush 60, 2) := by decide +kernel
theorem dX4_end_6 : decode cX4_end 6 = .ok (.if_icmp .lt 13, 3) := by decide +kernel
theorem dX4_end_9 : decode cX4_end 9 = .ok (.new 45, 3) := by decide +kernel
theorem dX4_end_12 : decode cX4_end 12 = .ok (.dup, 1) := by decide +kernel
theorem dX4_end_13 : decode cX4_end 13 = .ok (.ldc 70, 2) := by decide +kernel
theorem dX4_end_15 : decode cX4_end 15 = .ok (.invokespecial 49, 3) := by decide +kernel
theorem dX4_end_18 : decode cX4_end 18 = .ok (.athrow, 1) := by decide +kernel
theorem dX4_end_19 : decode cX4_end 19 = .ok (.iconst 0, 1) := by decide +kernel
theorem dX4_end_20 : decode cX4_end 20 = .ok (.istore_n 1, 1) := by decide +kernel
theorem dX4_end_21 : decode cX4_end 21 = .ok (.iload_n 1, 1) := by decide +kernel
theorem dX4_end_22 : decode cX4_end 22 = .ok (.aload_n 0, 1) := by decide +kernel
theorem dX4_end_23 : decode cX4_end 23 = .ok (.getfield 41, 3) := by decide +kernel
theorem dX4_end_26 : decode cX4_end 26 = .ok (.if_icmp .ge 27, 3) := by decide +kernel
theorem dX4_end_29 : decode cX4_end 29 = .ok (.aload_n 0, 1) := by decide +kernel
theorem dX4_end_30 : decode cX4_end 30 = .ok (.getfield 11, 3) := by decide +kernel
theorem dX4_end_33 : decode cX4_end 33 = .ok (.iload_n 1, 1) := by decide +kernel
theorem dX4_end_34 : decode cX4_end 34 = .ok (.aaload, 1) := by decide +kernel
theorem dX4_end_35 : decode cX4_end 35 = .ok (.invokevirtual 72, 3) := by decide +kernel
theorem dX4_end_38 : decode cX4_end 38 = .ok (.aload_n 0, 1) := by decide +kernel
theorem dX4_end_39 : decode cX4_end 39 = .ok (.getfield 11, 3) := by decide +kernel
theorem dX4_end_42 : decode cX4_end 42 = .ok (.iload_n 1, 1) := by decide +kernel
theorem dX4_end_43 : decode cX4_end 43 = .ok (.aaload, 1) := by decide +kernel
theorem dX4_end_44 : decode cX4_end 44 = .ok (.invokevirtual 75, 3) := by decide +kernel
theorem dX4_end_47 : decode cX4_end 47 = .ok (.iinc 1 1, 3) := by decide +kernel
theorem dX4_end_50 : decode cX4_end 50 = .ok (.goto (-29), 3) := by decide +kernel
theorem dX4_end_53 : decode cX4_end 53 = .ok (.aload_n 0, 1) := by decide +kernel
theorem dX4_end_54 : decode cX4_end 54 = .ok (.dup, 1) := by decide +kernel
theorem dX4_end_55 : decode cX4_end 55 = .ok (.getfield 67, 3) := by decide +kernel
theorem dX4_end_58 : decode cX4_end 58 = .ok (.iconst 1, 1) := by decide +kernel
theorem dX4_end_59 : decode cX4_end 59 = .ok (.iadd, 1) := by decide +kernel
theorem dX4_end_60 : decode cX4_end 60 = .ok (.dup_x1, 1) := by decide +kernel
theorem dX4_end_61 : decode cX4_end 61 = .ok (.putfield 67, 3) := by decide +kernel
theorem dX4_end_64 : decode cX4_end 64 = .ok (.ireturn, 1) := by decide +kernel
theorem dX4_day_0 : decode cX4_day 0 = .ok (.aload_n 0, 1) := by decide +kernel
theorem dX4_day_1 : decode cX4_day 1 = .ok (.getfield 67, 3) := by decide +kernel
theorem dX4_day_4 : decode cX4_day 4 = .ok (.ireturn, 1) := by decide +kernel
set_option maxRecDepth 20000 in
theorem ggX4_sector_X4_checkRegion : GoodIn wsX4_sector wsX4_checkRegion := goodIn_ca (goodIn_r _ [6, 7, 8, 9, 22, 23, 24, 25, 26, 27, 28] (by decide +kernel) (by decide +kernel)) (goodIn_sub (fun _ h => List.mem_cons_of_mem _ (List.mem_append_right _ h)) (by decide +kernel))
set_option maxRecDepth 20000 in
theorem gX4_sector_X4_checkRegion : GoodIn wsX4_sector (wsV RX4 52 RX4 yX4_checkRegion wsX4_checkRegion) := goodIn_app (goodIn_of _ (by decide +kernel)) ggX4_sector_X4_checkRegion
set_option maxRecDepth 20000 in
theorem ggX4_sector_X4_checkSector : GoodIn wsX4_sector wsX4_checkSector := goodIn_ca (goodIn_r _ [12, 7, 8] (by decide +kernel) (by decide +kernel)) (goodIn_sub (fun _ h => List.mem_cons_of_mem _ (List.mem_append_right _ h)) (by decide +kernel))
set_option maxRecDepth 20000 in
theorem gX4_sector_X4_checkSector : GoodIn wsX4_sector (va_wsS RX4 78 yX4_checkSector wsX4_checkSector) := goodIn_app (goodIn_of _ (by decide +kernel)) ggX4_sector_X4_checkSector
set_option maxRecDepth 20000 in
theorem ggX4_sector_X4_checkNumber : GoodIn wsX4_sector wsX4_checkNumber := goodIn_ca (goodIn_r _ [15, 7, 8] (by decide +kernel) (by decide +kernel)) (goodIn_sub (fun _ h => List.mem_cons_of_mem _ (List.mem_append_right _ h)) (by decide +kernel))
set_option maxRecDepth 20000 in
theorem gX4_sector_X4_checkNumber : GoodIn wsX4_sector (va_wsS RX4 81 yX4_checkNumber wsX4_checkNumber) := goodIn_app (goodIn_of _ (by decide +kernel)) ggX4_sector_X4_checkNumber
set_option maxRecDepth 20000 in
theorem ggX4_sector_X2_numberAt : GoodIn wsX4_sector wsX2_numberAt := goodIn_r _ [20, 21, 29, 30, 31, 32, 33, 34] (by decide +kernel) (by decide +kernel)
set_option maxRecDepth 20000 in
theorem gX4_sector_X2_numberAt : GoodIn wsX4_sector (wsV RX4 84 RX2 yX2_numberAt wsX2_numberAt) := goodIn_app (goodIn_of _ (by decide +kernel)) ggX4_sector_X2_numberAt
theorem dX4_sector_0 : decode cX4_sector 0 = .ok (.aload_n 0, 1) := by decide +kernel
theorem dX4_sector_1 : decode cX4_sector 1 = .ok (.iload_n 1, 1) := by decide +kernel
theorem dX4_sector_2 : decode cX4_sector 2 = .ok (.invokevirtual 52, 3) := by decide +kernel
theorem dX4_sector_5 : decode cX4_sector 5 = .ok (.iload_n 2, 1) := by decide +kernel
theorem dX4_sector_6 : decode cX4_sector 6 = .ok (.invokestatic 78, 3) := by decide +kernel
theorem dX4_sector_9 : decode cX4_sector 9 = .ok (.iload_n 3, 1) := by decide +kernel
theorem dX4_sector_10 : decode cX4_sector 10 = .ok (.invokestatic 81, 3) := by decide +kernel
theorem dX4_sector_13 : decode cX4_sector 13 = .ok (.aload_n 0, 1) := by decide +kernel
theorem dX4_sector_14 : decode cX4_sector 14 = .ok (.getfield 11, 3) := by decide +kernel
theorem dX4_sector_17 : decode cX4_sector 17 = .ok (.iload_n 1, 1) := by decide +kernel
theorem dX4_sector_18 : decode cX4_sector 18 = .ok (.aaload, 1) := by decide +kernel
theorem dX4_sector_19 : decode cX4_sector 19 = .ok (.iload_n 2, 1) := by decide +kernel
theorem dX4_sector_20 : decode cX4_sector 20 = .ok (.iload_n 3, 1) := by decide +kernel
theorem dX4_sector_21 : decode cX4_sector 21 = .ok (.invokevirtual 84, 3) := by decide +kernel
theorem dX4_sector_24 : decode cX4_sector 24 = .ok (.ireturn, 1) := by decide +kernel
set_option maxRecDepth 20000 in
theorem ggX4_problem_X4_checkRegion : GoodIn wsX4_problem wsX4_checkRegion := goodIn_ca (goodIn_r _ [8, 1, 2, 9, 27, 28, 29, 30, 31, 32, 33] (by decide +kernel) (by decide +kernel)) (goodIn_sub (fun _ h => List.mem_cons_of_mem _ (List.mem_append_right _ h)) (by decide +kernel))
set_option maxRecDepth 20000 in
theorem gX4_problem_X4_checkRegion : GoodIn wsX4_problem (wsV RX4 52 RX4 yX4_checkRegion wsX4_checkRegion) := goodIn_app (goodIn_of _ (by decide +kernel)) ggX4_problem_X4_checkRegion
set_option maxRecDepth 20000 in
theorem ggX4_problem_X4_checkSector : GoodIn wsX4_problem wsX4_checkSector := goodIn_ca (goodIn_r _ [12, 1, 2] (by decide +kernel) (by decide +kernel)) (goodIn_sub (fun _ h => List.mem_cons_of_mem _ (List.mem_append_right _ h)) (by decide +kernel))
set_option maxRecDepth 20000 in
theorem gX4_problem_X4_checkSector : GoodIn wsX4_problem (va_wsS RX4 78 yX4_checkSector wsX4_checkSector) := goodIn_app (goodIn_of _ (by decide +kernel)) ggX4_problem_X4_checkSector
set_option maxRecDepth 20000 in
theorem ggX4_problem_X2_problemAt : GoodIn wsX4_problem wsX2_problemAt := goodIn_r _ [17, 18, 19, 20, 21, 22, 23, 24, 16, 25, 26, 34, 35, 36, 37, 38, 39] (by decide +kernel) (by decide +kernel)
set_option maxRecDepth 20000 in
theorem gX4_problem_X2_problemAt : GoodIn wsX4_problem (wsV RX4 106 RX2 yX2_problemAt wsX2_problemAt) := goodIn_app (goodIn_of _ (by decide +kernel)) ggX4_problem_X2_problemAt
theorem dX4_problem_0 : decode cX4_problem 0 = .ok (.aload_n 0, 1) := by decide +kernel
theorem dX4_problem_1 : decode cX4_problem 1 = .ok (.iload_n 1, 1) := by decide +kernel
theorem dX4_problem_2 : decode cX4_problem 2 = .ok (.invokevirtual 52, 3) := by decide +kernel
theorem dX4_problem_5 : decode cX4_problem 5 = .ok (.iload_n 2, 1) := by decide +kernel
theorem dX4_problem_6 : decode cX4_problem 6 = .ok (.invokestatic 78, 3) := by decide +kernel
theorem dX4_problem_9 : decode cX4_problem 9 = .ok (.iload_n 3, 1) := by decide +kernel
theorem dX4_problem_10 : decode cX4_problem 10 = .ok (.ifCond .lt 8, 3) := by decide +kernel
theorem dX4_problem_13 : decode cX4_problem 13 = .ok (.iload_n 3, 1) := by decide +kernel
theorem dX4_problem_14 : decode cX4_problem 14 = .ok (.iconst 4, 1) := by decide +kernel
theorem dX4_problem_15 : decode cX4_problem 15 = .ok (.if_icmp .lt 13, 3) := by decide +kernel
theorem dX4_problem_18 : decode cX4_problem 18 = .ok (.new 101, 3) := by decide +kernel
theorem dX4_problem_21 : decode cX4_problem 21 = .ok (.dup, 1) := by decide +kernel
theorem dX4_problem_22 : decode cX4_problem 22 = .ok (.ldc 103, 2) := by decide +kernel
theorem dX4_problem_24 : decode cX4_problem 24 = .ok (.invokespecial 105, 3) := by decide +kernel
theorem dX4_problem_27 : decode cX4_problem 27 = .ok (.athrow, 1) := by decide +kernel
theorem dX4_problem_28 : decode cX4_problem 28 = .ok (.aload_n 0, 1) := by decide +kernel
theorem dX4_problem_29 : decode cX4_problem 29 = .ok (.getfield 11, 3) := by decide +kernel
theorem dX4_problem_32 : decode cX4_problem 32 = .ok (.iload_n 1, 1) := by decide +kernel
theorem dX4_problem_33 : decode cX4_problem 33 = .ok (.aaload, 1) := by decide +kernel
theorem dX4_problem_34 : decode cX4_problem 34 = .ok (.iload_n 2, 1) := by decide +kernel
theorem dX4_problem_35 : decode cX4_problem 35 = .ok (.iload_n 3, 1) := by decide +kernel
theorem dX4_problem_36 : decode cX4_problem 36 = .ok (.invokevirtual 106, 3) := by decide +kernel
theorem dX4_problem_39 : decode cX4_problem 39 = .ok (.ireturn, 1) := by decide +kernel
set_option maxRecDepth 20000 in
theorem ggX4_danger_X4_checkRegion : GoodIn wsX4_danger wsX4_checkRegion := goodIn_ca (goodIn_r _ [6, 7, 8, 9, 37, 38, 39, 40, 41, 42, 43] (by decide +kernel) (by decide +kernel)) (goodIn_sub (fun _ h => List.mem_cons_of_mem _ (List.mem_append_right _ h)) (by decide +kernel))
set_option maxRecDepth 20000 in
theorem gX4_danger_X4_checkRegion : GoodIn wsX4_danger (wsV RX4 52 RX4 yX4_checkRegion wsX4_checkRegion) := goodIn_app (goodIn_of _ (by decide +kernel)) ggX4_danger_X4_checkRegion
set_option maxRecDepth 20000 in
theorem ggX4_danger_X4_checkSector : GoodIn wsX4_danger wsX4_checkSector := goodIn_ca (goodIn_r _ [12, 7, 8] (by decide +kernel) (by decide +kernel)) (goodIn_sub (fun _ h => List.mem_cons_of_mem _ (List.mem_append_right _ h)) (by decide +kernel))
set_option maxRecDepth 20000 in
theorem gX4_danger_X4_checkSector : GoodIn wsX4_danger (va_wsS RX4 78 yX4_checkSector wsX4_checkSector) := goodIn_app (goodIn_of _ (by decide +kernel)) ggX4_danger_X4_checkSector
set_option maxRecDepth 20000 in
theorem ggX4_danger_X2_dangerAt : GoodIn wsX4_danger wsX2_dangerAt := goodIn_r _ [17, 18, 19, 20, 21, 22, 23, 24, 25, 26, 27, 16, 28, 29, 30, 31, 32, 33, 44, 45, 46, 47, 48, 49] (by decide +kernel) (by decide +kernel)
set_option maxRecDepth 20000 in
theorem gX4_danger_X2_dangerAt : GoodIn wsX4_danger (wsV RX4 109 RX2 yX2_dangerAt wsX2_dangerAt) := goodIn_app (goodIn_of _ (by decide +kernel)) ggX4_danger_X2_dangerAt
set_option maxRecDepth 20000 in
theorem ggX4_danger_X2_levelOfDanger : GoodIn wsX4_danger wsX2_levelOfDanger := goodIn_r _ [36] (by decide +kernel) (by decide +kernel)
set_option maxRecDepth 20000 in
theorem gX4_danger_X2_levelOfDanger : GoodIn wsX4_danger (va_wsS RX4 112 yX2_levelOfDanger wsX2_levelOfDanger) := goodIn_app (goodIn_of _ (by decide +kernel)) ggX4_danger_X2_levelOfDanger
theorem dX4_danger_0 : decode cX4_danger 0 = .ok (.aload_n 0, 1) := by decide +kernel
theorem dX4_danger_1 : decode cX4_danger 1 = .ok (.iload_n 1, 1) := by decide +kernel
theorem dX4_danger_2 : decode cX4_danger 2 = .ok (.invokevirtual 52, 3) := by decide +kernel
theorem dX4_danger_5 : decode cX4_danger 5 = .ok (.iload_n 2, 1) := by decide +kernel
theorem dX4_danger_6 : decode cX4_danger 6 = .ok (.invokestatic 78, 3) := by decide +kernel
theorem dX4_danger_9 : decode cX4_danger 9 = .ok (.aload_n 0, 1) := by decide +kernel
theorem dX4_danger_10 : decode cX4_danger 10 = .ok (.getfield 11, 3) := by decide +kernel
theorem dX4_danger_13 : decode cX4_danger 13 = .ok (.iload_n 1, 1) := by decide +kernel
theorem dX4_danger_14 : decode cX4_danger 14 = .ok (.aaload, 1) := by decide +kernel
theorem dX4_danger_15 : decode cX4_danger 15 = .ok (.iload_n 2, 1) := by decide +kernel
theorem dX4_danger_16 : decode cX4_danger 16 = .ok (.invokevirtual 109, 3) := by decide +kernel
theorem dX4_danger_19 : decode cX4_danger 19 = .ok (.istore 4, 2) := by decide +kernel
theorem dX4_danger_21 : decode cX4_danger 21 = .ok (.iload_n 3, 1) := by decide +kernel
theorem dX4_danger_22 : decode cX4_danger 22 = .ok (.ifCond .eq 11, 3) := by decide +kernel
theorem dX4_danger_25 : decode cX4_danger 25 = .ok (.iload 4, 2) := by decide +kernel
theorem dX4_danger_27 : decode cX4_danger 27 = .ok (.invokestatic 112, 3) := by decide +kernel
theorem dX4_danger_30 : decode cX4_danger 30 = .ok (.goto 5, 3) := by decide +kernel
theorem dX4_danger_33 : decode cX4_danger 33 = .ok (.iload 4, 2) := by decide +kernel
theorem dX4_danger_35 : decode cX4_danger 35 = .ok (.ireturn, 1) := by decide +kernel
set_option maxRecDepth 20000 in
theorem ggX4_level_X4_checkRegion : GoodIn wsX4_level wsX4_checkRegion := goodIn_ca (goodIn_r _ [6, 7, 8, 9, 38, 39, 40, 41, 42, 43, 44] (by decide +kernel) (by decide +kernel)) (goodIn_sub (fun _ h => List.mem_cons_of_mem _ (List.mem_append_right _ h)) (by decide +kernel))
set_option maxRecDepth 20000 in
theorem gX4_level_X4_checkRegion : GoodIn wsX4_level (wsV RX4 52 RX4 yX4_checkRegion wsX4_checkRegion) := goodIn_app (goodIn_of _ (by decide +kernel)) ggX4_level_X4_checkRegion
set_option maxRecDepth 20000 in
theorem ggX4_level_X2_findLevel : GoodIn wsX4_level wsX2_findLevel := goodIn_r _ [14, 15, 16, 17, 18, 19, 20, 21, 22, 23, 24, 13, 25, 26, 27, 28, 29, 30, 31, 32, 33, 34, 35, 36, 37, 45, 46, 47, 48, 49, 50] (by decide +kernel) (by decide +kernel)
set_option maxRecDepth 20000 in
theorem gX4_level_X2_findLevel : GoodIn wsX4_level (wsV RX4 115 RX2 yX2_findLevel wsX2_findLevel) := goodIn_app (goodIn_of _ (by decide +kernel)) ggX4_level_X2_findLevel
theorem dX4_level_0 : decode cX4_level 0 = .ok (.aload_n 0, 1) := by decide +kernel
theorem dX4_level_1 : decode cX4_level 1 = .ok (.iload_n 1, 1) := by decide +kernel
theorem dX4_level_2 : decode cX4_level 2 = .ok (.invokevirtual 52, 3) := by decide +kernel
theorem dX4_level_5 : decode cX4_level 5 = .ok (.aload_n 0, 1) := by decide +kernel
theorem dX4_level_6 : decode cX4_level 6 = .ok (.getfield 11, 3) := by decide +kernel
theorem dX4_level_9 : decode cX4_level 9 = .ok (.iload_n 1, 1) := by decide +kernel
theorem dX4_level_10 : decode cX4_level 10 = .ok (.aaload, 1) := by decide +kernel
theorem dX4_level_11 : decode cX4_level 11 = .ok (.invokevirtual 115, 3) := by decide +kernel
theorem dX4_level_14 : decode cX4_level 14 = .ok (.ireturn, 1) := by decide +kernel
set_option maxRecDepth 20000 in
theorem ggX4_core_X4_checkRegion : GoodIn wsX4_core wsX4_checkRegion := goodIn_ca (goodIn_r _ [6, 7, 8, 9, 42, 43, 44, 45, 46, 47, 48] (by decide +kernel) (by decide +kernel)) (goodIn_sub (fun _ h => List.mem_cons_of_mem _ (List.mem_append_right _ h)) (by decide +kernel))
set_option maxRecDepth 20000 in
theorem gX4_core_X4_checkRegion : GoodIn wsX4_core (wsV RX4 52 RX4 yX4_checkRegion wsX4_checkRegion) := goodIn_app (goodIn_of _ (by decide +kernel)) ggX4_core_X4_checkRegion
set_option maxRecDepth 20000 in
theorem ggX4_core_X2_findLevel : GoodIn wsX4_core wsX2_findLevel := goodIn_r _ [14, 15, 16, 17, 18, 19, 20, 21, 22, 23, 24, 13, 25, 26, 27, 28, 29, 30, 31, 32, 33, 34, 35, 36, 37, 49, 50, 51, 52, 53, 54] (by decide +kernel) (by decide +kernel)
set_option maxRecDepth 20000 in
theorem gX4_core_X2_findLevel : GoodIn wsX4_core (wsV RX4 115 RX2 yX2_findLevel wsX2_findLevel) := goodIn_app (goodIn_of _ (by decide +kernel)) ggX4_core_X2_findLevel
set_option maxRecDepth 20000 in
theorem ggX4_core_X2_findCore : GoodIn wsX4_core wsX2_findCore := goodIn_r _ [41, 22, 23, 24, 13, 25, 15, 16, 17, 18, 19, 20, 21, 26, 27, 28, 29, 30, 31, 32, 33, 34, 35, 36, 37, 49, 50, 51, 52, 53, 54] (by decide +kernel) (by decide +kernel)
set_option maxRecDepth 20000 in
theorem gX4_core_X2_findCore : GoodIn wsX4_core (wsV RX4 119 RX2 yX2_findCore wsX2_findCore) := goodIn_app (goodIn_of _ (by decide +kernel)) ggX4_core_X2_findCore
theorem dX4_core_0 : decode cX4_core 0 = .ok (.aload_n 0, 1) := by decide +kernel
theorem dX4_core_1 : decode cX4_core 1 = .ok (.iload_n 1, 1) := by decide +kernel
theorem dX4_core_2 : decode cX4_core 2 = .ok (.invokevirtual 52, 3) := by decide +kernel
theorem dX4_core_5 : decode cX4_core 5 = .ok (.aload_n 0, 1) := by decide +kernel
theorem dX4_core_6 : decode cX4_core 6 = .ok (.getfield 11, 3) := by decide +kernel
theorem dX4_core_9 : decode cX4_core 9 = .ok (.iload_n 1, 1) := by decide +kernel
theorem dX4_core_10 : decode cX4_core 10 = .ok (.aaload, 1) := by decide +kernel
theorem dX4_core_11 : decode cX4_core 11 = .ok (.aload_n 0, 1) := by decide +kernel
theorem dX4_core_12 : decode cX4_core 12 = .ok (.getfield 11, 3) := by decide +kernel
theorem dX4_core_15 : decode cX4_core 15 = .ok (.iload_n 1, 1) := by decide +kernel
theorem dX4_core_16 : decode cX4_core 16 = .ok (.aaload, 1) := by decide +kernel
theorem dX4_core_17 : decode cX4_core 17 = .ok (.invokevirtual 115, 3) := by decide +kernel
theorem dX4_core_20 : decode cX4_core 20 = .ok (.invokevirtual 119, 3) := by decide +kernel
theorem dX4_core_23 : decode cX4_core 23 = .ok (.ireturn, 1) := by decide +kernel
set_option maxRecDepth 20000 in
theorem ggX4_mainProblem_X4_checkRegion : GoodIn wsX4_mainProblem wsX4_checkRegion := goodIn_ca (goodIn_r _ [6, 7, 8, 9, 52, 53, 54, 55, 56, 57, 58] (by decide +kernel) (by decide +kernel)) (goodIn_sub (fun _ h => List.mem_cons_of_mem _ (List.mem_append_right _ h)) (by decide +kernel))
set_option maxRecDepth 20000 in
theorem gX4_mainProblem_X4_checkRegion : GoodIn wsX4_mainProblem (wsV RX4 52 RX4 yX4_checkRegion wsX4_checkRegion) := goodIn_app (goodIn_of _ (by decide +kernel)) ggX4_mainProblem_X4_checkRegion
set_option maxRecDepth 20000 in
theorem ggX4_mainProblem_X2_findLevel : GoodIn wsX4_mainProblem wsX2_findLevel := goodIn_r _ [14, 15, 16, 17, 18, 19, 20, 21, 22, 23, 24, 13, 25, 26, 27, 28, 29, 30, 31, 32, 33, 34, 35, 36, 37, 59, 60, 61, 62, 63, 64] (by decide +kernel) (by decide +kernel)
set_option maxRecDepth 20000 in
theorem gX4_mainProblem_X2_findLevel : GoodIn wsX4_mainProblem (wsV RX4 115 RX2 yX2_findLevel wsX2_findLevel) := goodIn_app (goodIn_of _ (by decide +kernel)) ggX4_mainProblem_X2_findLevel
set_option maxRecDepth 20000 in
theorem ggX4_mainProblem_X2_findCore : GoodIn wsX4_mainProblem wsX2_findCore := goodIn_r _ [41, 22, 23, 24, 13, 25, 15, 16, 17, 18, 19, 20, 21, 26, 27, 28, 29, 30, 31, 32, 33, 34, 35, 36, 37, 59, 60, 61, 62, 63, 64] (by decide +kernel) (by decide +kernel)
set_option maxRecDepth 20000 in
theorem gX4_mainProblem_X2_findCore : GoodIn wsX4_mainProblem (wsV RX4 119 RX2 yX2_findCore wsX2_findCore) := goodIn_app (goodIn_of _ (by decide +kernel)) ggX4_mainProblem_X2_findCore
set_option maxRecDepth 20000 in
theorem ggX4_mainProblem_X2_findProblem : GoodIn wsX4_mainProblem wsX2_findProblem := goodIn_r _ [45, 46, 47, 48, 13, 49, 50, 5, 51, 26, 27, 28, 29, 15, 16, 17, 18, 30, 31, 32, 33, 34, 59, 60, 61, 62, 63, 64] (by decide +kernel) (by decide +kernel)
set_option maxRecDepth 20000 in
theorem gX4_mainProblem_X2_findProblem : GoodIn wsX4_mainProblem (wsV RX4 122 RX2 yX2_findProblem wsX2_findProblem) := goodIn_app (goodIn_of _ (by decide +kernel)) ggX4_mainProblem_X2_findProblem
theorem dX4_mainProblem_0 : decode cX4_mainProblem 0 = .ok (.aload_n 0, 1) := by decide +kernel
theorem dX4_mainProblem_1 : decode cX4_mainProblem 1 = .ok (.iload_n 1, 1) := by decide +kernel
theorem dX4_mainProblem_2 : decode cX4_mainProblem 2 = .ok (.invokevirtual 52, 3) := by decide +kernel
theorem dX4_mainProblem_5 : decode cX4_mainProblem 5 = .ok (.aload_n 0, 1) := by decide +kernel
theorem dX4_mainProblem_6 : decode cX4_mainProblem 6 = .ok (.getfield 11, 3) := by decide +kernel
theorem dX4_mainProblem_9 : decode cX4_mainProblem 9 = .ok (.iload_n 1, 1) := by decide +kernel
theorem dX4_mainProblem_10 : decode cX4_mainProblem 10 = .ok (.aaload, 1) := by decide +kernel
theorem dX4_mainProblem_11 : decode cX4_mainProblem 11 = .ok (.astore_n 2, 1) := by decide +kernel
theorem dX4_mainProblem_12 : decode cX4_mainProblem 12 = .ok (.aload_n 2, 1) := by decide +kernel
theorem dX4_mainProblem_13 : decode cX4_mainProblem 13 = .ok (.aload_n 2, 1) := by decide +kernel
theorem dX4_mainProblem_14 : decode cX4_mainProblem 14 = .ok (.aload_n 2, 1) := by decide +kernel
theorem dX4_mainProblem_15 : decode cX4_mainProblem 15 = .ok (.invokevirtual 115, 3) := by decide +kernel
theorem dX4_mainProblem_18 : decode cX4_mainProblem 18 = .ok (.invokevirtual 119, 3) := by decide +kernel
theorem dX4_mainProblem_21 : decode cX4_mainProblem 21 = .ok (.invokevirtual 122, 3) := by decide +kernel
theorem dX4_mainProblem_24 : decode cX4_mainProblem 24 = .ok (.ireturn, 1) := by decide +kernel
set_option maxRecDepth 20000 in
theorem ggX4_publish_X1_hasDay : GoodIn wsX4_publish wsX1_hasDay := goodIn_r _ [15, 16, 17, 18, 14, 19, 20, 81, 82, 83] (by decide +kernel) (by decide +kernel)
set_option maxRecDepth 20000 in
theorem gX4_publish_X1_hasDay : GoodIn wsX4_publish (wsV RX4 129 RX1 yX1_hasDay wsX1_hasDay) := goodIn_app (goodIn_of _ (by decide +kernel)) ggX4_publish_X1_hasDay
set_option maxRecDepth 20000 in
theorem ggX4_publish_X2_findLevel : GoodIn wsX4_publish wsX2_findLevel := goodIn_r _ [25, 26, 27, 9, 28, 29, 8, 10, 30, 31, 32, 24, 33, 34, 35, 36, 37, 38, 39, 40, 41, 42, 43, 44, 45, 84, 85, 86, 87, 88, 89] (by decide +kernel) (by decide +kernel)
set_option maxRecDepth 20000 in
theorem gX4_publish_X2_findLevel : GoodIn wsX4_publish (wsV RX4 115 RX2 yX2_findLevel wsX2_findLevel) := goodIn_app (goodIn_of _ (by decide +kernel)) ggX4_publish_X2_findLevel
set_option maxRecDepth 20000 in
theorem ggX4_publish_X2_findCore : GoodIn wsX4_publish wsX2_findCore := goodIn_r _ [49, 30, 31, 32, 24, 33, 26, 27, 9, 28, 29, 8, 10, 34, 35, 36, 37, 38, 39, 40, 41, 42, 43, 44, 45, 84, 85, 86, 87, 88, 89] (by decide +kernel) (by decide +kernel)
set_option maxRecDepth 20000 in
theorem gX4_publish_X2_findCore : GoodIn wsX4_publish (wsV RX4 119 RX2 yX2_findCore wsX2_findCore) := goodIn_app (goodIn_of _ (by decide +kernel)) ggX4_publish_X2_findCore
set_option maxRecDepth 20000 in
theorem ggX4_publish_X2_findProblem : GoodIn wsX4_publish wsX2_findProblem := goodIn_r _ [53, 54, 55, 56, 24, 57, 58, 59, 60, 34, 35, 36, 37, 26, 27, 9, 28, 38, 39, 40, 41, 42, 84, 85, 86, 87, 88, 89] (by decide +kernel) (by decide +kernel)
set_option maxRecDepth 20000 in
theorem gX4_publish_X2_findProblem : GoodIn wsX4_publish (wsV RX4 122 RX2 yX2_findProblem wsX2_findProblem) := goodIn_app (goodIn_of _ (by decide +kernel)) ggX4_publish_X2_findProblem
set_option maxRecDepth 20000 in
theorem ggX4_publish_X1_write : GoodIn wsX4_publish wsX1_write := goodIn_r _ [64, 65, 66, 67, 14, 68, 81, 82, 83] (by decide +kernel) (by decide +kernel)
set_option maxRecDepth 20000 in
theorem gX4_publish_X1_write : GoodIn wsX4_publish (wsV RX4 137 RX1 yX1_write wsX1_write) := goodIn_app (goodIn_of _ (by decide +kernel)) ggX4_publish_X1_write
set_option maxRecDepth 20000 in
theorem ggX4_publish_X1_close : GoodIn wsX4_publish wsX1_close := goodIn_r _ [72, 20, 73, 81, 82, 83] (by decide +kernel) (by decide +kernel)
set_option maxRecDepth 20000 in
theorem gX4_publish_X1_close : GoodIn wsX4_publish (wsV RX4 146 RX1 yX1_close wsX1_close) := goodIn_app (goodIn_of _ (by decide +kernel)) ggX4_publish_X1_close
theorem dX4_publish_0 : decode cX4_publish 0 = .ok (.aload_n 0, 1) := by decide +kernel
theorem dX4_publish_1 : decode cX4_publish 1 = .ok (.getfield 23, 3) := by decide +kernel
theorem dX4_publish_4 : decode cX4_publish 4 = .ok (.aload_n 0, 1) := by decide +kernel
theorem dX4_publish_5 : decode cX4_publish 5 = .ok (.getfield 67, 3) := by decide +kernel
theorem dX4_publish_8 : decode cX4_publish 8 = .ok (.invokevirtual 129, 3) := by decide +kernel
theorem dX4_publish_11 : decode cX4_publish 11 = .ok (.ifCond .eq 13, 3) := by decide +kernel
theorem dX4_publish_14 : decode cX4_publish 14 = .ok (.new 45, 3) := by decide +kernel
theorem dX4_publish_17 : decode cX4_publish 17 = .ok (.dup, 1) := by decide +kernel
theorem dX4_publish_18 : decode cX4_publish 18 = .ok (.ldc 133, 2) := by decide +kernel
theorem dX4_publish_20 : decode cX4_publish 20 = .ok (.invokespecial 49, 3) := by decide +kernel
theorem dX4_publish_23 : decode cX4_publish 23 = .ok (.athrow, 1) := by decide +kernel
theorem dX4_publish_24 : decode cX4_publish 24 = .ok (.aload_n 0, 1) := by decide +kernel
theorem dX4_publish_25 : decode cX4_publish 25 = .ok (.getfield 41, 3) := by decide +kernel
theorem dX4_publish_28 : decode cX4_publish 28 = .ok (.ifCond .ne 13, 3) := by decide +kernel
theorem dX4_publish_31 : decode cX4_publish 31 = .ok (.new 45, 3) := by decide +kernel
theorem dX4_publish_34 : decode cX4_publish 34 = .ok (.dup, 1) := by decide +kernel
theorem dX4_publish_35 : decode cX4_publish 35 = .ok (.ldc 135, 2) := by decide +kernel
theorem dX4_publish_37 : decode cX4_publish 37 = .ok (.invokespecial 49, 3) := by decide +kernel
theorem dX4_publish_40 : decode cX4_publish 40 = .ok (.athrow, 1) := by decide +kernel
theorem dX4_publish_41 : decode cX4_publish 41 = .ok (.iconst 0, 1) := by decide +kernel
theorem dX4_publish_42 : decode cX4_publish 42 = .ok (.istore_n 1, 1) := by decide +kernel
theorem dX4_publish_43 : decode cX4_publish 43 = .ok (.iconst 0, 1) := by decide +kernel
theorem dX4_publish_44 : decode cX4_publish 44 = .ok (.istore_n 2, 1) := by decide +kernel
theorem dX4_publish_45 : decode cX4_publish 45 = .ok (.iload_n 2, 1) := by decide +kernel
theorem dX4_publish_46 : decode cX4_publish 46 = .ok (.aload_n 0, 1) := by decide +kernel
theorem dX4_publish_47 : decode cX4_publish 47 = .ok (.getfield 41, 3) := by decide +kernel
theorem dX4_publish_50 : decode cX4_publish 50 = .ok (.if_icmp .ge 63, 3) := by decide +kernel
theorem dX4_publish_53 : decode cX4_publish 53 = .ok (.aload_n 0, 1) := by decide +kernel
theorem dX4_publish_54 : decode cX4_publish 54 = .ok (.getfield 11, 3) := by decide +kernel
theorem dX4_publish_57 : decode cX4_publish 57 = .ok (.iload_n 2, 1) := by decide +kernel
theorem dX4_publish_58 : decode cX4_publish 58 = .ok (.aaload, 1) := by decide +kernel
theorem dX4_publish_59 : decode cX4_publish 59 = .ok (.invokevirtual 115, 3) := by decide +kernel
theorem dX4_publish_62 : decode cX4_publish 62 = .ok (.istore_n 3, 1) := by decide +kernel
theorem dX4_publish_63 : decode cX4_publish 63 = .ok (.aload_n 0, 1) := by decide +kernel
theorem dX4_publish_64 : decode cX4_publish 64 = .ok (.getfield 11, 3) := by decide +kernel
theorem dX4_publish_67 : decode cX4_publish 67 = .ok (.iload_n 2, 1) := by decide +kernel
theorem dX4_publish_68 : decode cX4_publish 68 = .ok (.aaload, 1) := by decide +kernel
theorem dX4_publish_69 : decode cX4_publish 69 = .ok (.iload_n 3, 1) := by decide +kernel
theorem dX4_publish_70 : decode cX4_publish 70 = .ok (.invokevirtual 119, 3) := by decide +kernel
theorem dX4_publish_73 : decode cX4_publish 73 = .ok (.istore 4, 2) := by decide +kernel
theorem dX4_publish_75 : decode cX4_publish 75 = .ok (.aload_n 0, 1) := by decide +kernel
theorem dX4_publish_76 : decode cX4_publish 76 = .ok (.getfield 23, 3) := by decide +kernel
theorem dX4_publish_79 : decode cX4_publish 79 = .ok (.aload_n 0, 1) := by decide +kernel
theorem dX4_publish_80 : decode cX4_publish 80 = .ok (.getfield 67, 3) := by decide +kernel
theorem dX4_publish_83 : decode cX4_publish 83 = .ok (.iload_n 2, 1) := by decide +kernel
theorem dX4_publish_84 : decode cX4_publish 84 = .ok (.iload_n 3, 1) := by decide +kernel
theorem dX4_publish_85 : decode cX4_publish 85 = .ok (.iload 4, 2) := by decide +kernel
theorem dX4_publish_87 : decode cX4_publish 87 = .ok (.aload_n 0, 1) := by decide +kernel
theorem dX4_publish_88 : decode cX4_publish 88 = .ok (.getfield 11, 3) := by decide +kernel
theorem dX4_publish_91 : decode cX4_publish 91 = .ok (.iload_n 2, 1) := by decide +kernel
theorem dX4_publish_92 : decode cX4_publish 92 = .ok (.aaload, 1) := by decide +kernel
theorem dX4_publish_93 : decode cX4_publish 93 = .ok (.iload 4, 2) := by decide +kernel
theorem dX4_publish_95 : decode cX4_publish 95 = .ok (.invokevirtual 122, 3) := by decide +kernel
theorem dX4_publish_98 : decode cX4_publish 98 = .ok (.invokevirtual 137, 3) := by decide +kernel
theorem dX4_publish_101 : decode cX4_publish 101 = .ok (.iload_n 1, 1) := by decide +kernel
theorem dX4_publish_102 : decode cX4_publish 102 = .ok (.iload_n 3, 1) := by decide +kernel
theorem dX4_publish_103 : decode cX4_publish 103 = .ok (.invokestatic 141, 3) := by decide +kernel
theorem dX4_publish_106 : decode cX4_publish 106 = .ok (.istore_n 1, 1) := by decide +kernel
theorem dX4_publish_107 : decode cX4_publish 107 = .ok (.iinc 2 1, 3) := by decide +kernel
theorem dX4_publish_110 : decode cX4_publish 110 = .ok (.goto (-65), 3) := by decide +kernel
theorem dX4_publish_113 : decode cX4_publish 113 = .ok (.aload_n 0, 1) := by decide +kernel
theorem dX4_publish_114 : decode cX4_publish 114 = .ok (.getfield 23, 3) := by decide +kernel
theorem dX4_publish_117 : decode cX4_publish 117 = .ok (.aload_n 0, 1) := by decide +kernel
theorem dX4_publish_118 : decode cX4_publish 118 = .ok (.getfield 67, 3) := by decide +kernel
theorem dX4_publish_121 : decode cX4_publish 121 = .ok (.aload_n 0, 1) := by decide +kernel
theorem dX4_publish_122 : decode cX4_publish 122 = .ok (.getfield 41, 3) := by decide +kernel
theorem dX4_publish_125 : decode cX4_publish 125 = .ok (.invokevirtual 146, 3) := by decide +kernel
theorem dX4_publish_128 : decode cX4_publish 128 = .ok (.iload_n 1, 1) := by decide +kernel
theorem dX4_publish_129 : decode cX4_publish 129 = .ok (.ireturn, 1) := by decide +kernel
set_option maxRecDepth 20000 in
theorem ggX4_bulletin_X1_tells : GoodIn wsX4_bulletin wsX1_tells := goodIn_r _ [8, 9, 25, 26, 27] (by decide +kernel) (by decide +kernel)
set_option maxRecDepth 20000 in
theorem gX4_bulletin_X1_tells : GoodIn wsX4_bulletin (wsV RX4 150 RX1 yX1_tells wsX1_tells) := goodIn_app (goodIn_of _ (by decide +kernel)) ggX4_bulletin_X1_tells
set_option maxRecDepth 20000 in
theorem ggX4_bulletin_X1_read : GoodIn wsX4_bulletin wsX1_read := goodIn_r _ [13, 14, 15, 16, 7, 17, 25, 26, 27] (by decide +kernel) (by decide +kernel)
set_option maxRecDepth 20000 in
theorem gX4_bulletin_X1_read : GoodIn wsX4_bulletin (wsV RX4 158 RX1 yX1_read wsX1_read) := goodIn_app (goodIn_of _ (by decide +kernel)) ggX4_bulletin_X1_read
theorem dX4_bulletin_0 : decode cX4_bulletin 0 = .ok (.aload_n 0, 1) := by decide +kernel
theorem dX4_bulletin_1 : decode cX4_bulletin 1 = .ok (.getfield 23, 3) := by decide +kernel
theorem dX4_bulletin_4 : decode cX4_bulletin 4 = .ok (.iload_n 1, 1) := by decide +kernel
theorem dX4_bulletin_5 : decode cX4_bulletin 5 = .ok (.iload_n 2, 1) := by decide +kernel
theorem dX4_bulletin_6 : decode cX4_bulletin 6 = .ok (.invokevirtual 150, 3) := by decide +kernel
theorem dX4_bulletin_9 : decode cX4_bulletin 9 = .ok (.ifCond .ne 13, 3) := by decide +kernel
theorem dX4_bulletin_12 : decode cX4_bulletin 12 = .ok (.new 101, 3) := by decide +kernel
theorem dX4_bulletin_15 : decode cX4_bulletin 15 = .ok (.dup, 1) := by decide +kernel
theorem dX4_bulletin_16 : decode cX4_bulletin 16 = .ok (.ldc 154, 2) := by decide +kernel
theorem dX4_bulletin_18 : decode cX4_bulletin 18 = .ok (.invokespecial 105, 3) := by decide +kernel
theorem dX4_bulletin_21 : decode cX4_bulletin 21 = .ok (.athrow, 1) := by decide +kernel
theorem dX4_bulletin_22 : decode cX4_bulletin 22 = .ok (.iload_n 3, 1) := by decide +kernel
theorem dX4_bulletin_23 : decode cX4_bulletin 23 = .ok (.ifCond .lt 8, 3) := by decide +kernel
theorem dX4_bulletin_26 : decode cX4_bulletin 26 = .ok (.iload_n 3, 1) := by decide +kernel
theorem dX4_bulletin_27 : decode cX4_bulletin 27 = .ok (.iconst 3, 1) := by decide +kernel
theorem dX4_bulletin_28 : decode cX4_bulletin 28 = .ok (.if_icmp .lt 13, 3) := by decide +kernel
theorem dX4_bulletin_31 : decode cX4_bulletin 31 = .ok (.new 101, 3) := by decide +kernel
theorem dX4_bulletin_34 : decode cX4_bulletin 34 = .ok (.dup, 1) := by decide +kernel
theorem dX4_bulletin_35 : decode cX4_bulletin 35 = .ok (.ldc 156, 2) := by decide +kernel
theorem dX4_bulletin_37 : decode cX4_bulletin 37 = .ok (.invokespecial 105, 3) := by decide +kernel
theorem dX4_bulletin_40 : decode cX4_bulletin 40 = .ok (.athrow, 1) := by decide +kernel
theorem dX4_bulletin_41 : decode cX4_bulletin 41 = .ok (.aload_n 0, 1) := by decide +kernel
theorem dX4_bulletin_42 : decode cX4_bulletin 42 = .ok (.getfield 23, 3) := by decide +kernel
theorem dX4_bulletin_45 : decode cX4_bulletin 45 = .ok (.iload_n 1, 1) := by decide +kernel
theorem dX4_bulletin_46 : decode cX4_bulletin 46 = .ok (.iload_n 2, 1) := by decide +kernel
theorem dX4_bulletin_47 : decode cX4_bulletin 47 = .ok (.iload_n 3, 1) := by decide +kernel
theorem dX4_bulletin_48 : decode cX4_bulletin 48 = .ok (.invokevirtual 158, 3) := by decide +kernel
theorem dX4_bulletin_51 : decode cX4_bulletin 51 = .ok (.ireturn, 1) := by decide +kernel
set_option maxRecDepth 20000 in
theorem ggX4_see_X4_checkRegion : GoodIn wsX4_see wsX4_checkRegion := goodIn_ca (goodIn_r _ [11, 12, 13, 14, 36, 37, 38, 39, 40, 41, 42] (by decide +kernel) (by decide +kernel)) (goodIn_sub (fun _ h => List.mem_cons_of_mem _ (List.mem_append_right _ h)) (by decide +kernel))
set_option maxRecDepth 20000 in
theorem gX4_see_X4_checkRegion : GoodIn wsX4_see (wsV RX4 52 RX4 yX4_checkRegion wsX4_checkRegion) := goodIn_app (goodIn_of _ (by decide +kernel)) ggX4_see_X4_checkRegion
set_option maxRecDepth 20000 in
theorem ggX4_see_X4_checkSector : GoodIn wsX4_see wsX4_checkSector := goodIn_ca (goodIn_r _ [17, 12, 13] (by decide +kernel) (by decide +kernel)) (goodIn_sub (fun _ h => List.mem_cons_of_mem _ (List.mem_append_right _ h)) (by decide +kernel))
set_option maxRecDepth 20000 in
theorem gX4_see_X4_checkSector : GoodIn wsX4_see (va_wsS RX4 78 yX4_checkSector wsX4_checkSector) := goodIn_app (goodIn_of _ (by decide +kernel)) ggX4_see_X4_checkSector
set_option maxRecDepth 20000 in
theorem ggX4_see_X0_isFull : GoodIn wsX4_see wsX0_isFull := goodIn_r _ [22, 23, 43, 44, 45, 46, 47] (by decide +kernel) (by decide +kernel)
set_option maxRecDepth 20000 in
theorem gX4_see_X0_isFull : GoodIn wsX4_see (wsV RX4 167 RX0 yX0_isFull wsX0_isFull) := goodIn_app (goodIn_of _ (by decide +kernel)) ggX4_see_X0_isFull
set_option maxRecDepth 20000 in
theorem ggX4_see_X0_note : GoodIn wsX4_see wsX0_note := goodIn_r _ [27, 28, 23, 29, 30, 31, 43, 44, 45, 46, 47] (by decide +kernel) (by decide +kernel)
set_option maxRecDepth 20000 in
theorem gX4_see_X0_note : GoodIn wsX4_see (wsV RX4 173 RX0 yX0_note wsX0_note) := goodIn_app (goodIn_of _ (by decide +kernel)) ggX4_see_X0_note
set_option maxRecDepth 20000 in
theorem ggX4_see_X0_activityOn : GoodIn wsX4_see wsX0_activityOn := goodIn_r _ [35, 31, 43, 44, 45, 46, 47] (by decide +kernel) (by decide +kernel)
set_option maxRecDepth 20000 in
theorem gX4_see_X0_activityOn : GoodIn wsX4_see (wsV RX4 176 RX0 yX0_activityOn wsX0_activityOn) := goodIn_app (goodIn_of _ (by decide +kernel)) ggX4_see_X0_activityOn
theorem dX4_see_0 : decode cX4_see 0 = .ok (.aload_n 0, 1) := by decide +kernel
theorem dX4_see_1 : decode cX4_see 1 = .ok (.iload_n 1, 1) := by decide +kernel
theorem dX4_see_2 : decode cX4_see 2 = .ok (.invokevirtual 52, 3) := by decide +kernel
theorem dX4_see_5 : decode cX4_see 5 = .ok (.iload_n 2, 1) := by decide +kernel
theorem dX4_see_6 : decode cX4_see 6 = .ok (.invokestatic 78, 3) := by decide +kernel
theorem dX4_see_9 : decode cX4_see 9 = .ok (.iload_n 3, 1) := by decide +kernel
theorem dX4_see_10 : decode cX4_see 10 = .ok (.iconst 1, 1) := by decide +kernel
theorem dX4_see_11 : decode cX4_see 11 = .ok (.if_icmp .lt 8, 3) := by decide +kernel
theorem dX4_see_14 : decode cX4_see 14 = .ok (.iload_n 3, 1) := by decide +kernel
theorem dX4_see_15 : decode cX4_see 15 = .ok (.iconst 5, 1) := by decide +kernel
theorem dX4_see_16 : decode cX4_see 16 = .ok (.if_icmp .le 13, 3) := by decide +kernel
theorem dX4_see_19 : decode cX4_see 19 = .ok (.new 92, 3) := by decide +kernel
theorem dX4_see_22 : decode cX4_see 22 = .ok (.dup, 1) := by decide +kernel
theorem dX4_see_23 : decode cX4_see 23 = .ok (.ldc 165, 2) := by decide +kernel
theorem dX4_see_25 : decode cX4_see 25 = .ok (.invokespecial 96, 3) := by decide +kernel
theorem dX4_see_28 : decode cX4_see 28 = .ok (.athrow, 1) := by decide +kernel
theorem dX4_see_29 : decode cX4_see 29 = .ok (.aload_n 0, 1) := by decide +kernel
theorem dX4_see_30 : decode cX4_see 30 = .ok (.getfield 30, 3) := by decide +kernel
theorem dX4_see_33 : decode cX4_see 33 = .ok (.invokevirtual 167, 3) := by decide +kernel
theorem dX4_see_36 : decode cX4_see 36 = .ok (.ifCond .eq 13, 3) := by decide +kernel
theorem dX4_see_39 : decode cX4_see 39 = .ok (.new 45, 3) := by decide +kernel
theorem dX4_see_42 : decode cX4_see 42 = .ok (.dup, 1) := by decide +kernel
theorem dX4_see_43 : decode cX4_see 43 = .ok (.ldc 171, 2) := by decide +kernel
theorem dX4_see_45 : decode cX4_see 45 = .ok (.invokespecial 49, 3) := by decide +kernel
theorem dX4_see_48 : decode cX4_see 48 = .ok (.athrow, 1) := by decide +kernel
theorem dX4_see_49 : decode cX4_see 49 = .ok (.aload_n 0, 1) := by decide +kernel
theorem dX4_see_50 : decode cX4_see 50 = .ok (.getfield 30, 3) := by decide +kernel
theorem dX4_see_53 : decode cX4_see 53 = .ok (.aload_n 0, 1) := by decide +kernel
theorem dX4_see_54 : decode cX4_see 54 = .ok (.getfield 67, 3) := by decide +kernel
theorem dX4_see_57 : decode cX4_see 57 = .ok (.iload_n 1, 1) := by decide +kernel
theorem dX4_see_58 : decode cX4_see 58 = .ok (.iload_n 2, 1) := by decide +kernel
theorem dX4_see_59 : decode cX4_see 59 = .ok (.iload_n 3, 1) := by decide +kernel
theorem dX4_see_60 : decode cX4_see 60 = .ok (.invokevirtual 173, 3) := by decide +kernel
theorem dX4_see_63 : decode cX4_see 63 = .ok (.aload_n 0, 1) := by decide +kernel
theorem dX4_see_64 : decode cX4_see 64 = .ok (.getfield 30, 3) := by decide +kernel
theorem dX4_see_67 : decode cX4_see 67 = .ok (.aload_n 0, 1) := by decide +kernel
theorem dX4_see_68 : decode cX4_see 68 = .ok (.getfield 67, 3) := by decide +kernel
theorem dX4_see_71 : decode cX4_see 71 = .ok (.iload_n 1, 1) := by decide +kernel
theorem dX4_see_72 : decode cX4_see 72 = .ok (.invokevirtual 176, 3) := by decide +kernel
theorem dX4_see_75 : decode cX4_see 75 = .ok (.ireturn, 1) := by decide +kernel
set_option maxRecDepth 20000 in
theorem ggX4_borneOut_X1_tells : GoodIn wsX4_borneOut wsX1_tells := goodIn_r _ [10, 11, 46, 47, 48] (by decide +kernel) (by decide +kernel)
set_option maxRecDepth 20000 in
theorem gX4_borneOut_X1_tells : GoodIn wsX4_borneOut (wsV RX4 150 RX1 yX1_tells wsX1_tells) := goodIn_app (goodIn_of _ (by decide +kernel)) ggX4_borneOut_X1_tells
set_option maxRecDepth 20000 in
theorem ggX4_borneOut_X4_verdict : GoodIn wsX4_borneOut wsX4_verdict := goodIn_r _ [16, 5, 17, 18, 19, 20, 9, 21, 22, 23, 24, 25, 26, 27, 28, 29, 30, 31, 32, 33, 15, 34, 35, 36, 37, 38, 39, 40, 41, 42, 43, 44, 45, 46, 47, 48, 49, 50, 51, 52, 53] (by decide +kernel) (by decide +kernel)
set_option maxRecDepth 20000 in
theorem gX4_borneOut_X4_verdict : GoodIn wsX4_borneOut (wsV RX4 183 RX4 yX4_verdict wsX4_verdict) := goodIn_app (goodIn_of _ (by decide +kernel)) ggX4_borneOut_X4_verdict
theorem dX4_borneOut_0 : decode cX4_borneOut 0 = .ok (.iload_n 1, 1) := by decide +kernel
theorem dX4_borneOut_1 : decode cX4_borneOut 1 = .ok (.iconst (-1), 1) := by decide +kernel
theorem dX4_borneOut_2 : decode cX4_borneOut 2 = .ok (.if_icmp .lt 8, 3) := by decide +kernel
theorem dX4_borneOut_5 : decode cX4_borneOut 5 = .ok (.iload_n 1, 1) := by decide +kernel
theorem dX4_borneOut_6 : decode cX4_borneOut 6 = .ok (.iconst 1, 1) := by decide +kernel
theorem dX4_borneOut_7 : decode cX4_borneOut 7 = .ok (.if_icmp .le 13, 3) := by decide +kernel
theorem dX4_borneOut_10 : decode cX4_borneOut 10 = .ok (.new 92, 3) := by decide +kernel
theorem dX4_borneOut_13 : decode cX4_borneOut 13 = .ok (.dup, 1) := by decide +kernel
theorem dX4_borneOut_14 : decode cX4_borneOut 14 = .ok (.ldc 181, 2) := by decide +kernel
theorem dX4_borneOut_16 : decode cX4_borneOut 16 = .ok (.invokespecial 96, 3) := by decide +kernel
theorem dX4_borneOut_19 : decode cX4_borneOut 19 = .ok (.athrow, 1) := by decide +kernel
theorem dX4_borneOut_20 : decode cX4_borneOut 20 = .ok (.iconst 0, 1) := by decide +kernel
theorem dX4_borneOut_21 : decode cX4_borneOut 21 = .ok (.istore_n 2, 1) := by decide +kernel
theorem dX4_borneOut_22 : decode cX4_borneOut 22 = .ok (.iconst 0, 1) := by decide +kernel
theorem dX4_borneOut_23 : decode cX4_borneOut 23 = .ok (.istore_n 3, 1) := by decide +kernel
theorem dX4_borneOut_24 : decode cX4_borneOut 24 = .ok (.iload_n 3, 1) := by decide +kernel
theorem dX4_borneOut_25 : decode cX4_borneOut 25 = .ok (.aload_n 0, 1) := by decide +kernel
theorem dX4_borneOut_26 : decode cX4_borneOut 26 = .ok (.getfield 67, 3) := by decide +kernel
theorem dX4_borneOut_29 : decode cX4_borneOut 29 = .ok (.if_icmp .gt 54, 3) := by decide +kernel
theorem dX4_borneOut_32 : decode cX4_borneOut 32 = .ok (.iconst 0, 1) := by decide +kernel
theorem dX4_borneOut_33 : decode cX4_borneOut 33 = .ok (.istore 4, 2) := by decide +kernel
theorem dX4_borneOut_35 : decode cX4_borneOut 35 = .ok (.iload 4, 2) := by decide +kernel
theorem dX4_borneOut_37 : decode cX4_borneOut 37 = .ok (.aload_n 0, 1) := by decide +kernel
theorem dX4_borneOut_38 : decode cX4_borneOut 38 = .ok (.getfield 41, 3) := by decide +kernel
theorem dX4_borneOut_41 : decode cX4_borneOut 41 = .ok (.if_icmp .ge 36, 3) := by decide +kernel
theorem dX4_borneOut_44 : decode cX4_borneOut 44 = .ok (.aload_n 0, 1) := by decide +kernel
theorem dX4_borneOut_45 : decode cX4_borneOut 45 = .ok (.getfield 23, 3) := by decide +kernel
theorem dX4_borneOut_48 : decode cX4_borneOut 48 = .ok (.iload_n 3, 1) := by decide +kernel
theorem dX4_borneOut_49 : decode cX4_borneOut 49 = .ok (.iload 4, 2) := by decide +kernel
theorem dX4_borneOut_51 : decode cX4_borneOut 51 = .ok (.invokevirtual 150, 3) := by decide +kernel
theorem dX4_borneOut_54 : decode cX4_borneOut 54 = .ok (.ifCond .eq 17, 3) := by decide +kernel
theorem dX4_borneOut_57 : decode cX4_borneOut 57 = .ok (.aload_n 0, 1) := by decide +kernel
theorem dX4_borneOut_58 : decode cX4_borneOut 58 = .ok (.iload_n 3, 1) := by decide +kernel
theorem dX4_borneOut_59 : decode cX4_borneOut 59 = .ok (.iload 4, 2) := by decide +kernel
theorem dX4_borneOut_61 : decode cX4_borneOut 61 = .ok (.invokevirtual 183, 3) := by decide +kernel
theorem dX4_borneOut_64 : decode cX4_borneOut 64 = .ok (.iload_n 1, 1) := by decide +kernel
theorem dX4_borneOut_65 : decode cX4_borneOut 65 = .ok (.if_icmp .ne 6, 3) := by decide +kernel
theorem dX4_borneOut_68 : decode cX4_borneOut 68 = .ok (.iinc 2 1, 3) := by decide +kernel
theorem dX4_borneOut_71 : decode cX4_borneOut 71 = .ok (.iinc 4 1, 3) := by decide +kernel
theorem dX4_borneOut_74 : decode cX4_borneOut 74 = .ok (.goto (-39), 3) := by decide +kernel
theorem dX4_borneOut_77 : decode cX4_borneOut 77 = .ok (.iinc 3 1, 3) := by decide +kernel
theorem dX4_borneOut_80 : decode cX4_borneOut 80 = .ok (.goto (-56), 3) := by decide +kernel
theorem dX4_borneOut_83 : decode cX4_borneOut 83 = .ok (.iload_n 2, 1) := by decide +kernel
theorem dX4_borneOut_84 : decode cX4_borneOut 84 = .ok (.ireturn, 1) := by decide +kernel
set_option maxRecDepth 20000 in
theorem ggX4_inCore_X4_checkRegion : GoodIn wsX4_inCore wsX4_checkRegion := goodIn_ca (goodIn_r _ [7, 8, 9, 10, 28, 29, 30, 31, 32, 33, 34] (by decide +kernel) (by decide +kernel)) (goodIn_sub (fun _ h => List.mem_cons_of_mem _ (List.mem_append_right _ h)) (by decide +kernel))
set_option maxRecDepth 20000 in
theorem gX4_inCore_X4_checkRegion : GoodIn wsX4_inCore (wsV RX4 52 RX4 yX4_checkRegion wsX4_checkRegion) := goodIn_app (goodIn_of _ (by decide +kernel)) ggX4_inCore_X4_checkRegion
set_option maxRecDepth 20000 in
theorem ggX4_inCore_X1_tells : GoodIn wsX4_inCore wsX1_tells := goodIn_r _ [15, 16, 40, 41, 42] (by decide +kernel) (by decide +kernel)
set_option maxRecDepth 20000 in
theorem gX4_inCore_X1_tells : GoodIn wsX4_inCore (wsV RX4 150 RX1 yX1_tells wsX1_tells) := goodIn_app (goodIn_of _ (by decide +kernel)) ggX4_inCore_X1_tells
set_option maxRecDepth 20000 in
theorem ggX4_inCore_X1_read : GoodIn wsX4_inCore wsX1_read := goodIn_r _ [20, 21, 22, 23, 14, 24, 40, 41, 42] (by decide +kernel) (by decide +kernel)
set_option maxRecDepth 20000 in
theorem gX4_inCore_X1_read : GoodIn wsX4_inCore (wsV RX4 158 RX1 yX1_read wsX1_read) := goodIn_app (goodIn_of _ (by decide +kernel)) ggX4_inCore_X1_read
set_option maxRecDepth 20000 in
theorem ggX4_inCore_X4_bit : GoodIn wsX4_inCore wsX4_bit := goodIn_r _ [27] (by decide +kernel) (by decide +kernel)
set_option maxRecDepth 20000 in
theorem gX4_inCore_X4_bit : GoodIn wsX4_inCore (va_wsS RX4 197 yX4_bit wsX4_bit) := goodIn_app (goodIn_of _ (by decide +kernel)) ggX4_inCore_X4_bit
theorem dX4_inCore_0 : decode cX4_inCore 0 = .ok (.aload_n 0, 1) := by decide +kernel
theorem dX4_inCore_1 : decode cX4_inCore 1 = .ok (.iload_n 1, 1) := by decide +kernel
theorem dX4_inCore_2 : decode cX4_inCore 2 = .ok (.invokevirtual 52, 3) := by decide +kernel
theorem dX4_inCore_5 : decode cX4_inCore 5 = .ok (.iconst 0, 1) := by decide +kernel
theorem dX4_inCore_6 : decode cX4_inCore 6 = .ok (.istore_n 2, 1) := by decide +kernel
theorem dX4_inCore_7 : decode cX4_inCore 7 = .ok (.iconst 0, 1) := by decide +kernel
theorem dX4_inCore_8 : decode cX4_inCore 8 = .ok (.istore_n 3, 1) := by decide +kernel
theorem dX4_inCore_9 : decode cX4_inCore 9 = .ok (.iconst 0, 1) := by decide +kernel
theorem dX4_inCore_10 : decode cX4_inCore 10 = .ok (.istore 4, 2) := by decide +kernel
theorem dX4_inCore_12 : decode cX4_inCore 12 = .ok (.iload 4, 2) := by decide +kernel
theorem dX4_inCore_14 : decode cX4_inCore 14 = .ok (.aload_n 0, 1) := by decide +kernel
theorem dX4_inCore_15 : decode cX4_inCore 15 = .ok (.getfield 30, 3) := by decide +kernel
theorem dX4_inCore_18 : decode cX4_inCore 18 = .ok (.getfield 186, 3) := by decide +kernel
theorem dX4_inCore_21 : decode cX4_inCore 21 = .ok (.if_icmp .ge 78, 3) := by decide +kernel
theorem dX4_inCore_24 : decode cX4_inCore 24 = .ok (.aload_n 0, 1) := by decide +kernel
theorem dX4_inCore_25 : decode cX4_inCore 25 = .ok (.getfield 30, 3) := by decide +kernel
theorem dX4_inCore_28 : decode cX4_inCore 28 = .ok (.getfield 187, 3) := by decide +kernel
theorem dX4_inCore_31 : decode cX4_inCore 31 = .ok (.iload 4, 2) := by decide +kernel
theorem dX4_inCore_33 : decode cX4_inCore 33 = .ok (.iaload, 1) := by decide +kernel
theorem dX4_inCore_34 : decode cX4_inCore 34 = .ok (.istore 5, 2) := by decide +kernel
theorem dX4_inCore_36 : decode cX4_inCore 36 = .ok (.aload_n 0, 1) := by decide +kernel
theorem dX4_inCore_37 : decode cX4_inCore 37 = .ok (.getfield 30, 3) := by decide +kernel
theorem dX4_inCore_40 : decode cX4_inCore 40 = .ok (.getfield 191, 3) := by decide +kernel
theorem dX4_inCore_43 : decode cX4_inCore 43 = .ok (.iload 4, 2) := by decide +kernel
theorem dX4_inCore_45 : decode cX4_inCore 45 = .ok (.iaload, 1) := by decide +kernel
theorem dX4_inCore_46 : decode cX4_inCore 46 = .ok (.iload_n 1, 1) := by decide +kernel
theorem dX4_inCore_47 : decode cX4_inCore 47 = .ok (.if_icmp .ne 46, 3) := by decide +kernel
theorem dX4_inCore_50 : decode cX4_inCore 50 = .ok (.aload_n 0, 1) := by decide +kernel
theorem dX4_inCore_51 : decode cX4_inCore 51 = .ok (.getfield 23, 3) := by decide +kernel
theorem dX4_inCore_54 : decode cX4_inCore 54 = .ok (.iload 5, 2) := by decide +kernel
theorem dX4_inCore_56 : decode cX4_inCore 56 = .ok (.iload_n 1, 1) := by decide +kernel
theorem dX4_inCore_57 : decode cX4_inCore 57 = .ok (.invokevirtual 150, 3) := by decide +kernel
theorem dX4_inCore_60 : decode cX4_inCore 60 = .ok (.ifCond .eq 33, 3) := by decide +kernel
theorem dX4_inCore_63 : decode cX4_inCore 63 = .ok (.iinc 2 1, 3) := by decide +kernel
theorem dX4_inCore_66 : decode cX4_inCore 66 = .ok (.iload_n 3, 1) := by decide +kernel
theorem dX4_inCore_67 : decode cX4_inCore 67 = .ok (.aload_n 0, 1) := by decide +kernel
theorem dX4_inCore_68 : decode cX4_inCore 68 = .ok (.getfield 23, 3) := by decide +kernel
theorem dX4_inCore_71 : decode cX4_inCore 71 = .ok (.iload 5, 2) := by decide +kernel
theorem dX4_inCore_73 : decode cX4_inCore 73 = .ok (.iload_n 1, 1) := by decide +kernel
theorem dX4_inCore_74 : decode cX4_inCore 74 = .ok (.iconst 1, 1) := by decide +kernel
theorem dX4_inCore_75 : decode cX4_inCore 75 = .ok (.invokevirtual 158, 3) := by decide +kernel
theorem dX4_inCore_78 : decode cX4_inCore 78 = .ok (.aload_n 0, 1) := by decide +kernel
theorem dX4_inCore_79 : decode cX4_inCore 79 = .ok (.getfield 30, 3) := by decide +kernel
theorem dX4_inCore_82 : decode cX4_inCore 82 = .ok (.getfield 194, 3) := by decide +kernel
theorem dX4_inCore_85 : decode cX4_inCore 85 = .ok (.iload 4, 2) := by decide +kernel
theorem dX4_inCore_87 : decode cX4_inCore 87 = .ok (.iaload, 1) := by decide +kernel
theorem dX4_inCore_88 : decode cX4_inCore 88 = .ok (.invokestatic 197, 3) := by decide +kernel
theorem dX4_inCore_91 : decode cX4_inCore 91 = .ok (.iadd, 1) := by decide +kernel
theorem dX4_inCore_92 : decode cX4_inCore 92 = .ok (.istore_n 3, 1) := by decide +kernel
theorem dX4_inCore_93 : decode cX4_inCore 93 = .ok (.iinc 4 1, 3) := by decide +kernel
theorem dX4_inCore_96 : decode cX4_inCore 96 = .ok (.goto (-84), 3) := by decide +kernel
theorem dX4_inCore_99 : decode cX4_inCore 99 = .ok (.iload_n 2, 1) := by decide +kernel
theorem dX4_inCore_100 : decode cX4_inCore 100 = .ok (.ifCond .ne 7, 3) := by decide +kernel
theorem dX4_inCore_103 : decode cX4_inCore 103 = .ok (.dconst 1, 1) := by decide +kernel
theorem dX4_inCore_104 : decode cX4_inCore 104 = .ok (.goto 8, 3) := by decide +kernel
theorem dX4_inCore_107 : decode cX4_inCore 107 = .ok (.iload_n 3, 1) := by decide +kernel
theorem dX4_inCore_108 : decode cX4_inCore 108 = .ok (.i2d, 1) := by decide +kernel
theorem dX4_inCore_109 : decode cX4_inCore 109 = .ok (.iload_n 2, 1) := by decide +kernel
theorem dX4_inCore_110 : decode cX4_inCore 110 = .ok (.i2d, 1) := by decide +kernel
theorem dX4_inCore_111 : decode cX4_inCore 111 = .ok (.ddiv, 1) := by decide +kernel
theorem dX4_inCore_112 : decode cX4_inCore 112 = .ok (.dreturn, 1) := by decide +kernel
theorem dX4_checkRegion_0 : decode cX4_checkRegion 0 = .ok (.iload_n 1, 1) := by decide +kernel
theorem dX4_checkRegion_1 : decode cX4_checkRegion 1 = .ok (.ifCond .lt 11, 3) := by decide +kernel
theorem dX4_checkRegion_4 : decode cX4_checkRegion 4 = .ok (.iload_n 1, 1) := by decide +kernel
theorem dX4_checkRegion_5 : decode cX4_checkRegion 5 = .ok (.aload_n 0, 1) := by decide +kernel
theorem dX4_checkRegion_6 : decode cX4_checkRegion 6 = .ok (.getfield 41, 3) := by decide +kernel
theorem dX4_checkRegion_9 : decode cX4_checkRegion 9 = .ok (.if_icmp .lt 13, 3) := by decide +kernel
theorem dX4_checkRegion_12 : decode cX4_checkRegion 12 = .ok (.new 101, 3) := by decide +kernel
theorem dX4_checkRegion_15 : decode cX4_checkRegion 15 = .ok (.dup, 1) := by decide +kernel
theorem dX4_checkRegion_16 : decode cX4_checkRegion 16 = .ok (.ldc 241, 2) := by decide +kernel
theorem dX4_checkRegion_18 : decode cX4_checkRegion 18 = .ok (.invokespecial 105, 3) := by decide +kernel
theorem dX4_checkRegion_21 : decode cX4_checkRegion 21 = .ok (.athrow, 1) := by decide +kernel
theorem dX4_checkRegion_22 : decode cX4_checkRegion 22 = .ok (.return_, 1) := by decide +kernel
theorem dX4_checkSector_0 : decode cX4_checkSector 0 = .ok (.iload_n 0, 1) := by decide +kernel
theorem dX4_checkSector_1 : decode cX4_checkSector 1 = .ok (.ifCond .lt 9, 3) := by decide +kernel
theorem dX4_checkSector_4 : decode cX4_checkSector 4 = .ok (.iload_n 0, 1) := by decide +kernel
theorem dX4_checkSector_5 : decode cX4_checkSector 5 = .ok (.bipush 12, 2) := by decide +kernel
theorem dX4_checkSector_7 : decode cX4_checkSector 7 = .ok (.if_icmp .lt 13, 3) := by decide +kernel
theorem dX4_checkSector_10 : decode cX4_checkSector 10 = .ok (.new 101, 3) := by decide +kernel
theorem dX4_checkSector_13 : decode cX4_checkSector 13 = .ok (.dup, 1) := by decide +kernel
theorem dX4_checkSector_14 : decode cX4_checkSector 14 = .ok (.ldc 243, 2) := by decide +kernel
theorem dX4_checkSector_16 : decode cX4_checkSector 16 = .ok (.invokespecial 105, 3) := by decide +kernel
theorem dX4_checkSector_19 : decode cX4_checkSector 19 = .ok (.athrow, 1) := by decide +kernel
theorem dX4_checkSector_20 : decode cX4_checkSector 20 = .ok (.return_, 1) := by decide +kernel
theorem dX4_checkNumber_0 : decode cX4_checkNumber 0 = .ok (.iload_n 0, 1) := by decide +kernel
theorem dX4_checkNumber_1 : decode cX4_checkNumber 1 = .ok (.ifCond .lt 8, 3) := by decide +kernel
theorem dX4_checkNumber_4 : decode cX4_checkNumber 4 = .ok (.iload_n 0, 1) := by decide +kernel
theorem dX4_checkNumber_5 : decode cX4_checkNumber 5 = .ok (.iconst 5, 1) := by decide +kernel
theorem dX4_checkNumber_6 : decode cX4_checkNumber 6 = .ok (.if_icmp .lt 13, 3) := by decide +kernel
theorem dX4_checkNumber_9 : decode cX4_checkNumber 9 = .ok (.new 101, 3) := by decide +kernel
theorem dX4_checkNumber_12 : decode cX4_checkNumber 12 = .ok (.dup, 1) := by decide +kernel
theorem dX4_checkNumber_13 : decode cX4_checkNumber 13 = .ok (.ldc 245, 2) := by decide +kernel
theorem dX4_checkNumber_15 : decode cX4_checkNumber 15 = .ok (.invokespecial 105, 3) := by decide +kernel
theorem dX4_checkNumber_18 : decode cX4_checkNumber 18 = .ok (.athrow, 1) := by decide +kernel
theorem dX4_checkNumber_19 : decode cX4_checkNumber 19 = .ok (.return_, 1) := by decide +kernel
theorem dX4_checkWeather_0 : decode cX4_checkWeather 0 = .ok (.iload_n 0, 1) := by decide +kernel
theorem dX4_checkWeather_1 : decode cX4_checkWeather 1 = .ok (.ifCond .lt 10, 3) := by decide +kernel
theorem dX4_checkWeather_4 : decode cX4_checkWeather 4 = .ok (.iload_n 0, 1) := by decide +kernel
theorem dX4_checkWeather_5 : decode cX4_checkWeather 5 = .ok (.sipush 150, 3) := by decide +kernel
theorem dX4_checkWeather_8 : decode cX4_checkWeather 8 = .ok (.if_icmp .le 13, 3) := by decide +kernel
theorem dX4_checkWeather_11 : decode cX4_checkWeather 11 = .ok (.new 92, 3) := by decide +kernel
theorem dX4_checkWeather_14 : decode cX4_checkWeather 14 = .ok (.dup, 1) := by decide +kernel
theorem dX4_checkWeather_15 : decode cX4_checkWeather 15 = .ok (.ldc 247, 2) := by decide +kernel
theorem dX4_checkWeather_17 : decode cX4_checkWeather 17 = .ok (.invokespecial 96, 3) := by decide +kernel
theorem dX4_checkWeather_20 : decode cX4_checkWeather 20 = .ok (.athrow, 1) := by decide +kernel
theorem dX4_checkWeather_21 : decode cX4_checkWeather 21 = .ok (.iload_n 1, 1) := by decide +kernel
theorem dX4_checkWeather_22 : decode cX4_checkWeather 22 = .ok (.ifCond .lt 9, 3) := by decide +kernel
theorem dX4_checkWeather_25 : decode cX4_checkWeather 25 = .ok (.iload_n 1, 1) := by decide +kernel
theorem dX4_checkWeather_26 : decode cX4_checkWeather 26 = .ok (.bipush 120, 2) := by decide +kernel
theorem dX4_checkWeather_28 : decode cX4_checkWeather 28 = .ok (.if_icmp .le 13, 3) := by decide +kernel
theorem dX4_checkWeather_31 : decode cX4_checkWeather 31 = .ok (.new 92, 3) := by decide +kernel
theorem dX4_checkWeather_34 : decode cX4_checkWeather 34 = .ok (.dup, 1) := by decide +kernel
theorem dX4_checkWeather_35 : decode cX4_checkWeather 35 = .ok (.ldc 249, 2) := by decide +kernel
theorem dX4_checkWeather_37 : decode cX4_checkWeather 37 = .ok (.invokespecial 96, 3) := by decide +kernel
theorem dX4_checkWeather_40 : decode cX4_checkWeather 40 = .ok (.athrow, 1) := by decide +kernel
theorem dX4_checkWeather_41 : decode cX4_checkWeather 41 = .ok (.iload_n 2, 1) := by decide +kernel
theorem dX4_checkWeather_42 : decode cX4_checkWeather 42 = .ok (.ifCond .lt 8, 3) := by decide +kernel
theorem dX4_checkWeather_45 : decode cX4_checkWeather 45 = .ok (.iload_n 2, 1) := by decide +kernel
theorem dX4_checkWeather_46 : decode cX4_checkWeather 46 = .ok (.iconst 4, 1) := by decide +kernel
theorem dX4_checkWeather_47 : decode cX4_checkWeather 47 = .ok (.if_icmp .lt 13, 3) := by decide +kernel
theorem dX4_checkWeather_50 : decode cX4_checkWeather 50 = .ok (.new 92, 3) := by decide +kernel
theorem dX4_checkWeather_53 : decode cX4_checkWeather 53 = .ok (.dup, 1) := by decide +kernel
theorem dX4_checkWeather_54 : decode cX4_checkWeather 54 = .ok (.ldc 251, 2) := by decide +kernel
theorem dX4_checkWeather_56 : decode cX4_checkWeather 56 = .ok (.invokespecial 96, 3) := by decide +kernel
theorem dX4_checkWeather_59 : decode cX4_checkWeather 59 = .ok (.athrow, 1) := by decide +kernel
theorem dX4_checkWeather_60 : decode cX4_checkWeather 60 = .ok (.iload_n 3, 1) := by decide +kernel
theorem dX4_checkWeather_61 : decode cX4_checkWeather 61 = .ok (.bipush (-30), 2) := by decide +kernel
theorem dX4_checkWeather_63 : decode cX4_checkWeather 63 = .ok (.if_icmp .lt 9, 3) := by decide +kernel
theorem dX4_checkWeather_66 : decode cX4_checkWeather 66 = .ok (.iload_n 3, 1) := by decide +kernel
theorem dX4_checkWeather_67 : decode cX4_checkWeather 67 = .ok (.bipush 15, 2) := by decide +kernel
