set_option maxRecDepth 20000 in
theorem gX4_placeOf_X4_isShown : GoodIn wsX4_placeOf (wsV RX4 71 RX4 yX4_isShown wsX4_isShown) := goodIn_app (goodIn_of _ (by decide +kernel)) ggX4_placeOf_X4_isShown
theorem dX4_placeOf_0 : decode cX4_placeOf 0 = .ok (.iconst 0, 1) := by decide +kernel
theorem dX4_placeOf_1 : decode cX4_placeOf 1 = .ok (.istore 4, 2) := by decide +kernel
theorem dX4_placeOf_3 : decode cX4_placeOf 3 = .ok (.iconst 0, 1) := by decide +kernel
theorem dX4_placeOf_4 : decode cX4_placeOf 4 = .ok (.istore 5, 2) := by decide +kernel
theorem dX4_placeOf_6 : decode cX4_placeOf 6 = .ok (.iload 5, 2) := by decide +kernel
theorem dX4_placeOf_8 : decode cX4_placeOf 8 = .ok (.aload_n 0, 1) := by decide +kernel
theorem dX4_placeOf_9 : decode cX4_placeOf 9 = .ok (.getfield 19, 3) := by decide +kernel
theorem dX4_placeOf_12 : decode cX4_placeOf 12 = .ok (.getfield 142, 3) := by decide +kernel
theorem dX4_placeOf_15 : decode cX4_placeOf 15 = .ok (.if_icmp .ge 60, 3) := by decide +kernel
theorem dX4_placeOf_18 : decode cX4_placeOf 18 = .ok (.aload_n 0, 1) := by decide +kernel
theorem dX4_placeOf_19 : decode cX4_placeOf 19 = .ok (.getfield 19, 3) := by decide +kernel
theorem dX4_placeOf_22 : decode cX4_placeOf 22 = .ok (.getfield 145, 3) := by decide +kernel
theorem dX4_placeOf_25 : decode cX4_placeOf 25 = .ok (.iload 5, 2) := by decide +kernel
theorem dX4_placeOf_27 : decode cX4_placeOf 27 = .ok (.iaload, 1) := by decide +kernel
theorem dX4_placeOf_28 : decode cX4_placeOf 28 = .ok (.istore 6, 2) := by decide +kernel
theorem dX4_placeOf_30 : decode cX4_placeOf 30 = .ok (.aload_n 0, 1) := by decide +kernel
theorem dX4_placeOf_31 : decode cX4_placeOf 31 = .ok (.getfield 19, 3) := by decide +kernel
theorem dX4_placeOf_34 : decode cX4_placeOf 34 = .ok (.getfield 148, 3) := by decide +kernel
theorem dX4_placeOf_37 : decode cX4_placeOf 37 = .ok (.iload 6, 2) := by decide +kernel
theorem dX4_placeOf_39 : decode cX4_placeOf 39 = .ok (.iaload, 1) := by decide +kernel
theorem dX4_placeOf_40 : decode cX4_placeOf 40 = .ok (.iload_n 1, 1) := by decide +kernel
theorem dX4_placeOf_41 : decode cX4_placeOf 41 = .ok (.if_icmp .ne 28, 3) := by decide +kernel
theorem dX4_placeOf_44 : decode cX4_placeOf 44 = .ok (.iload_n 3, 1) := by decide +kernel
theorem dX4_placeOf_45 : decode cX4_placeOf 45 = .ok (.ifCond .ne 12, 3) := by decide +kernel
theorem dX4_placeOf_48 : decode cX4_placeOf 48 = .ok (.aload_n 0, 1) := by decide +kernel
theorem dX4_placeOf_49 : decode cX4_placeOf 49 = .ok (.iload 6, 2) := by decide +kernel
theorem dX4_placeOf_51 : decode cX4_placeOf 51 = .ok (.invokevirtual 71, 3) := by decide +kernel
theorem dX4_placeOf_54 : decode cX4_placeOf 54 = .ok (.ifCond .eq 15, 3) := by decide +kernel
theorem dX4_placeOf_57 : decode cX4_placeOf 57 = .ok (.iload 4, 2) := by decide +kernel
theorem dX4_placeOf_59 : decode cX4_placeOf 59 = .ok (.iload_n 2, 1) := by decide +kernel
theorem dX4_placeOf_60 : decode cX4_placeOf 60 = .ok (.if_icmp .ne 6, 3) := by decide +kernel
theorem dX4_placeOf_63 : decode cX4_placeOf 63 = .ok (.iload 6, 2) := by decide +kernel
theorem dX4_placeOf_65 : decode cX4_placeOf 65 = .ok (.ireturn, 1) := by decide +kernel
theorem dX4_placeOf_66 : decode cX4_placeOf 66 = .ok (.iinc 4 1, 3) := by decide +kernel
theorem dX4_placeOf_69 : decode cX4_placeOf 69 = .ok (.iinc 5 1, 3) := by decide +kernel
theorem dX4_placeOf_72 : decode cX4_placeOf 72 = .ok (.goto (-66), 3) := by decide +kernel
theorem dX4_placeOf_75 : decode cX4_placeOf 75 = .ok (.iconst (-1), 1) := by decide +kernel
theorem dX4_placeOf_76 : decode cX4_placeOf 76 = .ok (.ireturn, 1) := by decide +kernel
set_option maxRecDepth 20000 in
theorem ggX4_howMany_X4_isOfKey : GoodIn wsX4_howMany wsX4_isOfKey := goodIn_r _ [8, 1, 9, 10, 11, 12, 13, 14, 15, 16, 17, 18, 36, 37, 38, 39, 40, 41, 42, 43, 44, 45, 46] (by decide +kernel) (by decide +kernel)
set_option maxRecDepth 20000 in
theorem gX4_howMany_X4_isOfKey : GoodIn wsX4_howMany (wsV RX4 101 RX4 yX4_isOfKey wsX4_isOfKey) := goodIn_app (goodIn_of _ (by decide +kernel)) ggX4_howMany_X4_isOfKey
set_option maxRecDepth 20000 in
theorem ggX4_howMany_X4_isShown : GoodIn wsX4_howMany wsX4_isShown := goodIn_r _ [22, 23, 24, 25, 7, 26, 1, 27, 28, 9, 10, 11, 12, 13, 14, 29, 30, 31, 32, 33, 34, 35, 36, 37, 38, 39, 40, 41, 42, 43, 44, 45, 46, 47, 48, 49, 50, 51, 52] (by decide +kernel) (by decide +kernel)
set_option maxRecDepth 20000 in
theorem gX4_howMany_X4_isShown : GoodIn wsX4_howMany (wsV RX4 71 RX4 yX4_isShown wsX4_isShown) := goodIn_app (goodIn_of _ (by decide +kernel)) ggX4_howMany_X4_isShown
theorem dX4_howMany_0 : decode cX4_howMany 0 = .ok (.iconst 0, 1) := by decide +kernel
theorem dX4_howMany_1 : decode cX4_howMany 1 = .ok (.istore 4, 2) := by decide +kernel
theorem dX4_howMany_3 : decode cX4_howMany 3 = .ok (.iconst 0, 1) := by decide +kernel
theorem dX4_howMany_4 : decode cX4_howMany 4 = .ok (.istore 5, 2) := by decide +kernel
theorem dX4_howMany_6 : decode cX4_howMany 6 = .ok (.iload 5, 2) := by decide +kernel
theorem dX4_howMany_8 : decode cX4_howMany 8 = .ok (.aload_n 0, 1) := by decide +kernel
theorem dX4_howMany_9 : decode cX4_howMany 9 = .ok (.getfield 19, 3) := by decide +kernel
theorem dX4_howMany_12 : decode cX4_howMany 12 = .ok (.getfield 142, 3) := by decide +kernel
theorem dX4_howMany_15 : decode cX4_howMany 15 = .ok (.if_icmp .ge 45, 3) := by decide +kernel
theorem dX4_howMany_18 : decode cX4_howMany 18 = .ok (.aload_n 0, 1) := by decide +kernel
theorem dX4_howMany_19 : decode cX4_howMany 19 = .ok (.getfield 19, 3) := by decide +kernel
theorem dX4_howMany_22 : decode cX4_howMany 22 = .ok (.getfield 145, 3) := by decide +kernel
theorem dX4_howMany_25 : decode cX4_howMany 25 = .ok (.iload 5, 2) := by decide +kernel
theorem dX4_howMany_27 : decode cX4_howMany 27 = .ok (.iaload, 1) := by decide +kernel
theorem dX4_howMany_28 : decode cX4_howMany 28 = .ok (.istore 6, 2) := by decide +kernel
theorem dX4_howMany_30 : decode cX4_howMany 30 = .ok (.aload_n 0, 1) := by decide +kernel
theorem dX4_howMany_31 : decode cX4_howMany 31 = .ok (.iload 6, 2) := by decide +kernel
theorem dX4_howMany_33 : decode cX4_howMany 33 = .ok (.iload_n 1, 1) := by decide +kernel
theorem dX4_howMany_34 : decode cX4_howMany 34 = .ok (.iload_n 2, 1) := by decide +kernel
theorem dX4_howMany_35 : decode cX4_howMany 35 = .ok (.invokevirtual 101, 3) := by decide +kernel
theorem dX4_howMany_38 : decode cX4_howMany 38 = .ok (.ifCond .eq 16, 3) := by decide +kernel
theorem dX4_howMany_41 : decode cX4_howMany 41 = .ok (.aload_n 0, 1) := by decide +kernel
theorem dX4_howMany_42 : decode cX4_howMany 42 = .ok (.iload 6, 2) := by decide +kernel
theorem dX4_howMany_44 : decode cX4_howMany 44 = .ok (.invokevirtual 71, 3) := by decide +kernel
theorem dX4_howMany_47 : decode cX4_howMany 47 = .ok (.iload_n 3, 1) := by decide +kernel
theorem dX4_howMany_48 : decode cX4_howMany 48 = .ok (.if_icmp .ne 6, 3) := by decide +kernel
theorem dX4_howMany_51 : decode cX4_howMany 51 = .ok (.iinc 4 1, 3) := by decide +kernel
theorem dX4_howMany_54 : decode cX4_howMany 54 = .ok (.iinc 5 1, 3) := by decide +kernel
theorem dX4_howMany_57 : decode cX4_howMany 57 = .ok (.goto (-51), 3) := by decide +kernel
theorem dX4_howMany_60 : decode cX4_howMany 60 = .ok (.iload 4, 2) := by decide +kernel
theorem dX4_howMany_62 : decode cX4_howMany 62 = .ok (.ireturn, 1) := by decide +kernel
set_option maxRecDepth 20000 in
theorem ggX4_howManyShown_X4_isShown : GoodIn wsX4_howManyShown wsX4_isShown := goodIn_r _ [8, 9, 10, 11, 7, 12, 1, 13, 14, 15, 16, 17, 18, 19, 20, 21, 22, 23, 24, 25, 26, 27, 28, 29, 30, 31, 32, 33, 34, 35, 36, 37, 38, 39, 40, 41, 42, 43, 44] (by decide +kernel) (by decide +kernel)
set_option maxRecDepth 20000 in
theorem gX4_howManyShown_X4_isShown : GoodIn wsX4_howManyShown (wsV RX4 71 RX4 yX4_isShown wsX4_isShown) := goodIn_app (goodIn_of _ (by decide +kernel)) ggX4_howManyShown_X4_isShown
theorem dX4_howManyShown_0 : decode cX4_howManyShown 0 = .ok (.iconst 0, 1) := by decide +kernel
theorem dX4_howManyShown_1 : decode cX4_howManyShown 1 = .ok (.istore_n 1, 1) := by decide +kernel
theorem dX4_howManyShown_2 : decode cX4_howManyShown 2 = .ok (.iconst 0, 1) := by decide +kernel
theorem dX4_howManyShown_3 : decode cX4_howManyShown 3 = .ok (.istore_n 2, 1) := by decide +kernel
theorem dX4_howManyShown_4 : decode cX4_howManyShown 4 = .ok (.iload_n 2, 1) := by decide +kernel
theorem dX4_howManyShown_5 : decode cX4_howManyShown 5 = .ok (.aload_n 0, 1) := by decide +kernel
theorem dX4_howManyShown_6 : decode cX4_howManyShown 6 = .ok (.getfield 19, 3) := by decide +kernel
theorem dX4_howManyShown_9 : decode cX4_howManyShown 9 = .ok (.getfield 142, 3) := by decide +kernel
theorem dX4_howManyShown_12 : decode cX4_howManyShown 12 = .ok (.if_icmp .ge 28, 3) := by decide +kernel
theorem dX4_howManyShown_15 : decode cX4_howManyShown 15 = .ok (.aload_n 0, 1) := by decide +kernel
theorem dX4_howManyShown_16 : decode cX4_howManyShown 16 = .ok (.aload_n 0, 1) := by decide +kernel
theorem dX4_howManyShown_17 : decode cX4_howManyShown 17 = .ok (.getfield 19, 3) := by decide +kernel
theorem dX4_howManyShown_20 : decode cX4_howManyShown 20 = .ok (.getfield 145, 3) := by decide +kernel
theorem dX4_howManyShown_23 : decode cX4_howManyShown 23 = .ok (.iload_n 2, 1) := by decide +kernel
theorem dX4_howManyShown_24 : decode cX4_howManyShown 24 = .ok (.iaload, 1) := by decide +kernel
theorem dX4_howManyShown_25 : decode cX4_howManyShown 25 = .ok (.invokevirtual 71, 3) := by decide +kernel
theorem dX4_howManyShown_28 : decode cX4_howManyShown 28 = .ok (.ifCond .eq 6, 3) := by decide +kernel
theorem dX4_howManyShown_31 : decode cX4_howManyShown 31 = .ok (.iinc 1 1, 3) := by decide +kernel
theorem dX4_howManyShown_34 : decode cX4_howManyShown 34 = .ok (.iinc 2 1, 3) := by decide +kernel
theorem dX4_howManyShown_37 : decode cX4_howManyShown 37 = .ok (.goto (-33), 3) := by decide +kernel
theorem dX4_howManyShown_40 : decode cX4_howManyShown 40 = .ok (.iload_n 1, 1) := by decide +kernel
theorem dX4_howManyShown_41 : decode cX4_howManyShown 41 = .ok (.ireturn, 1) := by decide +kernel
set_option maxRecDepth 20000 in
theorem ggX4_bring_X1_leastFree : GoodIn wsX4_bring wsX1_leastFree := goodIn_r _ [6, 7, 8, 9, 5, 10, 11, 48, 49, 50, 51, 52, 53] (by decide +kernel) (by decide +kernel)
set_option maxRecDepth 20000 in
theorem gX4_bring_X1_leastFree : GoodIn wsX4_bring (wsV RX4 209 RX1 yX1_leastFree wsX1_leastFree) := goodIn_app (goodIn_of _ (by decide +kernel)) ggX4_bring_X1_leastFree
set_option maxRecDepth 20000 in
theorem ggX4_bring_X1_take : GoodIn wsX4_bring wsX1_take := goodIn_r _ [15, 11, 16, 17, 48, 49, 50, 51, 52, 53] (by decide +kernel) (by decide +kernel)
set_option maxRecDepth 20000 in
theorem gX4_bring_X1_take : GoodIn wsX4_bring (wsV RX4 168 RX1 yX1_take wsX1_take) := goodIn_app (goodIn_of _ (by decide +kernel)) ggX4_bring_X1_take
set_option maxRecDepth 20000 in
theorem ggX4_bring_X4_write : GoodIn wsX4_bring wsX4_write := goodIn_r _ [22, 1, 23, 24, 25, 26, 27, 28, 5, 29, 11, 30, 31, 32, 21, 33, 34, 35, 36, 37, 38, 39, 40, 41, 42, 43, 44, 45, 46, 47, 48, 49, 50, 51, 52, 53, 54, 55, 56, 57, 58, 59] (by decide +kernel) (by decide +kernel)
set_option maxRecDepth 20000 in
theorem gX4_bring_X4_write : GoodIn wsX4_bring (wsV RX4 78 RX4 yX4_write wsX4_write) := goodIn_app (goodIn_of _ (by decide +kernel)) ggX4_bring_X4_write
theorem dX4_bring_0 : decode cX4_bring 0 = .ok (.aload_n 0, 1) := by decide +kernel
theorem dX4_bring_1 : decode cX4_bring 1 = .ok (.getfield 19, 3) := by decide +kernel
theorem dX4_bring_4 : decode cX4_bring 4 = .ok (.invokevirtual 209, 3) := by decide +kernel
theorem dX4_bring_7 : decode cX4_bring 7 = .ok (.istore_n 3, 1) := by decide +kernel
theorem dX4_bring_8 : decode cX4_bring 8 = .ok (.iload_n 3, 1) := by decide +kernel
theorem dX4_bring_9 : decode cX4_bring 9 = .ok (.iconst (-1), 1) := by decide +kernel
theorem dX4_bring_10 : decode cX4_bring 10 = .ok (.if_icmp .ne 5, 3) := by decide +kernel
theorem dX4_bring_13 : decode cX4_bring 13 = .ok (.iconst 0, 1) := by decide +kernel
theorem dX4_bring_14 : decode cX4_bring 14 = .ok (.ireturn, 1) := by decide +kernel
theorem dX4_bring_15 : decode cX4_bring 15 = .ok (.aload_n 0, 1) := by decide +kernel
theorem dX4_bring_16 : decode cX4_bring 16 = .ok (.getfield 19, 3) := by decide +kernel
theorem dX4_bring_19 : decode cX4_bring 19 = .ok (.iload_n 3, 1) := by decide +kernel
theorem dX4_bring_20 : decode cX4_bring 20 = .ok (.iload_n 1, 1) := by decide +kernel
theorem dX4_bring_21 : decode cX4_bring 21 = .ok (.invokevirtual 168, 3) := by decide +kernel
theorem dX4_bring_24 : decode cX4_bring 24 = .ok (.aload_n 0, 1) := by decide +kernel
theorem dX4_bring_25 : decode cX4_bring 25 = .ok (.iload_n 3, 1) := by decide +kernel
theorem dX4_bring_26 : decode cX4_bring 26 = .ok (.iload_n 2, 1) := by decide +kernel
theorem dX4_bring_27 : decode cX4_bring 27 = .ok (.invokevirtual 78, 3) := by decide +kernel
theorem dX4_bring_30 : decode cX4_bring 30 = .ok (.iconst 1, 1) := by decide +kernel
theorem dX4_bring_31 : decode cX4_bring 31 = .ok (.ireturn, 1) := by decide +kernel
set_option maxRecDepth 20000 in
theorem ggX4_write_X1_stateAt : GoodIn wsX4_write wsX1_stateAt := goodIn_r _ [9, 10, 30, 31, 32, 33, 34, 35] (by decide +kernel) (by decide +kernel)
set_option maxRecDepth 20000 in
theorem gX4_write_X1_stateAt : GoodIn wsX4_write (wsV RX4 184 RX1 yX1_stateAt wsX1_stateAt) := goodIn_app (goodIn_of _ (by decide +kernel)) ggX4_write_X1_stateAt
set_option maxRecDepth 20000 in
theorem ggX4_write_X4_stamp : GoodIn wsX4_write wsX4_stamp := goodIn_r _ [15, 3, 1, 16, 17, 5, 6, 7, 8, 9, 10, 18, 19, 20, 21, 22, 23, 24, 25, 26, 27, 28, 29, 30, 31, 32, 33, 34, 35, 36, 37, 38, 39, 40, 41] (by decide +kernel) (by decide +kernel)
set_option maxRecDepth 20000 in
theorem gX4_write_X4_stamp : GoodIn wsX4_write (wsV RX4 175 RX4 yX4_stamp wsX4_stamp) := goodIn_app (goodIn_of _ (by decide +kernel)) ggX4_write_X4_stamp
theorem dX4_write_0 : decode cX4_write 0 = .ok (.aload_n 0, 1) := by decide +kernel
theorem dX4_write_1 : decode cX4_write 1 = .ok (.getfield 19, 3) := by decide +kernel
theorem dX4_write_4 : decode cX4_write 4 = .ok (.getfield 151, 3) := by decide +kernel
theorem dX4_write_7 : decode cX4_write 7 = .ok (.iload_n 1, 1) := by decide +kernel
theorem dX4_write_8 : decode cX4_write 8 = .ok (.iload_n 2, 1) := by decide +kernel
theorem dX4_write_9 : decode cX4_write 9 = .ok (.iastore, 1) := by decide +kernel
theorem dX4_write_10 : decode cX4_write 10 = .ok (.aload_n 0, 1) := by decide +kernel
theorem dX4_write_11 : decode cX4_write 11 = .ok (.iload_n 1, 1) := by decide +kernel
theorem dX4_write_12 : decode cX4_write 12 = .ok (.aload_n 0, 1) := by decide +kernel
theorem dX4_write_13 : decode cX4_write 13 = .ok (.getfield 12, 3) := by decide +kernel
theorem dX4_write_16 : decode cX4_write 16 = .ok (.getfield 130, 3) := by decide +kernel
theorem dX4_write_19 : decode cX4_write 19 = .ok (.aload_n 0, 1) := by decide +kernel
theorem dX4_write_20 : decode cX4_write 20 = .ok (.getfield 19, 3) := by decide +kernel
theorem dX4_write_23 : decode cX4_write 23 = .ok (.iload_n 1, 1) := by decide +kernel
theorem dX4_write_24 : decode cX4_write 24 = .ok (.invokevirtual 184, 3) := by decide +kernel
theorem dX4_write_27 : decode cX4_write 27 = .ok (.iaload, 1) := by decide +kernel
theorem dX4_write_28 : decode cX4_write 28 = .ok (.invokevirtual 175, 3) := by decide +kernel
theorem dX4_write_31 : decode cX4_write 31 = .ok (.return_, 1) := by decide +kernel
set_option maxRecDepth 20000 in
theorem ggX4_stamp_X1_stateAt : GoodIn wsX4_stamp wsX1_stateAt := goodIn_r _ [9, 10, 23, 24, 25, 26, 27, 28] (by decide +kernel) (by decide +kernel)
set_option maxRecDepth 20000 in
theorem gX4_stamp_X1_stateAt : GoodIn wsX4_stamp (wsV RX4 184 RX1 yX1_stateAt wsX1_stateAt) := goodIn_app (goodIn_of _ (by decide +kernel)) ggX4_stamp_X1_stateAt
set_option maxRecDepth 20000 in
theorem ggX4_stamp_X3_timeOf : GoodIn wsX4_stamp wsX3_timeOf := goodIn_r _ [15, 16, 17, 29, 30, 31, 32, 33, 34] (by decide +kernel) (by decide +kernel)
set_option maxRecDepth 20000 in
theorem gX4_stamp_X3_timeOf : GoodIn wsX4_stamp (wsV RX4 206 RX3 yX3_timeOf wsX3_timeOf) := goodIn_app (goodIn_of _ (by decide +kernel)) ggX4_stamp_X3_timeOf
theorem dX4_stamp_0 : decode cX4_stamp 0 = .ok (.aload_n 0, 1) := by decide +kernel
theorem dX4_stamp_1 : decode cX4_stamp 1 = .ok (.getfield 12, 3) := by decide +kernel
theorem dX4_stamp_4 : decode cX4_stamp 4 = .ok (.aload_n 0, 1) := by decide +kernel
theorem dX4_stamp_5 : decode cX4_stamp 5 = .ok (.getfield 19, 3) := by decide +kernel
theorem dX4_stamp_8 : decode cX4_stamp 8 = .ok (.iload_n 1, 1) := by decide +kernel
theorem dX4_stamp_9 : decode cX4_stamp 9 = .ok (.invokevirtual 184, 3) := by decide +kernel
theorem dX4_stamp_12 : decode cX4_stamp 12 = .ok (.invokevirtual 206, 3) := by decide +kernel
theorem dX4_stamp_15 : decode cX4_stamp 15 = .ok (.istore_n 3, 1) := by decide +kernel
theorem dX4_stamp_16 : decode cX4_stamp 16 = .ok (.aload_n 0, 1) := by decide +kernel
theorem dX4_stamp_17 : decode cX4_stamp 17 = .ok (.getfield 19, 3) := by decide +kernel
theorem dX4_stamp_20 : decode cX4_stamp 20 = .ok (.getfield 212, 3) := by decide +kernel
theorem dX4_stamp_23 : decode cX4_stamp 23 = .ok (.iload_n 1, 1) := by decide +kernel
theorem dX4_stamp_24 : decode cX4_stamp 24 = .ok (.iload_n 3, 1) := by decide +kernel
theorem dX4_stamp_25 : decode cX4_stamp 25 = .ok (.iastore, 1) := by decide +kernel
theorem dX4_stamp_26 : decode cX4_stamp 26 = .ok (.aload_n 0, 1) := by decide +kernel
theorem dX4_stamp_27 : decode cX4_stamp 27 = .ok (.getfield 19, 3) := by decide +kernel
theorem dX4_stamp_30 : decode cX4_stamp 30 = .ok (.getfield 187, 3) := by decide +kernel
theorem dX4_stamp_33 : decode cX4_stamp 33 = .ok (.iload_n 1, 1) := by decide +kernel
theorem dX4_stamp_34 : decode cX4_stamp 34 = .ok (.iload_n 3, 1) := by decide +kernel
theorem dX4_stamp_35 : decode cX4_stamp 35 = .ok (.iload_n 2, 1) := by decide +kernel
theorem dX4_stamp_36 : decode cX4_stamp 36 = .ok (.iadd, 1) := by decide +kernel
theorem dX4_stamp_37 : decode cX4_stamp 37 = .ok (.iastore, 1) := by decide +kernel
theorem dX4_stamp_38 : decode cX4_stamp 38 = .ok (.return_, 1) := by decide +kernel
set_option maxRecDepth 20000 in
theorem ggX4_read_X1_stateAt : GoodIn wsX4_read wsX1_stateAt := goodIn_r _ [10, 11, 42, 43, 44, 45, 46, 47] (by decide +kernel) (by decide +kernel)
set_option maxRecDepth 20000 in
theorem gX4_read_X1_stateAt : GoodIn wsX4_read (wsV RX4 184 RX1 yX1_stateAt wsX1_stateAt) := goodIn_app (goodIn_of _ (by decide +kernel)) ggX4_read_X1_stateAt
set_option maxRecDepth 20000 in
theorem ggX4_read_X3_isStampedByReads : GoodIn wsX4_read wsX3_isStampedByReads := goodIn_r _ [16, 17, 36, 37, 38, 39, 40, 41] (by decide +kernel) (by decide +kernel)
set_option maxRecDepth 20000 in
theorem gX4_read_X3_isStampedByReads : GoodIn wsX4_read (wsV RX4 215 RX3 yX3_isStampedByReads wsX3_isStampedByReads) := goodIn_app (goodIn_of _ (by decide +kernel)) ggX4_read_X3_isStampedByReads
set_option maxRecDepth 20000 in
theorem ggX4_read_X4_stamp : GoodIn wsX4_read wsX4_stamp := goodIn_r _ [22, 3, 2, 23, 24, 6, 7, 8, 9, 10, 11, 25, 26, 27, 15, 28, 29, 30, 31, 32, 33, 34, 35, 42, 43, 44, 45, 46, 47, 36, 37, 38, 39, 40, 41] (by decide +kernel) (by decide +kernel)
set_option maxRecDepth 20000 in
theorem gX4_read_X4_stamp : GoodIn wsX4_read (wsV RX4 175 RX4 yX4_stamp wsX4_stamp) := goodIn_app (goodIn_of _ (by decide +kernel)) ggX4_read_X4_stamp
theorem dX4_read_0 : decode cX4_read 0 = .ok (.iload_n 1, 1) := by decide +kernel
theorem dX4_read_1 : decode cX4_read 1 = .ok (.iconst (-1), 1) := by decide +kernel
theorem dX4_read_2 : decode cX4_read 2 = .ok (.if_icmp .ne 6, 3) := by decide +kernel
theorem dX4_read_5 : decode cX4_read 5 = .ok (.ldc 114, 2) := by decide +kernel
theorem dX4_read_7 : decode cX4_read 7 = .ok (.ireturn, 1) := by decide +kernel
theorem dX4_read_8 : decode cX4_read 8 = .ok (.aload_n 0, 1) := by decide +kernel
theorem dX4_read_9 : decode cX4_read 9 = .ok (.getfield 19, 3) := by decide +kernel
theorem dX4_read_12 : decode cX4_read 12 = .ok (.iload_n 1, 1) := by decide +kernel
theorem dX4_read_13 : decode cX4_read 13 = .ok (.invokevirtual 184, 3) := by decide +kernel
theorem dX4_read_16 : decode cX4_read 16 = .ok (.istore_n 2, 1) := by decide +kernel
theorem dX4_read_17 : decode cX4_read 17 = .ok (.aload_n 0, 1) := by decide +kernel
theorem dX4_read_18 : decode cX4_read 18 = .ok (.getfield 12, 3) := by decide +kernel
theorem dX4_read_21 : decode cX4_read 21 = .ok (.iload_n 2, 1) := by decide +kernel
theorem dX4_read_22 : decode cX4_read 22 = .ok (.invokevirtual 215, 3) := by decide +kernel
theorem dX4_read_25 : decode cX4_read 25 = .ok (.ifCond .eq 17, 3) := by decide +kernel
theorem dX4_read_28 : decode cX4_read 28 = .ok (.aload_n 0, 1) := by decide +kernel
theorem dX4_read_29 : decode cX4_read 29 = .ok (.iload_n 1, 1) := by decide +kernel
theorem dX4_read_30 : decode cX4_read 30 = .ok (.aload_n 0, 1) := by decide +kernel
theorem dX4_read_31 : decode cX4_read 31 = .ok (.getfield 12, 3) := by decide +kernel
theorem dX4_read_34 : decode cX4_read 34 = .ok (.getfield 130, 3) := by decide +kernel
theorem dX4_read_37 : decode cX4_read 37 = .ok (.iload_n 2, 1) := by decide +kernel
theorem dX4_read_38 : decode cX4_read 38 = .ok (.iaload, 1) := by decide +kernel
theorem dX4_read_39 : decode cX4_read 39 = .ok (.invokevirtual 175, 3) := by decide +kernel
theorem dX4_read_42 : decode cX4_read 42 = .ok (.aload_n 0, 1) := by decide +kernel
theorem dX4_read_43 : decode cX4_read 43 = .ok (.getfield 19, 3) := by decide +kernel
theorem dX4_read_46 : decode cX4_read 46 = .ok (.getfield 151, 3) := by decide +kernel
theorem dX4_read_49 : decode cX4_read 49 = .ok (.iload_n 1, 1) := by decide +kernel
theorem dX4_read_50 : decode cX4_read 50 = .ok (.iaload, 1) := by decide +kernel
theorem dX4_read_51 : decode cX4_read 51 = .ok (.ireturn, 1) := by decide +kernel
set_option maxRecDepth 20000 in
theorem ggX4_tell_X2_begin : GoodIn wsX4_tell wsX2_begin := goodIn_r _ [12, 13, 14, 15, 16, 17, 18, 11, 19, 39, 40, 41, 42] (by decide +kernel) (by decide +kernel)
set_option maxRecDepth 20000 in
theorem gX4_tell_X2_begin : GoodIn wsX4_tell (wsV RX4 218 RX2 yX2_begin wsX2_begin) := goodIn_app (goodIn_of _ (by decide +kernel)) ggX4_tell_X2_begin
set_option maxRecDepth 20000 in
theorem ggX4_tell_X1_stateAt : GoodIn wsX4_tell wsX1_stateAt := goodIn_r _ [24, 25, 43, 44, 45, 46, 47, 48] (by decide +kernel) (by decide +kernel)
set_option maxRecDepth 20000 in
theorem gX4_tell_X1_stateAt : GoodIn wsX4_tell (wsV RX4 184 RX1 yX1_stateAt wsX1_stateAt) := goodIn_app (goodIn_of _ (by decide +kernel)) ggX4_tell_X1_stateAt
set_option maxRecDepth 20000 in
theorem ggX4_tell_X1_keyAt : GoodIn wsX4_tell wsX1_keyAt := goodIn_r _ [29, 25, 43, 44, 45, 46, 47, 48] (by decide +kernel) (by decide +kernel)
set_option maxRecDepth 20000 in
theorem gX4_tell_X1_keyAt : GoodIn wsX4_tell (wsV RX4 203 RX1 yX1_keyAt wsX1_keyAt) := goodIn_app (goodIn_of _ (by decide +kernel)) ggX4_tell_X1_keyAt
set_option maxRecDepth 20000 in
theorem ggX4_tell_X1_memberAt : GoodIn wsX4_tell wsX1_memberAt := goodIn_r _ [33, 25, 43, 44, 45, 46, 47, 48] (by decide +kernel) (by decide +kernel)
set_option maxRecDepth 20000 in
theorem gX4_tell_X1_memberAt : GoodIn wsX4_tell (wsV RX4 223 RX1 yX1_memberAt wsX1_memberAt) := goodIn_app (goodIn_of _ (by decide +kernel)) ggX4_tell_X1_memberAt
theorem dX4_tell_0 : decode cX4_tell 0 = .ok (.aload_n 0, 1) := by decide +kernel
theorem dX4_tell_1 : decode cX4_tell 1 = .ok (.getfield 26, 3) := by decide +kernel
theorem dX4_tell_4 : decode cX4_tell 4 = .ok (.invokevirtual 218, 3) := by decide +kernel
theorem dX4_tell_7 : decode cX4_tell 7 = .ok (.istore_n 2, 1) := by decide +kernel
theorem dX4_tell_8 : decode cX4_tell 8 = .ok (.aload_n 0, 1) := by decide +kernel
theorem dX4_tell_9 : decode cX4_tell 9 = .ok (.getfield 26, 3) := by decide +kernel
theorem dX4_tell_12 : decode cX4_tell 12 = .ok (.getfield 220, 3) := by decide +kernel
theorem dX4_tell_15 : decode cX4_tell 15 = .ok (.iload_n 2, 1) := by decide +kernel
theorem dX4_tell_16 : decode cX4_tell 16 = .ok (.aload_n 0, 1) := by decide +kernel
theorem dX4_tell_17 : decode cX4_tell 17 = .ok (.getfield 19, 3) := by decide +kernel
theorem dX4_tell_20 : decode cX4_tell 20 = .ok (.iload_n 1, 1) := by decide +kernel
theorem dX4_tell_21 : decode cX4_tell 21 = .ok (.invokevirtual 184, 3) := by decide +kernel
theorem dX4_tell_24 : decode cX4_tell 24 = .ok (.iastore, 1) := by decide +kernel
theorem dX4_tell_25 : decode cX4_tell 25 = .ok (.aload_n 0, 1) := by decide +kernel
theorem dX4_tell_26 : decode cX4_tell 26 = .ok (.getfield 26, 3) := by decide +kernel
theorem dX4_tell_29 : decode cX4_tell 29 = .ok (.getfield 220, 3) := by decide +kernel
theorem dX4_tell_32 : decode cX4_tell 32 = .ok (.iload_n 2, 1) := by decide +kernel
theorem dX4_tell_33 : decode cX4_tell 33 = .ok (.iconst 1, 1) := by decide +kernel
theorem dX4_tell_34 : decode cX4_tell 34 = .ok (.iadd, 1) := by decide +kernel
theorem dX4_tell_35 : decode cX4_tell 35 = .ok (.aload_n 0, 1) := by decide +kernel
theorem dX4_tell_36 : decode cX4_tell 36 = .ok (.getfield 19, 3) := by decide +kernel
theorem dX4_tell_39 : decode cX4_tell 39 = .ok (.iload_n 1, 1) := by decide +kernel
theorem dX4_tell_40 : decode cX4_tell 40 = .ok (.invokevirtual 203, 3) := by decide +kernel
theorem dX4_tell_43 : decode cX4_tell 43 = .ok (.iastore, 1) := by decide +kernel
theorem dX4_tell_44 : decode cX4_tell 44 = .ok (.aload_n 0, 1) := by decide +kernel
theorem dX4_tell_45 : decode cX4_tell 45 = .ok (.getfield 26, 3) := by decide +kernel
theorem dX4_tell_48 : decode cX4_tell 48 = .ok (.getfield 220, 3) := by decide +kernel
theorem dX4_tell_51 : decode cX4_tell 51 = .ok (.iload_n 2, 1) := by decide +kernel
theorem dX4_tell_52 : decode cX4_tell 52 = .ok (.iconst 2, 1) := by decide +kernel
theorem dX4_tell_53 : decode cX4_tell 53 = .ok (.iadd, 1) := by decide +kernel
theorem dX4_tell_54 : decode cX4_tell 54 = .ok (.aload_n 0, 1) := by decide +kernel
theorem dX4_tell_55 : decode cX4_tell 55 = .ok (.getfield 19, 3) := by decide +kernel
theorem dX4_tell_58 : decode cX4_tell 58 = .ok (.iload_n 1, 1) := by decide +kernel
theorem dX4_tell_59 : decode cX4_tell 59 = .ok (.invokevirtual 223, 3) := by decide +kernel
theorem dX4_tell_62 : decode cX4_tell 62 = .ok (.iastore, 1) := by decide +kernel
theorem dX4_tell_63 : decode cX4_tell 63 = .ok (.aload_n 0, 1) := by decide +kernel
theorem dX4_tell_64 : decode cX4_tell 64 = .ok (.getfield 26, 3) := by decide +kernel
theorem dX4_tell_67 : decode cX4_tell 67 = .ok (.getfield 220, 3) := by decide +kernel
theorem dX4_tell_70 : decode cX4_tell 70 = .ok (.iload_n 2, 1) := by decide +kernel
theorem dX4_tell_71 : decode cX4_tell 71 = .ok (.iconst 3, 1) := by decide +kernel
theorem dX4_tell_72 : decode cX4_tell 72 = .ok (.iadd, 1) := by decide +kernel
theorem dX4_tell_73 : decode cX4_tell 73 = .ok (.aload_n 0, 1) := by decide +kernel
theorem dX4_tell_74 : decode cX4_tell 74 = .ok (.getfield 19, 3) := by decide +kernel
theorem dX4_tell_77 : decode cX4_tell 77 = .ok (.getfield 151, 3) := by decide +kernel
theorem dX4_tell_80 : decode cX4_tell 80 = .ok (.iload_n 1, 1) := by decide +kernel
theorem dX4_tell_81 : decode cX4_tell 81 = .ok (.iaload, 1) := by decide +kernel
theorem dX4_tell_82 : decode cX4_tell 82 = .ok (.iastore, 1) := by decide +kernel
theorem dX4_tell_83 : decode cX4_tell 83 = .ok (.aload_n 0, 1) := by decide +kernel
theorem dX4_tell_84 : decode cX4_tell 84 = .ok (.getfield 26, 3) := by decide +kernel
theorem dX4_tell_87 : decode cX4_tell 87 = .ok (.getfield 220, 3) := by decide +kernel
theorem dX4_tell_90 : decode cX4_tell 90 = .ok (.iload_n 2, 1) := by decide +kernel
theorem dX4_tell_91 : decode cX4_tell 91 = .ok (.iconst 4, 1) := by decide +kernel
theorem dX4_tell_92 : decode cX4_tell 92 = .ok (.iadd, 1) := by decide +kernel
theorem dX4_tell_93 : decode cX4_tell 93 = .ok (.aload_n 0, 1) := by decide +kernel
theorem dX4_tell_94 : decode cX4_tell 94 = .ok (.getfield 19, 3) := by decide +kernel
theorem dX4_tell_97 : decode cX4_tell 97 = .ok (.getfield 187, 3) := by decide +kernel
theorem dX4_tell_100 : decode cX4_tell 100 = .ok (.iload_n 1, 1) := by decide +kernel
theorem dX4_tell_101 : decode cX4_tell 101 = .ok (.iaload, 1) := by decide +kernel
theorem dX4_tell_102 : decode cX4_tell 102 = .ok (.iastore, 1) := by decide +kernel
theorem dX4_tell_103 : decode cX4_tell 103 = .ok (.aload_n 0, 1) := by decide +kernel
theorem dX4_tell_104 : decode cX4_tell 104 = .ok (.getfield 26, 3) := by decide +kernel
theorem dX4_tell_107 : decode cX4_tell 107 = .ok (.getfield 220, 3) := by decide +kernel
theorem dX4_tell_110 : decode cX4_tell 110 = .ok (.iload_n 2, 1) := by decide +kernel
theorem dX4_tell_111 : decode cX4_tell 111 = .ok (.iconst 5, 1) := by decide +kernel
theorem dX4_tell_112 : decode cX4_tell 112 = .ok (.iadd, 1) := by decide +kernel
theorem dX4_tell_113 : decode cX4_tell 113 = .ok (.aload_n 0, 1) := by decide +kernel
theorem dX4_tell_114 : decode cX4_tell 114 = .ok (.getfield 12, 3) := by decide +kernel
theorem dX4_tell_117 : decode cX4_tell 117 = .ok (.getfield 119, 3) := by decide +kernel
theorem dX4_tell_120 : decode cX4_tell 120 = .ok (.iconst 0, 1) := by decide +kernel
theorem dX4_tell_121 : decode cX4_tell 121 = .ok (.iaload, 1) := by decide +kernel
theorem dX4_tell_122 : decode cX4_tell 122 = .ok (.iastore, 1) := by decide +kernel
theorem dX4_tell_123 : decode cX4_tell 123 = .ok (.return_, 1) := by decide +kernel
set_option maxRecDepth 20000 in
theorem ggX4_moveClock_X4_howManyShown : GoodIn wsX4_moveClock wsX4_howManyShown := goodIn_r _ [7, 8, 9, 10, 11, 12, 13, 6, 14, 15, 16, 17, 18, 19, 1, 20, 21, 22, 23, 24, 25, 26, 27, 28, 29, 30, 31, 32, 33, 34, 35, 36, 37, 44, 45, 46, 47, 48, 49, 38, 39, 40, 41, 42, 43] (by decide +kernel) (by decide +kernel)
set_option maxRecDepth 20000 in
theorem gX4_moveClock_X4_howManyShown : GoodIn wsX4_moveClock (wsV RX4 190 RX4 yX4_howManyShown wsX4_howManyShown) := goodIn_app (goodIn_of _ (by decide +kernel)) ggX4_moveClock_X4_howManyShown
theorem dX4_moveClock_0 : decode cX4_moveClock 0 = .ok (.aload_n 0, 1) := by decide +kernel
theorem dX4_moveClock_1 : decode cX4_moveClock 1 = .ok (.invokevirtual 190, 3) := by decide +kernel
theorem dX4_moveClock_4 : decode cX4_moveClock 4 = .ok (.istore_n 3, 1) := by decide +kernel
theorem dX4_moveClock_5 : decode cX4_moveClock 5 = .ok (.aload_n 0, 1) := by decide +kernel
theorem dX4_moveClock_6 : decode cX4_moveClock 6 = .ok (.getfield 12, 3) := by decide +kernel
theorem dX4_moveClock_9 : decode cX4_moveClock 9 = .ok (.getfield 119, 3) := by decide +kernel
theorem dX4_moveClock_12 : decode cX4_moveClock 12 = .ok (.iload_n 1, 1) := by decide +kernel
theorem dX4_moveClock_13 : decode cX4_moveClock 13 = .ok (.iload_n 2, 1) := by decide +kernel
theorem dX4_moveClock_14 : decode cX4_moveClock 14 = .ok (.iastore, 1) := by decide +kernel
theorem dX4_moveClock_15 : decode cX4_moveClock 15 = .ok (.iload_n 3, 1) := by decide +kernel
theorem dX4_moveClock_16 : decode cX4_moveClock 16 = .ok (.aload_n 0, 1) := by decide +kernel
theorem dX4_moveClock_17 : decode cX4_moveClock 17 = .ok (.invokevirtual 190, 3) := by decide +kernel
theorem dX4_moveClock_20 : decode cX4_moveClock 20 = .ok (.isub, 1) := by decide +kernel
theorem dX4_moveClock_21 : decode cX4_moveClock 21 = .ok (.ireturn, 1) := by decide +kernel
set_option maxRecDepth 20000 in
theorem ggX4_spanShownAnew_X1_stateAt : GoodIn wsX4_spanShownAnew wsX1_stateAt := goodIn_r _ [12, 13, 35, 36, 37, 38, 39, 40] (by decide +kernel) (by decide +kernel)
set_option maxRecDepth 20000 in
theorem gX4_spanShownAnew_X1_stateAt : GoodIn wsX4_spanShownAnew (wsV RX4 184 RX1 yX1_stateAt wsX1_stateAt) := goodIn_app (goodIn_of _ (by decide +kernel)) ggX4_spanShownAnew_X1_stateAt
set_option maxRecDepth 20000 in
theorem ggX4_spanShownAnew_X4_isShown : GoodIn wsX4_spanShownAnew wsX4_isShown := goodIn_r _ [18, 19, 20, 21, 17, 22, 1, 4, 6, 8, 9, 10, 11, 12, 13, 23, 24, 25, 26, 27, 28, 29, 30, 31, 32, 33, 34, 35, 36, 37, 38, 39, 40, 41, 42, 43, 44, 45, 46] (by decide +kernel) (by decide +kernel)
set_option maxRecDepth 20000 in
theorem gX4_spanShownAnew_X4_isShown : GoodIn wsX4_spanShownAnew (wsV RX4 71 RX4 yX4_isShown wsX4_isShown) := goodIn_app (goodIn_of _ (by decide +kernel)) ggX4_spanShownAnew_X4_isShown
theorem dX4_spanShownAnew_0 : decode cX4_spanShownAnew 0 = .ok (.iconst 0, 1) := by decide +kernel
theorem dX4_spanShownAnew_1 : decode cX4_spanShownAnew 1 = .ok (.istore_n 2, 1) := by decide +kernel
theorem dX4_spanShownAnew_2 : decode cX4_spanShownAnew 2 = .ok (.iload_n 2, 1) := by decide +kernel
theorem dX4_spanShownAnew_3 : decode cX4_spanShownAnew 3 = .ok (.aload_n 0, 1) := by decide +kernel
theorem dX4_spanShownAnew_4 : decode cX4_spanShownAnew 4 = .ok (.getfield 19, 3) := by decide +kernel
theorem dX4_spanShownAnew_7 : decode cX4_spanShownAnew 7 = .ok (.getfield 142, 3) := by decide +kernel
theorem dX4_spanShownAnew_10 : decode cX4_spanShownAnew 10 = .ok (.if_icmp .ge 67, 3) := by decide +kernel
theorem dX4_spanShownAnew_13 : decode cX4_spanShownAnew 13 = .ok (.aload_n 0, 1) := by decide +kernel
theorem dX4_spanShownAnew_14 : decode cX4_spanShownAnew 14 = .ok (.getfield 19, 3) := by decide +kernel
theorem dX4_spanShownAnew_17 : decode cX4_spanShownAnew 17 = .ok (.getfield 145, 3) := by decide +kernel
theorem dX4_spanShownAnew_20 : decode cX4_spanShownAnew 20 = .ok (.iload_n 2, 1) := by decide +kernel
theorem dX4_spanShownAnew_21 : decode cX4_spanShownAnew 21 = .ok (.iaload, 1) := by decide +kernel
theorem dX4_spanShownAnew_22 : decode cX4_spanShownAnew 22 = .ok (.istore_n 3, 1) := by decide +kernel
theorem dX4_spanShownAnew_23 : decode cX4_spanShownAnew 23 = .ok (.aload_n 0, 1) := by decide +kernel
theorem dX4_spanShownAnew_24 : decode cX4_spanShownAnew 24 = .ok (.getfield 19, 3) := by decide +kernel
theorem dX4_spanShownAnew_27 : decode cX4_spanShownAnew 27 = .ok (.iload_n 3, 1) := by decide +kernel
theorem dX4_spanShownAnew_28 : decode cX4_spanShownAnew 28 = .ok (.invokevirtual 184, 3) := by decide +kernel
theorem dX4_spanShownAnew_31 : decode cX4_spanShownAnew 31 = .ok (.iload_n 1, 1) := by decide +kernel
theorem dX4_spanShownAnew_32 : decode cX4_spanShownAnew 32 = .ok (.if_icmp .ne 39, 3) := by decide +kernel
theorem dX4_spanShownAnew_35 : decode cX4_spanShownAnew 35 = .ok (.aload_n 0, 1) := by decide +kernel
theorem dX4_spanShownAnew_36 : decode cX4_spanShownAnew 36 = .ok (.iload_n 3, 1) := by decide +kernel
theorem dX4_spanShownAnew_37 : decode cX4_spanShownAnew 37 = .ok (.invokevirtual 71, 3) := by decide +kernel
theorem dX4_spanShownAnew_40 : decode cX4_spanShownAnew 40 = .ok (.ifCond .eq 31, 3) := by decide +kernel
theorem dX4_spanShownAnew_43 : decode cX4_spanShownAnew 43 = .ok (.aload_n 0, 1) := by decide +kernel
theorem dX4_spanShownAnew_44 : decode cX4_spanShownAnew 44 = .ok (.getfield 19, 3) := by decide +kernel
theorem dX4_spanShownAnew_47 : decode cX4_spanShownAnew 47 = .ok (.getfield 187, 3) := by decide +kernel
theorem dX4_spanShownAnew_50 : decode cX4_spanShownAnew 50 = .ok (.iload_n 3, 1) := by decide +kernel
theorem dX4_spanShownAnew_51 : decode cX4_spanShownAnew 51 = .ok (.aload_n 0, 1) := by decide +kernel
theorem dX4_spanShownAnew_52 : decode cX4_spanShownAnew 52 = .ok (.getfield 19, 3) := by decide +kernel
theorem dX4_spanShownAnew_55 : decode cX4_spanShownAnew 55 = .ok (.getfield 212, 3) := by decide +kernel
theorem dX4_spanShownAnew_58 : decode cX4_spanShownAnew 58 = .ok (.iload_n 3, 1) := by decide +kernel
theorem dX4_spanShownAnew_59 : decode cX4_spanShownAnew 59 = .ok (.iaload, 1) := by decide +kernel
theorem dX4_spanShownAnew_60 : decode cX4_spanShownAnew 60 = .ok (.aload_n 0, 1) := by decide +kernel
theorem dX4_spanShownAnew_61 : decode cX4_spanShownAnew 61 = .ok (.getfield 12, 3) := by decide +kernel
theorem dX4_spanShownAnew_64 : decode cX4_spanShownAnew 64 = .ok (.getfield 130, 3) := by decide +kernel
theorem dX4_spanShownAnew_67 : decode cX4_spanShownAnew 67 = .ok (.iload_n 1, 1) := by decide +kernel
theorem dX4_spanShownAnew_68 : decode cX4_spanShownAnew 68 = .ok (.iaload, 1) := by decide +kernel
theorem dX4_spanShownAnew_69 : decode cX4_spanShownAnew 69 = .ok (.iadd, 1) := by decide +kernel
theorem dX4_spanShownAnew_70 : decode cX4_spanShownAnew 70 = .ok (.iastore, 1) := by decide +kernel
theorem dX4_spanShownAnew_71 : decode cX4_spanShownAnew 71 = .ok (.iinc 2 1, 3) := by decide +kernel
theorem dX4_spanShownAnew_74 : decode cX4_spanShownAnew 74 = .ok (.goto (-72), 3) := by decide +kernel
theorem dX4_spanShownAnew_77 : decode cX4_spanShownAnew 77 = .ok (.return_, 1) := by decide +kernel
theorem dX5_init_0 : decode cX5_init 0 = .ok (.aload_n 0, 1) := by decide +kernel
theorem dX5_init_1 : decode cX5_init 1 = .ok (.invokespecial 1, 3) := by decide +kernel
theorem dX5_init_4 : decode cX5_init 4 = .ok (.aload_n 0, 1) := by decide +kernel
theorem dX5_init_5 : decode cX5_init 5 = .ok (.bipush 6, 2) := by decide +kernel
theorem dX5_init_7 : decode cX5_init 7 = .ok (.newarray .int, 2) := by decide +kernel
theorem dX5_init_9 : decode cX5_init 9 = .ok (.putfield 7, 3) := by decide +kernel
theorem dX5_init_12 : decode cX5_init 12 = .ok (.aload_n 0, 1) := by decide +kernel
theorem dX5_init_13 : decode cX5_init 13 = .ok (.bipush 6, 2) := by decide +kernel
theorem dX5_init_15 : decode cX5_init 15 = .ok (.newarray .int, 2) := by decide +kernel
theorem dX5_init_17 : decode cX5_init 17 = .ok (.putfield 13, 3) := by decide +kernel
theorem dX5_init_20 : decode cX5_init 20 = .ok (.aload_n 0, 1) := by decide +kernel
theorem dX5_init_21 : decode cX5_init 21 = .ok (.bipush 6, 2) := by decide +kernel
theorem dX5_init_23 : decode cX5_init 23 = .ok (.newarray .int, 2) := by decide +kernel
theorem dX5_init_25 : decode cX5_init 25 = .ok (.putfield 16, 3) := by decide +kernel
theorem dX5_init_28 : decode cX5_init 28 = .ok (.aload_n 0, 1) := by decide +kernel
theorem dX5_init_29 : decode cX5_init 29 = .ok (.bipush 6, 2) := by decide +kernel
theorem dX5_init_31 : decode cX5_init 31 = .ok (.newarray .int, 2) := by decide +kernel
theorem dX5_init_33 : decode cX5_init 33 = .ok (.putfield 19, 3) := by decide +kernel
theorem dX5_init_36 : decode cX5_init 36 = .ok (.aload_n 0, 1) := by decide +kernel
theorem dX5_init_37 : decode cX5_init 37 = .ok (.iconst 2, 1) := by decide +kernel
theorem dX5_init_38 : decode cX5_init 38 = .ok (.newarray .int, 2) := by decide +kernel
theorem dX5_init_40 : decode cX5_init 40 = .ok (.putfield 22, 3) := by decide +kernel
theorem dX5_init_43 : decode cX5_init 43 = .ok (.aload_n 0, 1) := by decide +kernel
theorem dX5_init_44 : decode cX5_init 44 = .ok (.sipush 200, 3) := by decide +kernel
theorem dX5_init_47 : decode cX5_init 47 = .ok (.newarray .int, 2) := by decide +kernel
theorem dX5_init_49 : decode cX5_init 49 = .ok (.putfield 25, 3) := by decide +kernel
theorem dX5_init_52 : decode cX5_init 52 = .ok (.aload_n 0, 1) := by decide +kernel
theorem dX5_init_53 : decode cX5_init 53 = .ok (.sipush 200, 3) := by decide +kernel
theorem dX5_init_56 : decode cX5_init 56 = .ok (.newarray .int, 2) := by decide +kernel
theorem dX5_init_58 : decode cX5_init 58 = .ok (.putfield 28, 3) := by decide +kernel
theorem dX5_init_61 : decode cX5_init 61 = .ok (.aload_n 0, 1) := by decide +kernel
theorem dX5_init_62 : decode cX5_init 62 = .ok (.sipush 200, 3) := by decide +kernel
theorem dX5_init_65 : decode cX5_init 65 = .ok (.newarray .int, 2) := by decide +kernel
theorem dX5_init_67 : decode cX5_init 67 = .ok (.putfield 31, 3) := by decide +kernel
theorem dX5_init_70 : decode cX5_init 70 = .ok (.aload_n 0, 1) := by decide +kernel
theorem dX5_init_71 : decode cX5_init 71 = .ok (.sipush 200, 3) := by decide +kernel
theorem dX5_init_74 : decode cX5_init 74 = .ok (.newarray .int, 2) := by decide +kernel
theorem dX5_init_76 : decode cX5_init 76 = .ok (.putfield 34, 3) := by decide +kernel
theorem dX5_init_79 : decode cX5_init 79 = .ok (.aload_n 0, 1) := by decide +kernel
theorem dX5_init_80 : decode cX5_init 80 = .ok (.sipush 200, 3) := by decide +kernel
theorem dX5_init_83 : decode cX5_init 83 = .ok (.newarray .int, 2) := by decide +kernel
theorem dX5_init_85 : decode cX5_init 85 = .ok (.putfield 37, 3) := by decide +kernel
theorem dX5_init_88 : decode cX5_init 88 = .ok (.aload_n 0, 1) := by decide +kernel
theorem dX5_init_89 : decode cX5_init 89 = .ok (.sipush 200, 3) := by decide +kernel
theorem dX5_init_92 : decode cX5_init 92 = .ok (.newarray .int, 2) := by decide +kernel
theorem dX5_init_94 : decode cX5_init 94 = .ok (.putfield 40, 3) := by decide +kernel
theorem dX5_init_97 : decode cX5_init 97 = .ok (.aload_n 0, 1) := by decide +kernel
theorem dX5_init_98 : decode cX5_init 98 = .ok (.sipush 200, 3) := by decide +kernel
theorem dX5_init_101 : decode cX5_init 101 = .ok (.newarray .int, 2) := by decide +kernel
theorem dX5_init_103 : decode cX5_init 103 = .ok (.putfield 43, 3) := by decide +kernel
theorem dX5_init_106 : decode cX5_init 106 = .ok (.aload_n 0, 1) := by decide +kernel
theorem dX5_init_107 : decode cX5_init 107 = .ok (.sipush 900, 3) := by decide +kernel
theorem dX5_init_110 : decode cX5_init 110 = .ok (.newarray .int, 2) := by decide +kernel
theorem dX5_init_112 : decode cX5_init 112 = .ok (.putfield 46, 3) := by decide +kernel
theorem dX5_init_115 : decode cX5_init 115 = .ok (.aload_n 0, 1) := by decide +kernel
theorem dX5_init_116 : decode cX5_init 116 = .ok (.iconst 3, 1) := by decide +kernel
theorem dX5_init_117 : decode cX5_init 117 = .ok (.newarray .int, 2) := by decide +kernel
theorem dX5_init_119 : decode cX5_init 119 = .ok (.putfield 49, 3) := by decide +kernel
theorem dX5_init_122 : decode cX5_init 122 = .ok (.aload_n 0, 1) := by decide +kernel
theorem dX5_init_123 : decode cX5_init 123 = .ok (.sipush 3000, 3) := by decide +kernel
theorem dX5_init_126 : decode cX5_init 126 = .ok (.newarray .int, 2) := by decide +kernel
theorem dX5_init_128 : decode cX5_init 128 = .ok (.putfield 52, 3) := by decide +kernel
theorem dX5_init_131 : decode cX5_init 131 = .ok (.iconst 0, 1) := by decide +kernel
theorem dX5_init_132 : decode cX5_init 132 = .ok (.istore_n 1, 1) := by decide +kernel
theorem dX5_init_133 : decode cX5_init 133 = .ok (.iload_n 1, 1) := by decide +kernel
theorem dX5_init_134 : decode cX5_init 134 = .ok (.sipush 200, 3) := by decide +kernel
theorem dX5_init_137 : decode cX5_init 137 = .ok (.if_icmp .ge 17, 3) := by decide +kernel
theorem dX5_init_140 : decode cX5_init 140 = .ok (.aload_n 0, 1) := by decide +kernel
theorem dX5_init_141 : decode cX5_init 141 = .ok (.getfield 25, 3) := by decide +kernel
theorem dX5_init_144 : decode cX5_init 144 = .ok (.iload_n 1, 1) := by decide +kernel
theorem dX5_init_145 : decode cX5_init 145 = .ok (.ldc 55, 2) := by decide +kernel
theorem dX5_init_147 : decode cX5_init 147 = .ok (.iastore, 1) := by decide +kernel
theorem dX5_init_148 : decode cX5_init 148 = .ok (.iinc 1 1, 3) := by decide +kernel
theorem dX5_init_151 : decode cX5_init 151 = .ok (.goto (-18), 3) := by decide +kernel
theorem dX5_init_154 : decode cX5_init 154 = .ok (.iconst 0, 1) := by decide +kernel
theorem dX5_init_155 : decode cX5_init 155 = .ok (.istore_n 1, 1) := by decide +kernel
theorem dX5_init_156 : decode cX5_init 156 = .ok (.iload_n 1, 1) := by decide +kernel
theorem dX5_init_157 : decode cX5_init 157 = .ok (.iconst 3, 1) := by decide +kernel
theorem dX5_init_158 : decode cX5_init 158 = .ok (.if_icmp .ge 17, 3) := by decide +kernel
theorem dX5_init_161 : decode cX5_init 161 = .ok (.aload_n 0, 1) := by decide +kernel
theorem dX5_init_162 : decode cX5_init 162 = .ok (.getfield 49, 3) := by decide +kernel
theorem dX5_init_165 : decode cX5_init 165 = .ok (.iload_n 1, 1) := by decide +kernel
theorem dX5_init_166 : decode cX5_init 166 = .ok (.ldc 55, 2) := by decide +kernel
theorem dX5_init_168 : decode cX5_init 168 = .ok (.iastore, 1) := by decide +kernel
theorem dX5_init_169 : decode cX5_init 169 = .ok (.iinc 1 1, 3) := by decide +kernel
theorem dX5_init_172 : decode cX5_init 172 = .ok (.goto (-16), 3) := by decide +kernel
theorem dX5_init_175 : decode cX5_init 175 = .ok (.return_, 1) := by decide +kernel
theorem dX5_isIn_0 : decode cX5_isIn 0 = .ok (.iload_n 0, 1) := by decide +kernel
theorem dX5_isIn_1 : decode cX5_isIn 1 = .ok (.iload_n 1, 1) := by decide +kernel
theorem dX5_isIn_2 : decode cX5_isIn 2 = .ok (.if_icmp .lt 12, 3) := by decide +kernel
theorem dX5_isIn_5 : decode cX5_isIn 5 = .ok (.iload_n 0, 1) := by decide +kernel
theorem dX5_isIn_6 : decode cX5_isIn 6 = .ok (.iload_n 2, 1) := by decide +kernel
theorem dX5_isIn_7 : decode cX5_isIn 7 = .ok (.if_icmp .gt 7, 3) := by decide +kernel
theorem dX5_isIn_10 : decode cX5_isIn 10 = .ok (.iconst 1, 1) := by decide +kernel
theorem dX5_isIn_11 : decode cX5_isIn 11 = .ok (.goto 4, 3) := by decide +kernel
theorem dX5_isIn_14 : decode cX5_isIn 14 = .ok (.iconst 0, 1) := by decide +kernel
theorem dX5_isIn_15 : decode cX5_isIn 15 = .ok (.ireturn, 1) := by decide +kernel
set_option maxRecDepth 20000 in
theorem ggX5_isState_X5_isIn : GoodIn wsX5_isState wsX5_isIn := goodIn_r _ [5] (by decide +kernel) (by decide +kernel)
set_option maxRecDepth 20000 in
theorem gX5_isState_X5_isIn : GoodIn wsX5_isState (va_wsS RX5 60 yX5_isIn wsX5_isIn) := goodIn_app (goodIn_of _ (by decide +kernel)) ggX5_isState_X5_isIn
theorem dX5_isState_0 : decode cX5_isState 0 = .ok (.iload_n 1, 1) := by decide +kernel
theorem dX5_isState_1 : decode cX5_isState 1 = .ok (.iconst 0, 1) := by decide +kernel
theorem dX5_isState_2 : decode cX5_isState 2 = .ok (.aload_n 0, 1) := by decide +kernel
theorem dX5_isState_3 : decode cX5_isState 3 = .ok (.getfield 56, 3) := by decide +kernel
theorem dX5_isState_6 : decode cX5_isState 6 = .ok (.iconst 1, 1) := by decide +kernel
theorem dX5_isState_7 : decode cX5_isState 7 = .ok (.isub, 1) := by decide +kernel
theorem dX5_isState_8 : decode cX5_isState 8 = .ok (.invokestatic 60, 3) := by decide +kernel
theorem dX5_isState_11 : decode cX5_isState 11 = .ok (.ireturn, 1) := by decide +kernel
set_option maxRecDepth 20000 in
theorem ggX5_isForm_X5_isState : GoodIn wsX5_isForm wsX5_isState := goodIn_r _ [6, 7, 8, 9, 5, 10, 11, 12, 13, 14, 15, 16, 17, 18, 19, 20, 21, 22, 23, 24, 25, 26, 27, 28, 29, 30] (by decide +kernel) (by decide +kernel)
set_option maxRecDepth 20000 in
theorem gX5_isForm_X5_isState : GoodIn wsX5_isForm (wsV RX5 64 RX5 yX5_isState wsX5_isState) := goodIn_app (goodIn_of _ (by decide +kernel)) ggX5_isForm_X5_isState
theorem dX5_isForm_0 : decode cX5_isForm 0 = .ok (.aload_n 0, 1) := by decide +kernel
theorem dX5_isForm_1 : decode cX5_isForm 1 = .ok (.iload_n 1, 1) := by decide +kernel
theorem dX5_isForm_2 : decode cX5_isForm 2 = .ok (.invokevirtual 64, 3) := by decide +kernel
theorem dX5_isForm_5 : decode cX5_isForm 5 = .ok (.ifCond .eq 17, 3) := by decide +kernel
theorem dX5_isForm_8 : decode cX5_isForm 8 = .ok (.aload_n 0, 1) := by decide +kernel
theorem dX5_isForm_9 : decode cX5_isForm 9 = .ok (.getfield 7, 3) := by decide +kernel
theorem dX5_isForm_12 : decode cX5_isForm 12 = .ok (.iload_n 1, 1) := by decide +kernel
theorem dX5_isForm_13 : decode cX5_isForm 13 = .ok (.iaload, 1) := by decide +kernel
theorem dX5_isForm_14 : decode cX5_isForm 14 = .ok (.iload_n 2, 1) := by decide +kernel
theorem dX5_isForm_15 : decode cX5_isForm 15 = .ok (.if_icmp .ne 7, 3) := by decide +kernel
theorem dX5_isForm_18 : decode cX5_isForm 18 = .ok (.iconst 1, 1) := by decide +kernel
theorem dX5_isForm_19 : decode cX5_isForm 19 = .ok (.goto 4, 3) := by decide +kernel
theorem dX5_isForm_22 : decode cX5_isForm 22 = .ok (.iconst 0, 1) := by decide +kernel
theorem dX5_isForm_23 : decode cX5_isForm 23 = .ok (.ireturn, 1) := by decide +kernel
set_option maxRecDepth 20000 in
theorem ggX5_state_X5_isIn : GoodIn wsX5_state wsX5_isIn := goodIn_r _ [10] (by decide +kernel) (by decide +kernel)
set_option maxRecDepth 20000 in
theorem gX5_state_X5_isIn : GoodIn wsX5_state (va_wsS RX5 60 yX5_isIn wsX5_isIn) := goodIn_app (goodIn_of _ (by decide +kernel)) ggX5_state_X5_isIn
theorem dX5_state_0 : decode cX5_state 0 = .ok (.iload_n 1, 1) := by decide +kernel
theorem dX5_state_1 : decode cX5_state 1 = .ok (.iconst 0, 1) := by decide +kernel
theorem dX5_state_2 : decode cX5_state 2 = .ok (.iconst 1, 1) := by decide +kernel
theorem dX5_state_3 : decode cX5_state 3 = .ok (.invokestatic 60, 3) := by decide +kernel
theorem dX5_state_6 : decode cX5_state 6 = .ok (.ifCond .eq 32, 3) := by decide +kernel
theorem dX5_state_9 : decode cX5_state 9 = .ok (.iload_n 2, 1) := by decide +kernel
theorem dX5_state_10 : decode cX5_state 10 = .ok (.iconst 0, 1) := by decide +kernel
theorem dX5_state_11 : decode cX5_state 11 = .ok (.iconst 1, 1) := by decide +kernel
theorem dX5_state_12 : decode cX5_state 12 = .ok (.invokestatic 60, 3) := by decide +kernel
theorem dX5_state_15 : decode cX5_state 15 = .ok (.ifCond .eq 23, 3) := by decide +kernel
theorem dX5_state_18 : decode cX5_state 18 = .ok (.iload_n 3, 1) := by decide +kernel
theorem dX5_state_19 : decode cX5_state 19 = .ok (.iconst 1, 1) := by decide +kernel
theorem dX5_state_20 : decode cX5_state 20 = .ok (.ldc 68, 2) := by decide +kernel
theorem dX5_state_22 : decode cX5_state 22 = .ok (.invokestatic 60, 3) := by decide +kernel
theorem dX5_state_25 : decode cX5_state 25 = .ok (.ifCond .eq 13, 3) := by decide +kernel
theorem dX5_state_28 : decode cX5_state 28 = .ok (.iload 4, 2) := by decide +kernel
theorem dX5_state_30 : decode cX5_state 30 = .ok (.iconst 0, 1) := by decide +kernel
theorem dX5_state_31 : decode cX5_state 31 = .ok (.iconst 1, 1) := by decide +kernel
theorem dX5_state_32 : decode cX5_state 32 = .ok (.invokestatic 60, 3) := by decide +kernel
theorem dX5_state_35 : decode cX5_state 35 = .ok (.ifCond .ne 5, 3) := by decide +kernel
theorem dX5_state_38 : decode cX5_state 38 = .ok (.iconst (-1), 1) := by decide +kernel
theorem dX5_state_39 : decode cX5_state 39 = .ok (.ireturn, 1) := by decide +kernel
theorem dX5_state_40 : decode cX5_state 40 = .ok (.aload_n 0, 1) := by decide +kernel
theorem dX5_state_41 : decode cX5_state 41 = .ok (.getfield 56, 3) := by decide +kernel
theorem dX5_state_44 : decode cX5_state 44 = .ok (.bipush 6, 2) := by decide +kernel
theorem dX5_state_46 : decode cX5_state 46 = .ok (.if_icmp .ne 6, 3) := by decide +kernel
theorem dX5_state_49 : decode cX5_state 49 = .ok (.bipush (-3), 2) := by decide +kernel
theorem dX5_state_51 : decode cX5_state 51 = .ok (.ireturn, 1) := by decide +kernel
theorem dX5_state_52 : decode cX5_state 52 = .ok (.aload_n 0, 1) := by decide +kernel
theorem dX5_state_53 : decode cX5_state 53 = .ok (.getfield 7, 3) := by decide +kernel
theorem dX5_state_56 : decode cX5_state 56 = .ok (.aload_n 0, 1) := by decide +kernel
theorem dX5_state_57 : decode cX5_state 57 = .ok (.getfield 56, 3) := by decide +kernel
theorem dX5_state_60 : decode cX5_state 60 = .ok (.iload_n 1, 1) := by decide +kernel
theorem dX5_state_61 : decode cX5_state 61 = .ok (.iastore, 1) := by decide +kernel
theorem dX5_state_62 : decode cX5_state 62 = .ok (.aload_n 0, 1) := by decide +kernel
theorem dX5_state_63 : decode cX5_state 63 = .ok (.getfield 13, 3) := by decide +kernel
theorem dX5_state_66 : decode cX5_state 66 = .ok (.aload_n 0, 1) := by decide +kernel
theorem dX5_state_67 : decode cX5_state 67 = .ok (.getfield 56, 3) := by decide +kernel
theorem dX5_state_70 : decode cX5_state 70 = .ok (.iload_n 2, 1) := by decide +kernel
theorem dX5_state_71 : decode cX5_state 71 = .ok (.iastore, 1) := by decide +kernel
theorem dX5_state_72 : decode cX5_state 72 = .ok (.aload_n 0, 1) := by decide +kernel
theorem dX5_state_73 : decode cX5_state 73 = .ok (.getfield 16, 3) := by decide +kernel
theorem dX5_state_76 : decode cX5_state 76 = .ok (.aload_n 0, 1) := by decide +kernel
theorem dX5_state_77 : decode cX5_state 77 = .ok (.getfield 56, 3) := by decide +kernel
theorem dX5_state_80 : decode cX5_state 80 = .ok (.iload_n 3, 1) := by decide +kernel
theorem dX5_state_81 : decode cX5_state 81 = .ok (.iastore, 1) := by decide +kernel
theorem dX5_state_82 : decode cX5_state 82 = .ok (.aload_n 0, 1) := by decide +kernel
theorem dX5_state_83 : decode cX5_state 83 = .ok (.getfield 19, 3) := by decide +kernel
theorem dX5_state_86 : decode cX5_state 86 = .ok (.aload_n 0, 1) := by decide +kernel
theorem dX5_state_87 : decode cX5_state 87 = .ok (.getfield 56, 3) := by decide +kernel
theorem dX5_state_90 : decode cX5_state 90 = .ok (.iload 4, 2) := by decide +kernel
theorem dX5_state_92 : decode cX5_state 92 = .ok (.iastore, 1) := by decide +kernel
theorem dX5_state_93 : decode cX5_state 93 = .ok (.aload_n 0, 1) := by decide +kernel
theorem dX5_state_94 : decode cX5_state 94 = .ok (.dup, 1) := by decide +kernel
theorem dX5_state_95 : decode cX5_state 95 = .ok (.getfield 56, 3) := by decide +kernel
theorem dX5_state_98 : decode cX5_state 98 = .ok (.iconst 1, 1) := by decide +kernel
theorem dX5_state_99 : decode cX5_state 99 = .ok (.iadd, 1) := by decide +kernel
theorem dX5_state_100 : decode cX5_state 100 = .ok (.putfield 56, 3) := by decide +kernel
theorem dX5_state_103 : decode cX5_state 103 = .ok (.aload_n 0, 1) := by decide +kernel
theorem dX5_state_104 : decode cX5_state 104 = .ok (.getfield 56, 3) := by decide +kernel
theorem dX5_state_107 : decode cX5_state 107 = .ok (.iconst 1, 1) := by decide +kernel
theorem dX5_state_108 : decode cX5_state 108 = .ok (.isub, 1) := by decide +kernel
theorem dX5_state_109 : decode cX5_state 109 = .ok (.ireturn, 1) := by decide +kernel
theorem dX5_clockOf_0 : decode cX5_clockOf 0 = .ok (.aload_n 0, 1) := by decide +kernel
theorem dX5_clockOf_1 : decode cX5_clockOf 1 = .ok (.getfield 22, 3) := by decide +kernel
theorem dX5_clockOf_4 : decode cX5_clockOf 4 = .ok (.aload_n 0, 1) := by decide +kernel
theorem dX5_clockOf_5 : decode cX5_clockOf 5 = .ok (.getfield 13, 3) := by decide +kernel
theorem dX5_clockOf_8 : decode cX5_clockOf 8 = .ok (.aload_n 0, 1) := by decide +kernel
theorem dX5_clockOf_9 : decode cX5_clockOf 9 = .ok (.getfield 25, 3) := by decide +kernel
theorem dX5_clockOf_12 : decode cX5_clockOf 12 = .ok (.iload_n 1, 1) := by decide +kernel
theorem dX5_clockOf_13 : decode cX5_clockOf 13 = .ok (.iaload, 1) := by decide +kernel
theorem dX5_clockOf_14 : decode cX5_clockOf 14 = .ok (.iaload, 1) := by decide +kernel
theorem dX5_clockOf_15 : decode cX5_clockOf 15 = .ok (.iaload, 1) := by decide +kernel
theorem dX5_clockOf_16 : decode cX5_clockOf 16 = .ok (.ireturn, 1) := by decide +kernel
set_option maxRecDepth 20000 in
theorem ggX5_isShown_X5_clockOf : GoodIn wsX5_isShown wsX5_clockOf := goodIn_r _ [8, 9, 10, 1, 11, 12, 13, 14, 15, 16, 17, 18, 19, 20, 21, 22, 23, 24, 25, 26, 27, 28, 29, 30] (by decide +kernel) (by decide +kernel)
set_option maxRecDepth 20000 in
theorem gX5_isShown_X5_clockOf : GoodIn wsX5_isShown (wsV RX5 69 RX5 yX5_clockOf wsX5_clockOf) := goodIn_app (goodIn_of _ (by decide +kernel)) ggX5_isShown_X5_clockOf
theorem dX5_isShown_0 : decode cX5_isShown 0 = .ok (.aload_n 0, 1) := by decide +kernel
theorem dX5_isShown_1 : decode cX5_isShown 1 = .ok (.getfield 25, 3) := by decide +kernel
theorem dX5_isShown_4 : decode cX5_isShown 4 = .ok (.iload_n 1, 1) := by decide +kernel
theorem dX5_isShown_5 : decode cX5_isShown 5 = .ok (.iaload, 1) := by decide +kernel
theorem dX5_isShown_6 : decode cX5_isShown 6 = .ok (.ldc 55, 2) := by decide +kernel
theorem dX5_isShown_8 : decode cX5_isShown 8 = .ok (.if_icmp .eq 21, 3) := by decide +kernel
theorem dX5_isShown_11 : decode cX5_isShown 11 = .ok (.aload_n 0, 1) := by decide +kernel
theorem dX5_isShown_12 : decode cX5_isShown 12 = .ok (.iload_n 1, 1) := by decide +kernel
theorem dX5_isShown_13 : decode cX5_isShown 13 = .ok (.invokevirtual 69, 3) := by decide +kernel
theorem dX5_isShown_16 : decode cX5_isShown 16 = .ok (.aload_n 0, 1) := by decide +kernel
theorem dX5_isShown_17 : decode cX5_isShown 17 = .ok (.getfield 40, 3) := by decide +kernel
theorem dX5_isShown_20 : decode cX5_isShown 20 = .ok (.iload_n 1, 1) := by decide +kernel
theorem dX5_isShown_21 : decode cX5_isShown 21 = .ok (.iaload, 1) := by decide +kernel
theorem dX5_isShown_22 : decode cX5_isShown 22 = .ok (.if_icmp .ge 7, 3) := by decide +kernel
theorem dX5_isShown_25 : decode cX5_isShown 25 = .ok (.iconst 1, 1) := by decide +kernel
theorem dX5_isShown_26 : decode cX5_isShown 26 = .ok (.goto 4, 3) := by decide +kernel
theorem dX5_isShown_29 : decode cX5_isShown 29 = .ok (.iconst 0, 1) := by decide +kernel
theorem dX5_isShown_30 : decode cX5_isShown 30 = .ok (.ireturn, 1) := by decide +kernel
set_option maxRecDepth 20000 in
theorem ggX5_isOver_X5_clockOf : GoodIn wsX5_isOver wsX5_clockOf := goodIn_r _ [8, 9, 10, 1, 11, 12, 13, 14, 15, 16, 17, 18, 19, 20, 21, 22, 23, 24, 25, 26, 27, 28, 29, 30] (by decide +kernel) (by decide +kernel)
set_option maxRecDepth 20000 in
theorem gX5_isOver_X5_clockOf : GoodIn wsX5_isOver (wsV RX5 69 RX5 yX5_clockOf wsX5_clockOf) := goodIn_app (goodIn_of _ (by decide +kernel)) ggX5_isOver_X5_clockOf
theorem dX5_isOver_0 : decode cX5_isOver 0 = .ok (.aload_n 0, 1) := by decide +kernel
theorem dX5_isOver_1 : decode cX5_isOver 1 = .ok (.getfield 25, 3) := by decide +kernel
theorem dX5_isOver_4 : decode cX5_isOver 4 = .ok (.iload_n 1, 1) := by decide +kernel
theorem dX5_isOver_5 : decode cX5_isOver 5 = .ok (.iaload, 1) := by decide +kernel
theorem dX5_isOver_6 : decode cX5_isOver 6 = .ok (.ldc 55, 2) := by decide +kernel
theorem dX5_isOver_8 : decode cX5_isOver 8 = .ok (.if_icmp .eq 21, 3) := by decide +kernel
theorem dX5_isOver_11 : decode cX5_isOver 11 = .ok (.aload_n 0, 1) := by decide +kernel
theorem dX5_isOver_12 : decode cX5_isOver 12 = .ok (.iload_n 1, 1) := by decide +kernel
theorem dX5_isOver_13 : decode cX5_isOver 13 = .ok (.invokevirtual 69, 3) := by decide +kernel
theorem dX5_isOver_16 : decode cX5_isOver 16 = .ok (.aload_n 0, 1) := by decide +kernel
theorem dX5_isOver_17 : decode cX5_isOver 17 = .ok (.getfield 40, 3) := by decide +kernel
theorem dX5_isOver_20 : decode cX5_isOver 20 = .ok (.iload_n 1, 1) := by decide +kernel
theorem dX5_isOver_21 : decode cX5_isOver 21 = .ok (.iaload, 1) := by decide +kernel
theorem dX5_isOver_22 : decode cX5_isOver 22 = .ok (.if_icmp .lt 7, 3) := by decide +kernel
theorem dX5_isOver_25 : decode cX5_isOver 25 = .ok (.iconst 1, 1) := by decide +kernel
theorem dX5_isOver_26 : decode cX5_isOver 26 = .ok (.goto 4, 3) := by decide +kernel
theorem dX5_isOver_29 : decode cX5_isOver 29 = .ok (.iconst 0, 1) := by decide +kernel
theorem dX5_isOver_30 : decode cX5_isOver 30 = .ok (.ireturn, 1) := by decide +kernel
theorem dX5_free_0 : decode cX5_free 0 = .ok (.iconst 0, 1) := by decide +kernel
theorem dX5_free_1 : decode cX5_free 1 = .ok (.istore_n 1, 1) := by decide +kernel
theorem dX5_free_2 : decode cX5_free 2 = .ok (.iload_n 1, 1) := by decide +kernel
theorem dX5_free_3 : decode cX5_free 3 = .ok (.sipush 200, 3) := by decide +kernel
theorem dX5_free_6 : decode cX5_free 6 = .ok (.if_icmp .ge 22, 3) := by decide +kernel
theorem dX5_free_9 : decode cX5_free 9 = .ok (.aload_n 0, 1) := by decide +kernel
theorem dX5_free_10 : decode cX5_free 10 = .ok (.getfield 25, 3) := by decide +kernel
theorem dX5_free_13 : decode cX5_free 13 = .ok (.iload_n 1, 1) := by decide +kernel
theorem dX5_free_14 : decode cX5_free 14 = .ok (.iaload, 1) := by decide +kernel
theorem dX5_free_15 : decode cX5_free 15 = .ok (.ldc 55, 2) := by decide +kernel
theorem dX5_free_17 : decode cX5_free 17 = .ok (.if_icmp .ne 5, 3) := by decide +kernel
theorem dX5_free_20 : decode cX5_free 20 = .ok (.iload_n 1, 1) := by decide +kernel
theorem dX5_free_21 : decode cX5_free 21 = .ok (.ireturn, 1) := by decide +kernel
theorem dX5_free_22 : decode cX5_free 22 = .ok (.iinc 1 1, 3) := by decide +kernel
theorem dX5_free_25 : decode cX5_free 25 = .ok (.goto (-23), 3) := by decide +kernel
theorem dX5_free_28 : decode cX5_free 28 = .ok (.ldc 55, 2) := by decide +kernel
theorem dX5_free_30 : decode cX5_free 30 = .ok (.ireturn, 1) := by decide +kernel
theorem dX5_find_0 : decode cX5_find 0 = .ok (.iconst 0, 1) := by decide +kernel
theorem dX5_find_1 : decode cX5_find 1 = .ok (.istore 4, 2) := by decide +kernel
theorem dX5_find_3 : decode cX5_find 3 = .ok (.iload 4, 2) := by decide +kernel
theorem dX5_find_5 : decode cX5_find 5 = .ok (.sipush 200, 3) := by decide +kernel
theorem dX5_find_8 : decode cX5_find 8 = .ok (.if_icmp .ge 45, 3) := by decide +kernel
theorem dX5_find_11 : decode cX5_find 11 = .ok (.aload_n 0, 1) := by decide +kernel
theorem dX5_find_12 : decode cX5_find 12 = .ok (.getfield 25, 3) := by decide +kernel
theorem dX5_find_15 : decode cX5_find 15 = .ok (.iload 4, 2) := by decide +kernel
theorem dX5_find_17 : decode cX5_find 17 = .ok (.iaload, 1) := by decide +kernel
theorem dX5_find_18 : decode cX5_find 18 = .ok (.iload_n 1, 1) := by decide +kernel
theorem dX5_find_19 : decode cX5_find 19 = .ok (.if_icmp .ne 28, 3) := by decide +kernel
theorem dX5_find_22 : decode cX5_find 22 = .ok (.aload_n 0, 1) := by decide +kernel
theorem dX5_find_23 : decode cX5_find 23 = .ok (.getfield 28, 3) := by decide +kernel
theorem dX5_find_26 : decode cX5_find 26 = .ok (.iload 4, 2) := by decide +kernel
theorem dX5_find_28 : decode cX5_find 28 = .ok (.iaload, 1) := by decide +kernel
theorem dX5_find_29 : decode cX5_find 29 = .ok (.iload_n 2, 1) := by decide +kernel
theorem dX5_find_30 : decode cX5_find 30 = .ok (.if_icmp .ne 17, 3) := by decide +kernel
theorem dX5_find_33 : decode cX5_find 33 = .ok (.aload_n 0, 1) := by decide +kernel
theorem dX5_find_34 : decode cX5_find 34 = .ok (.getfield 31, 3) := by decide +kernel
theorem dX5_find_37 : decode cX5_find 37 = .ok (.iload 4, 2) := by decide +kernel
theorem dX5_find_39 : decode cX5_find 39 = .ok (.iaload, 1) := by decide +kernel
theorem dX5_find_40 : decode cX5_find 40 = .ok (.iload_n 3, 1) := by decide +kernel
theorem dX5_find_41 : decode cX5_find 41 = .ok (.if_icmp .ne 6, 3) := by decide +kernel
theorem dX5_find_44 : decode cX5_find 44 = .ok (.iload 4, 2) := by decide +kernel
theorem dX5_find_46 : decode cX5_find 46 = .ok (.ireturn, 1) := by decide +kernel
theorem dX5_find_47 : decode cX5_find 47 = .ok (.iinc 4 1, 3) := by decide +kernel
theorem dX5_find_50 : decode cX5_find 50 = .ok (.goto (-47), 3) := by decide +kernel
theorem dX5_find_53 : decode cX5_find 53 = .ok (.ldc 55, 2) := by decide +kernel
theorem dX5_find_55 : decode cX5_find 55 = .ok (.ireturn, 1) := by decide +kernel
set_option maxRecDepth 20000 in
theorem ggX5_findIn_X5_isShown : GoodIn wsX5_findIn wsX5_isShown := goodIn_r _ [9, 2, 1, 10, 11, 12, 13, 8, 14, 15, 16, 17, 18, 19, 20, 21, 22, 23, 24, 25, 26, 27, 28, 29, 30, 31, 32, 33, 34, 35, 36] (by decide +kernel) (by decide +kernel)
set_option maxRecDepth 20000 in
theorem gX5_findIn_X5_isShown : GoodIn wsX5_findIn (wsV RX5 73 RX5 yX5_isShown wsX5_isShown) := goodIn_app (goodIn_of _ (by decide +kernel)) ggX5_findIn_X5_isShown
theorem dX5_findIn_0 : decode cX5_findIn 0 = .ok (.iconst (-1), 1) := by decide +kernel
theorem dX5_findIn_1 : decode cX5_findIn 1 = .ok (.istore 5, 2) := by decide +kernel
theorem dX5_findIn_3 : decode cX5_findIn 3 = .ok (.ldc 55, 2) := by decide +kernel
theorem dX5_findIn_5 : decode cX5_findIn 5 = .ok (.istore 6, 2) := by decide +kernel
theorem dX5_findIn_7 : decode cX5_findIn 7 = .ok (.iconst 0, 1) := by decide +kernel
theorem dX5_findIn_8 : decode cX5_findIn 8 = .ok (.istore 7, 2) := by decide +kernel
theorem dX5_findIn_10 : decode cX5_findIn 10 = .ok (.iload 7, 2) := by decide +kernel
theorem dX5_findIn_12 : decode cX5_findIn 12 = .ok (.iload_n 3, 1) := by decide +kernel
theorem dX5_findIn_13 : decode cX5_findIn 13 = .ok (.if_icmp .gt 142, 3) := by decide +kernel
theorem dX5_findIn_16 : decode cX5_findIn 16 = .ok (.ldc 55, 2) := by decide +kernel
theorem dX5_findIn_18 : decode cX5_findIn 18 = .ok (.istore 6, 2) := by decide +kernel
theorem dX5_findIn_20 : decode cX5_findIn 20 = .ok (.iconst 0, 1) := by decide +kernel
theorem dX5_findIn_21 : decode cX5_findIn 21 = .ok (.istore 8, 2) := by decide +kernel
theorem dX5_findIn_23 : decode cX5_findIn 23 = .ok (.iload 8, 2) := by decide +kernel
theorem dX5_findIn_25 : decode cX5_findIn 25 = .ok (.sipush 200, 3) := by decide +kernel
theorem dX5_findIn_28 : decode cX5_findIn 28 = .ok (.if_icmp .ge 102, 3) := by decide +kernel
theorem dX5_findIn_31 : decode cX5_findIn 31 = .ok (.aload_n 0, 1) := by decide +kernel
theorem dX5_findIn_32 : decode cX5_findIn 32 = .ok (.getfield 25, 3) := by decide +kernel
theorem dX5_findIn_35 : decode cX5_findIn 35 = .ok (.iload 8, 2) := by decide +kernel
theorem dX5_findIn_37 : decode cX5_findIn 37 = .ok (.iaload, 1) := by decide +kernel
theorem dX5_findIn_38 : decode cX5_findIn 38 = .ok (.iload_n 1, 1) := by decide +kernel
theorem dX5_findIn_39 : decode cX5_findIn 39 = .ok (.if_icmp .ne 44, 3) := by decide +kernel
theorem dX5_findIn_42 : decode cX5_findIn 42 = .ok (.aload_n 0, 1) := by decide +kernel
theorem dX5_findIn_43 : decode cX5_findIn 43 = .ok (.getfield 28, 3) := by decide +kernel
theorem dX5_findIn_46 : decode cX5_findIn 46 = .ok (.iload 8, 2) := by decide +kernel
theorem dX5_findIn_48 : decode cX5_findIn 48 = .ok (.iaload, 1) := by decide +kernel
theorem dX5_findIn_49 : decode cX5_findIn 49 = .ok (.iload_n 2, 1) := by decide +kernel
theorem dX5_findIn_50 : decode cX5_findIn 50 = .ok (.if_icmp .ne 33, 3) := by decide +kernel
theorem dX5_findIn_53 : decode cX5_findIn 53 = .ok (.aload_n 0, 1) := by decide +kernel
theorem dX5_findIn_54 : decode cX5_findIn 54 = .ok (.getfield 43, 3) := by decide +kernel
theorem dX5_findIn_57 : decode cX5_findIn 57 = .ok (.iload 8, 2) := by decide +kernel
theorem dX5_findIn_59 : decode cX5_findIn 59 = .ok (.iaload, 1) := by decide +kernel
theorem dX5_findIn_60 : decode cX5_findIn 60 = .ok (.iload 5, 2) := by decide +kernel
theorem dX5_findIn_62 : decode cX5_findIn 62 = .ok (.if_icmp .le 21, 3) := by decide +kernel
theorem dX5_findIn_65 : decode cX5_findIn 65 = .ok (.iload 4, 2) := by decide +kernel
theorem dX5_findIn_67 : decode cX5_findIn 67 = .ok (.ifCond .eq 12, 3) := by decide +kernel
theorem dX5_findIn_70 : decode cX5_findIn 70 = .ok (.aload_n 0, 1) := by decide +kernel
theorem dX5_findIn_71 : decode cX5_findIn 71 = .ok (.iload 8, 2) := by decide +kernel
theorem dX5_findIn_73 : decode cX5_findIn 73 = .ok (.invokevirtual 73, 3) := by decide +kernel
theorem dX5_findIn_76 : decode cX5_findIn 76 = .ok (.ifCond .eq 7, 3) := by decide +kernel
theorem dX5_findIn_79 : decode cX5_findIn 79 = .ok (.iconst 1, 1) := by decide +kernel
theorem dX5_findIn_80 : decode cX5_findIn 80 = .ok (.goto 4, 3) := by decide +kernel
theorem dX5_findIn_83 : decode cX5_findIn 83 = .ok (.iconst 0, 1) := by decide +kernel
theorem dX5_findIn_84 : decode cX5_findIn 84 = .ok (.istore 9, 2) := by decide +kernel
theorem dX5_findIn_86 : decode cX5_findIn 86 = .ok (.iload 9, 2) := by decide +kernel
theorem dX5_findIn_88 : decode cX5_findIn 88 = .ok (.ifCond .eq 32, 3) := by decide +kernel
theorem dX5_findIn_91 : decode cX5_findIn 91 = .ok (.iload 6, 2) := by decide +kernel
theorem dX5_findIn_93 : decode cX5_findIn 93 = .ok (.ldc 55, 2) := by decide +kernel
theorem dX5_findIn_95 : decode cX5_findIn 95 = .ok (.if_icmp .eq 20, 3) := by decide +kernel
theorem dX5_findIn_98 : decode cX5_findIn 98 = .ok (.aload_n 0, 1) := by decide +kernel
theorem dX5_findIn_99 : decode cX5_findIn 99 = .ok (.getfield 43, 3) := by decide +kernel
theorem dX5_findIn_102 : decode cX5_findIn 102 = .ok (.iload 8, 2) := by decide +kernel
theorem dX5_findIn_104 : decode cX5_findIn 104 = .ok (.iaload, 1) := by decide +kernel
theorem dX5_findIn_105 : decode cX5_findIn 105 = .ok (.aload_n 0, 1) := by decide +kernel
theorem dX5_findIn_106 : decode cX5_findIn 106 = .ok (.getfield 43, 3) := by decide +kernel
theorem dX5_findIn_109 : decode cX5_findIn 109 = .ok (.iload 6, 2) := by decide +kernel
theorem dX5_findIn_111 : decode cX5_findIn 111 = .ok (.iaload, 1) := by decide +kernel
theorem dX5_findIn_112 : decode cX5_findIn 112 = .ok (.if_icmp .ge 8, 3) := by decide +kernel
theorem dX5_findIn_115 : decode cX5_findIn 115 = .ok (.iload 8, 2) := by decide +kernel
theorem dX5_findIn_117 : decode cX5_findIn 117 = .ok (.goto 5, 3) := by decide +kernel
theorem dX5_findIn_120 : decode cX5_findIn 120 = .ok (.iload 6, 2) := by decide +kernel
theorem dX5_findIn_122 : decode cX5_findIn 122 = .ok (.istore 6, 2) := by decide +kernel
theorem dX5_findIn_124 : decode cX5_findIn 124 = .ok (.iinc 8 1, 3) := by decide +kernel
theorem dX5_findIn_127 : decode cX5_findIn 127 = .ok (.goto (-104), 3) := by decide +kernel
theorem dX5_findIn_130 : decode cX5_findIn 130 = .ok (.iload 6, 2) := by decide +kernel
theorem dX5_findIn_132 : decode cX5_findIn 132 = .ok (.ldc 55, 2) := by decide +kernel
theorem dX5_findIn_134 : decode cX5_findIn 134 = .ok (.if_icmp .ne 6, 3) := by decide +kernel
theorem dX5_findIn_137 : decode cX5_findIn 137 = .ok (.ldc 55, 2) := by decide +kernel
theorem dX5_findIn_139 : decode cX5_findIn 139 = .ok (.ireturn, 1) := by decide +kernel
theorem dX5_findIn_140 : decode cX5_findIn 140 = .ok (.aload_n 0, 1) := by decide +kernel
theorem dX5_findIn_141 : decode cX5_findIn 141 = .ok (.getfield 43, 3) := by decide +kernel
theorem dX5_findIn_144 : decode cX5_findIn 144 = .ok (.iload 6, 2) := by decide +kernel
theorem dX5_findIn_146 : decode cX5_findIn 146 = .ok (.iaload, 1) := by decide +kernel
theorem dX5_findIn_147 : decode cX5_findIn 147 = .ok (.istore 5, 2) := by decide +kernel
theorem dX5_findIn_149 : decode cX5_findIn 149 = .ok (.iinc 7 1, 3) := by decide +kernel
theorem dX5_findIn_152 : decode cX5_findIn 152 = .ok (.goto (-142), 3) := by decide +kernel
theorem dX5_findIn_155 : decode cX5_findIn 155 = .ok (.iload 6, 2) := by decide +kernel
theorem dX5_findIn_157 : decode cX5_findIn 157 = .ok (.ireturn, 1) := by decide +kernel
theorem dX5_stamps_0 : decode cX5_stamps 0 = .ok (.aload_n 0, 1) := by decide +kernel
theorem dX5_stamps_1 : decode cX5_stamps 1 = .ok (.getfield 25, 3) := by decide +kernel
theorem dX5_stamps_4 : decode cX5_stamps 4 = .ok (.iload_n 1, 1) := by decide +kernel
theorem dX5_stamps_5 : decode cX5_stamps 5 = .ok (.iaload, 1) := by decide +kernel
theorem dX5_stamps_6 : decode cX5_stamps 6 = .ok (.istore_n 2, 1) := by decide +kernel
theorem dX5_stamps_7 : decode cX5_stamps 7 = .ok (.aload_n 0, 1) := by decide +kernel
theorem dX5_stamps_8 : decode cX5_stamps 8 = .ok (.getfield 37, 3) := by decide +kernel
theorem dX5_stamps_11 : decode cX5_stamps 11 = .ok (.iload_n 1, 1) := by decide +kernel
theorem dX5_stamps_12 : decode cX5_stamps 12 = .ok (.aload_n 0, 1) := by decide +kernel
theorem dX5_stamps_13 : decode cX5_stamps 13 = .ok (.getfield 22, 3) := by decide +kernel
theorem dX5_stamps_16 : decode cX5_stamps 16 = .ok (.aload_n 0, 1) := by decide +kernel
theorem dX5_stamps_17 : decode cX5_stamps 17 = .ok (.getfield 13, 3) := by decide +kernel
theorem dX5_stamps_20 : decode cX5_stamps 20 = .ok (.iload_n 2, 1) := by decide +kernel
theorem dX5_stamps_21 : decode cX5_stamps 21 = .ok (.iaload, 1) := by decide +kernel
theorem dX5_stamps_22 : decode cX5_stamps 22 = .ok (.iaload, 1) := by decide +kernel
theorem dX5_stamps_23 : decode cX5_stamps 23 = .ok (.iastore, 1) := by decide +kernel
theorem dX5_stamps_24 : decode cX5_stamps 24 = .ok (.aload_n 0, 1) := by decide +kernel
theorem dX5_stamps_25 : decode cX5_stamps 25 = .ok (.getfield 40, 3) := by decide +kernel
theorem dX5_stamps_28 : decode cX5_stamps 28 = .ok (.iload_n 1, 1) := by decide +kernel
theorem dX5_stamps_29 : decode cX5_stamps 29 = .ok (.aload_n 0, 1) := by decide +kernel
theorem dX5_stamps_30 : decode cX5_stamps 30 = .ok (.getfield 37, 3) := by decide +kernel
theorem dX5_stamps_33 : decode cX5_stamps 33 = .ok (.iload_n 1, 1) := by decide +kernel
theorem dX5_stamps_34 : decode cX5_stamps 34 = .ok (.iaload, 1) := by decide +kernel
theorem dX5_stamps_35 : decode cX5_stamps 35 = .ok (.aload_n 0, 1) := by decide +kernel
theorem dX5_stamps_36 : decode cX5_stamps 36 = .ok (.getfield 16, 3) := by decide +kernel
theorem dX5_stamps_39 : decode cX5_stamps 39 = .ok (.iload_n 2, 1) := by decide +kernel
theorem dX5_stamps_40 : decode cX5_stamps 40 = .ok (.iaload, 1) := by decide +kernel
theorem dX5_stamps_41 : decode cX5_stamps 41 = .ok (.iadd, 1) := by decide +kernel
theorem dX5_stamps_42 : decode cX5_stamps 42 = .ok (.iastore, 1) := by decide +kernel
theorem dX5_stamps_43 : decode cX5_stamps 43 = .ok (.return_, 1) := by decide +kernel
set_option maxRecDepth 20000 in
theorem ggX5_writes_X5_stamps : GoodIn wsX5_writes wsX5_stamps := goodIn_r _ [11, 1, 12, 13, 14, 15, 16, 17, 18, 19, 20, 21, 22, 23, 24, 25, 26, 27, 28, 29, 30, 31, 32, 33, 34, 35, 36] (by decide +kernel) (by decide +kernel)
set_option maxRecDepth 20000 in
theorem gX5_writes_X5_stamps : GoodIn wsX5_writes (wsV RX5 79 RX5 yX5_stamps wsX5_stamps) := goodIn_app (goodIn_of _ (by decide +kernel)) ggX5_writes_X5_stamps
theorem dX5_writes_0 : decode cX5_writes 0 = .ok (.aload_n 0, 1) := by decide +kernel
theorem dX5_writes_1 : decode cX5_writes 1 = .ok (.getfield 25, 3) := by decide +kernel
theorem dX5_writes_4 : decode cX5_writes 4 = .ok (.iload_n 1, 1) := by decide +kernel
theorem dX5_writes_5 : decode cX5_writes 5 = .ok (.iload_n 2, 1) := by decide +kernel
theorem dX5_writes_6 : decode cX5_writes 6 = .ok (.iastore, 1) := by decide +kernel
theorem dX5_writes_7 : decode cX5_writes 7 = .ok (.aload_n 0, 1) := by decide +kernel
theorem dX5_writes_8 : decode cX5_writes 8 = .ok (.getfield 28, 3) := by decide +kernel
theorem dX5_writes_11 : decode cX5_writes 11 = .ok (.iload_n 1, 1) := by decide +kernel
theorem dX5_writes_12 : decode cX5_writes 12 = .ok (.iload_n 3, 1) := by decide +kernel
theorem dX5_writes_13 : decode cX5_writes 13 = .ok (.iastore, 1) := by decide +kernel
theorem dX5_writes_14 : decode cX5_writes 14 = .ok (.aload_n 0, 1) := by decide +kernel
theorem dX5_writes_15 : decode cX5_writes 15 = .ok (.getfield 31, 3) := by decide +kernel
theorem dX5_writes_18 : decode cX5_writes 18 = .ok (.iload_n 1, 1) := by decide +kernel
theorem dX5_writes_19 : decode cX5_writes 19 = .ok (.iload 4, 2) := by decide +kernel
theorem dX5_writes_21 : decode cX5_writes 21 = .ok (.iastore, 1) := by decide +kernel
theorem dX5_writes_22 : decode cX5_writes 22 = .ok (.aload_n 0, 1) := by decide +kernel
theorem dX5_writes_23 : decode cX5_writes 23 = .ok (.getfield 34, 3) := by decide +kernel
theorem dX5_writes_26 : decode cX5_writes 26 = .ok (.iload_n 1, 1) := by decide +kernel
theorem dX5_writes_27 : decode cX5_writes 27 = .ok (.iload 5, 2) := by decide +kernel
theorem dX5_writes_29 : decode cX5_writes 29 = .ok (.iastore, 1) := by decide +kernel
theorem dX5_writes_30 : decode cX5_writes 30 = .ok (.aload_n 0, 1) := by decide +kernel
theorem dX5_writes_31 : decode cX5_writes 31 = .ok (.dup, 1) := by decide +kernel
theorem dX5_writes_32 : decode cX5_writes 32 = .ok (.getfield 76, 3) := by decide +kernel
theorem dX5_writes_35 : decode cX5_writes 35 = .ok (.iconst 1, 1) := by decide +kernel
theorem dX5_writes_36 : decode cX5_writes 36 = .ok (.iadd, 1) := by decide +kernel
theorem dX5_writes_37 : decode cX5_writes 37 = .ok (.putfield 76, 3) := by decide +kernel
theorem dX5_writes_40 : decode cX5_writes 40 = .ok (.aload_n 0, 1) := by decide +kernel
theorem dX5_writes_41 : decode cX5_writes 41 = .ok (.getfield 43, 3) := by decide +kernel
theorem dX5_writes_44 : decode cX5_writes 44 = .ok (.iload_n 1, 1) := by decide +kernel
theorem dX5_writes_45 : decode cX5_writes 45 = .ok (.aload_n 0, 1) := by decide +kernel
theorem dX5_writes_46 : decode cX5_writes 46 = .ok (.getfield 76, 3) := by decide +kernel
theorem dX5_writes_49 : decode cX5_writes 49 = .ok (.iastore, 1) := by decide +kernel
theorem dX5_writes_50 : decode cX5_writes 50 = .ok (.aload_n 0, 1) := by decide +kernel
theorem dX5_writes_51 : decode cX5_writes 51 = .ok (.iload_n 1, 1) := by decide +kernel
theorem dX5_writes_52 : decode cX5_writes 52 = .ok (.invokevirtual 79, 3) := by decide +kernel
theorem dX5_writes_55 : decode cX5_writes 55 = .ok (.return_, 1) := by decide +kernel
theorem dX5_tells_0 : decode cX5_tells 0 = .ok (.aload_n 0, 1) := by decide +kernel
theorem dX5_tells_1 : decode cX5_tells 1 = .ok (.getfield 83, 3) := by decide +kernel
theorem dX5_tells_4 : decode cX5_tells 4 = .ok (.sipush 150, 3) := by decide +kernel
theorem dX5_tells_7 : decode cX5_tells 7 = .ok (.if_icmp .ne 40, 3) := by decide +kernel
theorem dX5_tells_10 : decode cX5_tells 10 = .ok (.iconst 0, 1) := by decide +kernel
theorem dX5_tells_11 : decode cX5_tells 11 = .ok (.istore_n 2, 1) := by decide +kernel
theorem dX5_tells_12 : decode cX5_tells 12 = .ok (.iload_n 2, 1) := by decide +kernel
theorem dX5_tells_13 : decode cX5_tells 13 = .ok (.sipush 894, 3) := by decide +kernel
theorem dX5_tells_16 : decode cX5_tells 16 = .ok (.if_icmp .ge 24, 3) := by decide +kernel
theorem dX5_tells_19 : decode cX5_tells 19 = .ok (.aload_n 0, 1) := by decide +kernel
theorem dX5_tells_20 : decode cX5_tells 20 = .ok (.getfield 46, 3) := by decide +kernel
theorem dX5_tells_23 : decode cX5_tells 23 = .ok (.iload_n 2, 1) := by decide +kernel
theorem dX5_tells_24 : decode cX5_tells 24 = .ok (.aload_n 0, 1) := by decide +kernel
theorem dX5_tells_25 : decode cX5_tells 25 = .ok (.getfield 46, 3) := by decide +kernel
theorem dX5_tells_28 : decode cX5_tells 28 = .ok (.iload_n 2, 1) := by decide +kernel
theorem dX5_tells_29 : decode cX5_tells 29 = .ok (.bipush 6, 2) := by decide +kernel
theorem dX5_tells_31 : decode cX5_tells 31 = .ok (.iadd, 1) := by decide +kernel
theorem dX5_tells_32 : decode cX5_tells 32 = .ok (.iaload, 1) := by decide +kernel
theorem dX5_tells_33 : decode cX5_tells 33 = .ok (.iastore, 1) := by decide +kernel
theorem dX5_tells_34 : decode cX5_tells 34 = .ok (.iinc 2 1, 3) := by decide +kernel
theorem dX5_tells_37 : decode cX5_tells 37 = .ok (.goto (-25), 3) := by decide +kernel
theorem dX5_tells_40 : decode cX5_tells 40 = .ok (.aload_n 0, 1) := by decide +kernel
theorem dX5_tells_41 : decode cX5_tells 41 = .ok (.sipush 149, 3) := by decide +kernel
theorem dX5_tells_44 : decode cX5_tells 44 = .ok (.putfield 83, 3) := by decide +kernel
theorem dX5_tells_47 : decode cX5_tells 47 = .ok (.bipush 6, 2) := by decide +kernel
theorem dX5_tells_49 : decode cX5_tells 49 = .ok (.aload_n 0, 1) := by decide +kernel
theorem dX5_tells_50 : decode cX5_tells 50 = .ok (.getfield 83, 3) := by decide +kernel
theorem dX5_tells_53 : decode cX5_tells 53 = .ok (.imul, 1) := by decide +kernel
theorem dX5_tells_54 : decode cX5_tells 54 = .ok (.istore_n 2, 1) := by decide +kernel
theorem dX5_tells_55 : decode cX5_tells 55 = .ok (.aload_n 0, 1) := by decide +kernel
theorem dX5_tells_56 : decode cX5_tells 56 = .ok (.getfield 46, 3) := by decide +kernel
theorem dX5_tells_59 : decode cX5_tells 59 = .ok (.iload_n 2, 1) := by decide +kernel
theorem dX5_tells_60 : decode cX5_tells 60 = .ok (.aload_n 0, 1) := by decide +kernel
theorem dX5_tells_61 : decode cX5_tells 61 = .ok (.getfield 25, 3) := by decide +kernel
theorem dX5_tells_64 : decode cX5_tells 64 = .ok (.iload_n 1, 1) := by decide +kernel
theorem dX5_tells_65 : decode cX5_tells 65 = .ok (.iaload, 1) := by decide +kernel
theorem dX5_tells_66 : decode cX5_tells 66 = .ok (.iastore, 1) := by decide +kernel
theorem dX5_tells_67 : decode cX5_tells 67 = .ok (.aload_n 0, 1) := by decide +kernel
theorem dX5_tells_68 : decode cX5_tells 68 = .ok (.getfield 46, 3) := by decide +kernel
theorem dX5_tells_71 : decode cX5_tells 71 = .ok (.iload_n 2, 1) := by decide +kernel
theorem dX5_tells_72 : decode cX5_tells 72 = .ok (.iconst 1, 1) := by decide +kernel
theorem dX5_tells_73 : decode cX5_tells 73 = .ok (.iadd, 1) := by decide +kernel
theorem dX5_tells_74 : decode cX5_tells 74 = .ok (.aload_n 0, 1) := by decide +kernel
theorem dX5_tells_75 : decode cX5_tells 75 = .ok (.getfield 28, 3) := by decide +kernel
theorem dX5_tells_78 : decode cX5_tells 78 = .ok (.iload_n 1, 1) := by decide +kernel
theorem dX5_tells_79 : decode cX5_tells 79 = .ok (.iaload, 1) := by decide +kernel
theorem dX5_tells_80 : decode cX5_tells 80 = .ok (.iastore, 1) := by decide +kernel
theorem dX5_tells_81 : decode cX5_tells 81 = .ok (.aload_n 0, 1) := by decide +kernel
theorem dX5_tells_82 : decode cX5_tells 82 = .ok (.getfield 46, 3) := by decide +kernel
theorem dX5_tells_85 : decode cX5_tells 85 = .ok (.iload_n 2, 1) := by decide +kernel
theorem dX5_tells_86 : decode cX5_tells 86 = .ok (.iconst 2, 1) := by decide +kernel
theorem dX5_tells_87 : decode cX5_tells 87 = .ok (.iadd, 1) := by decide +kernel
theorem dX5_tells_88 : decode cX5_tells 88 = .ok (.aload_n 0, 1) := by decide +kernel
theorem dX5_tells_89 : decode cX5_tells 89 = .ok (.getfield 31, 3) := by decide +kernel
theorem dX5_tells_92 : decode cX5_tells 92 = .ok (.iload_n 1, 1) := by decide +kernel
theorem dX5_tells_93 : decode cX5_tells 93 = .ok (.iaload, 1) := by decide +kernel
theorem dX5_tells_94 : decode cX5_tells 94 = .ok (.iastore, 1) := by decide +kernel
theorem dX5_tells_95 : decode cX5_tells 95 = .ok (.aload_n 0, 1) := by decide +kernel
theorem dX5_tells_96 : decode cX5_tells 96 = .ok (.getfield 46, 3) := by decide +kernel
theorem dX5_tells_99 : decode cX5_tells 99 = .ok (.iload_n 2, 1) := by decide +kernel
theorem dX5_tells_100 : decode cX5_tells 100 = .ok (.iconst 3, 1) := by decide +kernel
theorem dX5_tells_101 : decode cX5_tells 101 = .ok (.iadd, 1) := by decide +kernel
theorem dX5_tells_102 : decode cX5_tells 102 = .ok (.aload_n 0, 1) := by decide +kernel
theorem dX5_tells_103 : decode cX5_tells 103 = .ok (.getfield 34, 3) := by decide +kernel
theorem dX5_tells_106 : decode cX5_tells 106 = .ok (.iload_n 1, 1) := by decide +kernel
theorem dX5_tells_107 : decode cX5_tells 107 = .ok (.iaload, 1) := by decide +kernel
theorem dX5_tells_108 : decode cX5_tells 108 = .ok (.iastore, 1) := by decide +kernel
theorem dX5_tells_109 : decode cX5_tells 109 = .ok (.aload_n 0, 1) := by decide +kernel
theorem dX5_tells_110 : decode cX5_tells 110 = .ok (.getfield 46, 3) := by decide +kernel
theorem dX5_tells_113 : decode cX5_tells 113 = .ok (.iload_n 2, 1) := by decide +kernel
theorem dX5_tells_114 : decode cX5_tells 114 = .ok (.iconst 4, 1) := by decide +kernel
theorem dX5_tells_115 : decode cX5_tells 115 = .ok (.iadd, 1) := by decide +kernel
theorem dX5_tells_116 : decode cX5_tells 116 = .ok (.aload_n 0, 1) := by decide +kernel
theorem dX5_tells_117 : decode cX5_tells 117 = .ok (.getfield 40, 3) := by decide +kernel
theorem dX5_tells_120 : decode cX5_tells 120 = .ok (.iload_n 1, 1) := by decide +kernel
theorem dX5_tells_121 : decode cX5_tells 121 = .ok (.iaload, 1) := by decide +kernel
theorem dX5_tells_122 : decode cX5_tells 122 = .ok (.iastore, 1) := by decide +kernel
theorem dX5_tells_123 : decode cX5_tells 123 = .ok (.aload_n 0, 1) := by decide +kernel
theorem dX5_tells_124 : decode cX5_tells 124 = .ok (.getfield 46, 3) := by decide +kernel
theorem dX5_tells_127 : decode cX5_tells 127 = .ok (.iload_n 2, 1) := by decide +kernel
theorem dX5_tells_128 : decode cX5_tells 128 = .ok (.iconst 5, 1) := by decide +kernel
theorem dX5_tells_129 : decode cX5_tells 129 = .ok (.iadd, 1) := by decide +kernel
theorem dX5_tells_130 : decode cX5_tells 130 = .ok (.aload_n 0, 1) := by decide +kernel
theorem dX5_tells_131 : decode cX5_tells 131 = .ok (.getfield 22, 3) := by decide +kernel
theorem dX5_tells_134 : decode cX5_tells 134 = .ok (.iconst 0, 1) := by decide +kernel
theorem dX5_tells_135 : decode cX5_tells 135 = .ok (.iaload, 1) := by decide +kernel
theorem dX5_tells_136 : decode cX5_tells 136 = .ok (.iastore, 1) := by decide +kernel
theorem dX5_tells_137 : decode cX5_tells 137 = .ok (.aload_n 0, 1) := by decide +kernel
theorem dX5_tells_138 : decode cX5_tells 138 = .ok (.dup, 1) := by decide +kernel
theorem dX5_tells_139 : decode cX5_tells 139 = .ok (.getfield 83, 3) := by decide +kernel
theorem dX5_tells_142 : decode cX5_tells 142 = .ok (.iconst 1, 1) := by decide +kernel
theorem dX5_tells_143 : decode cX5_tells 143 = .ok (.iadd, 1) := by decide +kernel
theorem dX5_tells_144 : decode cX5_tells 144 = .ok (.putfield 83, 3) := by decide +kernel
theorem dX5_tells_147 : decode cX5_tells 147 = .ok (.aload_n 0, 1) := by decide +kernel
theorem dX5_tells_148 : decode cX5_tells 148 = .ok (.dup, 1) := by decide +kernel
theorem dX5_tells_149 : decode cX5_tells 149 = .ok (.getfield 86, 3) := by decide +kernel
theorem dX5_tells_152 : decode cX5_tells 152 = .ok (.iconst 1, 1) := by decide +kernel
theorem dX5_tells_153 : decode cX5_tells 153 = .ok (.iadd, 1) := by decide +kernel
theorem dX5_tells_154 : decode cX5_tells 154 = .ok (.putfield 86, 3) := by decide +kernel
theorem dX5_tells_157 : decode cX5_tells 157 = .ok (.return_, 1) := by decide +kernel
set_option maxRecDepth 20000 in
theorem ggX5_put_X5_isForm : GoodIn wsX5_put wsX5_isForm := goodIn_r _ [6, 7, 8, 9, 10, 5, 11, 12, 13, 14, 15, 58, 59, 60, 61, 62, 63, 64, 65, 66, 67, 68, 69, 70, 71, 72, 73, 74, 75, 76, 77] (by decide +kernel) (by decide +kernel)
set_option maxRecDepth 20000 in
theorem gX5_put_X5_isForm : GoodIn wsX5_put (wsV RX5 89 RX5 yX5_isForm wsX5_isForm) := goodIn_app (goodIn_of _ (by decide +kernel)) ggX5_put_X5_isForm
set_option maxRecDepth 20000 in
theorem ggX5_put_X5_isIn : GoodIn wsX5_put wsX5_isIn := goodIn_r _ [15] (by decide +kernel) (by decide +kernel)
set_option maxRecDepth 20000 in
theorem gX5_put_X5_isIn : GoodIn wsX5_put (va_wsS RX5 60 yX5_isIn wsX5_isIn) := goodIn_app (goodIn_of _ (by decide +kernel)) ggX5_put_X5_isIn
set_option maxRecDepth 20000 in
theorem ggX5_put_X5_find : GoodIn wsX5_put wsX5_find := goodIn_r _ [19, 20, 21, 22, 1, 58, 59, 60, 61, 62, 63, 64, 65, 66, 67, 68, 69, 70, 71, 72, 73, 74, 75, 76, 77] (by decide +kernel) (by decide +kernel)
set_option maxRecDepth 20000 in
theorem gX5_put_X5_find : GoodIn wsX5_put (wsV RX5 93 RX5 yX5_find wsX5_find) := goodIn_app (goodIn_of _ (by decide +kernel)) ggX5_put_X5_find
set_option maxRecDepth 20000 in
theorem ggX5_put_X5_isShown : GoodIn wsX5_put wsX5_isShown := goodIn_r _ [26, 20, 1, 27, 28, 29, 30, 5, 31, 32, 33, 58, 59, 60, 61, 62, 63, 64, 65, 66, 67, 68, 69, 70, 71, 72, 73, 74, 75, 76, 77] (by decide +kernel) (by decide +kernel)
set_option maxRecDepth 20000 in
theorem gX5_put_X5_isShown : GoodIn wsX5_put (wsV RX5 73 RX5 yX5_isShown wsX5_isShown) := goodIn_app (goodIn_of _ (by decide +kernel)) ggX5_put_X5_isShown
set_option maxRecDepth 20000 in
theorem ggX5_put_X5_free : GoodIn wsX5_put wsX5_free := goodIn_r _ [37, 20, 1, 58, 59, 60, 61, 62, 63, 64, 65, 66, 67, 68, 69, 70, 71, 72, 73, 74, 75, 76, 77] (by decide +kernel) (by decide +kernel)
set_option maxRecDepth 20000 in
theorem gX5_put_X5_free : GoodIn wsX5_put (wsV RX5 97 RX5 yX5_free wsX5_free) := goodIn_app (goodIn_of _ (by decide +kernel)) ggX5_put_X5_free
set_option maxRecDepth 20000 in
theorem ggX5_put_X5_tells : GoodIn wsX5_put wsX5_tells := goodIn_r _ [41, 42, 43, 20, 21, 22, 44, 27, 32, 45, 58, 59, 60, 61, 62, 63, 64, 65, 66, 67, 68, 69, 70, 71, 72, 73, 74, 75, 76, 77] (by decide +kernel) (by decide +kernel)
set_option maxRecDepth 20000 in
theorem gX5_put_X5_tells : GoodIn wsX5_put (wsV RX5 101 RX5 yX5_tells wsX5_tells) := goodIn_app (goodIn_of _ (by decide +kernel)) ggX5_put_X5_tells
set_option maxRecDepth 20000 in
theorem ggX5_put_X5_writes : GoodIn wsX5_put wsX5_writes := goodIn_r _ [49, 20, 21, 22, 44, 50, 51, 52, 53, 54, 5, 55, 56, 32, 33, 27, 57, 58, 59, 60, 61, 62, 63, 64, 65, 66, 67, 68, 69, 70, 71, 72, 73, 74, 75, 76, 77] (by decide +kernel) (by decide +kernel)
set_option maxRecDepth 20000 in
theorem gX5_put_X5_writes : GoodIn wsX5_put (wsV RX5 104 RX5 yX5_writes wsX5_writes) := goodIn_app (goodIn_of _ (by decide +kernel)) ggX5_put_X5_writes
theorem dX5_put_0 : decode cX5_put 0 = .ok (.aload_n 0, 1) := by decide +kernel
theorem dX5_put_1 : decode cX5_put 1 = .ok (.iload_n 1, 1) := by decide +kernel
theorem dX5_put_2 : decode cX5_put 2 = .ok (.iconst 0, 1) := by decide +kernel
theorem dX5_put_3 : decode cX5_put 3 = .ok (.invokevirtual 89, 3) := by decide +kernel
theorem dX5_put_6 : decode cX5_put 6 = .ok (.ifCond .eq 23, 3) := by decide +kernel
theorem dX5_put_9 : decode cX5_put 9 = .ok (.iload_n 2, 1) := by decide +kernel
theorem dX5_put_10 : decode cX5_put 10 = .ok (.iconst 0, 1) := by decide +kernel
theorem dX5_put_11 : decode cX5_put 11 = .ok (.bipush 99, 2) := by decide +kernel
theorem dX5_put_13 : decode cX5_put 13 = .ok (.invokestatic 60, 3) := by decide +kernel
theorem dX5_put_16 : decode cX5_put 16 = .ok (.ifCond .eq 13, 3) := by decide +kernel
theorem dX5_put_19 : decode cX5_put 19 = .ok (.iload_n 3, 1) := by decide +kernel
theorem dX5_put_20 : decode cX5_put 20 = .ok (.iconst 0, 1) := by decide +kernel
theorem dX5_put_21 : decode cX5_put 21 = .ok (.bipush 9, 2) := by decide +kernel
theorem dX5_put_23 : decode cX5_put 23 = .ok (.invokestatic 60, 3) := by decide +kernel
theorem dX5_put_26 : decode cX5_put 26 = .ok (.ifCond .ne 5, 3) := by decide +kernel
theorem dX5_put_29 : decode cX5_put 29 = .ok (.iconst (-1), 1) := by decide +kernel
theorem dX5_put_30 : decode cX5_put 30 = .ok (.ireturn, 1) := by decide +kernel
theorem dX5_put_31 : decode cX5_put 31 = .ok (.aload_n 0, 1) := by decide +kernel
theorem dX5_put_32 : decode cX5_put 32 = .ok (.iload_n 1, 1) := by decide +kernel
theorem dX5_put_33 : decode cX5_put 33 = .ok (.iload_n 2, 1) := by decide +kernel
theorem dX5_put_34 : decode cX5_put 34 = .ok (.iload_n 3, 1) := by decide +kernel
theorem dX5_put_35 : decode cX5_put 35 = .ok (.invokevirtual 93, 3) := by decide +kernel
theorem dX5_put_38 : decode cX5_put 38 = .ok (.istore 5, 2) := by decide +kernel
theorem dX5_put_40 : decode cX5_put 40 = .ok (.iload 5, 2) := by decide +kernel
theorem dX5_put_42 : decode cX5_put 42 = .ok (.ldc 55, 2) := by decide +kernel
theorem dX5_put_44 : decode cX5_put 44 = .ok (.if_icmp .eq 16, 3) := by decide +kernel
theorem dX5_put_47 : decode cX5_put 47 = .ok (.aload_n 0, 1) := by decide +kernel
theorem dX5_put_48 : decode cX5_put 48 = .ok (.iload 5, 2) := by decide +kernel
theorem dX5_put_50 : decode cX5_put 50 = .ok (.invokevirtual 73, 3) := by decide +kernel
theorem dX5_put_53 : decode cX5_put 53 = .ok (.ifCond .eq 7, 3) := by decide +kernel
theorem dX5_put_56 : decode cX5_put 56 = .ok (.iconst 1, 1) := by decide +kernel
theorem dX5_put_57 : decode cX5_put 57 = .ok (.goto 4, 3) := by decide +kernel
theorem dX5_put_60 : decode cX5_put 60 = .ok (.iconst 0, 1) := by decide +kernel
theorem dX5_put_61 : decode cX5_put 61 = .ok (.istore 6, 2) := by decide +kernel
theorem dX5_put_63 : decode cX5_put 63 = .ok (.iload 5, 2) := by decide +kernel
theorem dX5_put_65 : decode cX5_put 65 = .ok (.ldc 55, 2) := by decide +kernel
theorem dX5_put_67 : decode cX5_put 67 = .ok (.if_icmp .ne 19, 3) := by decide +kernel
theorem dX5_put_70 : decode cX5_put 70 = .ok (.aload_n 0, 1) := by decide +kernel
theorem dX5_put_71 : decode cX5_put 71 = .ok (.invokevirtual 97, 3) := by decide +kernel
theorem dX5_put_74 : decode cX5_put 74 = .ok (.istore 5, 2) := by decide +kernel
theorem dX5_put_76 : decode cX5_put 76 = .ok (.iload 5, 2) := by decide +kernel
theorem dX5_put_78 : decode cX5_put 78 = .ok (.ldc 55, 2) := by decide +kernel
theorem dX5_put_80 : decode cX5_put 80 = .ok (.if_icmp .ne 17, 3) := by decide +kernel
theorem dX5_put_83 : decode cX5_put 83 = .ok (.bipush (-3), 2) := by decide +kernel
theorem dX5_put_85 : decode cX5_put 85 = .ok (.ireturn, 1) := by decide +kernel
theorem dX5_put_86 : decode cX5_put 86 = .ok (.iload 6, 2) := by decide +kernel
theorem dX5_put_88 : decode cX5_put 88 = .ok (.ifCond .ne 9, 3) := by decide +kernel
theorem dX5_put_91 : decode cX5_put 91 = .ok (.aload_n 0, 1) := by decide +kernel
theorem dX5_put_92 : decode cX5_put 92 = .ok (.iload 5, 2) := by decide +kernel
theorem dX5_put_94 : decode cX5_put 94 = .ok (.invokevirtual 101, 3) := by decide +kernel
theorem dX5_put_97 : decode cX5_put 97 = .ok (.aload_n 0, 1) := by decide +kernel
theorem dX5_put_98 : decode cX5_put 98 = .ok (.iload 5, 2) := by decide +kernel
theorem dX5_put_100 : decode cX5_put 100 = .ok (.iload_n 1, 1) := by decide +kernel
theorem dX5_put_101 : decode cX5_put 101 = .ok (.iload_n 2, 1) := by decide +kernel
theorem dX5_put_102 : decode cX5_put 102 = .ok (.iload_n 3, 1) := by decide +kernel
theorem dX5_put_103 : decode cX5_put 103 = .ok (.iload 4, 2) := by decide +kernel
theorem dX5_put_105 : decode cX5_put 105 = .ok (.invokevirtual 104, 3) := by decide +kernel
theorem dX5_put_108 : decode cX5_put 108 = .ok (.iload 6, 2) := by decide +kernel
theorem dX5_put_110 : decode cX5_put 110 = .ok (.ifCond .eq 7, 3) := by decide +kernel
theorem dX5_put_113 : decode cX5_put 113 = .ok (.iconst 1, 1) := by decide +kernel
theorem dX5_put_114 : decode cX5_put 114 = .ok (.goto 4, 3) := by decide +kernel
theorem dX5_put_117 : decode cX5_put 117 = .ok (.iconst 0, 1) := by decide +kernel
theorem dX5_put_118 : decode cX5_put 118 = .ok (.ireturn, 1) := by decide +kernel
set_option maxRecDepth 20000 in
theorem ggX5_read_X5_stamps : GoodIn wsX5_read wsX5_stamps := goodIn_r _ [8, 2, 9, 10, 11, 12, 13, 14, 15, 16, 17, 18, 19, 20, 21, 22, 23, 24, 25, 26, 27, 28, 29, 30, 31, 32, 33] (by decide +kernel) (by decide +kernel)
set_option maxRecDepth 20000 in
theorem gX5_read_X5_stamps : GoodIn wsX5_read (wsV RX5 79 RX5 yX5_stamps wsX5_stamps) := goodIn_app (goodIn_of _ (by decide +kernel)) ggX5_read_X5_stamps
theorem dX5_read_0 : decode cX5_read 0 = .ok (.aload_n 0, 1) := by decide +kernel
theorem dX5_read_1 : decode cX5_read 1 = .ok (.getfield 19, 3) := by decide +kernel
theorem dX5_read_4 : decode cX5_read 4 = .ok (.aload_n 0, 1) := by decide +kernel
theorem dX5_read_5 : decode cX5_read 5 = .ok (.getfield 25, 3) := by decide +kernel
theorem dX5_read_8 : decode cX5_read 8 = .ok (.iload_n 1, 1) := by decide +kernel
theorem dX5_read_9 : decode cX5_read 9 = .ok (.iaload, 1) := by decide +kernel
theorem dX5_read_10 : decode cX5_read 10 = .ok (.iaload, 1) := by decide +kernel
theorem dX5_read_11 : decode cX5_read 11 = .ok (.iconst 1, 1) := by decide +kernel
theorem dX5_read_12 : decode cX5_read 12 = .ok (.if_icmp .ne 8, 3) := by decide +kernel
theorem dX5_read_15 : decode cX5_read 15 = .ok (.aload_n 0, 1) := by decide +kernel
theorem dX5_read_16 : decode cX5_read 16 = .ok (.iload_n 1, 1) := by decide +kernel
theorem dX5_read_17 : decode cX5_read 17 = .ok (.invokevirtual 79, 3) := by decide +kernel
theorem dX5_read_20 : decode cX5_read 20 = .ok (.aload_n 0, 1) := by decide +kernel
theorem dX5_read_21 : decode cX5_read 21 = .ok (.getfield 34, 3) := by decide +kernel
theorem dX5_read_24 : decode cX5_read 24 = .ok (.iload_n 1, 1) := by decide +kernel
theorem dX5_read_25 : decode cX5_read 25 = .ok (.iaload, 1) := by decide +kernel
theorem dX5_read_26 : decode cX5_read 26 = .ok (.ireturn, 1) := by decide +kernel
set_option maxRecDepth 20000 in
theorem ggX5_get_X5_isForm : GoodIn wsX5_get wsX5_isForm := goodIn_r _ [6, 7, 8, 9, 10, 5, 11, 12, 13, 14, 15, 46, 47, 48, 49, 50, 51, 52, 53, 54, 55, 56, 57, 58, 59, 60, 61, 62, 63, 64, 65] (by decide +kernel) (by decide +kernel)
set_option maxRecDepth 20000 in
theorem gX5_get_X5_isForm : GoodIn wsX5_get (wsV RX5 89 RX5 yX5_isForm wsX5_isForm) := goodIn_app (goodIn_of _ (by decide +kernel)) ggX5_get_X5_isForm
set_option maxRecDepth 20000 in
theorem ggX5_get_X5_isIn : GoodIn wsX5_get wsX5_isIn := goodIn_r _ [15] (by decide +kernel) (by decide +kernel)
set_option maxRecDepth 20000 in
theorem gX5_get_X5_isIn : GoodIn wsX5_get (va_wsS RX5 60 yX5_isIn wsX5_isIn) := goodIn_app (goodIn_of _ (by decide +kernel)) ggX5_get_X5_isIn
set_option maxRecDepth 20000 in
theorem ggX5_get_X5_find : GoodIn wsX5_get wsX5_find := goodIn_r _ [19, 20, 21, 22, 1, 46, 47, 48, 49, 50, 51, 52, 53, 54, 55, 56, 57, 58, 59, 60, 61, 62, 63, 64, 65] (by decide +kernel) (by decide +kernel)
set_option maxRecDepth 20000 in
theorem gX5_get_X5_find : GoodIn wsX5_get (wsV RX5 93 RX5 yX5_find wsX5_find) := goodIn_app (goodIn_of _ (by decide +kernel)) ggX5_get_X5_find
set_option maxRecDepth 20000 in
theorem ggX5_get_X5_isShown : GoodIn wsX5_get wsX5_isShown := goodIn_r _ [26, 20, 1, 27, 28, 29, 30, 5, 31, 32, 33, 46, 47, 48, 49, 50, 51, 52, 53, 54, 55, 56, 57, 58, 59, 60, 61, 62, 63, 64, 65] (by decide +kernel) (by decide +kernel)
set_option maxRecDepth 20000 in
theorem gX5_get_X5_isShown : GoodIn wsX5_get (wsV RX5 73 RX5 yX5_isShown wsX5_isShown) := goodIn_app (goodIn_of _ (by decide +kernel)) ggX5_get_X5_isShown
set_option maxRecDepth 20000 in
theorem ggX5_get_X5_read : GoodIn wsX5_get wsX5_read := goodIn_r _ [37, 38, 20, 39, 40, 41, 42, 5, 43, 44, 32, 33, 27, 45, 46, 47, 48, 49, 50, 51, 52, 53, 54, 55, 56, 57, 58, 59, 60, 61, 62, 63, 64, 65] (by decide +kernel) (by decide +kernel)
set_option maxRecDepth 20000 in
theorem gX5_get_X5_read : GoodIn wsX5_get (wsV RX5 108 RX5 yX5_read wsX5_read) := goodIn_app (goodIn_of _ (by decide +kernel)) ggX5_get_X5_read
theorem dX5_get_0 : decode cX5_get 0 = .ok (.aload_n 0, 1) := by decide +kernel
theorem dX5_get_1 : decode cX5_get 1 = .ok (.iload_n 1, 1) := by decide +kernel
theorem dX5_get_2 : decode cX5_get 2 = .ok (.iconst 0, 1) := by decide +kernel
theorem dX5_get_3 : decode cX5_get 3 = .ok (.invokevirtual 89, 3) := by decide +kernel
theorem dX5_get_6 : decode cX5_get 6 = .ok (.ifCond .eq 23, 3) := by decide +kernel
theorem dX5_get_9 : decode cX5_get 9 = .ok (.iload_n 2, 1) := by decide +kernel
theorem dX5_get_10 : decode cX5_get 10 = .ok (.iconst 0, 1) := by decide +kernel
theorem dX5_get_11 : decode cX5_get 11 = .ok (.bipush 99, 2) := by decide +kernel
theorem dX5_get_13 : decode cX5_get 13 = .ok (.invokestatic 60, 3) := by decide +kernel
theorem dX5_get_16 : decode cX5_get 16 = .ok (.ifCond .eq 13, 3) := by decide +kernel
theorem dX5_get_19 : decode cX5_get 19 = .ok (.iload_n 3, 1) := by decide +kernel
theorem dX5_get_20 : decode cX5_get 20 = .ok (.iconst 0, 1) := by decide +kernel
theorem dX5_get_21 : decode cX5_get 21 = .ok (.bipush 9, 2) := by decide +kernel
theorem dX5_get_23 : decode cX5_get 23 = .ok (.invokestatic 60, 3) := by decide +kernel
theorem dX5_get_26 : decode cX5_get 26 = .ok (.ifCond .ne 5, 3) := by decide +kernel
theorem dX5_get_29 : decode cX5_get 29 = .ok (.iconst (-1), 1) := by decide +kernel
theorem dX5_get_30 : decode cX5_get 30 = .ok (.ireturn, 1) := by decide +kernel
theorem dX5_get_31 : decode cX5_get 31 = .ok (.aload_n 0, 1) := by decide +kernel
theorem dX5_get_32 : decode cX5_get 32 = .ok (.iload_n 1, 1) := by decide +kernel
theorem dX5_get_33 : decode cX5_get 33 = .ok (.iload_n 2, 1) := by decide +kernel
theorem dX5_get_34 : decode cX5_get 34 = .ok (.iload_n 3, 1) := by decide +kernel
theorem dX5_get_35 : decode cX5_get 35 = .ok (.invokevirtual 93, 3) := by decide +kernel
theorem dX5_get_38 : decode cX5_get 38 = .ok (.istore 4, 2) := by decide +kernel
theorem dX5_get_40 : decode cX5_get 40 = .ok (.iload 4, 2) := by decide +kernel
theorem dX5_get_42 : decode cX5_get 42 = .ok (.ldc 55, 2) := by decide +kernel
theorem dX5_get_44 : decode cX5_get 44 = .ok (.if_icmp .eq 21, 3) := by decide +kernel
theorem dX5_get_47 : decode cX5_get 47 = .ok (.aload_n 0, 1) := by decide +kernel
theorem dX5_get_48 : decode cX5_get 48 = .ok (.iload 4, 2) := by decide +kernel
theorem dX5_get_50 : decode cX5_get 50 = .ok (.invokevirtual 73, 3) := by decide +kernel
theorem dX5_get_53 : decode cX5_get 53 = .ok (.ifCond .eq 12, 3) := by decide +kernel
