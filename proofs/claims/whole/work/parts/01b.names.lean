set_option maxRecDepth 20000 in
theorem ggX4_put_X4_slotOf : GoodIn wsX4_put wsX4_slotOf := goodIn_r _ [27] (by decide +kernel) (by decide +kernel)
set_option maxRecDepth 20000 in
theorem gX4_put_X4_slotOf : GoodIn wsX4_put (va_wsS RX4 59 yX4_slotOf wsX4_slotOf) := goodIn_app (goodIn_of _ (by decide +kernel)) ggX4_put_X4_slotOf
set_option maxRecDepth 20000 in
theorem ggX4_put_X4_placeOf : GoodIn wsX4_put wsX4_placeOf := goodIn_r _ [31, 32, 33, 34, 35, 36, 37, 38, 4, 39, 40, 41, 42, 43, 44, 6, 45, 46, 47, 48, 49, 50, 51, 52, 53, 14, 54, 55, 56, 113, 114, 115, 116, 117, 124, 125, 126, 127, 128, 129, 118, 119, 120, 121, 122, 123] (by decide +kernel) (by decide +kernel)
set_option maxRecDepth 20000 in
theorem gX4_put_X4_placeOf : GoodIn wsX4_put (wsV RX4 63 RX4 yX4_placeOf wsX4_placeOf) := goodIn_app (goodIn_of _ (by decide +kernel)) ggX4_put_X4_placeOf
set_option maxRecDepth 20000 in
theorem ggX4_put_X4_bring : GoodIn wsX4_put wsX4_bring := goodIn_r _ [60, 32, 61, 62, 63, 48, 64, 65, 66, 67, 68, 50, 69, 70, 71, 72, 73, 74, 75, 76, 77, 4, 78, 79, 6, 80, 45, 46, 47, 49, 81, 82, 83, 84, 85, 44, 51, 52, 53, 14, 54, 55, 56, 113, 114, 115, 116, 117, 124, 125, 126, 127, 128, 129, 118, 119, 120, 121, 122, 123] (by decide +kernel) (by decide +kernel)
set_option maxRecDepth 20000 in
theorem gX4_put_X4_bring : GoodIn wsX4_put (wsV RX4 67 RX4 yX4_bring wsX4_bring) := goodIn_app (goodIn_of _ (by decide +kernel)) ggX4_put_X4_bring
set_option maxRecDepth 20000 in
theorem ggX4_put_X4_isShown : GoodIn wsX4_put wsX4_isShown := goodIn_r _ [39, 40, 41, 42, 4, 43, 32, 44, 6, 45, 46, 47, 48, 49, 50, 51, 52, 53, 14, 54, 55, 56, 113, 114, 115, 116, 117, 124, 125, 126, 127, 128, 129, 118, 119, 120, 121, 122, 123] (by decide +kernel) (by decide +kernel)
set_option maxRecDepth 20000 in
theorem gX4_put_X4_isShown : GoodIn wsX4_put (wsV RX4 71 RX4 yX4_isShown wsX4_isShown) := goodIn_app (goodIn_of _ (by decide +kernel)) ggX4_put_X4_isShown
set_option maxRecDepth 20000 in
theorem ggX4_put_X4_tell : GoodIn wsX4_put wsX4_tell := goodIn_r _ [89, 90, 91, 32, 79, 44, 6, 92, 93, 94, 95, 96, 97, 98, 99, 100, 101, 102, 103, 104, 45, 46, 47, 48, 49, 50, 105, 106, 107, 108, 109, 110, 111, 112, 113, 114, 115, 116, 117, 130, 131, 132, 133, 124, 125, 126, 127, 128, 129, 118, 119, 120, 121, 122, 123] (by decide +kernel) (by decide +kernel)
set_option maxRecDepth 20000 in
theorem gX4_put_X4_tell : GoodIn wsX4_put (wsV RX4 74 RX4 yX4_tell wsX4_tell) := goodIn_app (goodIn_of _ (by decide +kernel)) ggX4_put_X4_tell
set_option maxRecDepth 20000 in
theorem ggX4_put_X4_write : GoodIn wsX4_put wsX4_write := goodIn_r _ [78, 32, 79, 6, 80, 45, 46, 47, 48, 49, 50, 81, 82, 83, 4, 84, 85, 44, 51, 52, 53, 14, 54, 55, 56, 113, 114, 115, 116, 117, 124, 125, 126, 127, 128, 129, 118, 119, 120, 121, 122, 123] (by decide +kernel) (by decide +kernel)
set_option maxRecDepth 20000 in
theorem gX4_put_X4_write : GoodIn wsX4_put (wsV RX4 78 RX4 yX4_write wsX4_write) := goodIn_app (goodIn_of _ (by decide +kernel)) ggX4_put_X4_write
theorem dX4_put_0 : decode cX4_put 0 = .ok (.aload_n 0, 1) := by decide +kernel
theorem dX4_put_1 : decode cX4_put 1 = .ok (.iload_n 1, 1) := by decide +kernel
theorem dX4_put_2 : decode cX4_put 2 = .ok (.iload_n 2, 1) := by decide +kernel
theorem dX4_put_3 : decode cX4_put 3 = .ok (.iload_n 3, 1) := by decide +kernel
theorem dX4_put_4 : decode cX4_put 4 = .ok (.invokevirtual 55, 3) := by decide +kernel
theorem dX4_put_7 : decode cX4_put 7 = .ok (.ifCond .ne 5, 3) := by decide +kernel
theorem dX4_put_10 : decode cX4_put 10 = .ok (.iconst (-1), 1) := by decide +kernel
theorem dX4_put_11 : decode cX4_put 11 = .ok (.ireturn, 1) := by decide +kernel
theorem dX4_put_12 : decode cX4_put 12 = .ok (.iload_n 1, 1) := by decide +kernel
theorem dX4_put_13 : decode cX4_put 13 = .ok (.iload_n 2, 1) := by decide +kernel
theorem dX4_put_14 : decode cX4_put 14 = .ok (.iload_n 3, 1) := by decide +kernel
theorem dX4_put_15 : decode cX4_put 15 = .ok (.invokestatic 59, 3) := by decide +kernel
theorem dX4_put_18 : decode cX4_put 18 = .ok (.istore 5, 2) := by decide +kernel
theorem dX4_put_20 : decode cX4_put 20 = .ok (.aload_n 0, 1) := by decide +kernel
theorem dX4_put_21 : decode cX4_put 21 = .ok (.iload 5, 2) := by decide +kernel
theorem dX4_put_23 : decode cX4_put 23 = .ok (.iconst 0, 1) := by decide +kernel
theorem dX4_put_24 : decode cX4_put 24 = .ok (.iconst 1, 1) := by decide +kernel
theorem dX4_put_25 : decode cX4_put 25 = .ok (.invokevirtual 63, 3) := by decide +kernel
theorem dX4_put_28 : decode cX4_put 28 = .ok (.istore 6, 2) := by decide +kernel
theorem dX4_put_30 : decode cX4_put 30 = .ok (.iload 6, 2) := by decide +kernel
theorem dX4_put_32 : decode cX4_put 32 = .ok (.iconst (-1), 1) := by decide +kernel
theorem dX4_put_33 : decode cX4_put 33 = .ok (.if_icmp .ne 21, 3) := by decide +kernel
theorem dX4_put_36 : decode cX4_put 36 = .ok (.aload_n 0, 1) := by decide +kernel
theorem dX4_put_37 : decode cX4_put 37 = .ok (.iload 5, 2) := by decide +kernel
theorem dX4_put_39 : decode cX4_put 39 = .ok (.iload 4, 2) := by decide +kernel
theorem dX4_put_41 : decode cX4_put 41 = .ok (.invokevirtual 67, 3) := by decide +kernel
theorem dX4_put_44 : decode cX4_put 44 = .ok (.ifCond .eq 7, 3) := by decide +kernel
theorem dX4_put_47 : decode cX4_put 47 = .ok (.iconst 0, 1) := by decide +kernel
theorem dX4_put_48 : decode cX4_put 48 = .ok (.goto 5, 3) := by decide +kernel
theorem dX4_put_51 : decode cX4_put 51 = .ok (.bipush (-3), 2) := by decide +kernel
theorem dX4_put_53 : decode cX4_put 53 = .ok (.ireturn, 1) := by decide +kernel
theorem dX4_put_54 : decode cX4_put 54 = .ok (.aload_n 0, 1) := by decide +kernel
theorem dX4_put_55 : decode cX4_put 55 = .ok (.iload 6, 2) := by decide +kernel
theorem dX4_put_57 : decode cX4_put 57 = .ok (.invokevirtual 71, 3) := by decide +kernel
theorem dX4_put_60 : decode cX4_put 60 = .ok (.istore 7, 2) := by decide +kernel
theorem dX4_put_62 : decode cX4_put 62 = .ok (.iload 7, 2) := by decide +kernel
theorem dX4_put_64 : decode cX4_put 64 = .ok (.ifCond .ne 9, 3) := by decide +kernel
theorem dX4_put_67 : decode cX4_put 67 = .ok (.aload_n 0, 1) := by decide +kernel
theorem dX4_put_68 : decode cX4_put 68 = .ok (.iload 6, 2) := by decide +kernel
theorem dX4_put_70 : decode cX4_put 70 = .ok (.invokevirtual 74, 3) := by decide +kernel
theorem dX4_put_73 : decode cX4_put 73 = .ok (.aload_n 0, 1) := by decide +kernel
theorem dX4_put_74 : decode cX4_put 74 = .ok (.iload 6, 2) := by decide +kernel
theorem dX4_put_76 : decode cX4_put 76 = .ok (.iload 4, 2) := by decide +kernel
theorem dX4_put_78 : decode cX4_put 78 = .ok (.invokevirtual 78, 3) := by decide +kernel
theorem dX4_put_81 : decode cX4_put 81 = .ok (.iload 7, 2) := by decide +kernel
theorem dX4_put_83 : decode cX4_put 83 = .ok (.ifCond .eq 7, 3) := by decide +kernel
theorem dX4_put_86 : decode cX4_put 86 = .ok (.iconst 1, 1) := by decide +kernel
theorem dX4_put_87 : decode cX4_put 87 = .ok (.goto 4, 3) := by decide +kernel
theorem dX4_put_90 : decode cX4_put 90 = .ok (.iconst 0, 1) := by decide +kernel
theorem dX4_put_91 : decode cX4_put 91 = .ok (.ireturn, 1) := by decide +kernel
set_option maxRecDepth 20000 in
theorem ggX4_get_X4_isNumberFor : GoodIn wsX4_get wsX4_isNumberFor := goodIn_r _ [5, 6, 7, 8, 9, 4, 10, 11, 12, 13, 14, 15, 16, 17, 18, 19, 20, 21, 22, 23, 24, 74, 75, 76, 77, 78, 79, 80, 81, 82, 83, 84] (by decide +kernel) (by decide +kernel)
set_option maxRecDepth 20000 in
theorem gX4_get_X4_isNumberFor : GoodIn wsX4_get (wsV RX4 55 RX4 yX4_isNumberFor wsX4_isNumberFor) := goodIn_app (goodIn_of _ (by decide +kernel)) ggX4_get_X4_isNumberFor
set_option maxRecDepth 20000 in
theorem ggX4_get_X4_slotOf : GoodIn wsX4_get wsX4_slotOf := goodIn_r _ [27] (by decide +kernel) (by decide +kernel)
set_option maxRecDepth 20000 in
theorem gX4_get_X4_slotOf : GoodIn wsX4_get (va_wsS RX4 59 yX4_slotOf wsX4_slotOf) := goodIn_app (goodIn_of _ (by decide +kernel)) ggX4_get_X4_slotOf
set_option maxRecDepth 20000 in
theorem ggX4_get_X4_placeOf : GoodIn wsX4_get wsX4_placeOf := goodIn_r _ [31, 32, 33, 34, 35, 36, 37, 38, 4, 39, 40, 41, 42, 43, 44, 6, 45, 46, 47, 48, 49, 50, 51, 52, 53, 14, 54, 55, 56, 74, 75, 76, 77, 78, 85, 86, 87, 88, 89, 90, 79, 80, 81, 82, 83, 84] (by decide +kernel) (by decide +kernel)
set_option maxRecDepth 20000 in
theorem gX4_get_X4_placeOf : GoodIn wsX4_get (wsV RX4 63 RX4 yX4_placeOf wsX4_placeOf) := goodIn_app (goodIn_of _ (by decide +kernel)) ggX4_get_X4_placeOf
set_option maxRecDepth 20000 in
theorem ggX4_get_X4_read : GoodIn wsX4_get wsX4_read := goodIn_r _ [60, 61, 32, 6, 62, 63, 45, 46, 47, 48, 49, 50, 64, 65, 66, 14, 67, 68, 69, 70, 71, 4, 72, 73, 44, 51, 52, 53, 54, 55, 56, 74, 75, 76, 77, 78, 79, 80, 81, 82, 83, 84, 85, 86, 87, 88, 89, 90] (by decide +kernel) (by decide +kernel)
set_option maxRecDepth 20000 in
theorem gX4_get_X4_read : GoodIn wsX4_get (wsV RX4 82 RX4 yX4_read wsX4_read) := goodIn_app (goodIn_of _ (by decide +kernel)) ggX4_get_X4_read
theorem dX4_get_0 : decode cX4_get 0 = .ok (.aload_n 0, 1) := by decide +kernel
theorem dX4_get_1 : decode cX4_get 1 = .ok (.iload_n 1, 1) := by decide +kernel
theorem dX4_get_2 : decode cX4_get 2 = .ok (.iload_n 2, 1) := by decide +kernel
theorem dX4_get_3 : decode cX4_get 3 = .ok (.iload_n 3, 1) := by decide +kernel
theorem dX4_get_4 : decode cX4_get 4 = .ok (.invokevirtual 55, 3) := by decide +kernel
theorem dX4_get_7 : decode cX4_get 7 = .ok (.ifCond .ne 5, 3) := by decide +kernel
theorem dX4_get_10 : decode cX4_get 10 = .ok (.iconst (-1), 1) := by decide +kernel
theorem dX4_get_11 : decode cX4_get 11 = .ok (.ireturn, 1) := by decide +kernel
theorem dX4_get_12 : decode cX4_get 12 = .ok (.aload_n 0, 1) := by decide +kernel
theorem dX4_get_13 : decode cX4_get 13 = .ok (.aload_n 0, 1) := by decide +kernel
theorem dX4_get_14 : decode cX4_get 14 = .ok (.iload_n 1, 1) := by decide +kernel
theorem dX4_get_15 : decode cX4_get 15 = .ok (.iload_n 2, 1) := by decide +kernel
theorem dX4_get_16 : decode cX4_get 16 = .ok (.iload_n 3, 1) := by decide +kernel
theorem dX4_get_17 : decode cX4_get 17 = .ok (.invokestatic 59, 3) := by decide +kernel
theorem dX4_get_20 : decode cX4_get 20 = .ok (.iconst 0, 1) := by decide +kernel
theorem dX4_get_21 : decode cX4_get 21 = .ok (.iconst 0, 1) := by decide +kernel
theorem dX4_get_22 : decode cX4_get 22 = .ok (.invokevirtual 63, 3) := by decide +kernel
theorem dX4_get_25 : decode cX4_get 25 = .ok (.invokevirtual 82, 3) := by decide +kernel
theorem dX4_get_28 : decode cX4_get 28 = .ok (.ireturn, 1) := by decide +kernel
set_option maxRecDepth 20000 in
theorem ggX4_remove_X4_isNumberFor : GoodIn wsX4_remove wsX4_isNumberFor := goodIn_r _ [6, 7, 8, 9, 10, 5, 11, 12, 13, 14, 15, 16, 17, 18, 19, 20, 21, 22, 23, 24, 25, 63, 64, 65, 66, 67, 68, 69, 70, 71, 72, 73] (by decide +kernel) (by decide +kernel)
set_option maxRecDepth 20000 in
theorem gX4_remove_X4_isNumberFor : GoodIn wsX4_remove (wsV RX4 55 RX4 yX4_isNumberFor wsX4_isNumberFor) := goodIn_app (goodIn_of _ (by decide +kernel)) ggX4_remove_X4_isNumberFor
set_option maxRecDepth 20000 in
theorem ggX4_remove_X4_slotOf : GoodIn wsX4_remove wsX4_slotOf := goodIn_r _ [28] (by decide +kernel) (by decide +kernel)
set_option maxRecDepth 20000 in
theorem gX4_remove_X4_slotOf : GoodIn wsX4_remove (va_wsS RX4 59 yX4_slotOf wsX4_slotOf) := goodIn_app (goodIn_of _ (by decide +kernel)) ggX4_remove_X4_slotOf
set_option maxRecDepth 20000 in
theorem ggX4_remove_X4_placeOf : GoodIn wsX4_remove wsX4_placeOf := goodIn_r _ [32, 1, 33, 34, 35, 36, 37, 38, 5, 39, 40, 41, 42, 43, 44, 7, 45, 46, 47, 48, 49, 50, 51, 52, 53, 15, 54, 55, 56, 63, 64, 65, 66, 67, 74, 75, 76, 77, 78, 79, 68, 69, 70, 71, 72, 73] (by decide +kernel) (by decide +kernel)
set_option maxRecDepth 20000 in
theorem gX4_remove_X4_placeOf : GoodIn wsX4_remove (wsV RX4 63 RX4 yX4_placeOf wsX4_placeOf) := goodIn_app (goodIn_of _ (by decide +kernel)) ggX4_remove_X4_placeOf
set_option maxRecDepth 20000 in
theorem ggX4_remove_X4_isShown : GoodIn wsX4_remove wsX4_isShown := goodIn_r _ [39, 40, 41, 42, 5, 43, 1, 44, 7, 45, 46, 47, 48, 49, 50, 51, 52, 53, 15, 54, 55, 56, 63, 64, 65, 66, 67, 74, 75, 76, 77, 78, 79, 68, 69, 70, 71, 72, 73] (by decide +kernel) (by decide +kernel)
set_option maxRecDepth 20000 in
theorem gX4_remove_X4_isShown : GoodIn wsX4_remove (wsV RX4 71 RX4 yX4_isShown wsX4_isShown) := goodIn_app (goodIn_of _ (by decide +kernel)) ggX4_remove_X4_isShown
set_option maxRecDepth 20000 in
theorem ggX4_remove_X1_vacate : GoodIn wsX4_remove wsX1_vacate := goodIn_r _ [60, 50, 61, 62, 74, 75, 76, 77, 78, 79] (by decide +kernel) (by decide +kernel)
set_option maxRecDepth 20000 in
theorem gX4_remove_X1_vacate : GoodIn wsX4_remove (wsV RX4 86 RX1 yX1_vacate wsX1_vacate) := goodIn_app (goodIn_of _ (by decide +kernel)) ggX4_remove_X1_vacate
theorem dX4_remove_0 : decode cX4_remove 0 = .ok (.aload_n 0, 1) := by decide +kernel
theorem dX4_remove_1 : decode cX4_remove 1 = .ok (.iload_n 1, 1) := by decide +kernel
theorem dX4_remove_2 : decode cX4_remove 2 = .ok (.iload_n 2, 1) := by decide +kernel
theorem dX4_remove_3 : decode cX4_remove 3 = .ok (.iload_n 3, 1) := by decide +kernel
theorem dX4_remove_4 : decode cX4_remove 4 = .ok (.invokevirtual 55, 3) := by decide +kernel
theorem dX4_remove_7 : decode cX4_remove 7 = .ok (.ifCond .ne 5, 3) := by decide +kernel
theorem dX4_remove_10 : decode cX4_remove 10 = .ok (.iconst (-1), 1) := by decide +kernel
theorem dX4_remove_11 : decode cX4_remove 11 = .ok (.ireturn, 1) := by decide +kernel
theorem dX4_remove_12 : decode cX4_remove 12 = .ok (.aload_n 0, 1) := by decide +kernel
theorem dX4_remove_13 : decode cX4_remove 13 = .ok (.iload_n 1, 1) := by decide +kernel
theorem dX4_remove_14 : decode cX4_remove 14 = .ok (.iload_n 2, 1) := by decide +kernel
theorem dX4_remove_15 : decode cX4_remove 15 = .ok (.iload_n 3, 1) := by decide +kernel
theorem dX4_remove_16 : decode cX4_remove 16 = .ok (.invokestatic 59, 3) := by decide +kernel
theorem dX4_remove_19 : decode cX4_remove 19 = .ok (.iconst 0, 1) := by decide +kernel
theorem dX4_remove_20 : decode cX4_remove 20 = .ok (.iconst 1, 1) := by decide +kernel
theorem dX4_remove_21 : decode cX4_remove 21 = .ok (.invokevirtual 63, 3) := by decide +kernel
theorem dX4_remove_24 : decode cX4_remove 24 = .ok (.istore 4, 2) := by decide +kernel
theorem dX4_remove_26 : decode cX4_remove 26 = .ok (.iload 4, 2) := by decide +kernel
theorem dX4_remove_28 : decode cX4_remove 28 = .ok (.iconst (-1), 1) := by decide +kernel
theorem dX4_remove_29 : decode cX4_remove 29 = .ok (.if_icmp .ne 6, 3) := by decide +kernel
theorem dX4_remove_32 : decode cX4_remove 32 = .ok (.bipush (-2), 2) := by decide +kernel
theorem dX4_remove_34 : decode cX4_remove 34 = .ok (.ireturn, 1) := by decide +kernel
theorem dX4_remove_35 : decode cX4_remove 35 = .ok (.aload_n 0, 1) := by decide +kernel
theorem dX4_remove_36 : decode cX4_remove 36 = .ok (.iload 4, 2) := by decide +kernel
theorem dX4_remove_38 : decode cX4_remove 38 = .ok (.invokevirtual 71, 3) := by decide +kernel
theorem dX4_remove_41 : decode cX4_remove 41 = .ok (.istore 5, 2) := by decide +kernel
theorem dX4_remove_43 : decode cX4_remove 43 = .ok (.aload_n 0, 1) := by decide +kernel
theorem dX4_remove_44 : decode cX4_remove 44 = .ok (.getfield 19, 3) := by decide +kernel
theorem dX4_remove_47 : decode cX4_remove 47 = .ok (.iload 4, 2) := by decide +kernel
theorem dX4_remove_49 : decode cX4_remove 49 = .ok (.invokevirtual 86, 3) := by decide +kernel
theorem dX4_remove_52 : decode cX4_remove 52 = .ok (.iload 5, 2) := by decide +kernel
theorem dX4_remove_54 : decode cX4_remove 54 = .ok (.ifCond .eq 7, 3) := by decide +kernel
theorem dX4_remove_57 : decode cX4_remove 57 = .ok (.iconst 1, 1) := by decide +kernel
theorem dX4_remove_58 : decode cX4_remove 58 = .ok (.goto 4, 3) := by decide +kernel
theorem dX4_remove_61 : decode cX4_remove 61 = .ok (.iconst 0, 1) := by decide +kernel
theorem dX4_remove_62 : decode cX4_remove 62 = .ok (.ireturn, 1) := by decide +kernel
set_option maxRecDepth 20000 in
theorem ggX4_add_X4_isListFor : GoodIn wsX4_add wsX4_isListFor := goodIn_r _ [5, 6, 7, 8, 9, 4, 10, 11, 12, 13, 14, 15, 16, 17, 18, 19, 20, 21, 90, 91, 92, 93, 94, 95, 96, 97, 98, 99, 100] (by decide +kernel) (by decide +kernel)
set_option maxRecDepth 20000 in
theorem gX4_add_X4_isListFor : GoodIn wsX4_add (wsV RX4 89 RX4 yX4_isListFor wsX4_isListFor) := goodIn_app (goodIn_of _ (by decide +kernel)) ggX4_add_X4_isListFor
set_option maxRecDepth 20000 in
theorem ggX4_add_X4_slotOf : GoodIn wsX4_add wsX4_slotOf := goodIn_r _ [24] (by decide +kernel) (by decide +kernel)
set_option maxRecDepth 20000 in
theorem gX4_add_X4_slotOf : GoodIn wsX4_add (va_wsS RX4 59 yX4_slotOf wsX4_slotOf) := goodIn_app (goodIn_of _ (by decide +kernel)) ggX4_add_X4_slotOf
set_option maxRecDepth 20000 in
theorem ggX4_add_X4_bring : GoodIn wsX4_add wsX4_bring := goodIn_r _ [28, 29, 30, 31, 32, 33, 34, 35, 36, 37, 38, 39, 40, 41, 42, 43, 44, 45, 46, 47, 48, 4, 49, 50, 6, 51, 52, 53, 54, 55, 56, 57, 58, 59, 60, 61, 62, 63, 64, 14, 65, 66, 67, 90, 91, 92, 93, 94, 101, 102, 103, 104, 105, 106, 95, 96, 97, 98, 99, 100] (by decide +kernel) (by decide +kernel)
set_option maxRecDepth 20000 in
theorem gX4_add_X4_bring : GoodIn wsX4_add (wsV RX4 67 RX4 yX4_bring wsX4_bring) := goodIn_app (goodIn_of _ (by decide +kernel)) ggX4_add_X4_bring
set_option maxRecDepth 20000 in
theorem ggX4_add_X4_howMany : GoodIn wsX4_add wsX4_howMany := goodIn_r _ [71, 29, 72, 73, 74, 75, 76, 4, 77, 52, 53, 54, 33, 55, 39, 78, 79, 80, 81, 82, 83, 84, 85, 86, 87, 88, 89, 61, 6, 62, 63, 64, 14, 65, 66, 67, 90, 91, 92, 93, 94, 101, 102, 103, 104, 105, 106, 95, 96, 97, 98, 99, 100] (by decide +kernel) (by decide +kernel)
set_option maxRecDepth 20000 in
theorem gX4_add_X4_howMany : GoodIn wsX4_add (wsV RX4 92 RX4 yX4_howMany wsX4_howMany) := goodIn_app (goodIn_of _ (by decide +kernel)) ggX4_add_X4_howMany
theorem dX4_add_0 : decode cX4_add 0 = .ok (.aload_n 0, 1) := by decide +kernel
theorem dX4_add_1 : decode cX4_add 1 = .ok (.iload_n 1, 1) := by decide +kernel
theorem dX4_add_2 : decode cX4_add 2 = .ok (.iload_n 2, 1) := by decide +kernel
theorem dX4_add_3 : decode cX4_add 3 = .ok (.invokevirtual 89, 3) := by decide +kernel
theorem dX4_add_6 : decode cX4_add 6 = .ok (.ifCond .ne 5, 3) := by decide +kernel
theorem dX4_add_9 : decode cX4_add 9 = .ok (.iconst (-1), 1) := by decide +kernel
theorem dX4_add_10 : decode cX4_add 10 = .ok (.ireturn, 1) := by decide +kernel
theorem dX4_add_11 : decode cX4_add 11 = .ok (.aload_n 0, 1) := by decide +kernel
theorem dX4_add_12 : decode cX4_add 12 = .ok (.iload_n 1, 1) := by decide +kernel
theorem dX4_add_13 : decode cX4_add 13 = .ok (.iload_n 2, 1) := by decide +kernel
theorem dX4_add_14 : decode cX4_add 14 = .ok (.iconst 0, 1) := by decide +kernel
theorem dX4_add_15 : decode cX4_add 15 = .ok (.invokestatic 59, 3) := by decide +kernel
theorem dX4_add_18 : decode cX4_add 18 = .ok (.iload_n 3, 1) := by decide +kernel
theorem dX4_add_19 : decode cX4_add 19 = .ok (.invokevirtual 67, 3) := by decide +kernel
theorem dX4_add_22 : decode cX4_add 22 = .ok (.ifCond .ne 6, 3) := by decide +kernel
theorem dX4_add_25 : decode cX4_add 25 = .ok (.bipush (-3), 2) := by decide +kernel
theorem dX4_add_27 : decode cX4_add 27 = .ok (.ireturn, 1) := by decide +kernel
theorem dX4_add_28 : decode cX4_add 28 = .ok (.aload_n 0, 1) := by decide +kernel
theorem dX4_add_29 : decode cX4_add 29 = .ok (.iload_n 1, 1) := by decide +kernel
theorem dX4_add_30 : decode cX4_add 30 = .ok (.iload_n 2, 1) := by decide +kernel
theorem dX4_add_31 : decode cX4_add 31 = .ok (.iconst 1, 1) := by decide +kernel
theorem dX4_add_32 : decode cX4_add 32 = .ok (.invokevirtual 92, 3) := by decide +kernel
theorem dX4_add_35 : decode cX4_add 35 = .ok (.ireturn, 1) := by decide +kernel
set_option maxRecDepth 20000 in
theorem ggX4_at_X4_isListFor : GoodIn wsX4_at wsX4_isListFor := goodIn_r _ [5, 6, 7, 8, 9, 4, 10, 11, 12, 13, 14, 15, 16, 17, 18, 19, 20, 21, 71, 72, 73, 74, 75, 76, 77, 78, 79, 80, 81] (by decide +kernel) (by decide +kernel)
set_option maxRecDepth 20000 in
theorem gX4_at_X4_isListFor : GoodIn wsX4_at (wsV RX4 89 RX4 yX4_isListFor wsX4_isListFor) := goodIn_app (goodIn_of _ (by decide +kernel)) ggX4_at_X4_isListFor
set_option maxRecDepth 20000 in
theorem ggX4_at_X4_slotOf : GoodIn wsX4_at wsX4_slotOf := goodIn_r _ [24] (by decide +kernel) (by decide +kernel)
set_option maxRecDepth 20000 in
theorem gX4_at_X4_slotOf : GoodIn wsX4_at (va_wsS RX4 59 yX4_slotOf wsX4_slotOf) := goodIn_app (goodIn_of _ (by decide +kernel)) ggX4_at_X4_slotOf
set_option maxRecDepth 20000 in
theorem ggX4_at_X4_placeOf : GoodIn wsX4_at wsX4_placeOf := goodIn_r _ [28, 29, 30, 31, 32, 33, 34, 35, 4, 36, 37, 38, 39, 40, 41, 6, 42, 43, 44, 45, 46, 47, 48, 49, 50, 14, 51, 52, 53, 71, 72, 73, 74, 75, 82, 83, 84, 85, 86, 87, 76, 77, 78, 79, 80, 81] (by decide +kernel) (by decide +kernel)
set_option maxRecDepth 20000 in
theorem gX4_at_X4_placeOf : GoodIn wsX4_at (wsV RX4 63 RX4 yX4_placeOf wsX4_placeOf) := goodIn_app (goodIn_of _ (by decide +kernel)) ggX4_at_X4_placeOf
set_option maxRecDepth 20000 in
theorem ggX4_at_X4_read : GoodIn wsX4_at wsX4_read := goodIn_r _ [57, 58, 29, 6, 59, 60, 42, 43, 44, 45, 46, 47, 61, 62, 63, 14, 64, 65, 66, 67, 68, 4, 69, 70, 41, 48, 49, 50, 51, 52, 53, 71, 72, 73, 74, 75, 76, 77, 78, 79, 80, 81, 82, 83, 84, 85, 86, 87] (by decide +kernel) (by decide +kernel)
set_option maxRecDepth 20000 in
theorem gX4_at_X4_read : GoodIn wsX4_at (wsV RX4 82 RX4 yX4_read wsX4_read) := goodIn_app (goodIn_of _ (by decide +kernel)) ggX4_at_X4_read
theorem dX4_at_0 : decode cX4_at 0 = .ok (.aload_n 0, 1) := by decide +kernel
theorem dX4_at_1 : decode cX4_at 1 = .ok (.iload_n 1, 1) := by decide +kernel
theorem dX4_at_2 : decode cX4_at 2 = .ok (.iload_n 2, 1) := by decide +kernel
theorem dX4_at_3 : decode cX4_at 3 = .ok (.invokevirtual 89, 3) := by decide +kernel
theorem dX4_at_6 : decode cX4_at 6 = .ok (.ifCond .ne 5, 3) := by decide +kernel
theorem dX4_at_9 : decode cX4_at 9 = .ok (.iconst (-1), 1) := by decide +kernel
theorem dX4_at_10 : decode cX4_at 10 = .ok (.ireturn, 1) := by decide +kernel
theorem dX4_at_11 : decode cX4_at 11 = .ok (.aload_n 0, 1) := by decide +kernel
theorem dX4_at_12 : decode cX4_at 12 = .ok (.aload_n 0, 1) := by decide +kernel
theorem dX4_at_13 : decode cX4_at 13 = .ok (.iload_n 1, 1) := by decide +kernel
theorem dX4_at_14 : decode cX4_at 14 = .ok (.iload_n 2, 1) := by decide +kernel
theorem dX4_at_15 : decode cX4_at 15 = .ok (.iconst 0, 1) := by decide +kernel
theorem dX4_at_16 : decode cX4_at 16 = .ok (.invokestatic 59, 3) := by decide +kernel
theorem dX4_at_19 : decode cX4_at 19 = .ok (.iload_n 3, 1) := by decide +kernel
theorem dX4_at_20 : decode cX4_at 20 = .ok (.iconst 0, 1) := by decide +kernel
theorem dX4_at_21 : decode cX4_at 21 = .ok (.invokevirtual 63, 3) := by decide +kernel
theorem dX4_at_24 : decode cX4_at 24 = .ok (.invokevirtual 82, 3) := by decide +kernel
theorem dX4_at_27 : decode cX4_at 27 = .ok (.ireturn, 1) := by decide +kernel
set_option maxRecDepth 20000 in
theorem ggX4_clear_X4_isStateAndKey : GoodIn wsX4_clear wsX4_isStateAndKey := goodIn_r _ [6, 7, 8, 9, 10, 11, 12, 13, 59, 60, 61, 62, 63, 64, 65, 66, 67, 68, 69] (by decide +kernel) (by decide +kernel)
set_option maxRecDepth 20000 in
theorem gX4_clear_X4_isStateAndKey : GoodIn wsX4_clear (wsV RX4 95 RX4 yX4_isStateAndKey wsX4_isStateAndKey) := goodIn_app (goodIn_of _ (by decide +kernel)) ggX4_clear_X4_isStateAndKey
set_option maxRecDepth 20000 in
theorem ggX4_clear_X4_howMany : GoodIn wsX4_clear wsX4_howMany := goodIn_r _ [17, 1, 18, 19, 20, 21, 22, 5, 23, 24, 25, 26, 27, 28, 29, 30, 31, 32, 33, 34, 35, 36, 37, 38, 39, 40, 41, 42, 7, 43, 44, 45, 11, 46, 47, 48, 59, 60, 61, 62, 63, 70, 71, 72, 73, 74, 75, 64, 65, 66, 67, 68, 69] (by decide +kernel) (by decide +kernel)
set_option maxRecDepth 20000 in
theorem gX4_clear_X4_howMany : GoodIn wsX4_clear (wsV RX4 92 RX4 yX4_howMany wsX4_howMany) := goodIn_app (goodIn_of _ (by decide +kernel)) ggX4_clear_X4_howMany
set_option maxRecDepth 20000 in
theorem ggX4_clear_X1_isTaken : GoodIn wsX4_clear wsX1_isTaken := goodIn_r _ [52, 29, 70, 71, 72, 73, 74, 75] (by decide +kernel) (by decide +kernel)
set_option maxRecDepth 20000 in
theorem gX4_clear_X1_isTaken : GoodIn wsX4_clear (wsV RX4 98 RX1 yX1_isTaken wsX1_isTaken) := goodIn_app (goodIn_of _ (by decide +kernel)) ggX4_clear_X1_isTaken
set_option maxRecDepth 20000 in
theorem ggX4_clear_X4_isOfKey : GoodIn wsX4_clear wsX4_isOfKey := goodIn_r _ [23, 1, 24, 25, 26, 27, 28, 29, 30, 31, 32, 33, 59, 60, 61, 62, 63, 70, 71, 72, 73, 74, 75] (by decide +kernel) (by decide +kernel)
set_option maxRecDepth 20000 in
theorem gX4_clear_X4_isOfKey : GoodIn wsX4_clear (wsV RX4 101 RX4 yX4_isOfKey wsX4_isOfKey) := goodIn_app (goodIn_of _ (by decide +kernel)) ggX4_clear_X4_isOfKey
set_option maxRecDepth 20000 in
theorem ggX4_clear_X1_vacate : GoodIn wsX4_clear wsX1_vacate := goodIn_r _ [56, 29, 57, 58, 70, 71, 72, 73, 74, 75] (by decide +kernel) (by decide +kernel)
set_option maxRecDepth 20000 in
theorem gX4_clear_X1_vacate : GoodIn wsX4_clear (wsV RX4 86 RX1 yX1_vacate wsX1_vacate) := goodIn_app (goodIn_of _ (by decide +kernel)) ggX4_clear_X1_vacate
theorem dX4_clear_0 : decode cX4_clear 0 = .ok (.aload_n 0, 1) := by decide +kernel
theorem dX4_clear_1 : decode cX4_clear 1 = .ok (.iload_n 1, 1) := by decide +kernel
theorem dX4_clear_2 : decode cX4_clear 2 = .ok (.iload_n 2, 1) := by decide +kernel
theorem dX4_clear_3 : decode cX4_clear 3 = .ok (.invokevirtual 95, 3) := by decide +kernel
theorem dX4_clear_6 : decode cX4_clear 6 = .ok (.ifCond .ne 5, 3) := by decide +kernel
theorem dX4_clear_9 : decode cX4_clear 9 = .ok (.iconst (-1), 1) := by decide +kernel
theorem dX4_clear_10 : decode cX4_clear 10 = .ok (.ireturn, 1) := by decide +kernel
theorem dX4_clear_11 : decode cX4_clear 11 = .ok (.aload_n 0, 1) := by decide +kernel
theorem dX4_clear_12 : decode cX4_clear 12 = .ok (.iload_n 1, 1) := by decide +kernel
theorem dX4_clear_13 : decode cX4_clear 13 = .ok (.iload_n 2, 1) := by decide +kernel
theorem dX4_clear_14 : decode cX4_clear 14 = .ok (.iconst 1, 1) := by decide +kernel
theorem dX4_clear_15 : decode cX4_clear 15 = .ok (.invokevirtual 92, 3) := by decide +kernel
theorem dX4_clear_18 : decode cX4_clear 18 = .ok (.istore_n 3, 1) := by decide +kernel
theorem dX4_clear_19 : decode cX4_clear 19 = .ok (.iconst 0, 1) := by decide +kernel
theorem dX4_clear_20 : decode cX4_clear 20 = .ok (.istore 4, 2) := by decide +kernel
theorem dX4_clear_22 : decode cX4_clear 22 = .ok (.iload 4, 2) := by decide +kernel
theorem dX4_clear_24 : decode cX4_clear 24 = .ok (.sipush 200, 3) := by decide +kernel
theorem dX4_clear_27 : decode cX4_clear 27 = .ok (.if_icmp .ge 41, 3) := by decide +kernel
theorem dX4_clear_30 : decode cX4_clear 30 = .ok (.aload_n 0, 1) := by decide +kernel
theorem dX4_clear_31 : decode cX4_clear 31 = .ok (.getfield 19, 3) := by decide +kernel
theorem dX4_clear_34 : decode cX4_clear 34 = .ok (.iload 4, 2) := by decide +kernel
theorem dX4_clear_36 : decode cX4_clear 36 = .ok (.invokevirtual 98, 3) := by decide +kernel
theorem dX4_clear_39 : decode cX4_clear 39 = .ok (.ifCond .eq 23, 3) := by decide +kernel
theorem dX4_clear_42 : decode cX4_clear 42 = .ok (.aload_n 0, 1) := by decide +kernel
theorem dX4_clear_43 : decode cX4_clear 43 = .ok (.iload 4, 2) := by decide +kernel
theorem dX4_clear_45 : decode cX4_clear 45 = .ok (.iload_n 1, 1) := by decide +kernel
theorem dX4_clear_46 : decode cX4_clear 46 = .ok (.iload_n 2, 1) := by decide +kernel
theorem dX4_clear_47 : decode cX4_clear 47 = .ok (.invokevirtual 101, 3) := by decide +kernel
theorem dX4_clear_50 : decode cX4_clear 50 = .ok (.ifCond .eq 12, 3) := by decide +kernel
theorem dX4_clear_53 : decode cX4_clear 53 = .ok (.aload_n 0, 1) := by decide +kernel
theorem dX4_clear_54 : decode cX4_clear 54 = .ok (.getfield 19, 3) := by decide +kernel
theorem dX4_clear_57 : decode cX4_clear 57 = .ok (.iload 4, 2) := by decide +kernel
theorem dX4_clear_59 : decode cX4_clear 59 = .ok (.invokevirtual 86, 3) := by decide +kernel
theorem dX4_clear_62 : decode cX4_clear 62 = .ok (.iinc 4 1, 3) := by decide +kernel
theorem dX4_clear_65 : decode cX4_clear 65 = .ok (.goto (-43), 3) := by decide +kernel
theorem dX4_clear_68 : decode cX4_clear 68 = .ok (.iload_n 3, 1) := by decide +kernel
theorem dX4_clear_69 : decode cX4_clear 69 = .ok (.ireturn, 1) := by decide +kernel
set_option maxRecDepth 20000 in
theorem ggX4_held_X4_isStateAndKey : GoodIn wsX4_held wsX4_isStateAndKey := goodIn_r _ [5, 6, 7, 8, 9, 10, 11, 12, 49, 50, 51, 52, 53, 54, 55, 56, 57, 58, 59] (by decide +kernel) (by decide +kernel)
set_option maxRecDepth 20000 in
theorem gX4_held_X4_isStateAndKey : GoodIn wsX4_held (wsV RX4 95 RX4 yX4_isStateAndKey wsX4_isStateAndKey) := goodIn_app (goodIn_of _ (by decide +kernel)) ggX4_held_X4_isStateAndKey
set_option maxRecDepth 20000 in
theorem ggX4_held_X4_howMany : GoodIn wsX4_held wsX4_howMany := goodIn_r _ [16, 17, 18, 19, 20, 21, 22, 4, 23, 24, 25, 26, 27, 28, 29, 30, 31, 32, 33, 34, 35, 36, 37, 38, 39, 40, 41, 42, 6, 43, 44, 45, 10, 46, 47, 48, 49, 50, 51, 52, 53, 60, 61, 62, 63, 64, 65, 54, 55, 56, 57, 58, 59] (by decide +kernel) (by decide +kernel)
set_option maxRecDepth 20000 in
theorem gX4_held_X4_howMany : GoodIn wsX4_held (wsV RX4 92 RX4 yX4_howMany wsX4_howMany) := goodIn_app (goodIn_of _ (by decide +kernel)) ggX4_held_X4_howMany
theorem dX4_held_0 : decode cX4_held 0 = .ok (.aload_n 0, 1) := by decide +kernel
theorem dX4_held_1 : decode cX4_held 1 = .ok (.iload_n 1, 1) := by decide +kernel
theorem dX4_held_2 : decode cX4_held 2 = .ok (.iload_n 2, 1) := by decide +kernel
theorem dX4_held_3 : decode cX4_held 3 = .ok (.invokevirtual 95, 3) := by decide +kernel
theorem dX4_held_6 : decode cX4_held 6 = .ok (.ifCond .ne 5, 3) := by decide +kernel
theorem dX4_held_9 : decode cX4_held 9 = .ok (.iconst (-1), 1) := by decide +kernel
theorem dX4_held_10 : decode cX4_held 10 = .ok (.ireturn, 1) := by decide +kernel
theorem dX4_held_11 : decode cX4_held 11 = .ok (.aload_n 0, 1) := by decide +kernel
theorem dX4_held_12 : decode cX4_held 12 = .ok (.iload_n 1, 1) := by decide +kernel
theorem dX4_held_13 : decode cX4_held 13 = .ok (.iload_n 2, 1) := by decide +kernel
theorem dX4_held_14 : decode cX4_held 14 = .ok (.iload_n 3, 1) := by decide +kernel
theorem dX4_held_15 : decode cX4_held 15 = .ok (.ifCond .ne 7, 3) := by decide +kernel
theorem dX4_held_18 : decode cX4_held 18 = .ok (.iconst 1, 1) := by decide +kernel
theorem dX4_held_19 : decode cX4_held 19 = .ok (.goto 4, 3) := by decide +kernel
theorem dX4_held_22 : decode cX4_held 22 = .ok (.iconst 0, 1) := by decide +kernel
theorem dX4_held_23 : decode cX4_held 23 = .ok (.invokevirtual 92, 3) := by decide +kernel
theorem dX4_held_26 : decode cX4_held 26 = .ok (.ireturn, 1) := by decide +kernel
set_option maxRecDepth 20000 in
theorem ggX4_left_X4_isMemberOrIndexFor : GoodIn wsX4_left wsX4_isMemberOrIndexFor := goodIn_r _ [6, 7, 8, 9, 10, 5, 11, 12, 13, 14, 15, 16, 17, 18, 19, 20, 21, 22, 23, 24, 25, 66, 67, 68, 69, 70, 71, 72, 73, 74, 75, 76] (by decide +kernel) (by decide +kernel)
set_option maxRecDepth 20000 in
theorem gX4_left_X4_isMemberOrIndexFor : GoodIn wsX4_left (wsV RX4 104 RX4 yX4_isMemberOrIndexFor wsX4_isMemberOrIndexFor) := goodIn_app (goodIn_of _ (by decide +kernel)) ggX4_left_X4_isMemberOrIndexFor
set_option maxRecDepth 20000 in
theorem ggX4_left_X4_slotFor : GoodIn wsX4_left wsX4_slotFor := goodIn_r _ [29, 7, 18, 19, 20, 15, 21, 22, 30, 31, 5, 32, 66, 67, 68, 69, 70, 71, 72, 73, 74, 75, 76] (by decide +kernel) (by decide +kernel)
set_option maxRecDepth 20000 in
theorem gX4_left_X4_slotFor : GoodIn wsX4_left (wsV RX4 107 RX4 yX4_slotFor wsX4_slotFor) := goodIn_app (goodIn_of _ (by decide +kernel)) ggX4_left_X4_slotFor
set_option maxRecDepth 20000 in
theorem ggX4_left_X4_indexFor : GoodIn wsX4_left wsX4_indexFor := goodIn_r _ [36, 7, 18, 19, 20, 15, 21, 22, 66, 67, 68, 69, 70, 71, 72, 73, 74, 75, 76] (by decide +kernel) (by decide +kernel)
set_option maxRecDepth 20000 in
theorem gX4_left_X4_indexFor : GoodIn wsX4_left (wsV RX4 110 RX4 yX4_indexFor wsX4_indexFor) := goodIn_app (goodIn_of _ (by decide +kernel)) ggX4_left_X4_indexFor
set_option maxRecDepth 20000 in
theorem ggX4_left_X4_placeOf : GoodIn wsX4_left wsX4_placeOf := goodIn_r _ [40, 41, 42, 43, 44, 45, 46, 47, 5, 48, 49, 50, 51, 52, 53, 7, 54, 55, 56, 57, 58, 59, 60, 61, 62, 15, 63, 64, 65, 66, 67, 68, 69, 70, 77, 78, 79, 80, 81, 82, 71, 72, 73, 74, 75, 76] (by decide +kernel) (by decide +kernel)
set_option maxRecDepth 20000 in
theorem gX4_left_X4_placeOf : GoodIn wsX4_left (wsV RX4 63 RX4 yX4_placeOf wsX4_placeOf) := goodIn_app (goodIn_of _ (by decide +kernel)) ggX4_left_X4_placeOf
set_option maxRecDepth 20000 in
theorem ggX4_left_X4_leftOf : GoodIn wsX4_left wsX4_leftOf := goodIn_r _ [52, 41, 53, 7, 54, 55, 56, 57, 58, 59, 60, 61, 62, 15, 63, 64, 65, 66, 67, 68, 69, 70, 77, 78, 79, 80, 81, 82, 71, 72, 73, 74, 75, 76] (by decide +kernel) (by decide +kernel)
set_option maxRecDepth 20000 in
theorem gX4_left_X4_leftOf : GoodIn wsX4_left (wsV RX4 115 RX4 yX4_leftOf wsX4_leftOf) := goodIn_app (goodIn_of _ (by decide +kernel)) ggX4_left_X4_leftOf
theorem dX4_left_0 : decode cX4_left 0 = .ok (.aload_n 0, 1) := by decide +kernel
theorem dX4_left_1 : decode cX4_left 1 = .ok (.iload_n 1, 1) := by decide +kernel
theorem dX4_left_2 : decode cX4_left 2 = .ok (.iload_n 2, 1) := by decide +kernel
theorem dX4_left_3 : decode cX4_left 3 = .ok (.iload_n 3, 1) := by decide +kernel
theorem dX4_left_4 : decode cX4_left 4 = .ok (.invokevirtual 104, 3) := by decide +kernel
theorem dX4_left_7 : decode cX4_left 7 = .ok (.ifCond .ne 5, 3) := by decide +kernel
theorem dX4_left_10 : decode cX4_left 10 = .ok (.iconst (-1), 1) := by decide +kernel
theorem dX4_left_11 : decode cX4_left 11 = .ok (.ireturn, 1) := by decide +kernel
theorem dX4_left_12 : decode cX4_left 12 = .ok (.aload_n 0, 1) := by decide +kernel
theorem dX4_left_13 : decode cX4_left 13 = .ok (.aload_n 0, 1) := by decide +kernel
theorem dX4_left_14 : decode cX4_left 14 = .ok (.iload_n 1, 1) := by decide +kernel
theorem dX4_left_15 : decode cX4_left 15 = .ok (.iload_n 2, 1) := by decide +kernel
theorem dX4_left_16 : decode cX4_left 16 = .ok (.iload_n 3, 1) := by decide +kernel
theorem dX4_left_17 : decode cX4_left 17 = .ok (.invokevirtual 107, 3) := by decide +kernel
theorem dX4_left_20 : decode cX4_left 20 = .ok (.aload_n 0, 1) := by decide +kernel
theorem dX4_left_21 : decode cX4_left 21 = .ok (.iload_n 1, 1) := by decide +kernel
theorem dX4_left_22 : decode cX4_left 22 = .ok (.iload_n 3, 1) := by decide +kernel
theorem dX4_left_23 : decode cX4_left 23 = .ok (.invokevirtual 110, 3) := by decide +kernel
theorem dX4_left_26 : decode cX4_left 26 = .ok (.iconst 0, 1) := by decide +kernel
theorem dX4_left_27 : decode cX4_left 27 = .ok (.invokevirtual 63, 3) := by decide +kernel
theorem dX4_left_30 : decode cX4_left 30 = .ok (.istore 4, 2) := by decide +kernel
theorem dX4_left_32 : decode cX4_left 32 = .ok (.iload 4, 2) := by decide +kernel
theorem dX4_left_34 : decode cX4_left 34 = .ok (.iconst (-1), 1) := by decide +kernel
theorem dX4_left_35 : decode cX4_left 35 = .ok (.if_icmp .ne 8, 3) := by decide +kernel
theorem dX4_left_38 : decode cX4_left 38 = .ok (.ldc 114, 2) := by decide +kernel
theorem dX4_left_40 : decode cX4_left 40 = .ok (.goto 9, 3) := by decide +kernel
theorem dX4_left_43 : decode cX4_left 43 = .ok (.aload_n 0, 1) := by decide +kernel
theorem dX4_left_44 : decode cX4_left 44 = .ok (.iload 4, 2) := by decide +kernel
theorem dX4_left_46 : decode cX4_left 46 = .ok (.invokevirtual 115, 3) := by decide +kernel
theorem dX4_left_49 : decode cX4_left 49 = .ok (.ireturn, 1) := by decide +kernel
set_option maxRecDepth 20000 in
theorem ggX4_tick_X4_moveClock : GoodIn wsX4_tick wsX4_moveClock := goodIn_r _ [9, 2, 3, 10, 11, 12, 8, 13, 14, 15, 16, 17, 18, 19, 20, 21, 22, 23, 24, 25, 26, 27, 28, 29, 30, 31, 32, 33, 34, 35, 36, 37, 38, 39, 40, 41, 42, 43, 44, 45, 46, 47, 48, 49, 50, 51, 52, 53, 54, 55] (by decide +kernel) (by decide +kernel)
set_option maxRecDepth 20000 in
theorem gX4_tick_X4_moveClock : GoodIn wsX4_tick (wsV RX4 124 RX4 yX4_moveClock wsX4_moveClock) := goodIn_app (goodIn_of _ (by decide +kernel)) ggX4_tick_X4_moveClock
theorem dX4_tick_0 : decode cX4_tick 0 = .ok (.iload_n 1, 1) := by decide +kernel
theorem dX4_tick_1 : decode cX4_tick 1 = .ok (.iconst 1, 1) := by decide +kernel
theorem dX4_tick_2 : decode cX4_tick 2 = .ok (.if_icmp .lt 9, 3) := by decide +kernel
theorem dX4_tick_5 : decode cX4_tick 5 = .ok (.iload_n 1, 1) := by decide +kernel
theorem dX4_tick_6 : decode cX4_tick 6 = .ok (.ldc 118, 2) := by decide +kernel
theorem dX4_tick_8 : decode cX4_tick 8 = .ok (.if_icmp .le 5, 3) := by decide +kernel
theorem dX4_tick_11 : decode cX4_tick 11 = .ok (.iconst (-1), 1) := by decide +kernel
theorem dX4_tick_12 : decode cX4_tick 12 = .ok (.ireturn, 1) := by decide +kernel
theorem dX4_tick_13 : decode cX4_tick 13 = .ok (.aload_n 0, 1) := by decide +kernel
theorem dX4_tick_14 : decode cX4_tick 14 = .ok (.getfield 12, 3) := by decide +kernel
theorem dX4_tick_17 : decode cX4_tick 17 = .ok (.getfield 119, 3) := by decide +kernel
theorem dX4_tick_20 : decode cX4_tick 20 = .ok (.iconst 0, 1) := by decide +kernel
theorem dX4_tick_21 : decode cX4_tick 21 = .ok (.iaload, 1) := by decide +kernel
theorem dX4_tick_22 : decode cX4_tick 22 = .ok (.iload_n 1, 1) := by decide +kernel
theorem dX4_tick_23 : decode cX4_tick 23 = .ok (.iadd, 1) := by decide +kernel
theorem dX4_tick_24 : decode cX4_tick 24 = .ok (.istore_n 2, 1) := by decide +kernel
theorem dX4_tick_25 : decode cX4_tick 25 = .ok (.iload_n 2, 1) := by decide +kernel
theorem dX4_tick_26 : decode cX4_tick 26 = .ok (.ldc 123, 2) := by decide +kernel
theorem dX4_tick_28 : decode cX4_tick 28 = .ok (.if_icmp .le 6, 3) := by decide +kernel
theorem dX4_tick_31 : decode cX4_tick 31 = .ok (.bipush (-2), 2) := by decide +kernel
theorem dX4_tick_33 : decode cX4_tick 33 = .ok (.ireturn, 1) := by decide +kernel
theorem dX4_tick_34 : decode cX4_tick 34 = .ok (.aload_n 0, 1) := by decide +kernel
theorem dX4_tick_35 : decode cX4_tick 35 = .ok (.iconst 0, 1) := by decide +kernel
theorem dX4_tick_36 : decode cX4_tick 36 = .ok (.iload_n 2, 1) := by decide +kernel
theorem dX4_tick_37 : decode cX4_tick 37 = .ok (.invokevirtual 124, 3) := by decide +kernel
theorem dX4_tick_40 : decode cX4_tick 40 = .ok (.ireturn, 1) := by decide +kernel
set_option maxRecDepth 20000 in
theorem ggX4_watermark_X4_moveClock : GoodIn wsX4_watermark wsX4_moveClock := goodIn_r _ [8, 2, 3, 9, 10, 11, 7, 12, 13, 14, 15, 16, 17, 18, 19, 20, 21, 22, 23, 24, 25, 26, 27, 28, 29, 30, 31, 32, 33, 34, 35, 36, 37, 38, 39, 40, 41, 42, 43, 44, 45, 46, 47, 48, 49, 50, 51, 52, 53, 54] (by decide +kernel) (by decide +kernel)
set_option maxRecDepth 20000 in
theorem gX4_watermark_X4_moveClock : GoodIn wsX4_watermark (wsV RX4 124 RX4 yX4_moveClock wsX4_moveClock) := goodIn_app (goodIn_of _ (by decide +kernel)) ggX4_watermark_X4_moveClock
theorem dX4_watermark_0 : decode cX4_watermark 0 = .ok (.iload_n 1, 1) := by decide +kernel
theorem dX4_watermark_1 : decode cX4_watermark 1 = .ok (.ifCond .lt 9, 3) := by decide +kernel
theorem dX4_watermark_4 : decode cX4_watermark 4 = .ok (.iload_n 1, 1) := by decide +kernel
theorem dX4_watermark_5 : decode cX4_watermark 5 = .ok (.ldc 123, 2) := by decide +kernel
theorem dX4_watermark_7 : decode cX4_watermark 7 = .ok (.if_icmp .le 5, 3) := by decide +kernel
theorem dX4_watermark_10 : decode cX4_watermark 10 = .ok (.iconst (-1), 1) := by decide +kernel
theorem dX4_watermark_11 : decode cX4_watermark 11 = .ok (.ireturn, 1) := by decide +kernel
theorem dX4_watermark_12 : decode cX4_watermark 12 = .ok (.aload_n 0, 1) := by decide +kernel
theorem dX4_watermark_13 : decode cX4_watermark 13 = .ok (.getfield 12, 3) := by decide +kernel
theorem dX4_watermark_16 : decode cX4_watermark 16 = .ok (.getfield 119, 3) := by decide +kernel
theorem dX4_watermark_19 : decode cX4_watermark 19 = .ok (.iconst 1, 1) := by decide +kernel
theorem dX4_watermark_20 : decode cX4_watermark 20 = .ok (.iaload, 1) := by decide +kernel
theorem dX4_watermark_21 : decode cX4_watermark 21 = .ok (.iload_n 1, 1) := by decide +kernel
theorem dX4_watermark_22 : decode cX4_watermark 22 = .ok (.if_icmp .le 6, 3) := by decide +kernel
theorem dX4_watermark_25 : decode cX4_watermark 25 = .ok (.bipush (-2), 2) := by decide +kernel
theorem dX4_watermark_27 : decode cX4_watermark 27 = .ok (.ireturn, 1) := by decide +kernel
theorem dX4_watermark_28 : decode cX4_watermark 28 = .ok (.aload_n 0, 1) := by decide +kernel
theorem dX4_watermark_29 : decode cX4_watermark 29 = .ok (.iconst 1, 1) := by decide +kernel
theorem dX4_watermark_30 : decode cX4_watermark 30 = .ok (.iload_n 1, 1) := by decide +kernel
theorem dX4_watermark_31 : decode cX4_watermark 31 = .ok (.invokevirtual 124, 3) := by decide +kernel
theorem dX4_watermark_34 : decode cX4_watermark 34 = .ok (.ireturn, 1) := by decide +kernel
set_option maxRecDepth 20000 in
theorem ggX4_sweep_X1_isTaken : GoodIn wsX4_sweep wsX1_isTaken := goodIn_r _ [7, 8, 70, 71, 72, 73, 74, 75] (by decide +kernel) (by decide +kernel)
set_option maxRecDepth 20000 in
theorem gX4_sweep_X1_isTaken : GoodIn wsX4_sweep (wsV RX4 98 RX1 yX1_isTaken wsX1_isTaken) := goodIn_app (goodIn_of _ (by decide +kernel)) ggX4_sweep_X1_isTaken
set_option maxRecDepth 20000 in
theorem ggX4_sweep_X4_isShown : GoodIn wsX4_sweep wsX4_isShown := goodIn_r _ [13, 14, 15, 16, 12, 17, 1, 18, 19, 20, 21, 22, 6, 23, 8, 24, 25, 26, 27, 28, 29, 30, 65, 66, 67, 68, 69, 70, 71, 72, 73, 74, 75, 76, 77, 78, 79, 80, 81] (by decide +kernel) (by decide +kernel)
set_option maxRecDepth 20000 in
theorem gX4_sweep_X4_isShown : GoodIn wsX4_sweep (wsV RX4 71 RX4 yX4_isShown wsX4_isShown) := goodIn_app (goodIn_of _ (by decide +kernel)) ggX4_sweep_X4_isShown
set_option maxRecDepth 20000 in
theorem ggX4_sweep_X4_tell : GoodIn wsX4_sweep wsX4_tell := goodIn_r _ [34, 35, 36, 1, 37, 18, 19, 38, 39, 40, 41, 42, 43, 44, 45, 46, 47, 48, 49, 50, 20, 21, 22, 6, 23, 8, 51, 52, 53, 54, 55, 56, 57, 58, 65, 66, 67, 68, 69, 82, 83, 84, 85, 70, 71, 72, 73, 74, 75, 76, 77, 78, 79, 80, 81] (by decide +kernel) (by decide +kernel)
set_option maxRecDepth 20000 in
theorem gX4_sweep_X4_tell : GoodIn wsX4_sweep (wsV RX4 74 RX4 yX4_tell wsX4_tell) := goodIn_app (goodIn_of _ (by decide +kernel)) ggX4_sweep_X4_tell
set_option maxRecDepth 20000 in
theorem ggX4_sweep_X1_vacate : GoodIn wsX4_sweep wsX1_vacate := goodIn_r _ [62, 8, 63, 64, 70, 71, 72, 73, 74, 75] (by decide +kernel) (by decide +kernel)
set_option maxRecDepth 20000 in
theorem gX4_sweep_X1_vacate : GoodIn wsX4_sweep (wsV RX4 86 RX1 yX1_vacate wsX1_vacate) := goodIn_app (goodIn_of _ (by decide +kernel)) ggX4_sweep_X1_vacate
theorem dX4_sweep_0 : decode cX4_sweep 0 = .ok (.iload_n 1, 1) := by decide +kernel
theorem dX4_sweep_1 : decode cX4_sweep 1 = .ok (.iconst 1, 1) := by decide +kernel
theorem dX4_sweep_2 : decode cX4_sweep 2 = .ok (.if_icmp .lt 10, 3) := by decide +kernel
theorem dX4_sweep_5 : decode cX4_sweep 5 = .ok (.iload_n 1, 1) := by decide +kernel
theorem dX4_sweep_6 : decode cX4_sweep 6 = .ok (.sipush 200, 3) := by decide +kernel
theorem dX4_sweep_9 : decode cX4_sweep 9 = .ok (.if_icmp .le 5, 3) := by decide +kernel
theorem dX4_sweep_12 : decode cX4_sweep 12 = .ok (.iconst (-1), 1) := by decide +kernel
theorem dX4_sweep_13 : decode cX4_sweep 13 = .ok (.ireturn, 1) := by decide +kernel
theorem dX4_sweep_14 : decode cX4_sweep 14 = .ok (.iconst 0, 1) := by decide +kernel
theorem dX4_sweep_15 : decode cX4_sweep 15 = .ok (.istore_n 2, 1) := by decide +kernel
theorem dX4_sweep_16 : decode cX4_sweep 16 = .ok (.iconst 0, 1) := by decide +kernel
theorem dX4_sweep_17 : decode cX4_sweep 17 = .ok (.istore_n 3, 1) := by decide +kernel
theorem dX4_sweep_18 : decode cX4_sweep 18 = .ok (.iload_n 3, 1) := by decide +kernel
theorem dX4_sweep_19 : decode cX4_sweep 19 = .ok (.iload_n 1, 1) := by decide +kernel
theorem dX4_sweep_20 : decode cX4_sweep 20 = .ok (.if_icmp .ge 70, 3) := by decide +kernel
theorem dX4_sweep_23 : decode cX4_sweep 23 = .ok (.aload_n 0, 1) := by decide +kernel
theorem dX4_sweep_24 : decode cX4_sweep 24 = .ok (.getfield 19, 3) := by decide +kernel
theorem dX4_sweep_27 : decode cX4_sweep 27 = .ok (.aload_n 0, 1) := by decide +kernel
theorem dX4_sweep_28 : decode cX4_sweep 28 = .ok (.getfield 37, 3) := by decide +kernel
theorem dX4_sweep_31 : decode cX4_sweep 31 = .ok (.invokevirtual 98, 3) := by decide +kernel
theorem dX4_sweep_34 : decode cX4_sweep 34 = .ok (.ifCond .eq 36, 3) := by decide +kernel
theorem dX4_sweep_37 : decode cX4_sweep 37 = .ok (.aload_n 0, 1) := by decide +kernel
theorem dX4_sweep_38 : decode cX4_sweep 38 = .ok (.aload_n 0, 1) := by decide +kernel
theorem dX4_sweep_39 : decode cX4_sweep 39 = .ok (.getfield 37, 3) := by decide +kernel
theorem dX4_sweep_42 : decode cX4_sweep 42 = .ok (.invokevirtual 71, 3) := by decide +kernel
theorem dX4_sweep_45 : decode cX4_sweep 45 = .ok (.ifCond .ne 25, 3) := by decide +kernel
theorem dX4_sweep_48 : decode cX4_sweep 48 = .ok (.aload_n 0, 1) := by decide +kernel
theorem dX4_sweep_49 : decode cX4_sweep 49 = .ok (.aload_n 0, 1) := by decide +kernel
theorem dX4_sweep_50 : decode cX4_sweep 50 = .ok (.getfield 37, 3) := by decide +kernel
theorem dX4_sweep_53 : decode cX4_sweep 53 = .ok (.invokevirtual 74, 3) := by decide +kernel
theorem dX4_sweep_56 : decode cX4_sweep 56 = .ok (.aload_n 0, 1) := by decide +kernel
theorem dX4_sweep_57 : decode cX4_sweep 57 = .ok (.getfield 19, 3) := by decide +kernel
theorem dX4_sweep_60 : decode cX4_sweep 60 = .ok (.aload_n 0, 1) := by decide +kernel
theorem dX4_sweep_61 : decode cX4_sweep 61 = .ok (.getfield 37, 3) := by decide +kernel
theorem dX4_sweep_64 : decode cX4_sweep 64 = .ok (.invokevirtual 86, 3) := by decide +kernel
theorem dX4_sweep_67 : decode cX4_sweep 67 = .ok (.iinc 2 1, 3) := by decide +kernel
theorem dX4_sweep_70 : decode cX4_sweep 70 = .ok (.aload_n 0, 1) := by decide +kernel
theorem dX4_sweep_71 : decode cX4_sweep 71 = .ok (.aload_n 0, 1) := by decide +kernel
theorem dX4_sweep_72 : decode cX4_sweep 72 = .ok (.getfield 37, 3) := by decide +kernel
theorem dX4_sweep_75 : decode cX4_sweep 75 = .ok (.iconst 1, 1) := by decide +kernel
theorem dX4_sweep_76 : decode cX4_sweep 76 = .ok (.iadd, 1) := by decide +kernel
theorem dX4_sweep_77 : decode cX4_sweep 77 = .ok (.sipush 200, 3) := by decide +kernel
theorem dX4_sweep_80 : decode cX4_sweep 80 = .ok (.irem, 1) := by decide +kernel
theorem dX4_sweep_81 : decode cX4_sweep 81 = .ok (.putfield 37, 3) := by decide +kernel
theorem dX4_sweep_84 : decode cX4_sweep 84 = .ok (.iinc 3 1, 3) := by decide +kernel
theorem dX4_sweep_87 : decode cX4_sweep 87 = .ok (.goto (-69), 3) := by decide +kernel
theorem dX4_sweep_90 : decode cX4_sweep 90 = .ok (.iload_n 2, 1) := by decide +kernel
theorem dX4_sweep_91 : decode cX4_sweep 91 = .ok (.ireturn, 1) := by decide +kernel
set_option maxRecDepth 20000 in
theorem ggX4_setting_X3_has : GoodIn wsX4_setting wsX3_has := goodIn_r _ [7, 8, 48, 49, 50, 51, 52, 53] (by decide +kernel) (by decide +kernel)
set_option maxRecDepth 20000 in
theorem gX4_setting_X3_has : GoodIn wsX4_setting (wsV RX4 127 RX3 yX3_has wsX3_has) := goodIn_app (goodIn_of _ (by decide +kernel)) ggX4_setting_X3_has
set_option maxRecDepth 20000 in
theorem ggX4_setting_X4_isSpan : GoodIn wsX4_setting wsX4_isSpan := goodIn_r _ [12, 13] (by decide +kernel) (by decide +kernel)
set_option maxRecDepth 20000 in
theorem gX4_setting_X4_isSpan : GoodIn wsX4_setting (va_wsS RX4 45 yX4_isSpan wsX4_isSpan) := goodIn_app (goodIn_of _ (by decide +kernel)) ggX4_setting_X4_isSpan
set_option maxRecDepth 20000 in
theorem ggX4_setting_X4_spanShownAnew : GoodIn wsX4_setting wsX4_spanShownAnew := goodIn_r _ [17, 18, 19, 20, 21, 22, 1, 2, 23, 24, 25, 26, 27, 28, 29, 30, 31, 11, 32, 33, 34, 35, 36, 37, 38, 39, 6, 40, 41, 42, 43, 44, 45, 46, 47, 54, 55, 56, 57, 58, 59, 48, 49, 50, 51, 52, 53] (by decide +kernel) (by decide +kernel)
set_option maxRecDepth 20000 in
theorem gX4_setting_X4_spanShownAnew : GoodIn wsX4_setting (wsV RX4 133 RX4 yX4_spanShownAnew wsX4_spanShownAnew) := goodIn_app (goodIn_of _ (by decide +kernel)) ggX4_setting_X4_spanShownAnew
theorem dX4_setting_0 : decode cX4_setting 0 = .ok (.aload_n 0, 1) := by decide +kernel
theorem dX4_setting_1 : decode cX4_setting 1 = .ok (.getfield 12, 3) := by decide +kernel
theorem dX4_setting_4 : decode cX4_setting 4 = .ok (.iload_n 1, 1) := by decide +kernel
theorem dX4_setting_5 : decode cX4_setting 5 = .ok (.invokevirtual 127, 3) := by decide +kernel
theorem dX4_setting_8 : decode cX4_setting 8 = .ok (.ifCond .eq 10, 3) := by decide +kernel
theorem dX4_setting_11 : decode cX4_setting 11 = .ok (.iload_n 2, 1) := by decide +kernel
theorem dX4_setting_12 : decode cX4_setting 12 = .ok (.invokestatic 45, 3) := by decide +kernel
theorem dX4_setting_15 : decode cX4_setting 15 = .ok (.ifCond .ne 5, 3) := by decide +kernel
theorem dX4_setting_18 : decode cX4_setting 18 = .ok (.iconst (-1), 1) := by decide +kernel
theorem dX4_setting_19 : decode cX4_setting 19 = .ok (.ireturn, 1) := by decide +kernel
theorem dX4_setting_20 : decode cX4_setting 20 = .ok (.aload_n 0, 1) := by decide +kernel
theorem dX4_setting_21 : decode cX4_setting 21 = .ok (.getfield 12, 3) := by decide +kernel
theorem dX4_setting_24 : decode cX4_setting 24 = .ok (.getfield 130, 3) := by decide +kernel
theorem dX4_setting_27 : decode cX4_setting 27 = .ok (.iload_n 1, 1) := by decide +kernel
theorem dX4_setting_28 : decode cX4_setting 28 = .ok (.iaload, 1) := by decide +kernel
theorem dX4_setting_29 : decode cX4_setting 29 = .ok (.istore 4, 2) := by decide +kernel
theorem dX4_setting_31 : decode cX4_setting 31 = .ok (.aload_n 0, 1) := by decide +kernel
theorem dX4_setting_32 : decode cX4_setting 32 = .ok (.getfield 12, 3) := by decide +kernel
theorem dX4_setting_35 : decode cX4_setting 35 = .ok (.getfield 130, 3) := by decide +kernel
theorem dX4_setting_38 : decode cX4_setting 38 = .ok (.iload_n 1, 1) := by decide +kernel
theorem dX4_setting_39 : decode cX4_setting 39 = .ok (.iload_n 2, 1) := by decide +kernel
theorem dX4_setting_40 : decode cX4_setting 40 = .ok (.iastore, 1) := by decide +kernel
theorem dX4_setting_41 : decode cX4_setting 41 = .ok (.iload_n 3, 1) := by decide +kernel
theorem dX4_setting_42 : decode cX4_setting 42 = .ok (.ifCond .eq 8, 3) := by decide +kernel
theorem dX4_setting_45 : decode cX4_setting 45 = .ok (.aload_n 0, 1) := by decide +kernel
theorem dX4_setting_46 : decode cX4_setting 46 = .ok (.iload_n 1, 1) := by decide +kernel
theorem dX4_setting_47 : decode cX4_setting 47 = .ok (.invokevirtual 133, 3) := by decide +kernel
theorem dX4_setting_50 : decode cX4_setting 50 = .ok (.iload 4, 2) := by decide +kernel
theorem dX4_setting_52 : decode cX4_setting 52 = .ok (.ireturn, 1) := by decide +kernel
set_option maxRecDepth 20000 in
theorem ggX4_mark_X4_isMark : GoodIn wsX4_mark wsX4_isMark := goodIn_r _ [11] (by decide +kernel) (by decide +kernel)
set_option maxRecDepth 20000 in
theorem gX4_mark_X4_isMark : GoodIn wsX4_mark (va_wsS RX4 136 yX4_isMark wsX4_isMark) := goodIn_app (goodIn_of _ (by decide +kernel)) ggX4_mark_X4_isMark
set_option maxRecDepth 20000 in
theorem ggX4_mark_X0_begin : GoodIn wsX4_mark wsX0_begin := goodIn_r _ [16, 17, 63, 64, 65, 66] (by decide +kernel) (by decide +kernel)
set_option maxRecDepth 20000 in
theorem gX4_mark_X0_begin : GoodIn wsX4_mark (wsV RX4 139 RX0 yX0_begin wsX0_begin) := goodIn_app (goodIn_of _ (by decide +kernel)) ggX4_mark_X0_begin
set_option maxRecDepth 20000 in
theorem ggX4_mark_X4_isShown : GoodIn wsX4_mark wsX4_isShown := goodIn_r _ [21, 22, 23, 24, 10, 25, 2, 26, 27, 28, 29, 30, 31, 32, 33, 34, 35, 36, 37, 38, 39, 40, 52, 53, 54, 55, 56, 57, 58, 59, 60, 61, 62, 67, 68, 69, 70, 71, 72] (by decide +kernel) (by decide +kernel)
set_option maxRecDepth 20000 in
theorem gX4_mark_X4_isShown : GoodIn wsX4_mark (wsV RX4 71 RX4 yX4_isShown wsX4_isShown) := goodIn_app (goodIn_of _ (by decide +kernel)) ggX4_mark_X4_isShown
set_option maxRecDepth 20000 in
theorem ggX4_mark_X4_leftOf : GoodIn wsX4_mark wsX4_leftOf := goodIn_r _ [25, 2, 26, 27, 28, 29, 30, 31, 32, 33, 34, 35, 36, 37, 38, 39, 40, 52, 53, 54, 55, 56, 57, 58, 59, 60, 61, 62, 67, 68, 69, 70, 71, 72] (by decide +kernel) (by decide +kernel)
set_option maxRecDepth 20000 in
theorem gX4_mark_X4_leftOf : GoodIn wsX4_mark (wsV RX4 115 RX4 yX4_leftOf wsX4_leftOf) := goodIn_app (goodIn_of _ (by decide +kernel)) ggX4_mark_X4_leftOf
set_option maxRecDepth 20000 in
theorem ggX4_mark_X0_keep : GoodIn wsX4_mark wsX0_keep := goodIn_r _ [44, 17, 45, 46, 47, 48, 49, 50, 15, 51, 63, 64, 65, 66] (by decide +kernel) (by decide +kernel)
set_option maxRecDepth 20000 in
theorem gX4_mark_X0_keep : GoodIn wsX4_mark (wsV RX4 154 RX0 yX0_keep wsX0_keep) := goodIn_app (goodIn_of _ (by decide +kernel)) ggX4_mark_X0_keep
theorem dX4_mark_0 : decode cX4_mark 0 = .ok (.iload_n 1, 1) := by decide +kernel
theorem dX4_mark_1 : decode cX4_mark 1 = .ok (.invokestatic 136, 3) := by decide +kernel
theorem dX4_mark_4 : decode cX4_mark 4 = .ok (.ifCond .ne 5, 3) := by decide +kernel
theorem dX4_mark_7 : decode cX4_mark 7 = .ok (.iconst (-1), 1) := by decide +kernel
theorem dX4_mark_8 : decode cX4_mark 8 = .ok (.ireturn, 1) := by decide +kernel
theorem dX4_mark_9 : decode cX4_mark 9 = .ok (.aload_n 0, 1) := by decide +kernel
theorem dX4_mark_10 : decode cX4_mark 10 = .ok (.getfield 33, 3) := by decide +kernel
theorem dX4_mark_13 : decode cX4_mark 13 = .ok (.iload_n 1, 1) := by decide +kernel
theorem dX4_mark_14 : decode cX4_mark 14 = .ok (.invokevirtual 139, 3) := by decide +kernel
theorem dX4_mark_17 : decode cX4_mark 17 = .ok (.iconst 0, 1) := by decide +kernel
theorem dX4_mark_18 : decode cX4_mark 18 = .ok (.istore_n 2, 1) := by decide +kernel
theorem dX4_mark_19 : decode cX4_mark 19 = .ok (.iload_n 2, 1) := by decide +kernel
theorem dX4_mark_20 : decode cX4_mark 20 = .ok (.aload_n 0, 1) := by decide +kernel
theorem dX4_mark_21 : decode cX4_mark 21 = .ok (.getfield 19, 3) := by decide +kernel
theorem dX4_mark_24 : decode cX4_mark 24 = .ok (.getfield 142, 3) := by decide +kernel
theorem dX4_mark_27 : decode cX4_mark 27 = .ok (.if_icmp .ge 58, 3) := by decide +kernel
theorem dX4_mark_30 : decode cX4_mark 30 = .ok (.aload_n 0, 1) := by decide +kernel
theorem dX4_mark_31 : decode cX4_mark 31 = .ok (.getfield 19, 3) := by decide +kernel
theorem dX4_mark_34 : decode cX4_mark 34 = .ok (.getfield 145, 3) := by decide +kernel
theorem dX4_mark_37 : decode cX4_mark 37 = .ok (.iload_n 2, 1) := by decide +kernel
theorem dX4_mark_38 : decode cX4_mark 38 = .ok (.iaload, 1) := by decide +kernel
theorem dX4_mark_39 : decode cX4_mark 39 = .ok (.istore_n 3, 1) := by decide +kernel
theorem dX4_mark_40 : decode cX4_mark 40 = .ok (.aload_n 0, 1) := by decide +kernel
theorem dX4_mark_41 : decode cX4_mark 41 = .ok (.iload_n 3, 1) := by decide +kernel
theorem dX4_mark_42 : decode cX4_mark 42 = .ok (.invokevirtual 71, 3) := by decide +kernel
theorem dX4_mark_45 : decode cX4_mark 45 = .ok (.ifCond .eq 34, 3) := by decide +kernel
theorem dX4_mark_48 : decode cX4_mark 48 = .ok (.aload_n 0, 1) := by decide +kernel
theorem dX4_mark_49 : decode cX4_mark 49 = .ok (.getfield 33, 3) := by decide +kernel
theorem dX4_mark_52 : decode cX4_mark 52 = .ok (.iload_n 1, 1) := by decide +kernel
theorem dX4_mark_53 : decode cX4_mark 53 = .ok (.aload_n 0, 1) := by decide +kernel
theorem dX4_mark_54 : decode cX4_mark 54 = .ok (.getfield 19, 3) := by decide +kernel
theorem dX4_mark_57 : decode cX4_mark 57 = .ok (.getfield 148, 3) := by decide +kernel
theorem dX4_mark_60 : decode cX4_mark 60 = .ok (.iload_n 3, 1) := by decide +kernel
theorem dX4_mark_61 : decode cX4_mark 61 = .ok (.iaload, 1) := by decide +kernel
theorem dX4_mark_62 : decode cX4_mark 62 = .ok (.aload_n 0, 1) := by decide +kernel
theorem dX4_mark_63 : decode cX4_mark 63 = .ok (.getfield 19, 3) := by decide +kernel
theorem dX4_mark_66 : decode cX4_mark 66 = .ok (.getfield 151, 3) := by decide +kernel
theorem dX4_mark_69 : decode cX4_mark 69 = .ok (.iload_n 3, 1) := by decide +kernel
theorem dX4_mark_70 : decode cX4_mark 70 = .ok (.iaload, 1) := by decide +kernel
theorem dX4_mark_71 : decode cX4_mark 71 = .ok (.aload_n 0, 1) := by decide +kernel
theorem dX4_mark_72 : decode cX4_mark 72 = .ok (.iload_n 3, 1) := by decide +kernel
theorem dX4_mark_73 : decode cX4_mark 73 = .ok (.invokevirtual 115, 3) := by decide +kernel
theorem dX4_mark_76 : decode cX4_mark 76 = .ok (.invokevirtual 154, 3) := by decide +kernel
theorem dX4_mark_79 : decode cX4_mark 79 = .ok (.iinc 2 1, 3) := by decide +kernel
theorem dX4_mark_82 : decode cX4_mark 82 = .ok (.goto (-63), 3) := by decide +kernel
theorem dX4_mark_85 : decode cX4_mark 85 = .ok (.aload_n 0, 1) := by decide +kernel
theorem dX4_mark_86 : decode cX4_mark 86 = .ok (.getfield 33, 3) := by decide +kernel
theorem dX4_mark_89 : decode cX4_mark 89 = .ok (.getfield 158, 3) := by decide +kernel
theorem dX4_mark_92 : decode cX4_mark 92 = .ok (.iload_n 1, 1) := by decide +kernel
theorem dX4_mark_93 : decode cX4_mark 93 = .ok (.iaload, 1) := by decide +kernel
theorem dX4_mark_94 : decode cX4_mark 94 = .ok (.ireturn, 1) := by decide +kernel
set_option maxRecDepth 20000 in
theorem ggX4_restore_X4_isMark : GoodIn wsX4_restore wsX4_isMark := goodIn_r _ [13] (by decide +kernel) (by decide +kernel)
set_option maxRecDepth 20000 in
theorem gX4_restore_X4_isMark : GoodIn wsX4_restore (va_wsS RX4 136 yX4_isMark wsX4_isMark) := goodIn_app (goodIn_of _ (by decide +kernel)) ggX4_restore_X4_isMark
set_option maxRecDepth 20000 in
theorem ggX4_restore_X1_vacateAll : GoodIn wsX4_restore wsX1_vacateAll := goodIn_r _ [18, 19, 20, 21, 22, 23, 24, 62, 63, 64, 65, 66, 67] (by decide +kernel) (by decide +kernel)
set_option maxRecDepth 20000 in
theorem gX4_restore_X1_vacateAll : GoodIn wsX4_restore (wsV RX4 161 RX1 yX1_vacateAll wsX1_vacateAll) := goodIn_app (goodIn_of _ (by decide +kernel)) ggX4_restore_X1_vacateAll
set_option maxRecDepth 20000 in
theorem ggX4_restore_X0_indexOf : GoodIn wsX4_restore wsX0_indexOf := goodIn_r _ [29] (by decide +kernel) (by decide +kernel)
set_option maxRecDepth 20000 in
theorem gX4_restore_X0_indexOf : GoodIn wsX4_restore (wsV RX4 164 RX0 yX0_indexOf wsX0_indexOf) := goodIn_app (goodIn_of _ (by decide +kernel)) ggX4_restore_X0_indexOf
set_option maxRecDepth 20000 in
theorem ggX4_restore_X1_take : GoodIn wsX4_restore wsX1_take := goodIn_r _ [33, 19, 20, 34, 62, 63, 64, 65, 66, 67] (by decide +kernel) (by decide +kernel)
set_option maxRecDepth 20000 in
theorem gX4_restore_X1_take : GoodIn wsX4_restore (wsV RX4 168 RX1 yX1_take wsX1_take) := goodIn_app (goodIn_of _ (by decide +kernel)) ggX4_restore_X1_take
set_option maxRecDepth 20000 in
theorem ggX4_restore_X4_stamp : GoodIn wsX4_restore wsX4_stamp := goodIn_r _ [38, 39, 3, 40, 41, 42, 43, 44, 17, 45, 19, 46, 47, 48, 49, 50, 51, 52, 53, 54, 55, 56, 57, 62, 63, 64, 65, 66, 67, 68, 69, 70, 71, 72, 73] (by decide +kernel) (by decide +kernel)
set_option maxRecDepth 20000 in
theorem gX4_restore_X4_stamp : GoodIn wsX4_restore (wsV RX4 175 RX4 yX4_stamp wsX4_stamp) := goodIn_app (goodIn_of _ (by decide +kernel)) ggX4_restore_X4_stamp
theorem dX4_restore_0 : decode cX4_restore 0 = .ok (.iload_n 1, 1) := by decide +kernel
theorem dX4_restore_1 : decode cX4_restore 1 = .ok (.invokestatic 136, 3) := by decide +kernel
theorem dX4_restore_4 : decode cX4_restore 4 = .ok (.ifCond .ne 5, 3) := by decide +kernel
theorem dX4_restore_7 : decode cX4_restore 7 = .ok (.iconst (-1), 1) := by decide +kernel
theorem dX4_restore_8 : decode cX4_restore 8 = .ok (.ireturn, 1) := by decide +kernel
theorem dX4_restore_9 : decode cX4_restore 9 = .ok (.aload_n 0, 1) := by decide +kernel
theorem dX4_restore_10 : decode cX4_restore 10 = .ok (.getfield 33, 3) := by decide +kernel
theorem dX4_restore_13 : decode cX4_restore 13 = .ok (.getfield 158, 3) := by decide +kernel
theorem dX4_restore_16 : decode cX4_restore 16 = .ok (.iload_n 1, 1) := by decide +kernel
theorem dX4_restore_17 : decode cX4_restore 17 = .ok (.iaload, 1) := by decide +kernel
theorem dX4_restore_18 : decode cX4_restore 18 = .ok (.istore_n 2, 1) := by decide +kernel
theorem dX4_restore_19 : decode cX4_restore 19 = .ok (.iload_n 2, 1) := by decide +kernel
theorem dX4_restore_20 : decode cX4_restore 20 = .ok (.iconst (-1), 1) := by decide +kernel
theorem dX4_restore_21 : decode cX4_restore 21 = .ok (.if_icmp .ne 6, 3) := by decide +kernel
theorem dX4_restore_24 : decode cX4_restore 24 = .ok (.bipush (-2), 2) := by decide +kernel
theorem dX4_restore_26 : decode cX4_restore 26 = .ok (.ireturn, 1) := by decide +kernel
theorem dX4_restore_27 : decode cX4_restore 27 = .ok (.aload_n 0, 1) := by decide +kernel
theorem dX4_restore_28 : decode cX4_restore 28 = .ok (.getfield 19, 3) := by decide +kernel
theorem dX4_restore_31 : decode cX4_restore 31 = .ok (.invokevirtual 161, 3) := by decide +kernel
theorem dX4_restore_34 : decode cX4_restore 34 = .ok (.iconst 0, 1) := by decide +kernel
theorem dX4_restore_35 : decode cX4_restore 35 = .ok (.istore_n 3, 1) := by decide +kernel
theorem dX4_restore_36 : decode cX4_restore 36 = .ok (.iload_n 3, 1) := by decide +kernel
theorem dX4_restore_37 : decode cX4_restore 37 = .ok (.iload_n 2, 1) := by decide +kernel
theorem dX4_restore_38 : decode cX4_restore 38 = .ok (.if_icmp .ge 72, 3) := by decide +kernel
theorem dX4_restore_41 : decode cX4_restore 41 = .ok (.aload_n 0, 1) := by decide +kernel
theorem dX4_restore_42 : decode cX4_restore 42 = .ok (.getfield 33, 3) := by decide +kernel
theorem dX4_restore_45 : decode cX4_restore 45 = .ok (.iload_n 1, 1) := by decide +kernel
theorem dX4_restore_46 : decode cX4_restore 46 = .ok (.iload_n 3, 1) := by decide +kernel
theorem dX4_restore_47 : decode cX4_restore 47 = .ok (.invokevirtual 164, 3) := by decide +kernel
theorem dX4_restore_50 : decode cX4_restore 50 = .ok (.istore 4, 2) := by decide +kernel
theorem dX4_restore_52 : decode cX4_restore 52 = .ok (.aload_n 0, 1) := by decide +kernel
theorem dX4_restore_53 : decode cX4_restore 53 = .ok (.getfield 19, 3) := by decide +kernel
theorem dX4_restore_56 : decode cX4_restore 56 = .ok (.iload_n 3, 1) := by decide +kernel
theorem dX4_restore_57 : decode cX4_restore 57 = .ok (.aload_n 0, 1) := by decide +kernel
theorem dX4_restore_58 : decode cX4_restore 58 = .ok (.getfield 33, 3) := by decide +kernel
theorem dX4_restore_61 : decode cX4_restore 61 = .ok (.getfield 167, 3) := by decide +kernel
theorem dX4_restore_64 : decode cX4_restore 64 = .ok (.iload 4, 2) := by decide +kernel
theorem dX4_restore_66 : decode cX4_restore 66 = .ok (.iaload, 1) := by decide +kernel
theorem dX4_restore_67 : decode cX4_restore 67 = .ok (.invokevirtual 168, 3) := by decide +kernel
theorem dX4_restore_70 : decode cX4_restore 70 = .ok (.aload_n 0, 1) := by decide +kernel
theorem dX4_restore_71 : decode cX4_restore 71 = .ok (.getfield 19, 3) := by decide +kernel
theorem dX4_restore_74 : decode cX4_restore 74 = .ok (.getfield 151, 3) := by decide +kernel
theorem dX4_restore_77 : decode cX4_restore 77 = .ok (.iload_n 3, 1) := by decide +kernel
theorem dX4_restore_78 : decode cX4_restore 78 = .ok (.aload_n 0, 1) := by decide +kernel
theorem dX4_restore_79 : decode cX4_restore 79 = .ok (.getfield 33, 3) := by decide +kernel
theorem dX4_restore_82 : decode cX4_restore 82 = .ok (.getfield 171, 3) := by decide +kernel
theorem dX4_restore_85 : decode cX4_restore 85 = .ok (.iload 4, 2) := by decide +kernel
theorem dX4_restore_87 : decode cX4_restore 87 = .ok (.iaload, 1) := by decide +kernel
theorem dX4_restore_88 : decode cX4_restore 88 = .ok (.iastore, 1) := by decide +kernel
theorem dX4_restore_89 : decode cX4_restore 89 = .ok (.aload_n 0, 1) := by decide +kernel
theorem dX4_restore_90 : decode cX4_restore 90 = .ok (.iload_n 3, 1) := by decide +kernel
theorem dX4_restore_91 : decode cX4_restore 91 = .ok (.aload_n 0, 1) := by decide +kernel
theorem dX4_restore_92 : decode cX4_restore 92 = .ok (.getfield 33, 3) := by decide +kernel
theorem dX4_restore_95 : decode cX4_restore 95 = .ok (.getfield 172, 3) := by decide +kernel
theorem dX4_restore_98 : decode cX4_restore 98 = .ok (.iload 4, 2) := by decide +kernel
theorem dX4_restore_100 : decode cX4_restore 100 = .ok (.iaload, 1) := by decide +kernel
theorem dX4_restore_101 : decode cX4_restore 101 = .ok (.invokevirtual 175, 3) := by decide +kernel
theorem dX4_restore_104 : decode cX4_restore 104 = .ok (.iinc 3 1, 3) := by decide +kernel
theorem dX4_restore_107 : decode cX4_restore 107 = .ok (.goto (-71), 3) := by decide +kernel
theorem dX4_restore_110 : decode cX4_restore 110 = .ok (.aload_n 0, 1) := by decide +kernel
theorem dX4_restore_111 : decode cX4_restore 111 = .ok (.iconst 0, 1) := by decide +kernel
theorem dX4_restore_112 : decode cX4_restore 112 = .ok (.putfield 37, 3) := by decide +kernel
theorem dX4_restore_115 : decode cX4_restore 115 = .ok (.aload_n 0, 1) := by decide +kernel
theorem dX4_restore_116 : decode cX4_restore 116 = .ok (.getfield 19, 3) := by decide +kernel
theorem dX4_restore_119 : decode cX4_restore 119 = .ok (.getfield 142, 3) := by decide +kernel
theorem dX4_restore_122 : decode cX4_restore 122 = .ok (.ireturn, 1) := by decide +kernel
set_option maxRecDepth 20000 in
theorem ggX4_row_X2_cell : GoodIn wsX4_row wsX2_cell := goodIn_r _ [8, 9, 10, 11, 12, 7, 13, 14, 20, 21, 22, 23] (by decide +kernel) (by decide +kernel)
set_option maxRecDepth 20000 in
theorem gX4_row_X2_cell : GoodIn wsX4_row (wsV RX4 181 RX2 yX2_cell wsX2_cell) := goodIn_app (goodIn_of _ (by decide +kernel)) ggX4_row_X2_cell
theorem dX4_row_0 : decode cX4_row 0 = .ok (.iload_n 1, 1) := by decide +kernel
theorem dX4_row_1 : decode cX4_row 1 = .ok (.ifCond .lt 24, 3) := by decide +kernel
theorem dX4_row_4 : decode cX4_row 4 = .ok (.iload_n 1, 1) := by decide +kernel
theorem dX4_row_5 : decode cX4_row 5 = .ok (.aload_n 0, 1) := by decide +kernel
theorem dX4_row_6 : decode cX4_row 6 = .ok (.getfield 26, 3) := by decide +kernel
theorem dX4_row_9 : decode cX4_row 9 = .ok (.getfield 178, 3) := by decide +kernel
theorem dX4_row_12 : decode cX4_row 12 = .ok (.if_icmp .ge 13, 3) := by decide +kernel
theorem dX4_row_15 : decode cX4_row 15 = .ok (.iload_n 2, 1) := by decide +kernel
theorem dX4_row_16 : decode cX4_row 16 = .ok (.ifCond .lt 9, 3) := by decide +kernel
theorem dX4_row_19 : decode cX4_row 19 = .ok (.iload_n 2, 1) := by decide +kernel
theorem dX4_row_20 : decode cX4_row 20 = .ok (.bipush 6, 2) := by decide +kernel
theorem dX4_row_22 : decode cX4_row 22 = .ok (.if_icmp .lt 6, 3) := by decide +kernel
theorem dX4_row_25 : decode cX4_row 25 = .ok (.ldc 114, 2) := by decide +kernel
theorem dX4_row_27 : decode cX4_row 27 = .ok (.ireturn, 1) := by decide +kernel
theorem dX4_row_28 : decode cX4_row 28 = .ok (.aload_n 0, 1) := by decide +kernel
theorem dX4_row_29 : decode cX4_row 29 = .ok (.getfield 26, 3) := by decide +kernel
theorem dX4_row_32 : decode cX4_row 32 = .ok (.iload_n 1, 1) := by decide +kernel
theorem dX4_row_33 : decode cX4_row 33 = .ok (.iload_n 2, 1) := by decide +kernel
theorem dX4_row_34 : decode cX4_row 34 = .ok (.invokevirtual 181, 3) := by decide +kernel
theorem dX4_row_37 : decode cX4_row 37 = .ok (.ireturn, 1) := by decide +kernel
set_option maxRecDepth 20000 in
theorem ggX4_place_X4_isMemberOrIndexFor : GoodIn wsX4_place wsX4_isMemberOrIndexFor := goodIn_r _ [6, 7, 8, 9, 10, 5, 11, 12, 13, 14, 15, 16, 17, 18, 19, 20, 21, 22, 23, 24, 25, 66, 67, 68, 69, 70, 71, 72, 73, 74, 75, 76] (by decide +kernel) (by decide +kernel)
set_option maxRecDepth 20000 in
theorem gX4_place_X4_isMemberOrIndexFor : GoodIn wsX4_place (wsV RX4 104 RX4 yX4_isMemberOrIndexFor wsX4_isMemberOrIndexFor) := goodIn_app (goodIn_of _ (by decide +kernel)) ggX4_place_X4_isMemberOrIndexFor
set_option maxRecDepth 20000 in
theorem ggX4_place_X4_slotFor : GoodIn wsX4_place wsX4_slotFor := goodIn_r _ [29, 7, 18, 19, 20, 15, 21, 22, 30, 31, 5, 32, 66, 67, 68, 69, 70, 71, 72, 73, 74, 75, 76] (by decide +kernel) (by decide +kernel)
set_option maxRecDepth 20000 in
theorem gX4_place_X4_slotFor : GoodIn wsX4_place (wsV RX4 107 RX4 yX4_slotFor wsX4_slotFor) := goodIn_app (goodIn_of _ (by decide +kernel)) ggX4_place_X4_slotFor
set_option maxRecDepth 20000 in
theorem ggX4_place_X4_indexFor : GoodIn wsX4_place wsX4_indexFor := goodIn_r _ [36, 7, 18, 19, 20, 15, 21, 22, 66, 67, 68, 69, 70, 71, 72, 73, 74, 75, 76] (by decide +kernel) (by decide +kernel)
set_option maxRecDepth 20000 in
theorem gX4_place_X4_indexFor : GoodIn wsX4_place (wsV RX4 110 RX4 yX4_indexFor wsX4_indexFor) := goodIn_app (goodIn_of _ (by decide +kernel)) ggX4_place_X4_indexFor
set_option maxRecDepth 20000 in
theorem ggX4_place_X4_placeOf : GoodIn wsX4_place wsX4_placeOf := goodIn_r _ [40, 41, 42, 43, 44, 45, 46, 47, 5, 48, 49, 50, 51, 52, 53, 7, 54, 55, 56, 57, 58, 59, 60, 61, 62, 15, 63, 64, 65, 66, 67, 68, 69, 70, 77, 78, 79, 80, 81, 82, 71, 72, 73, 74, 75, 76] (by decide +kernel) (by decide +kernel)
set_option maxRecDepth 20000 in
theorem gX4_place_X4_placeOf : GoodIn wsX4_place (wsV RX4 63 RX4 yX4_placeOf wsX4_placeOf) := goodIn_app (goodIn_of _ (by decide +kernel)) ggX4_place_X4_placeOf
theorem dX4_place_0 : decode cX4_place 0 = .ok (.aload_n 0, 1) := by decide +kernel
theorem dX4_place_1 : decode cX4_place 1 = .ok (.iload_n 1, 1) := by decide +kernel
theorem dX4_place_2 : decode cX4_place 2 = .ok (.iload_n 2, 1) := by decide +kernel
theorem dX4_place_3 : decode cX4_place 3 = .ok (.iload_n 3, 1) := by decide +kernel
theorem dX4_place_4 : decode cX4_place 4 = .ok (.invokevirtual 104, 3) := by decide +kernel
theorem dX4_place_7 : decode cX4_place 7 = .ok (.ifCond .ne 5, 3) := by decide +kernel
theorem dX4_place_10 : decode cX4_place 10 = .ok (.iconst (-1), 1) := by decide +kernel
theorem dX4_place_11 : decode cX4_place 11 = .ok (.ireturn, 1) := by decide +kernel
theorem dX4_place_12 : decode cX4_place 12 = .ok (.aload_n 0, 1) := by decide +kernel
theorem dX4_place_13 : decode cX4_place 13 = .ok (.aload_n 0, 1) := by decide +kernel
theorem dX4_place_14 : decode cX4_place 14 = .ok (.iload_n 1, 1) := by decide +kernel
theorem dX4_place_15 : decode cX4_place 15 = .ok (.iload_n 2, 1) := by decide +kernel
theorem dX4_place_16 : decode cX4_place 16 = .ok (.iload_n 3, 1) := by decide +kernel
theorem dX4_place_17 : decode cX4_place 17 = .ok (.invokevirtual 107, 3) := by decide +kernel
theorem dX4_place_20 : decode cX4_place 20 = .ok (.aload_n 0, 1) := by decide +kernel
theorem dX4_place_21 : decode cX4_place 21 = .ok (.iload_n 1, 1) := by decide +kernel
theorem dX4_place_22 : decode cX4_place 22 = .ok (.iload_n 3, 1) := by decide +kernel
theorem dX4_place_23 : decode cX4_place 23 = .ok (.invokevirtual 110, 3) := by decide +kernel
theorem dX4_place_26 : decode cX4_place 26 = .ok (.iconst 1, 1) := by decide +kernel
theorem dX4_place_27 : decode cX4_place 27 = .ok (.invokevirtual 63, 3) := by decide +kernel
theorem dX4_place_30 : decode cX4_place 30 = .ok (.istore 4, 2) := by decide +kernel
theorem dX4_place_32 : decode cX4_place 32 = .ok (.iload 4, 2) := by decide +kernel
theorem dX4_place_34 : decode cX4_place 34 = .ok (.iconst (-1), 1) := by decide +kernel
theorem dX4_place_35 : decode cX4_place 35 = .ok (.if_icmp .ne 8, 3) := by decide +kernel
theorem dX4_place_38 : decode cX4_place 38 = .ok (.ldc 114, 2) := by decide +kernel
theorem dX4_place_40 : decode cX4_place 40 = .ok (.goto 5, 3) := by decide +kernel
theorem dX4_place_43 : decode cX4_place 43 = .ok (.iload 4, 2) := by decide +kernel
theorem dX4_place_45 : decode cX4_place 45 = .ok (.ireturn, 1) := by decide +kernel
set_option maxRecDepth 20000 in
theorem ggX4_next_X3_has : GoodIn wsX4_next wsX3_has := goodIn_r _ [11, 12, 45, 46, 47, 48, 49, 50] (by decide +kernel) (by decide +kernel)
set_option maxRecDepth 20000 in
theorem gX4_next_X3_has : GoodIn wsX4_next (wsV RX4 127 RX3 yX3_has wsX3_has) := goodIn_app (goodIn_of _ (by decide +kernel)) ggX4_next_X3_has
set_option maxRecDepth 20000 in
theorem ggX4_next_X1_stateAt : GoodIn wsX4_next wsX1_stateAt := goodIn_r _ [17, 18, 39, 40, 41, 42, 43, 44] (by decide +kernel) (by decide +kernel)
set_option maxRecDepth 20000 in
theorem gX4_next_X1_stateAt : GoodIn wsX4_next (wsV RX4 184 RX1 yX1_stateAt wsX1_stateAt) := goodIn_app (goodIn_of _ (by decide +kernel)) ggX4_next_X1_stateAt
set_option maxRecDepth 20000 in
theorem ggX4_next_X4_isShown : GoodIn wsX4_next wsX4_isShown := goodIn_r _ [23, 24, 25, 26, 22, 27, 3, 6, 1, 13, 14, 15, 16, 17, 18, 28, 29, 30, 10, 31, 32, 33, 34, 35, 36, 37, 38, 39, 40, 41, 42, 43, 44, 45, 46, 47, 48, 49, 50] (by decide +kernel) (by decide +kernel)
set_option maxRecDepth 20000 in
theorem gX4_next_X4_isShown : GoodIn wsX4_next (wsV RX4 71 RX4 yX4_isShown wsX4_isShown) := goodIn_app (goodIn_of _ (by decide +kernel)) ggX4_next_X4_isShown
theorem dX4_next_0 : decode cX4_next 0 = .ok (.aload_n 0, 1) := by decide +kernel
theorem dX4_next_1 : decode cX4_next 1 = .ok (.getfield 12, 3) := by decide +kernel
theorem dX4_next_4 : decode cX4_next 4 = .ok (.iload_n 1, 1) := by decide +kernel
theorem dX4_next_5 : decode cX4_next 5 = .ok (.invokevirtual 127, 3) := by decide +kernel
theorem dX4_next_8 : decode cX4_next 8 = .ok (.ifCond .ne 5, 3) := by decide +kernel
theorem dX4_next_11 : decode cX4_next 11 = .ok (.iconst (-1), 1) := by decide +kernel
theorem dX4_next_12 : decode cX4_next 12 = .ok (.ireturn, 1) := by decide +kernel
theorem dX4_next_13 : decode cX4_next 13 = .ok (.ldc 114, 2) := by decide +kernel
theorem dX4_next_15 : decode cX4_next 15 = .ok (.istore_n 2, 1) := by decide +kernel
theorem dX4_next_16 : decode cX4_next 16 = .ok (.iconst 0, 1) := by decide +kernel
theorem dX4_next_17 : decode cX4_next 17 = .ok (.istore_n 3, 1) := by decide +kernel
theorem dX4_next_18 : decode cX4_next 18 = .ok (.iload_n 3, 1) := by decide +kernel
theorem dX4_next_19 : decode cX4_next 19 = .ok (.aload_n 0, 1) := by decide +kernel
theorem dX4_next_20 : decode cX4_next 20 = .ok (.getfield 19, 3) := by decide +kernel
theorem dX4_next_23 : decode cX4_next 23 = .ok (.getfield 142, 3) := by decide +kernel
theorem dX4_next_26 : decode cX4_next 26 = .ok (.if_icmp .ge 73, 3) := by decide +kernel
theorem dX4_next_29 : decode cX4_next 29 = .ok (.aload_n 0, 1) := by decide +kernel
theorem dX4_next_30 : decode cX4_next 30 = .ok (.getfield 19, 3) := by decide +kernel
theorem dX4_next_33 : decode cX4_next 33 = .ok (.getfield 145, 3) := by decide +kernel
theorem dX4_next_36 : decode cX4_next 36 = .ok (.iload_n 3, 1) := by decide +kernel
theorem dX4_next_37 : decode cX4_next 37 = .ok (.iaload, 1) := by decide +kernel
theorem dX4_next_38 : decode cX4_next 38 = .ok (.istore 4, 2) := by decide +kernel
theorem dX4_next_40 : decode cX4_next 40 = .ok (.aload_n 0, 1) := by decide +kernel
theorem dX4_next_41 : decode cX4_next 41 = .ok (.getfield 19, 3) := by decide +kernel
theorem dX4_next_44 : decode cX4_next 44 = .ok (.iload 4, 2) := by decide +kernel
theorem dX4_next_46 : decode cX4_next 46 = .ok (.invokevirtual 184, 3) := by decide +kernel
theorem dX4_next_49 : decode cX4_next 49 = .ok (.iload_n 1, 1) := by decide +kernel
theorem dX4_next_50 : decode cX4_next 50 = .ok (.if_icmp .ne 43, 3) := by decide +kernel
theorem dX4_next_53 : decode cX4_next 53 = .ok (.aload_n 0, 1) := by decide +kernel
theorem dX4_next_54 : decode cX4_next 54 = .ok (.iload 4, 2) := by decide +kernel
theorem dX4_next_56 : decode cX4_next 56 = .ok (.invokevirtual 71, 3) := by decide +kernel
theorem dX4_next_59 : decode cX4_next 59 = .ok (.ifCond .eq 34, 3) := by decide +kernel
theorem dX4_next_62 : decode cX4_next 62 = .ok (.iload_n 2, 1) := by decide +kernel
theorem dX4_next_63 : decode cX4_next 63 = .ok (.ldc 114, 2) := by decide +kernel
theorem dX4_next_65 : decode cX4_next 65 = .ok (.if_icmp .eq 17, 3) := by decide +kernel
theorem dX4_next_68 : decode cX4_next 68 = .ok (.aload_n 0, 1) := by decide +kernel
theorem dX4_next_69 : decode cX4_next 69 = .ok (.getfield 19, 3) := by decide +kernel
theorem dX4_next_72 : decode cX4_next 72 = .ok (.getfield 187, 3) := by decide +kernel
theorem dX4_next_75 : decode cX4_next 75 = .ok (.iload 4, 2) := by decide +kernel
theorem dX4_next_77 : decode cX4_next 77 = .ok (.iaload, 1) := by decide +kernel
theorem dX4_next_78 : decode cX4_next 78 = .ok (.iload_n 2, 1) := by decide +kernel
theorem dX4_next_79 : decode cX4_next 79 = .ok (.if_icmp .ge 14, 3) := by decide +kernel
theorem dX4_next_82 : decode cX4_next 82 = .ok (.aload_n 0, 1) := by decide +kernel
theorem dX4_next_83 : decode cX4_next 83 = .ok (.getfield 19, 3) := by decide +kernel
theorem dX4_next_86 : decode cX4_next 86 = .ok (.getfield 187, 3) := by decide +kernel
theorem dX4_next_89 : decode cX4_next 89 = .ok (.iload 4, 2) := by decide +kernel
theorem dX4_next_91 : decode cX4_next 91 = .ok (.iaload, 1) := by decide +kernel
theorem dX4_next_92 : decode cX4_next 92 = .ok (.istore_n 2, 1) := by decide +kernel
theorem dX4_next_93 : decode cX4_next 93 = .ok (.iinc 3 1, 3) := by decide +kernel
theorem dX4_next_96 : decode cX4_next 96 = .ok (.goto (-78), 3) := by decide +kernel
theorem dX4_next_99 : decode cX4_next 99 = .ok (.iload_n 2, 1) := by decide +kernel
theorem dX4_next_100 : decode cX4_next 100 = .ok (.ireturn, 1) := by decide +kernel
set_option maxRecDepth 20000 in
theorem ggX4_count_X4_howManyShown : GoodIn wsX4_count wsX4_howManyShown := goodIn_r _ [14, 3, 4, 15, 16, 17, 18, 13, 19, 20, 21, 22, 23, 24, 1, 25, 26, 27, 28, 29, 30, 31, 32, 33, 34, 35, 36, 37, 38, 39, 40, 41, 42, 49, 50, 51, 52, 53, 54, 43, 44, 45, 46, 47, 48] (by decide +kernel) (by decide +kernel)
set_option maxRecDepth 20000 in
theorem gX4_count_X4_howManyShown : GoodIn wsX4_count (wsV RX4 190 RX4 yX4_howManyShown wsX4_howManyShown) := goodIn_app (goodIn_of _ (by decide +kernel)) ggX4_count_X4_howManyShown
theorem dX4_count_0 : decode cX4_count 0 = .ok (.iload_n 1, 1) := by decide +kernel
theorem dX4_count_1 : decode cX4_count 1 = .ok (.tableswitch 109 0 7 #[47, 55, 63, 68, 76, 84, 94, 104], 47) := by decide +kernel
theorem dX4_count_48 : decode cX4_count 48 = .ok (.aload_n 0, 1) := by decide +kernel
theorem dX4_count_49 : decode cX4_count 49 = .ok (.getfield 12, 3) := by decide +kernel
theorem dX4_count_52 : decode cX4_count 52 = .ok (.getfield 48, 3) := by decide +kernel
theorem dX4_count_55 : decode cX4_count 55 = .ok (.ireturn, 1) := by decide +kernel
theorem dX4_count_56 : decode cX4_count 56 = .ok (.aload_n 0, 1) := by decide +kernel
theorem dX4_count_57 : decode cX4_count 57 = .ok (.getfield 19, 3) := by decide +kernel
theorem dX4_count_60 : decode cX4_count 60 = .ok (.getfield 142, 3) := by decide +kernel
theorem dX4_count_63 : decode cX4_count 63 = .ok (.ireturn, 1) := by decide +kernel
theorem dX4_count_64 : decode cX4_count 64 = .ok (.aload_n 0, 1) := by decide +kernel
theorem dX4_count_65 : decode cX4_count 65 = .ok (.invokevirtual 190, 3) := by decide +kernel
theorem dX4_count_68 : decode cX4_count 68 = .ok (.ireturn, 1) := by decide +kernel
theorem dX4_count_69 : decode cX4_count 69 = .ok (.aload_n 0, 1) := by decide +kernel
theorem dX4_count_70 : decode cX4_count 70 = .ok (.getfield 26, 3) := by decide +kernel
theorem dX4_count_73 : decode cX4_count 73 = .ok (.getfield 178, 3) := by decide +kernel
theorem dX4_count_76 : decode cX4_count 76 = .ok (.ireturn, 1) := by decide +kernel
theorem dX4_count_77 : decode cX4_count 77 = .ok (.aload_n 0, 1) := by decide +kernel
theorem dX4_count_78 : decode cX4_count 78 = .ok (.getfield 26, 3) := by decide +kernel
theorem dX4_count_81 : decode cX4_count 81 = .ok (.getfield 194, 3) := by decide +kernel
theorem dX4_count_84 : decode cX4_count 84 = .ok (.ireturn, 1) := by decide +kernel
theorem dX4_count_85 : decode cX4_count 85 = .ok (.aload_n 0, 1) := by decide +kernel
theorem dX4_count_86 : decode cX4_count 86 = .ok (.getfield 12, 3) := by decide +kernel
theorem dX4_count_89 : decode cX4_count 89 = .ok (.getfield 119, 3) := by decide +kernel
theorem dX4_count_92 : decode cX4_count 92 = .ok (.iconst 0, 1) := by decide +kernel
theorem dX4_count_93 : decode cX4_count 93 = .ok (.iaload, 1) := by decide +kernel
theorem dX4_count_94 : decode cX4_count 94 = .ok (.ireturn, 1) := by decide +kernel
theorem dX4_count_95 : decode cX4_count 95 = .ok (.aload_n 0, 1) := by decide +kernel
theorem dX4_count_96 : decode cX4_count 96 = .ok (.getfield 12, 3) := by decide +kernel
theorem dX4_count_99 : decode cX4_count 99 = .ok (.getfield 119, 3) := by decide +kernel
theorem dX4_count_102 : decode cX4_count 102 = .ok (.iconst 1, 1) := by decide +kernel
theorem dX4_count_103 : decode cX4_count 103 = .ok (.iaload, 1) := by decide +kernel
theorem dX4_count_104 : decode cX4_count 104 = .ok (.ireturn, 1) := by decide +kernel
theorem dX4_count_105 : decode cX4_count 105 = .ok (.aload_n 0, 1) := by decide +kernel
theorem dX4_count_106 : decode cX4_count 106 = .ok (.getfield 37, 3) := by decide +kernel
theorem dX4_count_109 : decode cX4_count 109 = .ok (.ireturn, 1) := by decide +kernel
theorem dX4_count_110 : decode cX4_count 110 = .ok (.iconst (-1), 1) := by decide +kernel
theorem dX4_count_111 : decode cX4_count 111 = .ok (.ireturn, 1) := by decide +kernel
theorem dX4_isZeroOrOne_0 : decode cX4_isZeroOrOne 0 = .ok (.iload_n 0, 1) := by decide +kernel
theorem dX4_isZeroOrOne_1 : decode cX4_isZeroOrOne 1 = .ok (.ifCond .eq 8, 3) := by decide +kernel
theorem dX4_isZeroOrOne_4 : decode cX4_isZeroOrOne 4 = .ok (.iload_n 0, 1) := by decide +kernel
theorem dX4_isZeroOrOne_5 : decode cX4_isZeroOrOne 5 = .ok (.iconst 1, 1) := by decide +kernel
theorem dX4_isZeroOrOne_6 : decode cX4_isZeroOrOne 6 = .ok (.if_icmp .ne 7, 3) := by decide +kernel
theorem dX4_isZeroOrOne_9 : decode cX4_isZeroOrOne 9 = .ok (.iconst 1, 1) := by decide +kernel
theorem dX4_isZeroOrOne_10 : decode cX4_isZeroOrOne 10 = .ok (.goto 4, 3) := by decide +kernel
theorem dX4_isZeroOrOne_13 : decode cX4_isZeroOrOne 13 = .ok (.iconst 0, 1) := by decide +kernel
theorem dX4_isZeroOrOne_14 : decode cX4_isZeroOrOne 14 = .ok (.ireturn, 1) := by decide +kernel
theorem dX4_isSpan_0 : decode cX4_isSpan 0 = .ok (.iload_n 0, 1) := by decide +kernel
theorem dX4_isSpan_1 : decode cX4_isSpan 1 = .ok (.iconst 1, 1) := by decide +kernel
theorem dX4_isSpan_2 : decode cX4_isSpan 2 = .ok (.if_icmp .lt 13, 3) := by decide +kernel
theorem dX4_isSpan_5 : decode cX4_isSpan 5 = .ok (.iload_n 0, 1) := by decide +kernel
theorem dX4_isSpan_6 : decode cX4_isSpan 6 = .ok (.ldc 118, 2) := by decide +kernel
theorem dX4_isSpan_8 : decode cX4_isSpan 8 = .ok (.if_icmp .gt 7, 3) := by decide +kernel
theorem dX4_isSpan_11 : decode cX4_isSpan 11 = .ok (.iconst 1, 1) := by decide +kernel
theorem dX4_isSpan_12 : decode cX4_isSpan 12 = .ok (.goto 4, 3) := by decide +kernel
theorem dX4_isSpan_15 : decode cX4_isSpan 15 = .ok (.iconst 0, 1) := by decide +kernel
theorem dX4_isSpan_16 : decode cX4_isSpan 16 = .ok (.ireturn, 1) := by decide +kernel
theorem dX4_isMember_0 : decode cX4_isMember 0 = .ok (.iload_n 0, 1) := by decide +kernel
theorem dX4_isMember_1 : decode cX4_isMember 1 = .ok (.ifCond .lt 13, 3) := by decide +kernel
theorem dX4_isMember_4 : decode cX4_isMember 4 = .ok (.iload_n 0, 1) := by decide +kernel
theorem dX4_isMember_5 : decode cX4_isMember 5 = .ok (.bipush 10, 2) := by decide +kernel
theorem dX4_isMember_7 : decode cX4_isMember 7 = .ok (.if_icmp .ge 7, 3) := by decide +kernel
theorem dX4_isMember_10 : decode cX4_isMember 10 = .ok (.iconst 1, 1) := by decide +kernel
theorem dX4_isMember_11 : decode cX4_isMember 11 = .ok (.goto 4, 3) := by decide +kernel
theorem dX4_isMember_14 : decode cX4_isMember 14 = .ok (.iconst 0, 1) := by decide +kernel
theorem dX4_isMember_15 : decode cX4_isMember 15 = .ok (.ireturn, 1) := by decide +kernel
theorem dX4_isMark_0 : decode cX4_isMark 0 = .ok (.iload_n 0, 1) := by decide +kernel
theorem dX4_isMark_1 : decode cX4_isMark 1 = .ok (.ifCond .lt 12, 3) := by decide +kernel
theorem dX4_isMark_4 : decode cX4_isMark 4 = .ok (.iload_n 0, 1) := by decide +kernel
theorem dX4_isMark_5 : decode cX4_isMark 5 = .ok (.iconst 3, 1) := by decide +kernel
theorem dX4_isMark_6 : decode cX4_isMark 6 = .ok (.if_icmp .ge 7, 3) := by decide +kernel
theorem dX4_isMark_9 : decode cX4_isMark 9 = .ok (.iconst 1, 1) := by decide +kernel
theorem dX4_isMark_10 : decode cX4_isMark 10 = .ok (.goto 4, 3) := by decide +kernel
theorem dX4_isMark_13 : decode cX4_isMark 13 = .ok (.iconst 0, 1) := by decide +kernel
theorem dX4_isMark_14 : decode cX4_isMark 14 = .ok (.ireturn, 1) := by decide +kernel
set_option maxRecDepth 20000 in
theorem ggX4_isStateAndKey_X3_has : GoodIn wsX4_isStateAndKey wsX3_has := goodIn_r _ [6, 7, 13, 14, 15, 16, 17, 18] (by decide +kernel) (by decide +kernel)
set_option maxRecDepth 20000 in
theorem gX4_isStateAndKey_X3_has : GoodIn wsX4_isStateAndKey (wsV RX4 127 RX3 yX3_has wsX3_has) := goodIn_app (goodIn_of _ (by decide +kernel)) ggX4_isStateAndKey_X3_has
theorem dX4_isStateAndKey_0 : decode cX4_isStateAndKey 0 = .ok (.aload_n 0, 1) := by decide +kernel
theorem dX4_isStateAndKey_1 : decode cX4_isStateAndKey 1 = .ok (.getfield 12, 3) := by decide +kernel
theorem dX4_isStateAndKey_4 : decode cX4_isStateAndKey 4 = .ok (.iload_n 1, 1) := by decide +kernel
theorem dX4_isStateAndKey_5 : decode cX4_isStateAndKey 5 = .ok (.invokevirtual 127, 3) := by decide +kernel
theorem dX4_isStateAndKey_8 : decode cX4_isStateAndKey 8 = .ok (.ifCond .eq 17, 3) := by decide +kernel
theorem dX4_isStateAndKey_11 : decode cX4_isStateAndKey 11 = .ok (.iload_n 2, 1) := by decide +kernel
theorem dX4_isStateAndKey_12 : decode cX4_isStateAndKey 12 = .ok (.ifCond .lt 13, 3) := by decide +kernel
theorem dX4_isStateAndKey_15 : decode cX4_isStateAndKey 15 = .ok (.iload_n 2, 1) := by decide +kernel
theorem dX4_isStateAndKey_16 : decode cX4_isStateAndKey 16 = .ok (.bipush 100, 2) := by decide +kernel
theorem dX4_isStateAndKey_18 : decode cX4_isStateAndKey 18 = .ok (.if_icmp .ge 7, 3) := by decide +kernel
theorem dX4_isStateAndKey_21 : decode cX4_isStateAndKey 21 = .ok (.iconst 1, 1) := by decide +kernel
theorem dX4_isStateAndKey_22 : decode cX4_isStateAndKey 22 = .ok (.goto 4, 3) := by decide +kernel
theorem dX4_isStateAndKey_25 : decode cX4_isStateAndKey 25 = .ok (.iconst 0, 1) := by decide +kernel
theorem dX4_isStateAndKey_26 : decode cX4_isStateAndKey 26 = .ok (.ireturn, 1) := by decide +kernel
set_option maxRecDepth 20000 in
theorem ggX4_isNumberFor_X4_isStateAndKey : GoodIn wsX4_isNumberFor wsX4_isStateAndKey := goodIn_r _ [6, 1, 7, 8, 9, 10, 11, 12, 21, 22, 23, 24, 25, 26, 27, 28, 29, 30, 31] (by decide +kernel) (by decide +kernel)
set_option maxRecDepth 20000 in
theorem gX4_isNumberFor_X4_isStateAndKey : GoodIn wsX4_isNumberFor (wsV RX4 95 RX4 yX4_isStateAndKey wsX4_isStateAndKey) := goodIn_app (goodIn_of _ (by decide +kernel)) ggX4_isNumberFor_X4_isStateAndKey
set_option maxRecDepth 20000 in
theorem ggX4_isNumberFor_X3_isList : GoodIn wsX4_isNumberFor wsX3_isList := goodIn_r _ [16, 17, 26, 27, 28, 29, 30, 31] (by decide +kernel) (by decide +kernel)
set_option maxRecDepth 20000 in
theorem gX4_isNumberFor_X3_isList : GoodIn wsX4_isNumberFor (wsV RX4 197 RX3 yX3_isList wsX3_isList) := goodIn_app (goodIn_of _ (by decide +kernel)) ggX4_isNumberFor_X3_isList
set_option maxRecDepth 20000 in
theorem ggX4_isNumberFor_X4_isMember : GoodIn wsX4_isNumberFor wsX4_isMember := goodIn_r _ [20] (by decide +kernel) (by decide +kernel)
set_option maxRecDepth 20000 in
theorem gX4_isNumberFor_X4_isMember : GoodIn wsX4_isNumberFor (va_wsS RX4 200 yX4_isMember wsX4_isMember) := goodIn_app (goodIn_of _ (by decide +kernel)) ggX4_isNumberFor_X4_isMember
theorem dX4_isNumberFor_0 : decode cX4_isNumberFor 0 = .ok (.aload_n 0, 1) := by decide +kernel
theorem dX4_isNumberFor_1 : decode cX4_isNumberFor 1 = .ok (.iload_n 1, 1) := by decide +kernel
theorem dX4_isNumberFor_2 : decode cX4_isNumberFor 2 = .ok (.iload_n 2, 1) := by decide +kernel
theorem dX4_isNumberFor_3 : decode cX4_isNumberFor 3 = .ok (.invokevirtual 95, 3) := by decide +kernel
theorem dX4_isNumberFor_6 : decode cX4_isNumberFor 6 = .ok (.ifCond .eq 25, 3) := by decide +kernel
theorem dX4_isNumberFor_9 : decode cX4_isNumberFor 9 = .ok (.aload_n 0, 1) := by decide +kernel
theorem dX4_isNumberFor_10 : decode cX4_isNumberFor 10 = .ok (.getfield 12, 3) := by decide +kernel
theorem dX4_isNumberFor_13 : decode cX4_isNumberFor 13 = .ok (.iload_n 1, 1) := by decide +kernel
theorem dX4_isNumberFor_14 : decode cX4_isNumberFor 14 = .ok (.invokevirtual 197, 3) := by decide +kernel
theorem dX4_isNumberFor_17 : decode cX4_isNumberFor 17 = .ok (.ifCond .ne 14, 3) := by decide +kernel
theorem dX4_isNumberFor_20 : decode cX4_isNumberFor 20 = .ok (.iload_n 3, 1) := by decide +kernel
theorem dX4_isNumberFor_21 : decode cX4_isNumberFor 21 = .ok (.invokestatic 200, 3) := by decide +kernel
theorem dX4_isNumberFor_24 : decode cX4_isNumberFor 24 = .ok (.ifCond .eq 7, 3) := by decide +kernel
theorem dX4_isNumberFor_27 : decode cX4_isNumberFor 27 = .ok (.iconst 1, 1) := by decide +kernel
theorem dX4_isNumberFor_28 : decode cX4_isNumberFor 28 = .ok (.goto 4, 3) := by decide +kernel
theorem dX4_isNumberFor_31 : decode cX4_isNumberFor 31 = .ok (.iconst 0, 1) := by decide +kernel
theorem dX4_isNumberFor_32 : decode cX4_isNumberFor 32 = .ok (.ireturn, 1) := by decide +kernel
set_option maxRecDepth 20000 in
theorem ggX4_isListFor_X4_isStateAndKey : GoodIn wsX4_isListFor wsX4_isStateAndKey := goodIn_r _ [6, 1, 7, 8, 9, 10, 11, 12, 18, 19, 20, 21, 22, 23, 24, 25, 26, 27, 28] (by decide +kernel) (by decide +kernel)
set_option maxRecDepth 20000 in
theorem gX4_isListFor_X4_isStateAndKey : GoodIn wsX4_isListFor (wsV RX4 95 RX4 yX4_isStateAndKey wsX4_isStateAndKey) := goodIn_app (goodIn_of _ (by decide +kernel)) ggX4_isListFor_X4_isStateAndKey
set_option maxRecDepth 20000 in
theorem ggX4_isListFor_X3_isList : GoodIn wsX4_isListFor wsX3_isList := goodIn_r _ [16, 17, 23, 24, 25, 26, 27, 28] (by decide +kernel) (by decide +kernel)
set_option maxRecDepth 20000 in
theorem gX4_isListFor_X3_isList : GoodIn wsX4_isListFor (wsV RX4 197 RX3 yX3_isList wsX3_isList) := goodIn_app (goodIn_of _ (by decide +kernel)) ggX4_isListFor_X3_isList
theorem dX4_isListFor_0 : decode cX4_isListFor 0 = .ok (.aload_n 0, 1) := by decide +kernel
theorem dX4_isListFor_1 : decode cX4_isListFor 1 = .ok (.iload_n 1, 1) := by decide +kernel
theorem dX4_isListFor_2 : decode cX4_isListFor 2 = .ok (.iload_n 2, 1) := by decide +kernel
theorem dX4_isListFor_3 : decode cX4_isListFor 3 = .ok (.invokevirtual 95, 3) := by decide +kernel
theorem dX4_isListFor_6 : decode cX4_isListFor 6 = .ok (.ifCond .eq 18, 3) := by decide +kernel
theorem dX4_isListFor_9 : decode cX4_isListFor 9 = .ok (.aload_n 0, 1) := by decide +kernel
theorem dX4_isListFor_10 : decode cX4_isListFor 10 = .ok (.getfield 12, 3) := by decide +kernel
theorem dX4_isListFor_13 : decode cX4_isListFor 13 = .ok (.iload_n 1, 1) := by decide +kernel
theorem dX4_isListFor_14 : decode cX4_isListFor 14 = .ok (.invokevirtual 197, 3) := by decide +kernel
theorem dX4_isListFor_17 : decode cX4_isListFor 17 = .ok (.ifCond .eq 7, 3) := by decide +kernel
theorem dX4_isListFor_20 : decode cX4_isListFor 20 = .ok (.iconst 1, 1) := by decide +kernel
theorem dX4_isListFor_21 : decode cX4_isListFor 21 = .ok (.goto 4, 3) := by decide +kernel
theorem dX4_isListFor_24 : decode cX4_isListFor 24 = .ok (.iconst 0, 1) := by decide +kernel
theorem dX4_isListFor_25 : decode cX4_isListFor 25 = .ok (.ireturn, 1) := by decide +kernel
set_option maxRecDepth 20000 in
theorem ggX4_isMemberOrIndexFor_X4_isStateAndKey : GoodIn wsX4_isMemberOrIndexFor wsX4_isStateAndKey := goodIn_r _ [6, 1, 7, 8, 9, 10, 11, 12, 21, 22, 23, 24, 25, 26, 27, 28, 29, 30, 31] (by decide +kernel) (by decide +kernel)
set_option maxRecDepth 20000 in
theorem gX4_isMemberOrIndexFor_X4_isStateAndKey : GoodIn wsX4_isMemberOrIndexFor (wsV RX4 95 RX4 yX4_isStateAndKey wsX4_isStateAndKey) := goodIn_app (goodIn_of _ (by decide +kernel)) ggX4_isMemberOrIndexFor_X4_isStateAndKey
set_option maxRecDepth 20000 in
theorem ggX4_isMemberOrIndexFor_X3_isList : GoodIn wsX4_isMemberOrIndexFor wsX3_isList := goodIn_r _ [16, 17, 26, 27, 28, 29, 30, 31] (by decide +kernel) (by decide +kernel)
set_option maxRecDepth 20000 in
theorem gX4_isMemberOrIndexFor_X3_isList : GoodIn wsX4_isMemberOrIndexFor (wsV RX4 197 RX3 yX3_isList wsX3_isList) := goodIn_app (goodIn_of _ (by decide +kernel)) ggX4_isMemberOrIndexFor_X3_isList
set_option maxRecDepth 20000 in
theorem ggX4_isMemberOrIndexFor_X4_isMember : GoodIn wsX4_isMemberOrIndexFor wsX4_isMember := goodIn_r _ [20] (by decide +kernel) (by decide +kernel)
set_option maxRecDepth 20000 in
theorem gX4_isMemberOrIndexFor_X4_isMember : GoodIn wsX4_isMemberOrIndexFor (va_wsS RX4 200 yX4_isMember wsX4_isMember) := goodIn_app (goodIn_of _ (by decide +kernel)) ggX4_isMemberOrIndexFor_X4_isMember
theorem dX4_isMemberOrIndexFor_0 : decode cX4_isMemberOrIndexFor 0 = .ok (.aload_n 0, 1) := by decide +kernel
theorem dX4_isMemberOrIndexFor_1 : decode cX4_isMemberOrIndexFor 1 = .ok (.iload_n 1, 1) := by decide +kernel
theorem dX4_isMemberOrIndexFor_2 : decode cX4_isMemberOrIndexFor 2 = .ok (.iload_n 2, 1) := by decide +kernel
theorem dX4_isMemberOrIndexFor_3 : decode cX4_isMemberOrIndexFor 3 = .ok (.invokevirtual 95, 3) := by decide +kernel
theorem dX4_isMemberOrIndexFor_6 : decode cX4_isMemberOrIndexFor 6 = .ok (.ifCond .eq 29, 3) := by decide +kernel
theorem dX4_isMemberOrIndexFor_9 : decode cX4_isMemberOrIndexFor 9 = .ok (.iload_n 3, 1) := by decide +kernel
theorem dX4_isMemberOrIndexFor_10 : decode cX4_isMemberOrIndexFor 10 = .ok (.ifCond .lt 25, 3) := by decide +kernel
theorem dX4_isMemberOrIndexFor_13 : decode cX4_isMemberOrIndexFor 13 = .ok (.aload_n 0, 1) := by decide +kernel
theorem dX4_isMemberOrIndexFor_14 : decode cX4_isMemberOrIndexFor 14 = .ok (.getfield 12, 3) := by decide +kernel
theorem dX4_isMemberOrIndexFor_17 : decode cX4_isMemberOrIndexFor 17 = .ok (.iload_n 1, 1) := by decide +kernel
theorem dX4_isMemberOrIndexFor_18 : decode cX4_isMemberOrIndexFor 18 = .ok (.invokevirtual 197, 3) := by decide +kernel
theorem dX4_isMemberOrIndexFor_21 : decode cX4_isMemberOrIndexFor 21 = .ok (.ifCond .ne 10, 3) := by decide +kernel
theorem dX4_isMemberOrIndexFor_24 : decode cX4_isMemberOrIndexFor 24 = .ok (.iload_n 3, 1) := by decide +kernel
theorem dX4_isMemberOrIndexFor_25 : decode cX4_isMemberOrIndexFor 25 = .ok (.invokestatic 200, 3) := by decide +kernel
theorem dX4_isMemberOrIndexFor_28 : decode cX4_isMemberOrIndexFor 28 = .ok (.ifCond .eq 7, 3) := by decide +kernel
theorem dX4_isMemberOrIndexFor_31 : decode cX4_isMemberOrIndexFor 31 = .ok (.iconst 1, 1) := by decide +kernel
theorem dX4_isMemberOrIndexFor_32 : decode cX4_isMemberOrIndexFor 32 = .ok (.goto 4, 3) := by decide +kernel
theorem dX4_isMemberOrIndexFor_35 : decode cX4_isMemberOrIndexFor 35 = .ok (.iconst 0, 1) := by decide +kernel
theorem dX4_isMemberOrIndexFor_36 : decode cX4_isMemberOrIndexFor 36 = .ok (.ireturn, 1) := by decide +kernel
set_option maxRecDepth 20000 in
theorem ggX4_slotFor_X3_isList : GoodIn wsX4_slotFor wsX3_isList := goodIn_r _ [6, 7, 17, 18, 19, 20, 21, 22] (by decide +kernel) (by decide +kernel)
set_option maxRecDepth 20000 in
theorem gX4_slotFor_X3_isList : GoodIn wsX4_slotFor (wsV RX4 197 RX3 yX3_isList wsX3_isList) := goodIn_app (goodIn_of _ (by decide +kernel)) ggX4_slotFor_X3_isList
set_option maxRecDepth 20000 in
theorem ggX4_slotFor_X4_slotOf : GoodIn wsX4_slotFor wsX4_slotOf := goodIn_r _ [11] (by decide +kernel) (by decide +kernel)
set_option maxRecDepth 20000 in
theorem gX4_slotFor_X4_slotOf : GoodIn wsX4_slotFor (va_wsS RX4 59 yX4_slotOf wsX4_slotOf) := goodIn_app (goodIn_of _ (by decide +kernel)) ggX4_slotFor_X4_slotOf
theorem dX4_slotFor_0 : decode cX4_slotFor 0 = .ok (.iload_n 1, 1) := by decide +kernel
theorem dX4_slotFor_1 : decode cX4_slotFor 1 = .ok (.iload_n 2, 1) := by decide +kernel
theorem dX4_slotFor_2 : decode cX4_slotFor 2 = .ok (.aload_n 0, 1) := by decide +kernel
theorem dX4_slotFor_3 : decode cX4_slotFor 3 = .ok (.getfield 12, 3) := by decide +kernel
theorem dX4_slotFor_6 : decode cX4_slotFor 6 = .ok (.iload_n 1, 1) := by decide +kernel
theorem dX4_slotFor_7 : decode cX4_slotFor 7 = .ok (.invokevirtual 197, 3) := by decide +kernel
theorem dX4_slotFor_10 : decode cX4_slotFor 10 = .ok (.ifCond .eq 7, 3) := by decide +kernel
theorem dX4_slotFor_13 : decode cX4_slotFor 13 = .ok (.iconst 0, 1) := by decide +kernel
theorem dX4_slotFor_14 : decode cX4_slotFor 14 = .ok (.goto 4, 3) := by decide +kernel
theorem dX4_slotFor_17 : decode cX4_slotFor 17 = .ok (.iload_n 3, 1) := by decide +kernel
theorem dX4_slotFor_18 : decode cX4_slotFor 18 = .ok (.invokestatic 59, 3) := by decide +kernel
theorem dX4_slotFor_21 : decode cX4_slotFor 21 = .ok (.ireturn, 1) := by decide +kernel
set_option maxRecDepth 20000 in
theorem ggX4_indexFor_X3_isList : GoodIn wsX4_indexFor wsX3_isList := goodIn_r _ [6, 7, 13, 14, 15, 16, 17, 18] (by decide +kernel) (by decide +kernel)
set_option maxRecDepth 20000 in
theorem gX4_indexFor_X3_isList : GoodIn wsX4_indexFor (wsV RX4 197 RX3 yX3_isList wsX3_isList) := goodIn_app (goodIn_of _ (by decide +kernel)) ggX4_indexFor_X3_isList
theorem dX4_indexFor_0 : decode cX4_indexFor 0 = .ok (.aload_n 0, 1) := by decide +kernel
theorem dX4_indexFor_1 : decode cX4_indexFor 1 = .ok (.getfield 12, 3) := by decide +kernel
theorem dX4_indexFor_4 : decode cX4_indexFor 4 = .ok (.iload_n 1, 1) := by decide +kernel
theorem dX4_indexFor_5 : decode cX4_indexFor 5 = .ok (.invokevirtual 197, 3) := by decide +kernel
theorem dX4_indexFor_8 : decode cX4_indexFor 8 = .ok (.ifCond .eq 7, 3) := by decide +kernel
theorem dX4_indexFor_11 : decode cX4_indexFor 11 = .ok (.iload_n 2, 1) := by decide +kernel
theorem dX4_indexFor_12 : decode cX4_indexFor 12 = .ok (.goto 4, 3) := by decide +kernel
theorem dX4_indexFor_15 : decode cX4_indexFor 15 = .ok (.iconst 0, 1) := by decide +kernel
theorem dX4_indexFor_16 : decode cX4_indexFor 16 = .ok (.ireturn, 1) := by decide +kernel
theorem dX4_slotOf_0 : decode cX4_slotOf 0 = .ok (.iload_n 0, 1) := by decide +kernel
theorem dX4_slotOf_1 : decode cX4_slotOf 1 = .ok (.sipush 1000, 3) := by decide +kernel
theorem dX4_slotOf_4 : decode cX4_slotOf 4 = .ok (.imul, 1) := by decide +kernel
theorem dX4_slotOf_5 : decode cX4_slotOf 5 = .ok (.iload_n 1, 1) := by decide +kernel
theorem dX4_slotOf_6 : decode cX4_slotOf 6 = .ok (.bipush 10, 2) := by decide +kernel
theorem dX4_slotOf_8 : decode cX4_slotOf 8 = .ok (.imul, 1) := by decide +kernel
theorem dX4_slotOf_9 : decode cX4_slotOf 9 = .ok (.iadd, 1) := by decide +kernel
theorem dX4_slotOf_10 : decode cX4_slotOf 10 = .ok (.iload_n 2, 1) := by decide +kernel
theorem dX4_slotOf_11 : decode cX4_slotOf 11 = .ok (.iadd, 1) := by decide +kernel
theorem dX4_slotOf_12 : decode cX4_slotOf 12 = .ok (.ireturn, 1) := by decide +kernel
set_option maxRecDepth 20000 in
theorem ggX4_isOfKey_X1_stateAt : GoodIn wsX4_isOfKey wsX1_stateAt := goodIn_r _ [6, 7, 17, 18, 19, 20, 21, 22] (by decide +kernel) (by decide +kernel)
set_option maxRecDepth 20000 in
theorem gX4_isOfKey_X1_stateAt : GoodIn wsX4_isOfKey (wsV RX4 184 RX1 yX1_stateAt wsX1_stateAt) := goodIn_app (goodIn_of _ (by decide +kernel)) ggX4_isOfKey_X1_stateAt
set_option maxRecDepth 20000 in
theorem ggX4_isOfKey_X1_keyAt : GoodIn wsX4_isOfKey wsX1_keyAt := goodIn_r _ [11, 7, 17, 18, 19, 20, 21, 22] (by decide +kernel) (by decide +kernel)
set_option maxRecDepth 20000 in
theorem gX4_isOfKey_X1_keyAt : GoodIn wsX4_isOfKey (wsV RX4 203 RX1 yX1_keyAt wsX1_keyAt) := goodIn_app (goodIn_of _ (by decide +kernel)) ggX4_isOfKey_X1_keyAt
theorem dX4_isOfKey_0 : decode cX4_isOfKey 0 = .ok (.aload_n 0, 1) := by decide +kernel
theorem dX4_isOfKey_1 : decode cX4_isOfKey 1 = .ok (.getfield 19, 3) := by decide +kernel
theorem dX4_isOfKey_4 : decode cX4_isOfKey 4 = .ok (.iload_n 1, 1) := by decide +kernel
theorem dX4_isOfKey_5 : decode cX4_isOfKey 5 = .ok (.invokevirtual 184, 3) := by decide +kernel
theorem dX4_isOfKey_8 : decode cX4_isOfKey 8 = .ok (.iload_n 2, 1) := by decide +kernel
theorem dX4_isOfKey_9 : decode cX4_isOfKey 9 = .ok (.if_icmp .ne 19, 3) := by decide +kernel
theorem dX4_isOfKey_12 : decode cX4_isOfKey 12 = .ok (.aload_n 0, 1) := by decide +kernel
theorem dX4_isOfKey_13 : decode cX4_isOfKey 13 = .ok (.getfield 19, 3) := by decide +kernel
theorem dX4_isOfKey_16 : decode cX4_isOfKey 16 = .ok (.iload_n 1, 1) := by decide +kernel
theorem dX4_isOfKey_17 : decode cX4_isOfKey 17 = .ok (.invokevirtual 203, 3) := by decide +kernel
theorem dX4_isOfKey_20 : decode cX4_isOfKey 20 = .ok (.iload_n 3, 1) := by decide +kernel
theorem dX4_isOfKey_21 : decode cX4_isOfKey 21 = .ok (.if_icmp .ne 7, 3) := by decide +kernel
theorem dX4_isOfKey_24 : decode cX4_isOfKey 24 = .ok (.iconst 1, 1) := by decide +kernel
theorem dX4_isOfKey_25 : decode cX4_isOfKey 25 = .ok (.goto 4, 3) := by decide +kernel
theorem dX4_isOfKey_28 : decode cX4_isOfKey 28 = .ok (.iconst 0, 1) := by decide +kernel
theorem dX4_isOfKey_29 : decode cX4_isOfKey 29 = .ok (.ireturn, 1) := by decide +kernel
set_option maxRecDepth 20000 in
theorem ggX4_isShown_X4_leftOf : GoodIn wsX4_isShown wsX4_leftOf := goodIn_r _ [5, 6, 7, 8, 9, 10, 11, 12, 13, 14, 15, 16, 17, 18, 19, 20, 21, 22, 23, 24, 25, 26, 27, 28, 29, 30, 31, 32, 33, 34, 35, 36, 37, 38] (by decide +kernel) (by decide +kernel)
set_option maxRecDepth 20000 in
theorem gX4_isShown_X4_leftOf : GoodIn wsX4_isShown (wsV RX4 115 RX4 yX4_leftOf wsX4_leftOf) := goodIn_app (goodIn_of _ (by decide +kernel)) ggX4_isShown_X4_leftOf
theorem dX4_isShown_0 : decode cX4_isShown 0 = .ok (.aload_n 0, 1) := by decide +kernel
theorem dX4_isShown_1 : decode cX4_isShown 1 = .ok (.iload_n 1, 1) := by decide +kernel
theorem dX4_isShown_2 : decode cX4_isShown 2 = .ok (.invokevirtual 115, 3) := by decide +kernel
theorem dX4_isShown_5 : decode cX4_isShown 5 = .ok (.ifCond .le 7, 3) := by decide +kernel
theorem dX4_isShown_8 : decode cX4_isShown 8 = .ok (.iconst 1, 1) := by decide +kernel
theorem dX4_isShown_9 : decode cX4_isShown 9 = .ok (.goto 4, 3) := by decide +kernel
theorem dX4_isShown_12 : decode cX4_isShown 12 = .ok (.iconst 0, 1) := by decide +kernel
theorem dX4_isShown_13 : decode cX4_isShown 13 = .ok (.ireturn, 1) := by decide +kernel
set_option maxRecDepth 20000 in
theorem ggX4_leftOf_X1_stateAt : GoodIn wsX4_leftOf wsX1_stateAt := goodIn_r _ [8, 9, 22, 23, 24, 25, 26, 27] (by decide +kernel) (by decide +kernel)
set_option maxRecDepth 20000 in
theorem gX4_leftOf_X1_stateAt : GoodIn wsX4_leftOf (wsV RX4 184 RX1 yX1_stateAt wsX1_stateAt) := goodIn_app (goodIn_of _ (by decide +kernel)) ggX4_leftOf_X1_stateAt
set_option maxRecDepth 20000 in
theorem ggX4_leftOf_X3_timeOf : GoodIn wsX4_leftOf wsX3_timeOf := goodIn_r _ [14, 15, 16, 28, 29, 30, 31, 32, 33] (by decide +kernel) (by decide +kernel)
set_option maxRecDepth 20000 in
theorem gX4_leftOf_X3_timeOf : GoodIn wsX4_leftOf (wsV RX4 206 RX3 yX3_timeOf wsX3_timeOf) := goodIn_app (goodIn_of _ (by decide +kernel)) ggX4_leftOf_X3_timeOf
theorem dX4_leftOf_0 : decode cX4_leftOf 0 = .ok (.aload_n 0, 1) := by decide +kernel
theorem dX4_leftOf_1 : decode cX4_leftOf 1 = .ok (.getfield 19, 3) := by decide +kernel
theorem dX4_leftOf_4 : decode cX4_leftOf 4 = .ok (.getfield 187, 3) := by decide +kernel
theorem dX4_leftOf_7 : decode cX4_leftOf 7 = .ok (.iload_n 1, 1) := by decide +kernel
theorem dX4_leftOf_8 : decode cX4_leftOf 8 = .ok (.iaload, 1) := by decide +kernel
theorem dX4_leftOf_9 : decode cX4_leftOf 9 = .ok (.aload_n 0, 1) := by decide +kernel
theorem dX4_leftOf_10 : decode cX4_leftOf 10 = .ok (.getfield 12, 3) := by decide +kernel
theorem dX4_leftOf_13 : decode cX4_leftOf 13 = .ok (.aload_n 0, 1) := by decide +kernel
theorem dX4_leftOf_14 : decode cX4_leftOf 14 = .ok (.getfield 19, 3) := by decide +kernel
theorem dX4_leftOf_17 : decode cX4_leftOf 17 = .ok (.iload_n 1, 1) := by decide +kernel
theorem dX4_leftOf_18 : decode cX4_leftOf 18 = .ok (.invokevirtual 184, 3) := by decide +kernel
theorem dX4_leftOf_21 : decode cX4_leftOf 21 = .ok (.invokevirtual 206, 3) := by decide +kernel
theorem dX4_leftOf_24 : decode cX4_leftOf 24 = .ok (.isub, 1) := by decide +kernel
theorem dX4_leftOf_25 : decode cX4_leftOf 25 = .ok (.ireturn, 1) := by decide +kernel
set_option maxRecDepth 20000 in
theorem ggX4_placeOf_X4_isShown : GoodIn wsX4_placeOf wsX4_isShown := goodIn_r _ [9, 10, 11, 12, 8, 13, 1, 14, 15, 16, 17, 18, 19, 20, 21, 22, 23, 24, 25, 26, 27, 28, 29, 30, 31, 32, 33, 34, 35, 36, 37, 38, 39, 40, 41, 42, 43, 44, 45] (by decide +kernel) (by decide +kernel)
