theorem dX5_get_56 : decode cX5_get 56 = .ok (.aload_n 0, 1) := by decide +kernel
theorem dX5_get_57 : decode cX5_get 57 = .ok (.iload 4, 2) := by decide +kernel
theorem dX5_get_59 : decode cX5_get 59 = .ok (.invokevirtual 108, 3) := by decide +kernel
theorem dX5_get_62 : decode cX5_get 62 = .ok (.goto 5, 3) := by decide +kernel
theorem dX5_get_65 : decode cX5_get 65 = .ok (.ldc 55, 2) := by decide +kernel
theorem dX5_get_67 : decode cX5_get 67 = .ok (.ireturn, 1) := by decide +kernel
set_option maxRecDepth 20000 in
theorem ggX5_remove_X5_isForm : GoodIn wsX5_remove wsX5_isForm := goodIn_r _ [7, 8, 9, 10, 11, 6, 12, 13, 14, 15, 16, 34, 35, 36, 37, 38, 39, 40, 41, 42, 43, 44, 45, 46, 47, 48, 49, 50, 51, 52, 53] (by decide +kernel) (by decide +kernel)
set_option maxRecDepth 20000 in
theorem gX5_remove_X5_isForm : GoodIn wsX5_remove (wsV RX5 89 RX5 yX5_isForm wsX5_isForm) := goodIn_app (goodIn_of _ (by decide +kernel)) ggX5_remove_X5_isForm
set_option maxRecDepth 20000 in
theorem ggX5_remove_X5_isIn : GoodIn wsX5_remove wsX5_isIn := goodIn_r _ [16] (by decide +kernel) (by decide +kernel)
set_option maxRecDepth 20000 in
theorem gX5_remove_X5_isIn : GoodIn wsX5_remove (va_wsS RX5 60 yX5_isIn wsX5_isIn) := goodIn_app (goodIn_of _ (by decide +kernel)) ggX5_remove_X5_isIn
set_option maxRecDepth 20000 in
theorem ggX5_remove_X5_find : GoodIn wsX5_remove wsX5_find := goodIn_r _ [20, 2, 21, 22, 1, 34, 35, 36, 37, 38, 39, 40, 41, 42, 43, 44, 45, 46, 47, 48, 49, 50, 51, 52, 53] (by decide +kernel) (by decide +kernel)
set_option maxRecDepth 20000 in
theorem gX5_remove_X5_find : GoodIn wsX5_remove (wsV RX5 93 RX5 yX5_find wsX5_find) := goodIn_app (goodIn_of _ (by decide +kernel)) ggX5_remove_X5_find
set_option maxRecDepth 20000 in
theorem ggX5_remove_X5_isShown : GoodIn wsX5_remove wsX5_isShown := goodIn_r _ [26, 2, 1, 27, 28, 29, 30, 6, 31, 32, 33, 34, 35, 36, 37, 38, 39, 40, 41, 42, 43, 44, 45, 46, 47, 48, 49, 50, 51, 52, 53] (by decide +kernel) (by decide +kernel)
set_option maxRecDepth 20000 in
theorem gX5_remove_X5_isShown : GoodIn wsX5_remove (wsV RX5 73 RX5 yX5_isShown wsX5_isShown) := goodIn_app (goodIn_of _ (by decide +kernel)) ggX5_remove_X5_isShown
theorem dX5_remove_0 : decode cX5_remove 0 = .ok (.aload_n 0, 1) := by decide +kernel
theorem dX5_remove_1 : decode cX5_remove 1 = .ok (.iload_n 1, 1) := by decide +kernel
theorem dX5_remove_2 : decode cX5_remove 2 = .ok (.iconst 0, 1) := by decide +kernel
theorem dX5_remove_3 : decode cX5_remove 3 = .ok (.invokevirtual 89, 3) := by decide +kernel
theorem dX5_remove_6 : decode cX5_remove 6 = .ok (.ifCond .eq 23, 3) := by decide +kernel
theorem dX5_remove_9 : decode cX5_remove 9 = .ok (.iload_n 2, 1) := by decide +kernel
theorem dX5_remove_10 : decode cX5_remove 10 = .ok (.iconst 0, 1) := by decide +kernel
theorem dX5_remove_11 : decode cX5_remove 11 = .ok (.bipush 99, 2) := by decide +kernel
theorem dX5_remove_13 : decode cX5_remove 13 = .ok (.invokestatic 60, 3) := by decide +kernel
theorem dX5_remove_16 : decode cX5_remove 16 = .ok (.ifCond .eq 13, 3) := by decide +kernel
theorem dX5_remove_19 : decode cX5_remove 19 = .ok (.iload_n 3, 1) := by decide +kernel
theorem dX5_remove_20 : decode cX5_remove 20 = .ok (.iconst 0, 1) := by decide +kernel
theorem dX5_remove_21 : decode cX5_remove 21 = .ok (.bipush 9, 2) := by decide +kernel
theorem dX5_remove_23 : decode cX5_remove 23 = .ok (.invokestatic 60, 3) := by decide +kernel
theorem dX5_remove_26 : decode cX5_remove 26 = .ok (.ifCond .ne 5, 3) := by decide +kernel
theorem dX5_remove_29 : decode cX5_remove 29 = .ok (.iconst (-1), 1) := by decide +kernel
theorem dX5_remove_30 : decode cX5_remove 30 = .ok (.ireturn, 1) := by decide +kernel
theorem dX5_remove_31 : decode cX5_remove 31 = .ok (.aload_n 0, 1) := by decide +kernel
theorem dX5_remove_32 : decode cX5_remove 32 = .ok (.iload_n 1, 1) := by decide +kernel
theorem dX5_remove_33 : decode cX5_remove 33 = .ok (.iload_n 2, 1) := by decide +kernel
theorem dX5_remove_34 : decode cX5_remove 34 = .ok (.iload_n 3, 1) := by decide +kernel
theorem dX5_remove_35 : decode cX5_remove 35 = .ok (.invokevirtual 93, 3) := by decide +kernel
theorem dX5_remove_38 : decode cX5_remove 38 = .ok (.istore 4, 2) := by decide +kernel
theorem dX5_remove_40 : decode cX5_remove 40 = .ok (.iload 4, 2) := by decide +kernel
theorem dX5_remove_42 : decode cX5_remove 42 = .ok (.ldc 55, 2) := by decide +kernel
theorem dX5_remove_44 : decode cX5_remove 44 = .ok (.if_icmp .ne 6, 3) := by decide +kernel
theorem dX5_remove_47 : decode cX5_remove 47 = .ok (.bipush (-2), 2) := by decide +kernel
theorem dX5_remove_49 : decode cX5_remove 49 = .ok (.ireturn, 1) := by decide +kernel
theorem dX5_remove_50 : decode cX5_remove 50 = .ok (.aload_n 0, 1) := by decide +kernel
theorem dX5_remove_51 : decode cX5_remove 51 = .ok (.iload 4, 2) := by decide +kernel
theorem dX5_remove_53 : decode cX5_remove 53 = .ok (.invokevirtual 73, 3) := by decide +kernel
theorem dX5_remove_56 : decode cX5_remove 56 = .ok (.ifCond .eq 7, 3) := by decide +kernel
theorem dX5_remove_59 : decode cX5_remove 59 = .ok (.iconst 1, 1) := by decide +kernel
theorem dX5_remove_60 : decode cX5_remove 60 = .ok (.goto 4, 3) := by decide +kernel
theorem dX5_remove_63 : decode cX5_remove 63 = .ok (.iconst 0, 1) := by decide +kernel
theorem dX5_remove_64 : decode cX5_remove 64 = .ok (.istore 5, 2) := by decide +kernel
theorem dX5_remove_66 : decode cX5_remove 66 = .ok (.aload_n 0, 1) := by decide +kernel
theorem dX5_remove_67 : decode cX5_remove 67 = .ok (.getfield 25, 3) := by decide +kernel
theorem dX5_remove_70 : decode cX5_remove 70 = .ok (.iload 4, 2) := by decide +kernel
theorem dX5_remove_72 : decode cX5_remove 72 = .ok (.ldc 55, 2) := by decide +kernel
theorem dX5_remove_74 : decode cX5_remove 74 = .ok (.iastore, 1) := by decide +kernel
theorem dX5_remove_75 : decode cX5_remove 75 = .ok (.iload 5, 2) := by decide +kernel
theorem dX5_remove_77 : decode cX5_remove 77 = .ok (.ireturn, 1) := by decide +kernel
set_option maxRecDepth 20000 in
theorem ggX5_add_X5_isForm : GoodIn wsX5_add wsX5_isForm := goodIn_r _ [6, 7, 8, 9, 10, 5, 11, 12, 13, 14, 15, 51, 52, 53, 54, 55, 56, 57, 58, 59, 60, 61, 62, 63, 64, 65, 66, 67, 68, 69, 70] (by decide +kernel) (by decide +kernel)
set_option maxRecDepth 20000 in
theorem gX5_add_X5_isForm : GoodIn wsX5_add (wsV RX5 89 RX5 yX5_isForm wsX5_isForm) := goodIn_app (goodIn_of _ (by decide +kernel)) ggX5_add_X5_isForm
set_option maxRecDepth 20000 in
theorem ggX5_add_X5_isIn : GoodIn wsX5_add wsX5_isIn := goodIn_r _ [15] (by decide +kernel) (by decide +kernel)
set_option maxRecDepth 20000 in
theorem gX5_add_X5_isIn : GoodIn wsX5_add (va_wsS RX5 60 yX5_isIn wsX5_isIn) := goodIn_app (goodIn_of _ (by decide +kernel)) ggX5_add_X5_isIn
set_option maxRecDepth 20000 in
theorem ggX5_add_X5_free : GoodIn wsX5_add wsX5_free := goodIn_r _ [19, 20, 1, 51, 52, 53, 54, 55, 56, 57, 58, 59, 60, 61, 62, 63, 64, 65, 66, 67, 68, 69, 70] (by decide +kernel) (by decide +kernel)
set_option maxRecDepth 20000 in
theorem gX5_add_X5_free : GoodIn wsX5_add (wsV RX5 97 RX5 yX5_free wsX5_free) := goodIn_app (goodIn_of _ (by decide +kernel)) ggX5_add_X5_free
set_option maxRecDepth 20000 in
theorem ggX5_add_X5_writes : GoodIn wsX5_add wsX5_writes := goodIn_r _ [24, 20, 25, 26, 27, 28, 29, 30, 31, 32, 5, 33, 34, 35, 36, 37, 38, 51, 52, 53, 54, 55, 56, 57, 58, 59, 60, 61, 62, 63, 64, 65, 66, 67, 68, 69, 70] (by decide +kernel) (by decide +kernel)
set_option maxRecDepth 20000 in
theorem gX5_add_X5_writes : GoodIn wsX5_add (wsV RX5 104 RX5 yX5_writes wsX5_writes) := goodIn_app (goodIn_of _ (by decide +kernel)) ggX5_add_X5_writes
set_option maxRecDepth 20000 in
theorem ggX5_add_X5_held : GoodIn wsX5_add wsX5_held := goodIn_r _ [42, 20, 25, 8, 9, 10, 5, 11, 12, 13, 14, 15, 43, 44, 45, 46, 1, 37, 47, 48, 49, 50, 35, 36, 51, 52, 53, 54, 55, 56, 57, 58, 59, 60, 61, 62, 63, 64, 65, 66, 67, 68, 69, 70] (by decide +kernel) (by decide +kernel)
set_option maxRecDepth 20000 in
theorem gX5_add_X5_held : GoodIn wsX5_add (wsV RX5 111 RX5 yX5_held wsX5_held) := goodIn_app (goodIn_of _ (by decide +kernel)) ggX5_add_X5_held
theorem dX5_add_0 : decode cX5_add 0 = .ok (.aload_n 0, 1) := by decide +kernel
theorem dX5_add_1 : decode cX5_add 1 = .ok (.iload_n 1, 1) := by decide +kernel
theorem dX5_add_2 : decode cX5_add 2 = .ok (.iconst 1, 1) := by decide +kernel
theorem dX5_add_3 : decode cX5_add 3 = .ok (.invokevirtual 89, 3) := by decide +kernel
theorem dX5_add_6 : decode cX5_add 6 = .ok (.ifCond .eq 13, 3) := by decide +kernel
theorem dX5_add_9 : decode cX5_add 9 = .ok (.iload_n 2, 1) := by decide +kernel
theorem dX5_add_10 : decode cX5_add 10 = .ok (.iconst 0, 1) := by decide +kernel
theorem dX5_add_11 : decode cX5_add 11 = .ok (.bipush 99, 2) := by decide +kernel
theorem dX5_add_13 : decode cX5_add 13 = .ok (.invokestatic 60, 3) := by decide +kernel
theorem dX5_add_16 : decode cX5_add 16 = .ok (.ifCond .ne 5, 3) := by decide +kernel
theorem dX5_add_19 : decode cX5_add 19 = .ok (.iconst (-1), 1) := by decide +kernel
theorem dX5_add_20 : decode cX5_add 20 = .ok (.ireturn, 1) := by decide +kernel
theorem dX5_add_21 : decode cX5_add 21 = .ok (.aload_n 0, 1) := by decide +kernel
theorem dX5_add_22 : decode cX5_add 22 = .ok (.invokevirtual 97, 3) := by decide +kernel
theorem dX5_add_25 : decode cX5_add 25 = .ok (.istore 4, 2) := by decide +kernel
theorem dX5_add_27 : decode cX5_add 27 = .ok (.iload 4, 2) := by decide +kernel
theorem dX5_add_29 : decode cX5_add 29 = .ok (.ldc 55, 2) := by decide +kernel
theorem dX5_add_31 : decode cX5_add 31 = .ok (.if_icmp .ne 6, 3) := by decide +kernel
theorem dX5_add_34 : decode cX5_add 34 = .ok (.bipush (-3), 2) := by decide +kernel
theorem dX5_add_36 : decode cX5_add 36 = .ok (.ireturn, 1) := by decide +kernel
theorem dX5_add_37 : decode cX5_add 37 = .ok (.aload_n 0, 1) := by decide +kernel
theorem dX5_add_38 : decode cX5_add 38 = .ok (.iload 4, 2) := by decide +kernel
theorem dX5_add_40 : decode cX5_add 40 = .ok (.iload_n 1, 1) := by decide +kernel
theorem dX5_add_41 : decode cX5_add 41 = .ok (.iload_n 2, 1) := by decide +kernel
theorem dX5_add_42 : decode cX5_add 42 = .ok (.iconst 0, 1) := by decide +kernel
theorem dX5_add_43 : decode cX5_add 43 = .ok (.iload_n 3, 1) := by decide +kernel
theorem dX5_add_44 : decode cX5_add 44 = .ok (.invokevirtual 104, 3) := by decide +kernel
theorem dX5_add_47 : decode cX5_add 47 = .ok (.aload_n 0, 1) := by decide +kernel
theorem dX5_add_48 : decode cX5_add 48 = .ok (.iload_n 1, 1) := by decide +kernel
theorem dX5_add_49 : decode cX5_add 49 = .ok (.iload_n 2, 1) := by decide +kernel
theorem dX5_add_50 : decode cX5_add 50 = .ok (.iconst 0, 1) := by decide +kernel
theorem dX5_add_51 : decode cX5_add 51 = .ok (.invokevirtual 111, 3) := by decide +kernel
theorem dX5_add_54 : decode cX5_add 54 = .ok (.ireturn, 1) := by decide +kernel
set_option maxRecDepth 20000 in
theorem ggX5_at_X5_isForm : GoodIn wsX5_at wsX5_isForm := goodIn_r _ [6, 7, 8, 9, 10, 5, 11, 12, 13, 14, 15, 46, 47, 48, 49, 50, 51, 52, 53, 54, 55, 56, 57, 58, 59, 60, 61, 62, 63, 64, 65] (by decide +kernel) (by decide +kernel)
set_option maxRecDepth 20000 in
theorem gX5_at_X5_isForm : GoodIn wsX5_at (wsV RX5 89 RX5 yX5_isForm wsX5_isForm) := goodIn_app (goodIn_of _ (by decide +kernel)) ggX5_at_X5_isForm
set_option maxRecDepth 20000 in
theorem ggX5_at_X5_isIn : GoodIn wsX5_at wsX5_isIn := goodIn_r _ [15] (by decide +kernel) (by decide +kernel)
set_option maxRecDepth 20000 in
theorem gX5_at_X5_isIn : GoodIn wsX5_at (va_wsS RX5 60 yX5_isIn wsX5_isIn) := goodIn_app (goodIn_of _ (by decide +kernel)) ggX5_at_X5_isIn
set_option maxRecDepth 20000 in
theorem ggX5_at_X5_findIn : GoodIn wsX5_at wsX5_findIn := goodIn_r _ [19, 1, 20, 21, 22, 23, 24, 25, 5, 26, 27, 28, 29, 30, 31, 32, 33, 46, 47, 48, 49, 50, 51, 52, 53, 54, 55, 56, 57, 58, 59, 60, 61, 62, 63, 64, 65] (by decide +kernel) (by decide +kernel)
set_option maxRecDepth 20000 in
theorem gX5_at_X5_findIn : GoodIn wsX5_at (wsV RX5 115 RX5 yX5_findIn wsX5_findIn) := goodIn_app (goodIn_of _ (by decide +kernel)) ggX5_at_X5_findIn
set_option maxRecDepth 20000 in
theorem ggX5_at_X5_read : GoodIn wsX5_at wsX5_read := goodIn_r _ [37, 38, 20, 39, 40, 41, 42, 5, 43, 44, 32, 33, 27, 45, 46, 47, 48, 49, 50, 51, 52, 53, 54, 55, 56, 57, 58, 59, 60, 61, 62, 63, 64, 65] (by decide +kernel) (by decide +kernel)
set_option maxRecDepth 20000 in
theorem gX5_at_X5_read : GoodIn wsX5_at (wsV RX5 108 RX5 yX5_read wsX5_read) := goodIn_app (goodIn_of _ (by decide +kernel)) ggX5_at_X5_read
theorem dX5_at_0 : decode cX5_at 0 = .ok (.aload_n 0, 1) := by decide +kernel
theorem dX5_at_1 : decode cX5_at 1 = .ok (.iload_n 1, 1) := by decide +kernel
theorem dX5_at_2 : decode cX5_at 2 = .ok (.iconst 1, 1) := by decide +kernel
theorem dX5_at_3 : decode cX5_at 3 = .ok (.invokevirtual 89, 3) := by decide +kernel
theorem dX5_at_6 : decode cX5_at 6 = .ok (.ifCond .eq 13, 3) := by decide +kernel
theorem dX5_at_9 : decode cX5_at 9 = .ok (.iload_n 2, 1) := by decide +kernel
theorem dX5_at_10 : decode cX5_at 10 = .ok (.iconst 0, 1) := by decide +kernel
theorem dX5_at_11 : decode cX5_at 11 = .ok (.bipush 99, 2) := by decide +kernel
theorem dX5_at_13 : decode cX5_at 13 = .ok (.invokestatic 60, 3) := by decide +kernel
theorem dX5_at_16 : decode cX5_at 16 = .ok (.ifCond .ne 5, 3) := by decide +kernel
theorem dX5_at_19 : decode cX5_at 19 = .ok (.iconst (-1), 1) := by decide +kernel
theorem dX5_at_20 : decode cX5_at 20 = .ok (.ireturn, 1) := by decide +kernel
theorem dX5_at_21 : decode cX5_at 21 = .ok (.iload_n 3, 1) := by decide +kernel
theorem dX5_at_22 : decode cX5_at 22 = .ok (.ifCond .lt 10, 3) := by decide +kernel
theorem dX5_at_25 : decode cX5_at 25 = .ok (.iload_n 3, 1) := by decide +kernel
theorem dX5_at_26 : decode cX5_at 26 = .ok (.sipush 200, 3) := by decide +kernel
theorem dX5_at_29 : decode cX5_at 29 = .ok (.if_icmp .lt 8, 3) := by decide +kernel
theorem dX5_at_32 : decode cX5_at 32 = .ok (.ldc 55, 2) := by decide +kernel
theorem dX5_at_34 : decode cX5_at 34 = .ok (.goto 11, 3) := by decide +kernel
theorem dX5_at_37 : decode cX5_at 37 = .ok (.aload_n 0, 1) := by decide +kernel
theorem dX5_at_38 : decode cX5_at 38 = .ok (.iload_n 1, 1) := by decide +kernel
theorem dX5_at_39 : decode cX5_at 39 = .ok (.iload_n 2, 1) := by decide +kernel
theorem dX5_at_40 : decode cX5_at 40 = .ok (.iload_n 3, 1) := by decide +kernel
theorem dX5_at_41 : decode cX5_at 41 = .ok (.iconst 1, 1) := by decide +kernel
theorem dX5_at_42 : decode cX5_at 42 = .ok (.invokevirtual 115, 3) := by decide +kernel
theorem dX5_at_45 : decode cX5_at 45 = .ok (.istore 4, 2) := by decide +kernel
theorem dX5_at_47 : decode cX5_at 47 = .ok (.iload 4, 2) := by decide +kernel
theorem dX5_at_49 : decode cX5_at 49 = .ok (.ldc 55, 2) := by decide +kernel
theorem dX5_at_51 : decode cX5_at 51 = .ok (.if_icmp .ne 8, 3) := by decide +kernel
theorem dX5_at_54 : decode cX5_at 54 = .ok (.ldc 55, 2) := by decide +kernel
theorem dX5_at_56 : decode cX5_at 56 = .ok (.goto 9, 3) := by decide +kernel
theorem dX5_at_59 : decode cX5_at 59 = .ok (.aload_n 0, 1) := by decide +kernel
theorem dX5_at_60 : decode cX5_at 60 = .ok (.iload 4, 2) := by decide +kernel
theorem dX5_at_62 : decode cX5_at 62 = .ok (.invokevirtual 108, 3) := by decide +kernel
theorem dX5_at_65 : decode cX5_at 65 = .ok (.ireturn, 1) := by decide +kernel
set_option maxRecDepth 20000 in
theorem ggX5_clear_X5_isState : GoodIn wsX5_clear wsX5_isState := goodIn_r _ [8, 9, 10, 11, 7, 12, 24, 25, 26, 27, 28, 29, 30, 31, 32, 33, 34, 35, 36, 37, 38, 39, 40, 41, 42, 43] (by decide +kernel) (by decide +kernel)
set_option maxRecDepth 20000 in
theorem gX5_clear_X5_isState : GoodIn wsX5_clear (wsV RX5 64 RX5 yX5_isState wsX5_isState) := goodIn_app (goodIn_of _ (by decide +kernel)) ggX5_clear_X5_isState
set_option maxRecDepth 20000 in
theorem ggX5_clear_X5_isIn : GoodIn wsX5_clear wsX5_isIn := goodIn_r _ [12] (by decide +kernel) (by decide +kernel)
set_option maxRecDepth 20000 in
theorem gX5_clear_X5_isIn : GoodIn wsX5_clear (va_wsS RX5 60 yX5_isIn wsX5_isIn) := goodIn_app (goodIn_of _ (by decide +kernel)) ggX5_clear_X5_isIn
set_option maxRecDepth 20000 in
theorem ggX5_clear_X5_isShown : GoodIn wsX5_clear wsX5_isShown := goodIn_r _ [16, 1, 3, 17, 18, 19, 20, 7, 21, 22, 23, 24, 25, 26, 27, 28, 29, 30, 31, 32, 33, 34, 35, 36, 37, 38, 39, 40, 41, 42, 43] (by decide +kernel) (by decide +kernel)
set_option maxRecDepth 20000 in
theorem gX5_clear_X5_isShown : GoodIn wsX5_clear (wsV RX5 73 RX5 yX5_isShown wsX5_isShown) := goodIn_app (goodIn_of _ (by decide +kernel)) ggX5_clear_X5_isShown
theorem dX5_clear_0 : decode cX5_clear 0 = .ok (.aload_n 0, 1) := by decide +kernel
theorem dX5_clear_1 : decode cX5_clear 1 = .ok (.iload_n 1, 1) := by decide +kernel
theorem dX5_clear_2 : decode cX5_clear 2 = .ok (.invokevirtual 64, 3) := by decide +kernel
theorem dX5_clear_5 : decode cX5_clear 5 = .ok (.ifCond .eq 13, 3) := by decide +kernel
theorem dX5_clear_8 : decode cX5_clear 8 = .ok (.iload_n 2, 1) := by decide +kernel
theorem dX5_clear_9 : decode cX5_clear 9 = .ok (.iconst 0, 1) := by decide +kernel
theorem dX5_clear_10 : decode cX5_clear 10 = .ok (.bipush 99, 2) := by decide +kernel
theorem dX5_clear_12 : decode cX5_clear 12 = .ok (.invokestatic 60, 3) := by decide +kernel
theorem dX5_clear_15 : decode cX5_clear 15 = .ok (.ifCond .ne 5, 3) := by decide +kernel
theorem dX5_clear_18 : decode cX5_clear 18 = .ok (.iconst (-1), 1) := by decide +kernel
theorem dX5_clear_19 : decode cX5_clear 19 = .ok (.ireturn, 1) := by decide +kernel
theorem dX5_clear_20 : decode cX5_clear 20 = .ok (.iconst 0, 1) := by decide +kernel
theorem dX5_clear_21 : decode cX5_clear 21 = .ok (.istore_n 3, 1) := by decide +kernel
theorem dX5_clear_22 : decode cX5_clear 22 = .ok (.iconst 0, 1) := by decide +kernel
theorem dX5_clear_23 : decode cX5_clear 23 = .ok (.istore 4, 2) := by decide +kernel
theorem dX5_clear_25 : decode cX5_clear 25 = .ok (.iload 4, 2) := by decide +kernel
theorem dX5_clear_27 : decode cX5_clear 27 = .ok (.sipush 200, 3) := by decide +kernel
theorem dX5_clear_30 : decode cX5_clear 30 = .ok (.if_icmp .ge 57, 3) := by decide +kernel
theorem dX5_clear_33 : decode cX5_clear 33 = .ok (.aload_n 0, 1) := by decide +kernel
theorem dX5_clear_34 : decode cX5_clear 34 = .ok (.getfield 25, 3) := by decide +kernel
theorem dX5_clear_37 : decode cX5_clear 37 = .ok (.iload 4, 2) := by decide +kernel
theorem dX5_clear_39 : decode cX5_clear 39 = .ok (.iaload, 1) := by decide +kernel
theorem dX5_clear_40 : decode cX5_clear 40 = .ok (.iload_n 1, 1) := by decide +kernel
theorem dX5_clear_41 : decode cX5_clear 41 = .ok (.if_icmp .ne 40, 3) := by decide +kernel
theorem dX5_clear_44 : decode cX5_clear 44 = .ok (.aload_n 0, 1) := by decide +kernel
theorem dX5_clear_45 : decode cX5_clear 45 = .ok (.getfield 28, 3) := by decide +kernel
theorem dX5_clear_48 : decode cX5_clear 48 = .ok (.iload 4, 2) := by decide +kernel
theorem dX5_clear_50 : decode cX5_clear 50 = .ok (.iaload, 1) := by decide +kernel
theorem dX5_clear_51 : decode cX5_clear 51 = .ok (.iload_n 2, 1) := by decide +kernel
theorem dX5_clear_52 : decode cX5_clear 52 = .ok (.if_icmp .ne 29, 3) := by decide +kernel
theorem dX5_clear_55 : decode cX5_clear 55 = .ok (.iload_n 3, 1) := by decide +kernel
theorem dX5_clear_56 : decode cX5_clear 56 = .ok (.aload_n 0, 1) := by decide +kernel
theorem dX5_clear_57 : decode cX5_clear 57 = .ok (.iload 4, 2) := by decide +kernel
theorem dX5_clear_59 : decode cX5_clear 59 = .ok (.invokevirtual 73, 3) := by decide +kernel
theorem dX5_clear_62 : decode cX5_clear 62 = .ok (.ifCond .eq 7, 3) := by decide +kernel
theorem dX5_clear_65 : decode cX5_clear 65 = .ok (.iconst 1, 1) := by decide +kernel
theorem dX5_clear_66 : decode cX5_clear 66 = .ok (.goto 4, 3) := by decide +kernel
theorem dX5_clear_69 : decode cX5_clear 69 = .ok (.iconst 0, 1) := by decide +kernel
theorem dX5_clear_70 : decode cX5_clear 70 = .ok (.iadd, 1) := by decide +kernel
theorem dX5_clear_71 : decode cX5_clear 71 = .ok (.istore_n 3, 1) := by decide +kernel
theorem dX5_clear_72 : decode cX5_clear 72 = .ok (.aload_n 0, 1) := by decide +kernel
theorem dX5_clear_73 : decode cX5_clear 73 = .ok (.getfield 25, 3) := by decide +kernel
theorem dX5_clear_76 : decode cX5_clear 76 = .ok (.iload 4, 2) := by decide +kernel
theorem dX5_clear_78 : decode cX5_clear 78 = .ok (.ldc 55, 2) := by decide +kernel
theorem dX5_clear_80 : decode cX5_clear 80 = .ok (.iastore, 1) := by decide +kernel
theorem dX5_clear_81 : decode cX5_clear 81 = .ok (.iinc 4 1, 3) := by decide +kernel
theorem dX5_clear_84 : decode cX5_clear 84 = .ok (.goto (-59), 3) := by decide +kernel
theorem dX5_clear_87 : decode cX5_clear 87 = .ok (.iload_n 3, 1) := by decide +kernel
theorem dX5_clear_88 : decode cX5_clear 88 = .ok (.ireturn, 1) := by decide +kernel
set_option maxRecDepth 20000 in
theorem ggX5_held_X5_isState : GoodIn wsX5_held wsX5_isState := goodIn_r _ [7, 8, 9, 10, 6, 11, 24, 25, 26, 27, 28, 29, 30, 31, 32, 33, 34, 35, 36, 37, 38, 39, 40, 41, 42, 43] (by decide +kernel) (by decide +kernel)
set_option maxRecDepth 20000 in
theorem gX5_held_X5_isState : GoodIn wsX5_held (wsV RX5 64 RX5 yX5_isState wsX5_isState) := goodIn_app (goodIn_of _ (by decide +kernel)) ggX5_held_X5_isState
set_option maxRecDepth 20000 in
theorem ggX5_held_X5_isIn : GoodIn wsX5_held wsX5_isIn := goodIn_r _ [11] (by decide +kernel) (by decide +kernel)
set_option maxRecDepth 20000 in
theorem gX5_held_X5_isIn : GoodIn wsX5_held (va_wsS RX5 60 yX5_isIn wsX5_isIn) := goodIn_app (goodIn_of _ (by decide +kernel)) ggX5_held_X5_isIn
set_option maxRecDepth 20000 in
theorem ggX5_held_X5_isShown : GoodIn wsX5_held wsX5_isShown := goodIn_r _ [15, 1, 16, 17, 18, 19, 20, 6, 21, 22, 23, 24, 25, 26, 27, 28, 29, 30, 31, 32, 33, 34, 35, 36, 37, 38, 39, 40, 41, 42, 43] (by decide +kernel) (by decide +kernel)
set_option maxRecDepth 20000 in
theorem gX5_held_X5_isShown : GoodIn wsX5_held (wsV RX5 73 RX5 yX5_isShown wsX5_isShown) := goodIn_app (goodIn_of _ (by decide +kernel)) ggX5_held_X5_isShown
theorem dX5_held_0 : decode cX5_held 0 = .ok (.aload_n 0, 1) := by decide +kernel
theorem dX5_held_1 : decode cX5_held 1 = .ok (.iload_n 1, 1) := by decide +kernel
theorem dX5_held_2 : decode cX5_held 2 = .ok (.invokevirtual 64, 3) := by decide +kernel
theorem dX5_held_5 : decode cX5_held 5 = .ok (.ifCond .eq 13, 3) := by decide +kernel
theorem dX5_held_8 : decode cX5_held 8 = .ok (.iload_n 2, 1) := by decide +kernel
theorem dX5_held_9 : decode cX5_held 9 = .ok (.iconst 0, 1) := by decide +kernel
theorem dX5_held_10 : decode cX5_held 10 = .ok (.bipush 99, 2) := by decide +kernel
theorem dX5_held_12 : decode cX5_held 12 = .ok (.invokestatic 60, 3) := by decide +kernel
theorem dX5_held_15 : decode cX5_held 15 = .ok (.ifCond .ne 5, 3) := by decide +kernel
theorem dX5_held_18 : decode cX5_held 18 = .ok (.iconst (-1), 1) := by decide +kernel
theorem dX5_held_19 : decode cX5_held 19 = .ok (.ireturn, 1) := by decide +kernel
theorem dX5_held_20 : decode cX5_held 20 = .ok (.iconst 0, 1) := by decide +kernel
theorem dX5_held_21 : decode cX5_held 21 = .ok (.istore 4, 2) := by decide +kernel
theorem dX5_held_23 : decode cX5_held 23 = .ok (.iconst 0, 1) := by decide +kernel
theorem dX5_held_24 : decode cX5_held 24 = .ok (.istore 5, 2) := by decide +kernel
theorem dX5_held_26 : decode cX5_held 26 = .ok (.iload 5, 2) := by decide +kernel
theorem dX5_held_28 : decode cX5_held 28 = .ok (.sipush 200, 3) := by decide +kernel
theorem dX5_held_31 : decode cX5_held 31 = .ok (.if_icmp .ge 51, 3) := by decide +kernel
theorem dX5_held_34 : decode cX5_held 34 = .ok (.iload 4, 2) := by decide +kernel
theorem dX5_held_36 : decode cX5_held 36 = .ok (.aload_n 0, 1) := by decide +kernel
theorem dX5_held_37 : decode cX5_held 37 = .ok (.getfield 25, 3) := by decide +kernel
theorem dX5_held_40 : decode cX5_held 40 = .ok (.iload 5, 2) := by decide +kernel
theorem dX5_held_42 : decode cX5_held 42 = .ok (.iaload, 1) := by decide +kernel
theorem dX5_held_43 : decode cX5_held 43 = .ok (.iload_n 1, 1) := by decide +kernel
theorem dX5_held_44 : decode cX5_held 44 = .ok (.if_icmp .ne 28, 3) := by decide +kernel
theorem dX5_held_47 : decode cX5_held 47 = .ok (.aload_n 0, 1) := by decide +kernel
theorem dX5_held_48 : decode cX5_held 48 = .ok (.getfield 28, 3) := by decide +kernel
theorem dX5_held_51 : decode cX5_held 51 = .ok (.iload 5, 2) := by decide +kernel
theorem dX5_held_53 : decode cX5_held 53 = .ok (.iaload, 1) := by decide +kernel
theorem dX5_held_54 : decode cX5_held 54 = .ok (.iload_n 2, 1) := by decide +kernel
theorem dX5_held_55 : decode cX5_held 55 = .ok (.if_icmp .ne 17, 3) := by decide +kernel
theorem dX5_held_58 : decode cX5_held 58 = .ok (.aload_n 0, 1) := by decide +kernel
theorem dX5_held_59 : decode cX5_held 59 = .ok (.iload 5, 2) := by decide +kernel
theorem dX5_held_61 : decode cX5_held 61 = .ok (.invokevirtual 73, 3) := by decide +kernel
theorem dX5_held_64 : decode cX5_held 64 = .ok (.iload_n 3, 1) := by decide +kernel
theorem dX5_held_65 : decode cX5_held 65 = .ok (.if_icmp .eq 7, 3) := by decide +kernel
theorem dX5_held_68 : decode cX5_held 68 = .ok (.iconst 1, 1) := by decide +kernel
theorem dX5_held_69 : decode cX5_held 69 = .ok (.goto 4, 3) := by decide +kernel
theorem dX5_held_72 : decode cX5_held 72 = .ok (.iconst 0, 1) := by decide +kernel
theorem dX5_held_73 : decode cX5_held 73 = .ok (.iadd, 1) := by decide +kernel
theorem dX5_held_74 : decode cX5_held 74 = .ok (.istore 4, 2) := by decide +kernel
theorem dX5_held_76 : decode cX5_held 76 = .ok (.iinc 5 1, 3) := by decide +kernel
theorem dX5_held_79 : decode cX5_held 79 = .ok (.goto (-53), 3) := by decide +kernel
theorem dX5_held_82 : decode cX5_held 82 = .ok (.iload 4, 2) := by decide +kernel
theorem dX5_held_84 : decode cX5_held 84 = .ok (.ireturn, 1) := by decide +kernel
set_option maxRecDepth 20000 in
theorem ggX5_isAsked_X5_isState : GoodIn wsX5_isAsked wsX5_isState := goodIn_r _ [6, 7, 8, 9, 5, 10, 11, 12, 13, 14, 15, 16, 17, 18, 19, 20, 21, 22, 23, 24, 25, 26, 27, 28, 29, 30] (by decide +kernel) (by decide +kernel)
set_option maxRecDepth 20000 in
theorem gX5_isAsked_X5_isState : GoodIn wsX5_isAsked (wsV RX5 64 RX5 yX5_isState wsX5_isState) := goodIn_app (goodIn_of _ (by decide +kernel)) ggX5_isAsked_X5_isState
set_option maxRecDepth 20000 in
theorem ggX5_isAsked_X5_isIn : GoodIn wsX5_isAsked wsX5_isIn := goodIn_r _ [10] (by decide +kernel) (by decide +kernel)
set_option maxRecDepth 20000 in
theorem gX5_isAsked_X5_isIn : GoodIn wsX5_isAsked (va_wsS RX5 60 yX5_isIn wsX5_isIn) := goodIn_app (goodIn_of _ (by decide +kernel)) ggX5_isAsked_X5_isIn
theorem dX5_isAsked_0 : decode cX5_isAsked 0 = .ok (.aload_n 0, 1) := by decide +kernel
theorem dX5_isAsked_1 : decode cX5_isAsked 1 = .ok (.iload_n 1, 1) := by decide +kernel
theorem dX5_isAsked_2 : decode cX5_isAsked 2 = .ok (.invokevirtual 64, 3) := by decide +kernel
theorem dX5_isAsked_5 : decode cX5_isAsked 5 = .ok (.ifCond .eq 37, 3) := by decide +kernel
theorem dX5_isAsked_8 : decode cX5_isAsked 8 = .ok (.iload_n 2, 1) := by decide +kernel
theorem dX5_isAsked_9 : decode cX5_isAsked 9 = .ok (.iconst 0, 1) := by decide +kernel
theorem dX5_isAsked_10 : decode cX5_isAsked 10 = .ok (.bipush 99, 2) := by decide +kernel
theorem dX5_isAsked_12 : decode cX5_isAsked 12 = .ok (.invokestatic 60, 3) := by decide +kernel
theorem dX5_isAsked_15 : decode cX5_isAsked 15 = .ok (.ifCond .eq 27, 3) := by decide +kernel
theorem dX5_isAsked_18 : decode cX5_isAsked 18 = .ok (.iload_n 3, 1) := by decide +kernel
theorem dX5_isAsked_19 : decode cX5_isAsked 19 = .ok (.ifCond .lt 23, 3) := by decide +kernel
theorem dX5_isAsked_22 : decode cX5_isAsked 22 = .ok (.aload_n 0, 1) := by decide +kernel
theorem dX5_isAsked_23 : decode cX5_isAsked 23 = .ok (.getfield 7, 3) := by decide +kernel
theorem dX5_isAsked_26 : decode cX5_isAsked 26 = .ok (.iload_n 1, 1) := by decide +kernel
theorem dX5_isAsked_27 : decode cX5_isAsked 27 = .ok (.iaload, 1) := by decide +kernel
theorem dX5_isAsked_28 : decode cX5_isAsked 28 = .ok (.iconst 1, 1) := by decide +kernel
theorem dX5_isAsked_29 : decode cX5_isAsked 29 = .ok (.if_icmp .eq 9, 3) := by decide +kernel
theorem dX5_isAsked_32 : decode cX5_isAsked 32 = .ok (.iload_n 3, 1) := by decide +kernel
theorem dX5_isAsked_33 : decode cX5_isAsked 33 = .ok (.bipush 9, 2) := by decide +kernel
theorem dX5_isAsked_35 : decode cX5_isAsked 35 = .ok (.if_icmp .gt 7, 3) := by decide +kernel
theorem dX5_isAsked_38 : decode cX5_isAsked 38 = .ok (.iconst 1, 1) := by decide +kernel
theorem dX5_isAsked_39 : decode cX5_isAsked 39 = .ok (.goto 4, 3) := by decide +kernel
theorem dX5_isAsked_42 : decode cX5_isAsked 42 = .ok (.iconst 0, 1) := by decide +kernel
theorem dX5_isAsked_43 : decode cX5_isAsked 43 = .ok (.ireturn, 1) := by decide +kernel
set_option maxRecDepth 20000 in
theorem ggX5_asked_X5_find : GoodIn wsX5_asked wsX5_find := goodIn_r _ [7, 8, 9, 10, 2, 27, 28, 29, 30, 31, 32, 33, 34, 35, 36, 37, 38, 39, 40, 41, 42, 43, 44, 45, 46] (by decide +kernel) (by decide +kernel)
set_option maxRecDepth 20000 in
theorem gX5_asked_X5_find : GoodIn wsX5_asked (wsV RX5 93 RX5 yX5_find wsX5_find) := goodIn_app (goodIn_of _ (by decide +kernel)) ggX5_asked_X5_find
set_option maxRecDepth 20000 in
theorem ggX5_asked_X5_findIn : GoodIn wsX5_asked wsX5_findIn := goodIn_r _ [14, 2, 8, 9, 15, 16, 17, 18, 6, 19, 20, 21, 22, 23, 24, 25, 26, 27, 28, 29, 30, 31, 32, 33, 34, 35, 36, 37, 38, 39, 40, 41, 42, 43, 44, 45, 46] (by decide +kernel) (by decide +kernel)
set_option maxRecDepth 20000 in
theorem gX5_asked_X5_findIn : GoodIn wsX5_asked (wsV RX5 115 RX5 yX5_findIn wsX5_findIn) := goodIn_app (goodIn_of _ (by decide +kernel)) ggX5_asked_X5_findIn
theorem dX5_asked_0 : decode cX5_asked 0 = .ok (.aload_n 0, 1) := by decide +kernel
theorem dX5_asked_1 : decode cX5_asked 1 = .ok (.getfield 7, 3) := by decide +kernel
theorem dX5_asked_4 : decode cX5_asked 4 = .ok (.iload_n 1, 1) := by decide +kernel
theorem dX5_asked_5 : decode cX5_asked 5 = .ok (.iaload, 1) := by decide +kernel
theorem dX5_asked_6 : decode cX5_asked 6 = .ok (.ifCond .ne 11, 3) := by decide +kernel
theorem dX5_asked_9 : decode cX5_asked 9 = .ok (.aload_n 0, 1) := by decide +kernel
theorem dX5_asked_10 : decode cX5_asked 10 = .ok (.iload_n 1, 1) := by decide +kernel
theorem dX5_asked_11 : decode cX5_asked 11 = .ok (.iload_n 2, 1) := by decide +kernel
theorem dX5_asked_12 : decode cX5_asked 12 = .ok (.iload_n 3, 1) := by decide +kernel
theorem dX5_asked_13 : decode cX5_asked 13 = .ok (.invokevirtual 93, 3) := by decide +kernel
theorem dX5_asked_16 : decode cX5_asked 16 = .ok (.ireturn, 1) := by decide +kernel
theorem dX5_asked_17 : decode cX5_asked 17 = .ok (.iload_n 3, 1) := by decide +kernel
theorem dX5_asked_18 : decode cX5_asked 18 = .ok (.sipush 200, 3) := by decide +kernel
theorem dX5_asked_21 : decode cX5_asked 21 = .ok (.if_icmp .lt 8, 3) := by decide +kernel
theorem dX5_asked_24 : decode cX5_asked 24 = .ok (.ldc 55, 2) := by decide +kernel
theorem dX5_asked_26 : decode cX5_asked 26 = .ok (.goto 12, 3) := by decide +kernel
theorem dX5_asked_29 : decode cX5_asked 29 = .ok (.aload_n 0, 1) := by decide +kernel
theorem dX5_asked_30 : decode cX5_asked 30 = .ok (.iload_n 1, 1) := by decide +kernel
theorem dX5_asked_31 : decode cX5_asked 31 = .ok (.iload_n 2, 1) := by decide +kernel
theorem dX5_asked_32 : decode cX5_asked 32 = .ok (.iload_n 3, 1) := by decide +kernel
theorem dX5_asked_33 : decode cX5_asked 33 = .ok (.iload 4, 2) := by decide +kernel
theorem dX5_asked_35 : decode cX5_asked 35 = .ok (.invokevirtual 115, 3) := by decide +kernel
theorem dX5_asked_38 : decode cX5_asked 38 = .ok (.ireturn, 1) := by decide +kernel
set_option maxRecDepth 20000 in
theorem ggX5_left_X5_isAsked : GoodIn wsX5_left wsX5_isAsked := goodIn_r _ [7, 8, 9, 10, 11, 6, 12, 13, 14, 15, 16, 43, 44, 45, 46, 47, 48, 49, 50, 51, 52, 53, 54, 55, 56, 57, 58, 59, 60, 61, 62] (by decide +kernel) (by decide +kernel)
set_option maxRecDepth 20000 in
theorem gX5_left_X5_isAsked : GoodIn wsX5_left (wsV RX5 119 RX5 yX5_isAsked wsX5_isAsked) := goodIn_app (goodIn_of _ (by decide +kernel)) ggX5_left_X5_isAsked
set_option maxRecDepth 20000 in
theorem ggX5_left_X5_asked : GoodIn wsX5_left wsX5_asked := goodIn_r _ [20, 8, 1, 21, 22, 23, 6, 24, 25, 26, 27, 28, 29, 30, 31, 32, 33, 34, 35, 36, 2, 37, 38, 39, 40, 41, 42, 43, 44, 45, 46, 47, 48, 49, 50, 51, 52, 53, 54, 55, 56, 57, 58, 59, 60, 61, 62] (by decide +kernel) (by decide +kernel)
set_option maxRecDepth 20000 in
theorem gX5_left_X5_asked : GoodIn wsX5_left (wsV RX5 122 RX5 yX5_asked wsX5_asked) := goodIn_app (goodIn_of _ (by decide +kernel)) ggX5_left_X5_asked
set_option maxRecDepth 20000 in
theorem ggX5_left_X5_isShown : GoodIn wsX5_left wsX5_isShown := goodIn_r _ [36, 25, 1, 2, 37, 38, 39, 6, 40, 41, 42, 43, 44, 45, 46, 47, 48, 49, 50, 51, 52, 53, 54, 55, 56, 57, 58, 59, 60, 61, 62] (by decide +kernel) (by decide +kernel)
set_option maxRecDepth 20000 in
theorem gX5_left_X5_isShown : GoodIn wsX5_left (wsV RX5 73 RX5 yX5_isShown wsX5_isShown) := goodIn_app (goodIn_of _ (by decide +kernel)) ggX5_left_X5_isShown
set_option maxRecDepth 20000 in
theorem ggX5_left_X5_clockOf : GoodIn wsX5_left wsX5_clockOf := goodIn_r _ [40, 41, 42, 25, 43, 44, 45, 46, 47, 48, 49, 50, 51, 52, 53, 54, 55, 56, 57, 58, 59, 60, 61, 62] (by decide +kernel) (by decide +kernel)
set_option maxRecDepth 20000 in
theorem gX5_left_X5_clockOf : GoodIn wsX5_left (wsV RX5 69 RX5 yX5_clockOf wsX5_clockOf) := goodIn_app (goodIn_of _ (by decide +kernel)) ggX5_left_X5_clockOf
theorem dX5_left_0 : decode cX5_left 0 = .ok (.aload_n 0, 1) := by decide +kernel
theorem dX5_left_1 : decode cX5_left 1 = .ok (.iload_n 1, 1) := by decide +kernel
theorem dX5_left_2 : decode cX5_left 2 = .ok (.iload_n 2, 1) := by decide +kernel
theorem dX5_left_3 : decode cX5_left 3 = .ok (.iload_n 3, 1) := by decide +kernel
theorem dX5_left_4 : decode cX5_left 4 = .ok (.invokevirtual 119, 3) := by decide +kernel
theorem dX5_left_7 : decode cX5_left 7 = .ok (.ifCond .ne 5, 3) := by decide +kernel
theorem dX5_left_10 : decode cX5_left 10 = .ok (.iconst (-1), 1) := by decide +kernel
theorem dX5_left_11 : decode cX5_left 11 = .ok (.ireturn, 1) := by decide +kernel
theorem dX5_left_12 : decode cX5_left 12 = .ok (.aload_n 0, 1) := by decide +kernel
theorem dX5_left_13 : decode cX5_left 13 = .ok (.iload_n 1, 1) := by decide +kernel
theorem dX5_left_14 : decode cX5_left 14 = .ok (.iload_n 2, 1) := by decide +kernel
theorem dX5_left_15 : decode cX5_left 15 = .ok (.iload_n 3, 1) := by decide +kernel
theorem dX5_left_16 : decode cX5_left 16 = .ok (.iconst 1, 1) := by decide +kernel
theorem dX5_left_17 : decode cX5_left 17 = .ok (.invokevirtual 122, 3) := by decide +kernel
theorem dX5_left_20 : decode cX5_left 20 = .ok (.istore 4, 2) := by decide +kernel
theorem dX5_left_22 : decode cX5_left 22 = .ok (.iload 4, 2) := by decide +kernel
theorem dX5_left_24 : decode cX5_left 24 = .ok (.ldc 55, 2) := by decide +kernel
theorem dX5_left_26 : decode cX5_left 26 = .ok (.if_icmp .eq 29, 3) := by decide +kernel
theorem dX5_left_29 : decode cX5_left 29 = .ok (.aload_n 0, 1) := by decide +kernel
theorem dX5_left_30 : decode cX5_left 30 = .ok (.iload 4, 2) := by decide +kernel
theorem dX5_left_32 : decode cX5_left 32 = .ok (.invokevirtual 73, 3) := by decide +kernel
theorem dX5_left_35 : decode cX5_left 35 = .ok (.ifCond .eq 20, 3) := by decide +kernel
theorem dX5_left_38 : decode cX5_left 38 = .ok (.aload_n 0, 1) := by decide +kernel
theorem dX5_left_39 : decode cX5_left 39 = .ok (.getfield 40, 3) := by decide +kernel
theorem dX5_left_42 : decode cX5_left 42 = .ok (.iload 4, 2) := by decide +kernel
theorem dX5_left_44 : decode cX5_left 44 = .ok (.iaload, 1) := by decide +kernel
theorem dX5_left_45 : decode cX5_left 45 = .ok (.aload_n 0, 1) := by decide +kernel
theorem dX5_left_46 : decode cX5_left 46 = .ok (.iload 4, 2) := by decide +kernel
theorem dX5_left_48 : decode cX5_left 48 = .ok (.invokevirtual 69, 3) := by decide +kernel
theorem dX5_left_51 : decode cX5_left 51 = .ok (.isub, 1) := by decide +kernel
theorem dX5_left_52 : decode cX5_left 52 = .ok (.goto 5, 3) := by decide +kernel
theorem dX5_left_55 : decode cX5_left 55 = .ok (.ldc 55, 2) := by decide +kernel
theorem dX5_left_57 : decode cX5_left 57 = .ok (.ireturn, 1) := by decide +kernel
set_option maxRecDepth 20000 in
theorem ggX5_place_X5_isAsked : GoodIn wsX5_place wsX5_isAsked := goodIn_r _ [5, 6, 7, 8, 9, 4, 10, 11, 12, 13, 14, 43, 44, 45, 46, 47, 48, 49, 50, 51, 52, 53, 54, 55, 56, 57, 58, 59, 60, 61, 62] (by decide +kernel) (by decide +kernel)
set_option maxRecDepth 20000 in
theorem gX5_place_X5_isAsked : GoodIn wsX5_place (wsV RX5 119 RX5 yX5_isAsked wsX5_isAsked) := goodIn_app (goodIn_of _ (by decide +kernel)) ggX5_place_X5_isAsked
set_option maxRecDepth 20000 in
theorem ggX5_place_X5_asked : GoodIn wsX5_place wsX5_asked := goodIn_r _ [18, 6, 19, 20, 21, 22, 4, 23, 24, 25, 26, 27, 28, 29, 30, 31, 32, 33, 34, 35, 36, 37, 38, 39, 40, 41, 42, 43, 44, 45, 46, 47, 48, 49, 50, 51, 52, 53, 54, 55, 56, 57, 58, 59, 60, 61, 62] (by decide +kernel) (by decide +kernel)
set_option maxRecDepth 20000 in
theorem gX5_place_X5_asked : GoodIn wsX5_place (wsV RX5 122 RX5 yX5_asked wsX5_asked) := goodIn_app (goodIn_of _ (by decide +kernel)) ggX5_place_X5_asked
theorem dX5_place_0 : decode cX5_place 0 = .ok (.aload_n 0, 1) := by decide +kernel
theorem dX5_place_1 : decode cX5_place 1 = .ok (.iload_n 1, 1) := by decide +kernel
theorem dX5_place_2 : decode cX5_place 2 = .ok (.iload_n 2, 1) := by decide +kernel
theorem dX5_place_3 : decode cX5_place 3 = .ok (.iload_n 3, 1) := by decide +kernel
theorem dX5_place_4 : decode cX5_place 4 = .ok (.invokevirtual 119, 3) := by decide +kernel
theorem dX5_place_7 : decode cX5_place 7 = .ok (.ifCond .ne 5, 3) := by decide +kernel
theorem dX5_place_10 : decode cX5_place 10 = .ok (.iconst (-1), 1) := by decide +kernel
theorem dX5_place_11 : decode cX5_place 11 = .ok (.ireturn, 1) := by decide +kernel
theorem dX5_place_12 : decode cX5_place 12 = .ok (.aload_n 0, 1) := by decide +kernel
theorem dX5_place_13 : decode cX5_place 13 = .ok (.iload_n 1, 1) := by decide +kernel
theorem dX5_place_14 : decode cX5_place 14 = .ok (.iload_n 2, 1) := by decide +kernel
theorem dX5_place_15 : decode cX5_place 15 = .ok (.iload_n 3, 1) := by decide +kernel
theorem dX5_place_16 : decode cX5_place 16 = .ok (.iconst 0, 1) := by decide +kernel
theorem dX5_place_17 : decode cX5_place 17 = .ok (.invokevirtual 122, 3) := by decide +kernel
theorem dX5_place_20 : decode cX5_place 20 = .ok (.ireturn, 1) := by decide +kernel
set_option maxRecDepth 20000 in
theorem ggX5_comes_X5_overs : GoodIn wsX5_comes wsX5_overs := goodIn_r _ [6, 7, 8, 9, 5, 10, 11, 12, 13, 14, 15, 16, 17, 1, 18, 19, 20, 21, 22, 23, 24, 25, 26, 27, 28, 29, 30, 31, 32, 33, 34, 35, 36, 37, 38] (by decide +kernel) (by decide +kernel)
set_option maxRecDepth 20000 in
theorem gX5_comes_X5_overs : GoodIn wsX5_comes (wsV RX5 125 RX5 yX5_overs wsX5_overs) := goodIn_app (goodIn_of _ (by decide +kernel)) ggX5_comes_X5_overs
theorem dX5_comes_0 : decode cX5_comes 0 = .ok (.aload_n 0, 1) := by decide +kernel
theorem dX5_comes_1 : decode cX5_comes 1 = .ok (.invokevirtual 125, 3) := by decide +kernel
theorem dX5_comes_4 : decode cX5_comes 4 = .ok (.istore_n 3, 1) := by decide +kernel
theorem dX5_comes_5 : decode cX5_comes 5 = .ok (.aload_n 0, 1) := by decide +kernel
theorem dX5_comes_6 : decode cX5_comes 6 = .ok (.getfield 22, 3) := by decide +kernel
theorem dX5_comes_9 : decode cX5_comes 9 = .ok (.iload_n 1, 1) := by decide +kernel
theorem dX5_comes_10 : decode cX5_comes 10 = .ok (.iload_n 2, 1) := by decide +kernel
theorem dX5_comes_11 : decode cX5_comes 11 = .ok (.iastore, 1) := by decide +kernel
theorem dX5_comes_12 : decode cX5_comes 12 = .ok (.aload_n 0, 1) := by decide +kernel
theorem dX5_comes_13 : decode cX5_comes 13 = .ok (.invokevirtual 125, 3) := by decide +kernel
theorem dX5_comes_16 : decode cX5_comes 16 = .ok (.iload_n 3, 1) := by decide +kernel
theorem dX5_comes_17 : decode cX5_comes 17 = .ok (.isub, 1) := by decide +kernel
theorem dX5_comes_18 : decode cX5_comes 18 = .ok (.ireturn, 1) := by decide +kernel
set_option maxRecDepth 20000 in
theorem ggX5_overs_X5_isOver : GoodIn wsX5_overs wsX5_isOver := goodIn_r _ [5, 6, 7, 8, 9, 10, 11, 4, 12, 13, 14, 15, 16, 17, 18, 19, 20, 21, 22, 23, 24, 25, 26, 27, 28, 29, 30, 31, 32, 33, 34] (by decide +kernel) (by decide +kernel)
set_option maxRecDepth 20000 in
theorem gX5_overs_X5_isOver : GoodIn wsX5_overs (wsV RX5 128 RX5 yX5_isOver wsX5_isOver) := goodIn_app (goodIn_of _ (by decide +kernel)) ggX5_overs_X5_isOver
theorem dX5_overs_0 : decode cX5_overs 0 = .ok (.iconst 0, 1) := by decide +kernel
theorem dX5_overs_1 : decode cX5_overs 1 = .ok (.istore_n 1, 1) := by decide +kernel
theorem dX5_overs_2 : decode cX5_overs 2 = .ok (.iconst 0, 1) := by decide +kernel
theorem dX5_overs_3 : decode cX5_overs 3 = .ok (.istore_n 2, 1) := by decide +kernel
theorem dX5_overs_4 : decode cX5_overs 4 = .ok (.iload_n 2, 1) := by decide +kernel
theorem dX5_overs_5 : decode cX5_overs 5 = .ok (.sipush 200, 3) := by decide +kernel
theorem dX5_overs_8 : decode cX5_overs 8 = .ok (.if_icmp .ge 25, 3) := by decide +kernel
theorem dX5_overs_11 : decode cX5_overs 11 = .ok (.iload_n 1, 1) := by decide +kernel
theorem dX5_overs_12 : decode cX5_overs 12 = .ok (.aload_n 0, 1) := by decide +kernel
theorem dX5_overs_13 : decode cX5_overs 13 = .ok (.iload_n 2, 1) := by decide +kernel
theorem dX5_overs_14 : decode cX5_overs 14 = .ok (.invokevirtual 128, 3) := by decide +kernel
theorem dX5_overs_17 : decode cX5_overs 17 = .ok (.ifCond .eq 7, 3) := by decide +kernel
theorem dX5_overs_20 : decode cX5_overs 20 = .ok (.iconst 1, 1) := by decide +kernel
theorem dX5_overs_21 : decode cX5_overs 21 = .ok (.goto 4, 3) := by decide +kernel
theorem dX5_overs_24 : decode cX5_overs 24 = .ok (.iconst 0, 1) := by decide +kernel
theorem dX5_overs_25 : decode cX5_overs 25 = .ok (.iadd, 1) := by decide +kernel
theorem dX5_overs_26 : decode cX5_overs 26 = .ok (.istore_n 1, 1) := by decide +kernel
theorem dX5_overs_27 : decode cX5_overs 27 = .ok (.iinc 2 1, 3) := by decide +kernel
theorem dX5_overs_30 : decode cX5_overs 30 = .ok (.goto (-26), 3) := by decide +kernel
theorem dX5_overs_33 : decode cX5_overs 33 = .ok (.iload_n 1, 1) := by decide +kernel
theorem dX5_overs_34 : decode cX5_overs 34 = .ok (.ireturn, 1) := by decide +kernel
set_option maxRecDepth 20000 in
theorem ggX5_tick_X5_isIn : GoodIn wsX5_tick wsX5_isIn := goodIn_r _ [7] (by decide +kernel) (by decide +kernel)
set_option maxRecDepth 20000 in
theorem gX5_tick_X5_isIn : GoodIn wsX5_tick (va_wsS RX5 60 yX5_isIn wsX5_isIn) := goodIn_app (goodIn_of _ (by decide +kernel)) ggX5_tick_X5_isIn
set_option maxRecDepth 20000 in
theorem ggX5_tick_X5_comes : GoodIn wsX5_tick wsX5_comes := goodIn_r _ [11, 2, 12, 13, 14, 6, 15, 16, 17, 18, 19, 20, 21, 22, 23, 24, 25, 26, 27, 28, 29, 30, 31, 32, 33, 34, 35, 36, 37, 38, 39, 40, 41, 42, 43, 44, 45, 46, 47] (by decide +kernel) (by decide +kernel)
set_option maxRecDepth 20000 in
theorem gX5_tick_X5_comes : GoodIn wsX5_tick (wsV RX5 132 RX5 yX5_comes wsX5_comes) := goodIn_app (goodIn_of _ (by decide +kernel)) ggX5_tick_X5_comes
theorem dX5_tick_0 : decode cX5_tick 0 = .ok (.iload_n 1, 1) := by decide +kernel
theorem dX5_tick_1 : decode cX5_tick 1 = .ok (.iconst 1, 1) := by decide +kernel
theorem dX5_tick_2 : decode cX5_tick 2 = .ok (.ldc 68, 2) := by decide +kernel
theorem dX5_tick_4 : decode cX5_tick 4 = .ok (.invokestatic 60, 3) := by decide +kernel
theorem dX5_tick_7 : decode cX5_tick 7 = .ok (.ifCond .ne 5, 3) := by decide +kernel
theorem dX5_tick_10 : decode cX5_tick 10 = .ok (.iconst (-1), 1) := by decide +kernel
theorem dX5_tick_11 : decode cX5_tick 11 = .ok (.ireturn, 1) := by decide +kernel
theorem dX5_tick_12 : decode cX5_tick 12 = .ok (.aload_n 0, 1) := by decide +kernel
theorem dX5_tick_13 : decode cX5_tick 13 = .ok (.getfield 22, 3) := by decide +kernel
theorem dX5_tick_16 : decode cX5_tick 16 = .ok (.iconst 0, 1) := by decide +kernel
theorem dX5_tick_17 : decode cX5_tick 17 = .ok (.iaload, 1) := by decide +kernel
theorem dX5_tick_18 : decode cX5_tick 18 = .ok (.iload_n 1, 1) := by decide +kernel
theorem dX5_tick_19 : decode cX5_tick 19 = .ok (.iadd, 1) := by decide +kernel
theorem dX5_tick_20 : decode cX5_tick 20 = .ok (.ldc 131, 2) := by decide +kernel
theorem dX5_tick_22 : decode cX5_tick 22 = .ok (.if_icmp .le 6, 3) := by decide +kernel
theorem dX5_tick_25 : decode cX5_tick 25 = .ok (.bipush (-2), 2) := by decide +kernel
theorem dX5_tick_27 : decode cX5_tick 27 = .ok (.ireturn, 1) := by decide +kernel
theorem dX5_tick_28 : decode cX5_tick 28 = .ok (.aload_n 0, 1) := by decide +kernel
theorem dX5_tick_29 : decode cX5_tick 29 = .ok (.iconst 0, 1) := by decide +kernel
theorem dX5_tick_30 : decode cX5_tick 30 = .ok (.aload_n 0, 1) := by decide +kernel
theorem dX5_tick_31 : decode cX5_tick 31 = .ok (.getfield 22, 3) := by decide +kernel
theorem dX5_tick_34 : decode cX5_tick 34 = .ok (.iconst 0, 1) := by decide +kernel
theorem dX5_tick_35 : decode cX5_tick 35 = .ok (.iaload, 1) := by decide +kernel
theorem dX5_tick_36 : decode cX5_tick 36 = .ok (.iload_n 1, 1) := by decide +kernel
theorem dX5_tick_37 : decode cX5_tick 37 = .ok (.iadd, 1) := by decide +kernel
theorem dX5_tick_38 : decode cX5_tick 38 = .ok (.invokevirtual 132, 3) := by decide +kernel
theorem dX5_tick_41 : decode cX5_tick 41 = .ok (.ireturn, 1) := by decide +kernel
set_option maxRecDepth 20000 in
theorem ggX5_watermark_X5_isIn : GoodIn wsX5_watermark wsX5_isIn := goodIn_r _ [6] (by decide +kernel) (by decide +kernel)
set_option maxRecDepth 20000 in
theorem gX5_watermark_X5_isIn : GoodIn wsX5_watermark (va_wsS RX5 60 yX5_isIn wsX5_isIn) := goodIn_app (goodIn_of _ (by decide +kernel)) ggX5_watermark_X5_isIn
set_option maxRecDepth 20000 in
theorem ggX5_watermark_X5_comes : GoodIn wsX5_watermark wsX5_comes := goodIn_r _ [10, 2, 11, 12, 13, 5, 14, 15, 16, 17, 18, 19, 20, 21, 22, 23, 24, 25, 26, 27, 28, 29, 30, 31, 32, 33, 34, 35, 36, 37, 38, 39, 40, 41, 42, 43, 44, 45, 46] (by decide +kernel) (by decide +kernel)
set_option maxRecDepth 20000 in
theorem gX5_watermark_X5_comes : GoodIn wsX5_watermark (wsV RX5 132 RX5 yX5_comes wsX5_comes) := goodIn_app (goodIn_of _ (by decide +kernel)) ggX5_watermark_X5_comes
theorem dX5_watermark_0 : decode cX5_watermark 0 = .ok (.iload_n 1, 1) := by decide +kernel
theorem dX5_watermark_1 : decode cX5_watermark 1 = .ok (.iconst 0, 1) := by decide +kernel
theorem dX5_watermark_2 : decode cX5_watermark 2 = .ok (.ldc 131, 2) := by decide +kernel
theorem dX5_watermark_4 : decode cX5_watermark 4 = .ok (.invokestatic 60, 3) := by decide +kernel
theorem dX5_watermark_7 : decode cX5_watermark 7 = .ok (.ifCond .ne 5, 3) := by decide +kernel
theorem dX5_watermark_10 : decode cX5_watermark 10 = .ok (.iconst (-1), 1) := by decide +kernel
theorem dX5_watermark_11 : decode cX5_watermark 11 = .ok (.ireturn, 1) := by decide +kernel
theorem dX5_watermark_12 : decode cX5_watermark 12 = .ok (.iload_n 1, 1) := by decide +kernel
theorem dX5_watermark_13 : decode cX5_watermark 13 = .ok (.aload_n 0, 1) := by decide +kernel
theorem dX5_watermark_14 : decode cX5_watermark 14 = .ok (.getfield 22, 3) := by decide +kernel
theorem dX5_watermark_17 : decode cX5_watermark 17 = .ok (.iconst 1, 1) := by decide +kernel
theorem dX5_watermark_18 : decode cX5_watermark 18 = .ok (.iaload, 1) := by decide +kernel
theorem dX5_watermark_19 : decode cX5_watermark 19 = .ok (.if_icmp .ge 6, 3) := by decide +kernel
theorem dX5_watermark_22 : decode cX5_watermark 22 = .ok (.bipush (-2), 2) := by decide +kernel
theorem dX5_watermark_24 : decode cX5_watermark 24 = .ok (.ireturn, 1) := by decide +kernel
theorem dX5_watermark_25 : decode cX5_watermark 25 = .ok (.aload_n 0, 1) := by decide +kernel
theorem dX5_watermark_26 : decode cX5_watermark 26 = .ok (.iconst 1, 1) := by decide +kernel
theorem dX5_watermark_27 : decode cX5_watermark 27 = .ok (.iload_n 1, 1) := by decide +kernel
theorem dX5_watermark_28 : decode cX5_watermark 28 = .ok (.invokevirtual 132, 3) := by decide +kernel
theorem dX5_watermark_31 : decode cX5_watermark 31 = .ok (.ireturn, 1) := by decide +kernel
set_option maxRecDepth 20000 in
theorem ggX5_sweep_X5_isIn : GoodIn wsX5_sweep wsX5_isIn := goodIn_r _ [7] (by decide +kernel) (by decide +kernel)
set_option maxRecDepth 20000 in
theorem gX5_sweep_X5_isIn : GoodIn wsX5_sweep (va_wsS RX5 60 yX5_isIn wsX5_isIn) := goodIn_app (goodIn_of _ (by decide +kernel)) ggX5_sweep_X5_isIn
set_option maxRecDepth 20000 in
theorem ggX5_sweep_X5_isOver : GoodIn wsX5_sweep wsX5_isOver := goodIn_r _ [11, 2, 3, 12, 13, 14, 15, 6, 16, 17, 18, 29, 30, 31, 32, 33, 34, 35, 36, 37, 38, 39, 40, 41, 42, 43, 44, 45, 46, 47, 48] (by decide +kernel) (by decide +kernel)
set_option maxRecDepth 20000 in
theorem gX5_sweep_X5_isOver : GoodIn wsX5_sweep (wsV RX5 128 RX5 yX5_isOver wsX5_isOver) := goodIn_app (goodIn_of _ (by decide +kernel)) ggX5_sweep_X5_isOver
set_option maxRecDepth 20000 in
theorem ggX5_sweep_X5_tells : GoodIn wsX5_sweep wsX5_tells := goodIn_r _ [22, 23, 24, 2, 25, 26, 27, 12, 17, 28, 29, 30, 31, 32, 33, 34, 35, 36, 37, 38, 39, 40, 41, 42, 43, 44, 45, 46, 47, 48] (by decide +kernel) (by decide +kernel)
set_option maxRecDepth 20000 in
theorem gX5_sweep_X5_tells : GoodIn wsX5_sweep (wsV RX5 101 RX5 yX5_tells wsX5_tells) := goodIn_app (goodIn_of _ (by decide +kernel)) ggX5_sweep_X5_tells
theorem dX5_sweep_0 : decode cX5_sweep 0 = .ok (.iload_n 1, 1) := by decide +kernel
theorem dX5_sweep_1 : decode cX5_sweep 1 = .ok (.iconst 1, 1) := by decide +kernel
theorem dX5_sweep_2 : decode cX5_sweep 2 = .ok (.sipush 200, 3) := by decide +kernel
theorem dX5_sweep_5 : decode cX5_sweep 5 = .ok (.invokestatic 60, 3) := by decide +kernel
theorem dX5_sweep_8 : decode cX5_sweep 8 = .ok (.ifCond .ne 5, 3) := by decide +kernel
theorem dX5_sweep_11 : decode cX5_sweep 11 = .ok (.iconst (-1), 1) := by decide +kernel
theorem dX5_sweep_12 : decode cX5_sweep 12 = .ok (.ireturn, 1) := by decide +kernel
theorem dX5_sweep_13 : decode cX5_sweep 13 = .ok (.iconst 0, 1) := by decide +kernel
theorem dX5_sweep_14 : decode cX5_sweep 14 = .ok (.istore_n 2, 1) := by decide +kernel
theorem dX5_sweep_15 : decode cX5_sweep 15 = .ok (.iconst 0, 1) := by decide +kernel
theorem dX5_sweep_16 : decode cX5_sweep 16 = .ok (.istore_n 3, 1) := by decide +kernel
theorem dX5_sweep_17 : decode cX5_sweep 17 = .ok (.iload_n 3, 1) := by decide +kernel
theorem dX5_sweep_18 : decode cX5_sweep 18 = .ok (.iload_n 1, 1) := by decide +kernel
theorem dX5_sweep_19 : decode cX5_sweep 19 = .ok (.if_icmp .ge 66, 3) := by decide +kernel
theorem dX5_sweep_22 : decode cX5_sweep 22 = .ok (.aload_n 0, 1) := by decide +kernel
theorem dX5_sweep_23 : decode cX5_sweep 23 = .ok (.aload_n 0, 1) := by decide +kernel
theorem dX5_sweep_24 : decode cX5_sweep 24 = .ok (.getfield 136, 3) := by decide +kernel
theorem dX5_sweep_27 : decode cX5_sweep 27 = .ok (.invokevirtual 128, 3) := by decide +kernel
theorem dX5_sweep_30 : decode cX5_sweep 30 = .ok (.ifCond .eq 25, 3) := by decide +kernel
theorem dX5_sweep_33 : decode cX5_sweep 33 = .ok (.aload_n 0, 1) := by decide +kernel
theorem dX5_sweep_34 : decode cX5_sweep 34 = .ok (.aload_n 0, 1) := by decide +kernel
theorem dX5_sweep_35 : decode cX5_sweep 35 = .ok (.getfield 136, 3) := by decide +kernel
theorem dX5_sweep_38 : decode cX5_sweep 38 = .ok (.invokevirtual 101, 3) := by decide +kernel
theorem dX5_sweep_41 : decode cX5_sweep 41 = .ok (.aload_n 0, 1) := by decide +kernel
theorem dX5_sweep_42 : decode cX5_sweep 42 = .ok (.getfield 25, 3) := by decide +kernel
theorem dX5_sweep_45 : decode cX5_sweep 45 = .ok (.aload_n 0, 1) := by decide +kernel
theorem dX5_sweep_46 : decode cX5_sweep 46 = .ok (.getfield 136, 3) := by decide +kernel
theorem dX5_sweep_49 : decode cX5_sweep 49 = .ok (.ldc 55, 2) := by decide +kernel
theorem dX5_sweep_51 : decode cX5_sweep 51 = .ok (.iastore, 1) := by decide +kernel
theorem dX5_sweep_52 : decode cX5_sweep 52 = .ok (.iinc 2 1, 3) := by decide +kernel
theorem dX5_sweep_55 : decode cX5_sweep 55 = .ok (.aload_n 0, 1) := by decide +kernel
theorem dX5_sweep_56 : decode cX5_sweep 56 = .ok (.aload_n 0, 1) := by decide +kernel
theorem dX5_sweep_57 : decode cX5_sweep 57 = .ok (.getfield 136, 3) := by decide +kernel
theorem dX5_sweep_60 : decode cX5_sweep 60 = .ok (.sipush 199, 3) := by decide +kernel
theorem dX5_sweep_63 : decode cX5_sweep 63 = .ok (.if_icmp .ne 7, 3) := by decide +kernel
theorem dX5_sweep_66 : decode cX5_sweep 66 = .ok (.iconst 0, 1) := by decide +kernel
theorem dX5_sweep_67 : decode cX5_sweep 67 = .ok (.goto 9, 3) := by decide +kernel
theorem dX5_sweep_70 : decode cX5_sweep 70 = .ok (.aload_n 0, 1) := by decide +kernel
theorem dX5_sweep_71 : decode cX5_sweep 71 = .ok (.getfield 136, 3) := by decide +kernel
theorem dX5_sweep_74 : decode cX5_sweep 74 = .ok (.iconst 1, 1) := by decide +kernel
theorem dX5_sweep_75 : decode cX5_sweep 75 = .ok (.iadd, 1) := by decide +kernel
theorem dX5_sweep_76 : decode cX5_sweep 76 = .ok (.putfield 136, 3) := by decide +kernel
theorem dX5_sweep_79 : decode cX5_sweep 79 = .ok (.iinc 3 1, 3) := by decide +kernel
theorem dX5_sweep_82 : decode cX5_sweep 82 = .ok (.goto (-65), 3) := by decide +kernel
theorem dX5_sweep_85 : decode cX5_sweep 85 = .ok (.iload_n 2, 1) := by decide +kernel
theorem dX5_sweep_86 : decode cX5_sweep 86 = .ok (.ireturn, 1) := by decide +kernel
set_option maxRecDepth 20000 in
theorem ggX5_setting_X5_isState : GoodIn wsX5_setting wsX5_isState := goodIn_r _ [10, 11, 12, 13, 9, 14, 26, 27, 28, 29, 30, 31, 32, 33, 34, 35, 36, 37, 38, 39, 40, 41, 42, 43, 44, 45] (by decide +kernel) (by decide +kernel)
set_option maxRecDepth 20000 in
theorem gX5_setting_X5_isState : GoodIn wsX5_setting (wsV RX5 64 RX5 yX5_isState wsX5_isState) := goodIn_app (goodIn_of _ (by decide +kernel)) ggX5_setting_X5_isState
set_option maxRecDepth 20000 in
theorem ggX5_setting_X5_isIn : GoodIn wsX5_setting wsX5_isIn := goodIn_r _ [14] (by decide +kernel) (by decide +kernel)
set_option maxRecDepth 20000 in
theorem gX5_setting_X5_isIn : GoodIn wsX5_setting (va_wsS RX5 60 yX5_isIn wsX5_isIn) := goodIn_app (goodIn_of _ (by decide +kernel)) ggX5_setting_X5_isIn
set_option maxRecDepth 20000 in
theorem ggX5_setting_X5_isShown : GoodIn wsX5_setting wsX5_isShown := goodIn_r _ [18, 3, 19, 4, 20, 21, 22, 9, 23, 24, 25, 26, 27, 28, 29, 30, 31, 32, 33, 34, 35, 36, 37, 38, 39, 40, 41, 42, 43, 44, 45] (by decide +kernel) (by decide +kernel)
set_option maxRecDepth 20000 in
theorem gX5_setting_X5_isShown : GoodIn wsX5_setting (wsV RX5 73 RX5 yX5_isShown wsX5_isShown) := goodIn_app (goodIn_of _ (by decide +kernel)) ggX5_setting_X5_isShown
theorem dX5_setting_0 : decode cX5_setting 0 = .ok (.aload_n 0, 1) := by decide +kernel
theorem dX5_setting_1 : decode cX5_setting 1 = .ok (.iload_n 1, 1) := by decide +kernel
theorem dX5_setting_2 : decode cX5_setting 2 = .ok (.invokevirtual 64, 3) := by decide +kernel
theorem dX5_setting_5 : decode cX5_setting 5 = .ok (.ifCond .eq 13, 3) := by decide +kernel
theorem dX5_setting_8 : decode cX5_setting 8 = .ok (.iload_n 2, 1) := by decide +kernel
theorem dX5_setting_9 : decode cX5_setting 9 = .ok (.iconst 1, 1) := by decide +kernel
theorem dX5_setting_10 : decode cX5_setting 10 = .ok (.ldc 68, 2) := by decide +kernel
theorem dX5_setting_12 : decode cX5_setting 12 = .ok (.invokestatic 60, 3) := by decide +kernel
theorem dX5_setting_15 : decode cX5_setting 15 = .ok (.ifCond .ne 5, 3) := by decide +kernel
theorem dX5_setting_18 : decode cX5_setting 18 = .ok (.iconst (-1), 1) := by decide +kernel
theorem dX5_setting_19 : decode cX5_setting 19 = .ok (.ireturn, 1) := by decide +kernel
theorem dX5_setting_20 : decode cX5_setting 20 = .ok (.aload_n 0, 1) := by decide +kernel
theorem dX5_setting_21 : decode cX5_setting 21 = .ok (.getfield 16, 3) := by decide +kernel
theorem dX5_setting_24 : decode cX5_setting 24 = .ok (.iload_n 1, 1) := by decide +kernel
theorem dX5_setting_25 : decode cX5_setting 25 = .ok (.iaload, 1) := by decide +kernel
theorem dX5_setting_26 : decode cX5_setting 26 = .ok (.istore 4, 2) := by decide +kernel
theorem dX5_setting_28 : decode cX5_setting 28 = .ok (.aload_n 0, 1) := by decide +kernel
theorem dX5_setting_29 : decode cX5_setting 29 = .ok (.getfield 16, 3) := by decide +kernel
theorem dX5_setting_32 : decode cX5_setting 32 = .ok (.iload_n 1, 1) := by decide +kernel
theorem dX5_setting_33 : decode cX5_setting 33 = .ok (.iload_n 2, 1) := by decide +kernel
theorem dX5_setting_34 : decode cX5_setting 34 = .ok (.iastore, 1) := by decide +kernel
theorem dX5_setting_35 : decode cX5_setting 35 = .ok (.iconst 0, 1) := by decide +kernel
theorem dX5_setting_36 : decode cX5_setting 36 = .ok (.istore 5, 2) := by decide +kernel
theorem dX5_setting_38 : decode cX5_setting 38 = .ok (.iload 5, 2) := by decide +kernel
theorem dX5_setting_40 : decode cX5_setting 40 = .ok (.sipush 200, 3) := by decide +kernel
theorem dX5_setting_43 : decode cX5_setting 43 = .ok (.if_icmp .ge 49, 3) := by decide +kernel
theorem dX5_setting_46 : decode cX5_setting 46 = .ok (.iload_n 3, 1) := by decide +kernel
theorem dX5_setting_47 : decode cX5_setting 47 = .ok (.ifCond .eq 45, 3) := by decide +kernel
theorem dX5_setting_50 : decode cX5_setting 50 = .ok (.aload_n 0, 1) := by decide +kernel
theorem dX5_setting_51 : decode cX5_setting 51 = .ok (.getfield 25, 3) := by decide +kernel
theorem dX5_setting_54 : decode cX5_setting 54 = .ok (.iload 5, 2) := by decide +kernel
theorem dX5_setting_56 : decode cX5_setting 56 = .ok (.iaload, 1) := by decide +kernel
theorem dX5_setting_57 : decode cX5_setting 57 = .ok (.iload_n 1, 1) := by decide +kernel
theorem dX5_setting_58 : decode cX5_setting 58 = .ok (.if_icmp .ne 28, 3) := by decide +kernel
theorem dX5_setting_61 : decode cX5_setting 61 = .ok (.aload_n 0, 1) := by decide +kernel
theorem dX5_setting_62 : decode cX5_setting 62 = .ok (.iload 5, 2) := by decide +kernel
theorem dX5_setting_64 : decode cX5_setting 64 = .ok (.invokevirtual 73, 3) := by decide +kernel
theorem dX5_setting_67 : decode cX5_setting 67 = .ok (.ifCond .eq 19, 3) := by decide +kernel
theorem dX5_setting_70 : decode cX5_setting 70 = .ok (.aload_n 0, 1) := by decide +kernel
theorem dX5_setting_71 : decode cX5_setting 71 = .ok (.getfield 40, 3) := by decide +kernel
theorem dX5_setting_74 : decode cX5_setting 74 = .ok (.iload 5, 2) := by decide +kernel
theorem dX5_setting_76 : decode cX5_setting 76 = .ok (.aload_n 0, 1) := by decide +kernel
theorem dX5_setting_77 : decode cX5_setting 77 = .ok (.getfield 37, 3) := by decide +kernel
theorem dX5_setting_80 : decode cX5_setting 80 = .ok (.iload 5, 2) := by decide +kernel
theorem dX5_setting_82 : decode cX5_setting 82 = .ok (.iaload, 1) := by decide +kernel
theorem dX5_setting_83 : decode cX5_setting 83 = .ok (.iload_n 2, 1) := by decide +kernel
theorem dX5_setting_84 : decode cX5_setting 84 = .ok (.iadd, 1) := by decide +kernel
theorem dX5_setting_85 : decode cX5_setting 85 = .ok (.iastore, 1) := by decide +kernel
theorem dX5_setting_86 : decode cX5_setting 86 = .ok (.iinc 5 1, 3) := by decide +kernel
theorem dX5_setting_89 : decode cX5_setting 89 = .ok (.goto (-51), 3) := by decide +kernel
theorem dX5_setting_92 : decode cX5_setting 92 = .ok (.iload 4, 2) := by decide +kernel
theorem dX5_setting_94 : decode cX5_setting 94 = .ok (.ireturn, 1) := by decide +kernel
set_option maxRecDepth 20000 in
theorem ggX5_mark_X5_isIn : GoodIn wsX5_mark wsX5_isIn := goodIn_r _ [12] (by decide +kernel) (by decide +kernel)
set_option maxRecDepth 20000 in
theorem gX5_mark_X5_isIn : GoodIn wsX5_mark (va_wsS RX5 60 yX5_isIn wsX5_isIn) := goodIn_app (goodIn_of _ (by decide +kernel)) ggX5_mark_X5_isIn
set_option maxRecDepth 20000 in
theorem ggX5_mark_X5_nextKept : GoodIn wsX5_mark wsX5_nextKept := goodIn_r _ [16, 1, 17, 18, 19, 11, 20, 3, 7, 21, 22, 23, 24, 25, 26, 27, 28, 29, 30, 4, 5, 31, 32, 33, 34, 35, 36, 37, 38, 39, 40, 41, 42, 43, 44, 45, 46, 47, 48, 49, 50, 51] (by decide +kernel) (by decide +kernel)
set_option maxRecDepth 20000 in
theorem gX5_mark_X5_nextKept : GoodIn wsX5_mark (wsV RX5 139 RX5 yX5_nextKept wsX5_nextKept) := goodIn_app (goodIn_of _ (by decide +kernel)) ggX5_mark_X5_nextKept
set_option maxRecDepth 20000 in
theorem ggX5_mark_X5_clockOf : GoodIn wsX5_mark wsX5_clockOf := goodIn_r _ [24, 25, 26, 3, 32, 33, 34, 35, 36, 37, 38, 39, 40, 41, 42, 43, 44, 45, 46, 47, 48, 49, 50, 51] (by decide +kernel) (by decide +kernel)
set_option maxRecDepth 20000 in
theorem gX5_mark_X5_clockOf : GoodIn wsX5_mark (wsV RX5 69 RX5 yX5_clockOf wsX5_clockOf) := goodIn_app (goodIn_of _ (by decide +kernel)) ggX5_mark_X5_clockOf
theorem dX5_mark_0 : decode cX5_mark 0 = .ok (.iload_n 1, 1) := by decide +kernel
theorem dX5_mark_1 : decode cX5_mark 1 = .ok (.iconst 0, 1) := by decide +kernel
theorem dX5_mark_2 : decode cX5_mark 2 = .ok (.iconst 2, 1) := by decide +kernel
theorem dX5_mark_3 : decode cX5_mark 3 = .ok (.invokestatic 60, 3) := by decide +kernel
theorem dX5_mark_6 : decode cX5_mark 6 = .ok (.ifCond .ne 5, 3) := by decide +kernel
theorem dX5_mark_9 : decode cX5_mark 9 = .ok (.iconst (-1), 1) := by decide +kernel
theorem dX5_mark_10 : decode cX5_mark 10 = .ok (.ireturn, 1) := by decide +kernel
theorem dX5_mark_11 : decode cX5_mark 11 = .ok (.iconst 0, 1) := by decide +kernel
theorem dX5_mark_12 : decode cX5_mark 12 = .ok (.istore_n 2, 1) := by decide +kernel
theorem dX5_mark_13 : decode cX5_mark 13 = .ok (.aload_n 0, 1) := by decide +kernel
theorem dX5_mark_14 : decode cX5_mark 14 = .ok (.ldc 55, 2) := by decide +kernel
theorem dX5_mark_16 : decode cX5_mark 16 = .ok (.invokevirtual 139, 3) := by decide +kernel
theorem dX5_mark_19 : decode cX5_mark 19 = .ok (.istore_n 3, 1) := by decide +kernel
theorem dX5_mark_20 : decode cX5_mark 20 = .ok (.iload_n 3, 1) := by decide +kernel
theorem dX5_mark_21 : decode cX5_mark 21 = .ok (.ldc 55, 2) := by decide +kernel
theorem dX5_mark_23 : decode cX5_mark 23 = .ok (.if_icmp .eq 105, 3) := by decide +kernel
theorem dX5_mark_26 : decode cX5_mark 26 = .ok (.sipush 1000, 3) := by decide +kernel
theorem dX5_mark_29 : decode cX5_mark 29 = .ok (.iload_n 1, 1) := by decide +kernel
theorem dX5_mark_30 : decode cX5_mark 30 = .ok (.imul, 1) := by decide +kernel
theorem dX5_mark_31 : decode cX5_mark 31 = .ok (.iconst 5, 1) := by decide +kernel
theorem dX5_mark_32 : decode cX5_mark 32 = .ok (.iload_n 2, 1) := by decide +kernel
theorem dX5_mark_33 : decode cX5_mark 33 = .ok (.imul, 1) := by decide +kernel
theorem dX5_mark_34 : decode cX5_mark 34 = .ok (.iadd, 1) := by decide +kernel
theorem dX5_mark_35 : decode cX5_mark 35 = .ok (.istore 4, 2) := by decide +kernel
theorem dX5_mark_37 : decode cX5_mark 37 = .ok (.aload_n 0, 1) := by decide +kernel
theorem dX5_mark_38 : decode cX5_mark 38 = .ok (.getfield 52, 3) := by decide +kernel
theorem dX5_mark_41 : decode cX5_mark 41 = .ok (.iload 4, 2) := by decide +kernel
theorem dX5_mark_43 : decode cX5_mark 43 = .ok (.aload_n 0, 1) := by decide +kernel
theorem dX5_mark_44 : decode cX5_mark 44 = .ok (.getfield 25, 3) := by decide +kernel
theorem dX5_mark_47 : decode cX5_mark 47 = .ok (.iload_n 3, 1) := by decide +kernel
theorem dX5_mark_48 : decode cX5_mark 48 = .ok (.iaload, 1) := by decide +kernel
theorem dX5_mark_49 : decode cX5_mark 49 = .ok (.iastore, 1) := by decide +kernel
theorem dX5_mark_50 : decode cX5_mark 50 = .ok (.aload_n 0, 1) := by decide +kernel
theorem dX5_mark_51 : decode cX5_mark 51 = .ok (.getfield 52, 3) := by decide +kernel
theorem dX5_mark_54 : decode cX5_mark 54 = .ok (.iload 4, 2) := by decide +kernel
theorem dX5_mark_56 : decode cX5_mark 56 = .ok (.iconst 1, 1) := by decide +kernel
theorem dX5_mark_57 : decode cX5_mark 57 = .ok (.iadd, 1) := by decide +kernel
theorem dX5_mark_58 : decode cX5_mark 58 = .ok (.aload_n 0, 1) := by decide +kernel
theorem dX5_mark_59 : decode cX5_mark 59 = .ok (.getfield 28, 3) := by decide +kernel
theorem dX5_mark_62 : decode cX5_mark 62 = .ok (.iload_n 3, 1) := by decide +kernel
theorem dX5_mark_63 : decode cX5_mark 63 = .ok (.iaload, 1) := by decide +kernel
theorem dX5_mark_64 : decode cX5_mark 64 = .ok (.iastore, 1) := by decide +kernel
theorem dX5_mark_65 : decode cX5_mark 65 = .ok (.aload_n 0, 1) := by decide +kernel
theorem dX5_mark_66 : decode cX5_mark 66 = .ok (.getfield 52, 3) := by decide +kernel
theorem dX5_mark_69 : decode cX5_mark 69 = .ok (.iload 4, 2) := by decide +kernel
theorem dX5_mark_71 : decode cX5_mark 71 = .ok (.iconst 2, 1) := by decide +kernel
theorem dX5_mark_72 : decode cX5_mark 72 = .ok (.iadd, 1) := by decide +kernel
theorem dX5_mark_73 : decode cX5_mark 73 = .ok (.aload_n 0, 1) := by decide +kernel
theorem dX5_mark_74 : decode cX5_mark 74 = .ok (.getfield 31, 3) := by decide +kernel
theorem dX5_mark_77 : decode cX5_mark 77 = .ok (.iload_n 3, 1) := by decide +kernel
theorem dX5_mark_78 : decode cX5_mark 78 = .ok (.iaload, 1) := by decide +kernel
theorem dX5_mark_79 : decode cX5_mark 79 = .ok (.iastore, 1) := by decide +kernel
theorem dX5_mark_80 : decode cX5_mark 80 = .ok (.aload_n 0, 1) := by decide +kernel
theorem dX5_mark_81 : decode cX5_mark 81 = .ok (.getfield 52, 3) := by decide +kernel
theorem dX5_mark_84 : decode cX5_mark 84 = .ok (.iload 4, 2) := by decide +kernel
theorem dX5_mark_86 : decode cX5_mark 86 = .ok (.iconst 3, 1) := by decide +kernel
theorem dX5_mark_87 : decode cX5_mark 87 = .ok (.iadd, 1) := by decide +kernel
theorem dX5_mark_88 : decode cX5_mark 88 = .ok (.aload_n 0, 1) := by decide +kernel
theorem dX5_mark_89 : decode cX5_mark 89 = .ok (.getfield 34, 3) := by decide +kernel
theorem dX5_mark_92 : decode cX5_mark 92 = .ok (.iload_n 3, 1) := by decide +kernel
theorem dX5_mark_93 : decode cX5_mark 93 = .ok (.iaload, 1) := by decide +kernel
theorem dX5_mark_94 : decode cX5_mark 94 = .ok (.iastore, 1) := by decide +kernel
theorem dX5_mark_95 : decode cX5_mark 95 = .ok (.aload_n 0, 1) := by decide +kernel
theorem dX5_mark_96 : decode cX5_mark 96 = .ok (.getfield 52, 3) := by decide +kernel
theorem dX5_mark_99 : decode cX5_mark 99 = .ok (.iload 4, 2) := by decide +kernel
theorem dX5_mark_101 : decode cX5_mark 101 = .ok (.iconst 4, 1) := by decide +kernel
theorem dX5_mark_102 : decode cX5_mark 102 = .ok (.iadd, 1) := by decide +kernel
theorem dX5_mark_103 : decode cX5_mark 103 = .ok (.aload_n 0, 1) := by decide +kernel
theorem dX5_mark_104 : decode cX5_mark 104 = .ok (.getfield 40, 3) := by decide +kernel
theorem dX5_mark_107 : decode cX5_mark 107 = .ok (.iload_n 3, 1) := by decide +kernel
theorem dX5_mark_108 : decode cX5_mark 108 = .ok (.iaload, 1) := by decide +kernel
theorem dX5_mark_109 : decode cX5_mark 109 = .ok (.aload_n 0, 1) := by decide +kernel
theorem dX5_mark_110 : decode cX5_mark 110 = .ok (.iload_n 3, 1) := by decide +kernel
theorem dX5_mark_111 : decode cX5_mark 111 = .ok (.invokevirtual 69, 3) := by decide +kernel
theorem dX5_mark_114 : decode cX5_mark 114 = .ok (.isub, 1) := by decide +kernel
theorem dX5_mark_115 : decode cX5_mark 115 = .ok (.iastore, 1) := by decide +kernel
theorem dX5_mark_116 : decode cX5_mark 116 = .ok (.iinc 2 1, 3) := by decide +kernel
theorem dX5_mark_119 : decode cX5_mark 119 = .ok (.aload_n 0, 1) := by decide +kernel
theorem dX5_mark_120 : decode cX5_mark 120 = .ok (.iload_n 3, 1) := by decide +kernel
theorem dX5_mark_121 : decode cX5_mark 121 = .ok (.invokevirtual 139, 3) := by decide +kernel
theorem dX5_mark_124 : decode cX5_mark 124 = .ok (.istore_n 3, 1) := by decide +kernel
theorem dX5_mark_125 : decode cX5_mark 125 = .ok (.goto (-105), 3) := by decide +kernel
theorem dX5_mark_128 : decode cX5_mark 128 = .ok (.aload_n 0, 1) := by decide +kernel
theorem dX5_mark_129 : decode cX5_mark 129 = .ok (.getfield 49, 3) := by decide +kernel
theorem dX5_mark_132 : decode cX5_mark 132 = .ok (.iload_n 1, 1) := by decide +kernel
theorem dX5_mark_133 : decode cX5_mark 133 = .ok (.iload_n 2, 1) := by decide +kernel
theorem dX5_mark_134 : decode cX5_mark 134 = .ok (.iastore, 1) := by decide +kernel
theorem dX5_mark_135 : decode cX5_mark 135 = .ok (.iload_n 2, 1) := by decide +kernel
theorem dX5_mark_136 : decode cX5_mark 136 = .ok (.ireturn, 1) := by decide +kernel
theorem dX5_isAhead_0 : decode cX5_isAhead 0 = .ok (.aload_n 0, 1) := by decide +kernel
theorem dX5_isAhead_1 : decode cX5_isAhead 1 = .ok (.getfield 25, 3) := by decide +kernel
theorem dX5_isAhead_4 : decode cX5_isAhead 4 = .ok (.iload_n 1, 1) := by decide +kernel
theorem dX5_isAhead_5 : decode cX5_isAhead 5 = .ok (.iaload, 1) := by decide +kernel
theorem dX5_isAhead_6 : decode cX5_isAhead 6 = .ok (.aload_n 0, 1) := by decide +kernel
theorem dX5_isAhead_7 : decode cX5_isAhead 7 = .ok (.getfield 25, 3) := by decide +kernel
theorem dX5_isAhead_10 : decode cX5_isAhead 10 = .ok (.iload_n 2, 1) := by decide +kernel
theorem dX5_isAhead_11 : decode cX5_isAhead 11 = .ok (.iaload, 1) := by decide +kernel
theorem dX5_isAhead_12 : decode cX5_isAhead 12 = .ok (.if_icmp .eq 24, 3) := by decide +kernel
theorem dX5_isAhead_15 : decode cX5_isAhead 15 = .ok (.aload_n 0, 1) := by decide +kernel
theorem dX5_isAhead_16 : decode cX5_isAhead 16 = .ok (.getfield 25, 3) := by decide +kernel
theorem dX5_isAhead_19 : decode cX5_isAhead 19 = .ok (.iload_n 1, 1) := by decide +kernel
theorem dX5_isAhead_20 : decode cX5_isAhead 20 = .ok (.iaload, 1) := by decide +kernel
theorem dX5_isAhead_21 : decode cX5_isAhead 21 = .ok (.aload_n 0, 1) := by decide +kernel
theorem dX5_isAhead_22 : decode cX5_isAhead 22 = .ok (.getfield 25, 3) := by decide +kernel
theorem dX5_isAhead_25 : decode cX5_isAhead 25 = .ok (.iload_n 2, 1) := by decide +kernel
theorem dX5_isAhead_26 : decode cX5_isAhead 26 = .ok (.iaload, 1) := by decide +kernel
theorem dX5_isAhead_27 : decode cX5_isAhead 27 = .ok (.if_icmp .ge 7, 3) := by decide +kernel
theorem dX5_isAhead_30 : decode cX5_isAhead 30 = .ok (.iconst 1, 1) := by decide +kernel
theorem dX5_isAhead_31 : decode cX5_isAhead 31 = .ok (.goto 4, 3) := by decide +kernel
theorem dX5_isAhead_34 : decode cX5_isAhead 34 = .ok (.iconst 0, 1) := by decide +kernel
theorem dX5_isAhead_35 : decode cX5_isAhead 35 = .ok (.ireturn, 1) := by decide +kernel
theorem dX5_isAhead_36 : decode cX5_isAhead 36 = .ok (.aload_n 0, 1) := by decide +kernel
theorem dX5_isAhead_37 : decode cX5_isAhead 37 = .ok (.getfield 28, 3) := by decide +kernel
theorem dX5_isAhead_40 : decode cX5_isAhead 40 = .ok (.iload_n 1, 1) := by decide +kernel
theorem dX5_isAhead_41 : decode cX5_isAhead 41 = .ok (.iaload, 1) := by decide +kernel
theorem dX5_isAhead_42 : decode cX5_isAhead 42 = .ok (.aload_n 0, 1) := by decide +kernel
theorem dX5_isAhead_43 : decode cX5_isAhead 43 = .ok (.getfield 28, 3) := by decide +kernel
theorem dX5_isAhead_46 : decode cX5_isAhead 46 = .ok (.iload_n 2, 1) := by decide +kernel
theorem dX5_isAhead_47 : decode cX5_isAhead 47 = .ok (.iaload, 1) := by decide +kernel
theorem dX5_isAhead_48 : decode cX5_isAhead 48 = .ok (.if_icmp .eq 24, 3) := by decide +kernel
theorem dX5_isAhead_51 : decode cX5_isAhead 51 = .ok (.aload_n 0, 1) := by decide +kernel
theorem dX5_isAhead_52 : decode cX5_isAhead 52 = .ok (.getfield 28, 3) := by decide +kernel
theorem dX5_isAhead_55 : decode cX5_isAhead 55 = .ok (.iload_n 1, 1) := by decide +kernel
theorem dX5_isAhead_56 : decode cX5_isAhead 56 = .ok (.iaload, 1) := by decide +kernel
theorem dX5_isAhead_57 : decode cX5_isAhead 57 = .ok (.aload_n 0, 1) := by decide +kernel
theorem dX5_isAhead_58 : decode cX5_isAhead 58 = .ok (.getfield 28, 3) := by decide +kernel
theorem dX5_isAhead_61 : decode cX5_isAhead 61 = .ok (.iload_n 2, 1) := by decide +kernel
theorem dX5_isAhead_62 : decode cX5_isAhead 62 = .ok (.iaload, 1) := by decide +kernel
theorem dX5_isAhead_63 : decode cX5_isAhead 63 = .ok (.if_icmp .ge 7, 3) := by decide +kernel
theorem dX5_isAhead_66 : decode cX5_isAhead 66 = .ok (.iconst 1, 1) := by decide +kernel
theorem dX5_isAhead_67 : decode cX5_isAhead 67 = .ok (.goto 4, 3) := by decide +kernel
theorem dX5_isAhead_70 : decode cX5_isAhead 70 = .ok (.iconst 0, 1) := by decide +kernel
theorem dX5_isAhead_71 : decode cX5_isAhead 71 = .ok (.ireturn, 1) := by decide +kernel
theorem dX5_isAhead_72 : decode cX5_isAhead 72 = .ok (.aload_n 0, 1) := by decide +kernel
theorem dX5_isAhead_73 : decode cX5_isAhead 73 = .ok (.getfield 31, 3) := by decide +kernel
theorem dX5_isAhead_76 : decode cX5_isAhead 76 = .ok (.iload_n 1, 1) := by decide +kernel
theorem dX5_isAhead_77 : decode cX5_isAhead 77 = .ok (.iaload, 1) := by decide +kernel
theorem dX5_isAhead_78 : decode cX5_isAhead 78 = .ok (.aload_n 0, 1) := by decide +kernel
theorem dX5_isAhead_79 : decode cX5_isAhead 79 = .ok (.getfield 31, 3) := by decide +kernel
theorem dX5_isAhead_82 : decode cX5_isAhead 82 = .ok (.iload_n 2, 1) := by decide +kernel
theorem dX5_isAhead_83 : decode cX5_isAhead 83 = .ok (.iaload, 1) := by decide +kernel
theorem dX5_isAhead_84 : decode cX5_isAhead 84 = .ok (.if_icmp .eq 24, 3) := by decide +kernel
theorem dX5_isAhead_87 : decode cX5_isAhead 87 = .ok (.aload_n 0, 1) := by decide +kernel
theorem dX5_isAhead_88 : decode cX5_isAhead 88 = .ok (.getfield 31, 3) := by decide +kernel
theorem dX5_isAhead_91 : decode cX5_isAhead 91 = .ok (.iload_n 1, 1) := by decide +kernel
theorem dX5_isAhead_92 : decode cX5_isAhead 92 = .ok (.iaload, 1) := by decide +kernel
theorem dX5_isAhead_93 : decode cX5_isAhead 93 = .ok (.aload_n 0, 1) := by decide +kernel
theorem dX5_isAhead_94 : decode cX5_isAhead 94 = .ok (.getfield 31, 3) := by decide +kernel
theorem dX5_isAhead_97 : decode cX5_isAhead 97 = .ok (.iload_n 2, 1) := by decide +kernel
theorem dX5_isAhead_98 : decode cX5_isAhead 98 = .ok (.iaload, 1) := by decide +kernel
theorem dX5_isAhead_99 : decode cX5_isAhead 99 = .ok (.if_icmp .ge 7, 3) := by decide +kernel
theorem dX5_isAhead_102 : decode cX5_isAhead 102 = .ok (.iconst 1, 1) := by decide +kernel
theorem dX5_isAhead_103 : decode cX5_isAhead 103 = .ok (.goto 4, 3) := by decide +kernel
theorem dX5_isAhead_106 : decode cX5_isAhead 106 = .ok (.iconst 0, 1) := by decide +kernel
theorem dX5_isAhead_107 : decode cX5_isAhead 107 = .ok (.ireturn, 1) := by decide +kernel
theorem dX5_isAhead_108 : decode cX5_isAhead 108 = .ok (.aload_n 0, 1) := by decide +kernel
theorem dX5_isAhead_109 : decode cX5_isAhead 109 = .ok (.getfield 43, 3) := by decide +kernel
theorem dX5_isAhead_112 : decode cX5_isAhead 112 = .ok (.iload_n 1, 1) := by decide +kernel
theorem dX5_isAhead_113 : decode cX5_isAhead 113 = .ok (.iaload, 1) := by decide +kernel
theorem dX5_isAhead_114 : decode cX5_isAhead 114 = .ok (.aload_n 0, 1) := by decide +kernel
theorem dX5_isAhead_115 : decode cX5_isAhead 115 = .ok (.getfield 43, 3) := by decide +kernel
theorem dX5_isAhead_118 : decode cX5_isAhead 118 = .ok (.iload_n 2, 1) := by decide +kernel
theorem dX5_isAhead_119 : decode cX5_isAhead 119 = .ok (.iaload, 1) := by decide +kernel
theorem dX5_isAhead_120 : decode cX5_isAhead 120 = .ok (.if_icmp .ge 7, 3) := by decide +kernel
theorem dX5_isAhead_123 : decode cX5_isAhead 123 = .ok (.iconst 1, 1) := by decide +kernel
theorem dX5_isAhead_124 : decode cX5_isAhead 124 = .ok (.goto 4, 3) := by decide +kernel
theorem dX5_isAhead_127 : decode cX5_isAhead 127 = .ok (.iconst 0, 1) := by decide +kernel
theorem dX5_isAhead_128 : decode cX5_isAhead 128 = .ok (.ireturn, 1) := by decide +kernel
set_option maxRecDepth 20000 in
theorem ggX5_nextKept_X5_isShown : GoodIn wsX5_nextKept wsX5_isShown := goodIn_r _ [6, 7, 1, 8, 9, 10, 11, 5, 12, 13, 14, 22, 23, 24, 25, 26, 27, 28, 29, 30, 31, 32, 33, 34, 35, 36, 37, 38, 39, 40, 41] (by decide +kernel) (by decide +kernel)
set_option maxRecDepth 20000 in
theorem gX5_nextKept_X5_isShown : GoodIn wsX5_nextKept (wsV RX5 73 RX5 yX5_isShown wsX5_isShown) := goodIn_app (goodIn_of _ (by decide +kernel)) ggX5_nextKept_X5_isShown
set_option maxRecDepth 20000 in
theorem ggX5_nextKept_X5_isAhead : GoodIn wsX5_nextKept wsX5_isAhead := goodIn_r _ [18, 7, 19, 20, 21, 22, 23, 24, 25, 26, 27, 28, 29, 30, 31, 32, 33, 34, 35, 36, 37, 38, 39, 40, 41] (by decide +kernel) (by decide +kernel)
set_option maxRecDepth 20000 in
theorem gX5_nextKept_X5_isAhead : GoodIn wsX5_nextKept (wsV RX5 142 RX5 yX5_isAhead wsX5_isAhead) := goodIn_app (goodIn_of _ (by decide +kernel)) ggX5_nextKept_X5_isAhead
theorem dX5_nextKept_0 : decode cX5_nextKept 0 = .ok (.ldc 55, 2) := by decide +kernel
theorem dX5_nextKept_2 : decode cX5_nextKept 2 = .ok (.istore_n 2, 1) := by decide +kernel
theorem dX5_nextKept_3 : decode cX5_nextKept 3 = .ok (.iconst 0, 1) := by decide +kernel
theorem dX5_nextKept_4 : decode cX5_nextKept 4 = .ok (.istore_n 3, 1) := by decide +kernel
theorem dX5_nextKept_5 : decode cX5_nextKept 5 = .ok (.iload_n 3, 1) := by decide +kernel
theorem dX5_nextKept_6 : decode cX5_nextKept 6 = .ok (.sipush 200, 3) := by decide +kernel
theorem dX5_nextKept_9 : decode cX5_nextKept 9 = .ok (.if_icmp .ge 49, 3) := by decide +kernel
theorem dX5_nextKept_12 : decode cX5_nextKept 12 = .ok (.aload_n 0, 1) := by decide +kernel
theorem dX5_nextKept_13 : decode cX5_nextKept 13 = .ok (.iload_n 3, 1) := by decide +kernel
theorem dX5_nextKept_14 : decode cX5_nextKept 14 = .ok (.invokevirtual 73, 3) := by decide +kernel
theorem dX5_nextKept_17 : decode cX5_nextKept 17 = .ok (.ifCond .eq 35, 3) := by decide +kernel
theorem dX5_nextKept_20 : decode cX5_nextKept 20 = .ok (.iload_n 1, 1) := by decide +kernel
theorem dX5_nextKept_21 : decode cX5_nextKept 21 = .ok (.ldc 55, 2) := by decide +kernel
theorem dX5_nextKept_23 : decode cX5_nextKept 23 = .ok (.if_icmp .eq 12, 3) := by decide +kernel
theorem dX5_nextKept_26 : decode cX5_nextKept 26 = .ok (.aload_n 0, 1) := by decide +kernel
theorem dX5_nextKept_27 : decode cX5_nextKept 27 = .ok (.iload_n 1, 1) := by decide +kernel
theorem dX5_nextKept_28 : decode cX5_nextKept 28 = .ok (.iload_n 3, 1) := by decide +kernel
theorem dX5_nextKept_29 : decode cX5_nextKept 29 = .ok (.invokevirtual 142, 3) := by decide +kernel
theorem dX5_nextKept_32 : decode cX5_nextKept 32 = .ok (.ifCond .eq 20, 3) := by decide +kernel
theorem dX5_nextKept_35 : decode cX5_nextKept 35 = .ok (.iload_n 2, 1) := by decide +kernel
theorem dX5_nextKept_36 : decode cX5_nextKept 36 = .ok (.ldc 55, 2) := by decide +kernel
theorem dX5_nextKept_38 : decode cX5_nextKept 38 = .ok (.if_icmp .eq 12, 3) := by decide +kernel
theorem dX5_nextKept_41 : decode cX5_nextKept 41 = .ok (.aload_n 0, 1) := by decide +kernel
theorem dX5_nextKept_42 : decode cX5_nextKept 42 = .ok (.iload_n 3, 1) := by decide +kernel
theorem dX5_nextKept_43 : decode cX5_nextKept 43 = .ok (.iload_n 2, 1) := by decide +kernel
theorem dX5_nextKept_44 : decode cX5_nextKept 44 = .ok (.invokevirtual 142, 3) := by decide +kernel
theorem dX5_nextKept_47 : decode cX5_nextKept 47 = .ok (.ifCond .eq 5, 3) := by decide +kernel
theorem dX5_nextKept_50 : decode cX5_nextKept 50 = .ok (.iload_n 3, 1) := by decide +kernel
theorem dX5_nextKept_51 : decode cX5_nextKept 51 = .ok (.istore_n 2, 1) := by decide +kernel
theorem dX5_nextKept_52 : decode cX5_nextKept 52 = .ok (.iinc 3 1, 3) := by decide +kernel
theorem dX5_nextKept_55 : decode cX5_nextKept 55 = .ok (.goto (-50), 3) := by decide +kernel
theorem dX5_nextKept_58 : decode cX5_nextKept 58 = .ok (.iload_n 2, 1) := by decide +kernel
theorem dX5_nextKept_59 : decode cX5_nextKept 59 = .ok (.ireturn, 1) := by decide +kernel
set_option maxRecDepth 20000 in
theorem ggX5_restore_X5_isIn : GoodIn wsX5_restore wsX5_isIn := goodIn_r _ [11] (by decide +kernel) (by decide +kernel)
set_option maxRecDepth 20000 in
theorem gX5_restore_X5_isIn : GoodIn wsX5_restore (va_wsS RX5 60 yX5_isIn wsX5_isIn) := goodIn_app (goodIn_of _ (by decide +kernel)) ggX5_restore_X5_isIn
set_option maxRecDepth 20000 in
theorem ggX5_restore_X5_writes : GoodIn wsX5_restore wsX5_writes := goodIn_r _ [15, 3, 16, 17, 18, 19, 20, 21, 22, 23, 10, 24, 6, 25, 26, 5, 27, 28, 29, 30, 31, 32, 33, 34, 35, 36, 37, 38, 39, 40, 41, 42, 43, 44, 45, 46, 47] (by decide +kernel) (by decide +kernel)
set_option maxRecDepth 20000 in
theorem gX5_restore_X5_writes : GoodIn wsX5_restore (wsV RX5 104 RX5 yX5_writes wsX5_writes) := goodIn_app (goodIn_of _ (by decide +kernel)) ggX5_restore_X5_writes
theorem dX5_restore_0 : decode cX5_restore 0 = .ok (.iload_n 1, 1) := by decide +kernel
theorem dX5_restore_1 : decode cX5_restore 1 = .ok (.iconst 0, 1) := by decide +kernel
theorem dX5_restore_2 : decode cX5_restore 2 = .ok (.iconst 2, 1) := by decide +kernel
theorem dX5_restore_3 : decode cX5_restore 3 = .ok (.invokestatic 60, 3) := by decide +kernel
theorem dX5_restore_6 : decode cX5_restore 6 = .ok (.ifCond .ne 5, 3) := by decide +kernel
theorem dX5_restore_9 : decode cX5_restore 9 = .ok (.iconst (-1), 1) := by decide +kernel
theorem dX5_restore_10 : decode cX5_restore 10 = .ok (.ireturn, 1) := by decide +kernel
theorem dX5_restore_11 : decode cX5_restore 11 = .ok (.aload_n 0, 1) := by decide +kernel
theorem dX5_restore_12 : decode cX5_restore 12 = .ok (.getfield 49, 3) := by decide +kernel
theorem dX5_restore_15 : decode cX5_restore 15 = .ok (.iload_n 1, 1) := by decide +kernel
theorem dX5_restore_16 : decode cX5_restore 16 = .ok (.iaload, 1) := by decide +kernel
theorem dX5_restore_17 : decode cX5_restore 17 = .ok (.ldc 55, 2) := by decide +kernel
theorem dX5_restore_19 : decode cX5_restore 19 = .ok (.if_icmp .ne 6, 3) := by decide +kernel
theorem dX5_restore_22 : decode cX5_restore 22 = .ok (.bipush (-2), 2) := by decide +kernel
theorem dX5_restore_24 : decode cX5_restore 24 = .ok (.ireturn, 1) := by decide +kernel
theorem dX5_restore_25 : decode cX5_restore 25 = .ok (.iconst 0, 1) := by decide +kernel
theorem dX5_restore_26 : decode cX5_restore 26 = .ok (.istore_n 2, 1) := by decide +kernel
theorem dX5_restore_27 : decode cX5_restore 27 = .ok (.iload_n 2, 1) := by decide +kernel
theorem dX5_restore_28 : decode cX5_restore 28 = .ok (.sipush 200, 3) := by decide +kernel
theorem dX5_restore_31 : decode cX5_restore 31 = .ok (.if_icmp .ge 17, 3) := by decide +kernel
theorem dX5_restore_34 : decode cX5_restore 34 = .ok (.aload_n 0, 1) := by decide +kernel
theorem dX5_restore_35 : decode cX5_restore 35 = .ok (.getfield 25, 3) := by decide +kernel
theorem dX5_restore_38 : decode cX5_restore 38 = .ok (.iload_n 2, 1) := by decide +kernel
theorem dX5_restore_39 : decode cX5_restore 39 = .ok (.ldc 55, 2) := by decide +kernel
theorem dX5_restore_41 : decode cX5_restore 41 = .ok (.iastore, 1) := by decide +kernel
theorem dX5_restore_42 : decode cX5_restore 42 = .ok (.iinc 2 1, 3) := by decide +kernel
theorem dX5_restore_45 : decode cX5_restore 45 = .ok (.goto (-18), 3) := by decide +kernel
theorem dX5_restore_48 : decode cX5_restore 48 = .ok (.iconst 0, 1) := by decide +kernel
theorem dX5_restore_49 : decode cX5_restore 49 = .ok (.istore_n 2, 1) := by decide +kernel
theorem dX5_restore_50 : decode cX5_restore 50 = .ok (.iload_n 2, 1) := by decide +kernel
theorem dX5_restore_51 : decode cX5_restore 51 = .ok (.aload_n 0, 1) := by decide +kernel
theorem dX5_restore_52 : decode cX5_restore 52 = .ok (.getfield 49, 3) := by decide +kernel
theorem dX5_restore_55 : decode cX5_restore 55 = .ok (.iload_n 1, 1) := by decide +kernel
theorem dX5_restore_56 : decode cX5_restore 56 = .ok (.iaload, 1) := by decide +kernel
theorem dX5_restore_57 : decode cX5_restore 57 = .ok (.if_icmp .ge 75, 3) := by decide +kernel
theorem dX5_restore_60 : decode cX5_restore 60 = .ok (.sipush 1000, 3) := by decide +kernel
theorem dX5_restore_63 : decode cX5_restore 63 = .ok (.iload_n 1, 1) := by decide +kernel
theorem dX5_restore_64 : decode cX5_restore 64 = .ok (.imul, 1) := by decide +kernel
theorem dX5_restore_65 : decode cX5_restore 65 = .ok (.iconst 5, 1) := by decide +kernel
theorem dX5_restore_66 : decode cX5_restore 66 = .ok (.iload_n 2, 1) := by decide +kernel
theorem dX5_restore_67 : decode cX5_restore 67 = .ok (.imul, 1) := by decide +kernel
theorem dX5_restore_68 : decode cX5_restore 68 = .ok (.iadd, 1) := by decide +kernel
theorem dX5_restore_69 : decode cX5_restore 69 = .ok (.istore_n 3, 1) := by decide +kernel
theorem dX5_restore_70 : decode cX5_restore 70 = .ok (.aload_n 0, 1) := by decide +kernel
theorem dX5_restore_71 : decode cX5_restore 71 = .ok (.iload_n 2, 1) := by decide +kernel
theorem dX5_restore_72 : decode cX5_restore 72 = .ok (.aload_n 0, 1) := by decide +kernel
theorem dX5_restore_73 : decode cX5_restore 73 = .ok (.getfield 52, 3) := by decide +kernel
theorem dX5_restore_76 : decode cX5_restore 76 = .ok (.iload_n 3, 1) := by decide +kernel
theorem dX5_restore_77 : decode cX5_restore 77 = .ok (.iaload, 1) := by decide +kernel
theorem dX5_restore_78 : decode cX5_restore 78 = .ok (.aload_n 0, 1) := by decide +kernel
theorem dX5_restore_79 : decode cX5_restore 79 = .ok (.getfield 52, 3) := by decide +kernel
theorem dX5_restore_82 : decode cX5_restore 82 = .ok (.iload_n 3, 1) := by decide +kernel
theorem dX5_restore_83 : decode cX5_restore 83 = .ok (.iconst 1, 1) := by decide +kernel
theorem dX5_restore_84 : decode cX5_restore 84 = .ok (.iadd, 1) := by decide +kernel
theorem dX5_restore_85 : decode cX5_restore 85 = .ok (.iaload, 1) := by decide +kernel
theorem dX5_restore_86 : decode cX5_restore 86 = .ok (.aload_n 0, 1) := by decide +kernel
theorem dX5_restore_87 : decode cX5_restore 87 = .ok (.getfield 52, 3) := by decide +kernel
theorem dX5_restore_90 : decode cX5_restore 90 = .ok (.iload_n 3, 1) := by decide +kernel
theorem dX5_restore_91 : decode cX5_restore 91 = .ok (.iconst 2, 1) := by decide +kernel
theorem dX5_restore_92 : decode cX5_restore 92 = .ok (.iadd, 1) := by decide +kernel
theorem dX5_restore_93 : decode cX5_restore 93 = .ok (.iaload, 1) := by decide +kernel
theorem dX5_restore_94 : decode cX5_restore 94 = .ok (.aload_n 0, 1) := by decide +kernel
theorem dX5_restore_95 : decode cX5_restore 95 = .ok (.getfield 52, 3) := by decide +kernel
theorem dX5_restore_98 : decode cX5_restore 98 = .ok (.iload_n 3, 1) := by decide +kernel
theorem dX5_restore_99 : decode cX5_restore 99 = .ok (.iconst 3, 1) := by decide +kernel
theorem dX5_restore_100 : decode cX5_restore 100 = .ok (.iadd, 1) := by decide +kernel
theorem dX5_restore_101 : decode cX5_restore 101 = .ok (.iaload, 1) := by decide +kernel
theorem dX5_restore_102 : decode cX5_restore 102 = .ok (.invokevirtual 104, 3) := by decide +kernel
theorem dX5_restore_105 : decode cX5_restore 105 = .ok (.aload_n 0, 1) := by decide +kernel
theorem dX5_restore_106 : decode cX5_restore 106 = .ok (.getfield 40, 3) := by decide +kernel
theorem dX5_restore_109 : decode cX5_restore 109 = .ok (.iload_n 2, 1) := by decide +kernel
theorem dX5_restore_110 : decode cX5_restore 110 = .ok (.aload_n 0, 1) := by decide +kernel
theorem dX5_restore_111 : decode cX5_restore 111 = .ok (.getfield 37, 3) := by decide +kernel
theorem dX5_restore_114 : decode cX5_restore 114 = .ok (.iload_n 2, 1) := by decide +kernel
theorem dX5_restore_115 : decode cX5_restore 115 = .ok (.iaload, 1) := by decide +kernel
theorem dX5_restore_116 : decode cX5_restore 116 = .ok (.aload_n 0, 1) := by decide +kernel
theorem dX5_restore_117 : decode cX5_restore 117 = .ok (.getfield 52, 3) := by decide +kernel
theorem dX5_restore_120 : decode cX5_restore 120 = .ok (.iload_n 3, 1) := by decide +kernel
theorem dX5_restore_121 : decode cX5_restore 121 = .ok (.iconst 4, 1) := by decide +kernel
theorem dX5_restore_122 : decode cX5_restore 122 = .ok (.iadd, 1) := by decide +kernel
theorem dX5_restore_123 : decode cX5_restore 123 = .ok (.iaload, 1) := by decide +kernel
theorem dX5_restore_124 : decode cX5_restore 124 = .ok (.iadd, 1) := by decide +kernel
theorem dX5_restore_125 : decode cX5_restore 125 = .ok (.iastore, 1) := by decide +kernel
theorem dX5_restore_126 : decode cX5_restore 126 = .ok (.iinc 2 1, 3) := by decide +kernel
theorem dX5_restore_129 : decode cX5_restore 129 = .ok (.goto (-79), 3) := by decide +kernel
theorem dX5_restore_132 : decode cX5_restore 132 = .ok (.aload_n 0, 1) := by decide +kernel
theorem dX5_restore_133 : decode cX5_restore 133 = .ok (.iconst 0, 1) := by decide +kernel
theorem dX5_restore_134 : decode cX5_restore 134 = .ok (.putfield 136, 3) := by decide +kernel
theorem dX5_restore_137 : decode cX5_restore 137 = .ok (.aload_n 0, 1) := by decide +kernel
theorem dX5_restore_138 : decode cX5_restore 138 = .ok (.getfield 49, 3) := by decide +kernel
theorem dX5_restore_141 : decode cX5_restore 141 = .ok (.iload_n 1, 1) := by decide +kernel
theorem dX5_restore_142 : decode cX5_restore 142 = .ok (.iaload, 1) := by decide +kernel
theorem dX5_restore_143 : decode cX5_restore 143 = .ok (.ireturn, 1) := by decide +kernel
set_option maxRecDepth 20000 in
theorem ggX5_row_X5_isIn : GoodIn wsX5_row wsX5_isIn := goodIn_r _ [7] (by decide +kernel) (by decide +kernel)
set_option maxRecDepth 20000 in
theorem gX5_row_X5_isIn : GoodIn wsX5_row (va_wsS RX5 60 yX5_isIn wsX5_isIn) := goodIn_app (goodIn_of _ (by decide +kernel)) ggX5_row_X5_isIn
theorem dX5_row_0 : decode cX5_row 0 = .ok (.iload_n 1, 1) := by decide +kernel
theorem dX5_row_1 : decode cX5_row 1 = .ok (.iconst 0, 1) := by decide +kernel
theorem dX5_row_2 : decode cX5_row 2 = .ok (.aload_n 0, 1) := by decide +kernel
theorem dX5_row_3 : decode cX5_row 3 = .ok (.getfield 83, 3) := by decide +kernel
theorem dX5_row_6 : decode cX5_row 6 = .ok (.iconst 1, 1) := by decide +kernel
theorem dX5_row_7 : decode cX5_row 7 = .ok (.isub, 1) := by decide +kernel
theorem dX5_row_8 : decode cX5_row 8 = .ok (.invokestatic 60, 3) := by decide +kernel
theorem dX5_row_11 : decode cX5_row 11 = .ok (.ifCond .eq 26, 3) := by decide +kernel
theorem dX5_row_14 : decode cX5_row 14 = .ok (.iload_n 2, 1) := by decide +kernel
theorem dX5_row_15 : decode cX5_row 15 = .ok (.iconst 0, 1) := by decide +kernel
theorem dX5_row_16 : decode cX5_row 16 = .ok (.iconst 5, 1) := by decide +kernel
theorem dX5_row_17 : decode cX5_row 17 = .ok (.invokestatic 60, 3) := by decide +kernel
theorem dX5_row_20 : decode cX5_row 20 = .ok (.ifCond .eq 17, 3) := by decide +kernel
theorem dX5_row_23 : decode cX5_row 23 = .ok (.aload_n 0, 1) := by decide +kernel
theorem dX5_row_24 : decode cX5_row 24 = .ok (.getfield 46, 3) := by decide +kernel
theorem dX5_row_27 : decode cX5_row 27 = .ok (.bipush 6, 2) := by decide +kernel
theorem dX5_row_29 : decode cX5_row 29 = .ok (.iload_n 1, 1) := by decide +kernel
theorem dX5_row_30 : decode cX5_row 30 = .ok (.imul, 1) := by decide +kernel
theorem dX5_row_31 : decode cX5_row 31 = .ok (.iload_n 2, 1) := by decide +kernel
theorem dX5_row_32 : decode cX5_row 32 = .ok (.iadd, 1) := by decide +kernel
theorem dX5_row_33 : decode cX5_row 33 = .ok (.iaload, 1) := by decide +kernel
theorem dX5_row_34 : decode cX5_row 34 = .ok (.goto 5, 3) := by decide +kernel
theorem dX5_row_37 : decode cX5_row 37 = .ok (.ldc 55, 2) := by decide +kernel
theorem dX5_row_39 : decode cX5_row 39 = .ok (.ireturn, 1) := by decide +kernel
set_option maxRecDepth 20000 in
theorem ggX5_next_X5_isState : GoodIn wsX5_next wsX5_isState := goodIn_r _ [8, 9, 10, 11, 7, 12, 23, 24, 25, 26, 27, 28, 29, 30, 31, 32, 33, 34, 35, 36, 37, 38, 39, 40, 41, 42] (by decide +kernel) (by decide +kernel)
set_option maxRecDepth 20000 in
theorem gX5_next_X5_isState : GoodIn wsX5_next (wsV RX5 64 RX5 yX5_isState wsX5_isState) := goodIn_app (goodIn_of _ (by decide +kernel)) ggX5_next_X5_isState
set_option maxRecDepth 20000 in
theorem ggX5_next_X5_isShown : GoodIn wsX5_next wsX5_isShown := goodIn_r _ [16, 2, 1, 3, 17, 18, 19, 7, 20, 21, 22, 23, 24, 25, 26, 27, 28, 29, 30, 31, 32, 33, 34, 35, 36, 37, 38, 39, 40, 41, 42] (by decide +kernel) (by decide +kernel)
set_option maxRecDepth 20000 in
theorem gX5_next_X5_isShown : GoodIn wsX5_next (wsV RX5 73 RX5 yX5_isShown wsX5_isShown) := goodIn_app (goodIn_of _ (by decide +kernel)) ggX5_next_X5_isShown
theorem dX5_next_0 : decode cX5_next 0 = .ok (.aload_n 0, 1) := by decide +kernel
theorem dX5_next_1 : decode cX5_next 1 = .ok (.iload_n 1, 1) := by decide +kernel
theorem dX5_next_2 : decode cX5_next 2 = .ok (.invokevirtual 64, 3) := by decide +kernel
theorem dX5_next_5 : decode cX5_next 5 = .ok (.ifCond .ne 5, 3) := by decide +kernel
theorem dX5_next_8 : decode cX5_next 8 = .ok (.iconst (-1), 1) := by decide +kernel
theorem dX5_next_9 : decode cX5_next 9 = .ok (.ireturn, 1) := by decide +kernel
theorem dX5_next_10 : decode cX5_next 10 = .ok (.ldc 55, 2) := by decide +kernel
theorem dX5_next_12 : decode cX5_next 12 = .ok (.istore_n 2, 1) := by decide +kernel
theorem dX5_next_13 : decode cX5_next 13 = .ok (.iconst 0, 1) := by decide +kernel
theorem dX5_next_14 : decode cX5_next 14 = .ok (.istore_n 3, 1) := by decide +kernel
theorem dX5_next_15 : decode cX5_next 15 = .ok (.iload_n 3, 1) := by decide +kernel
theorem dX5_next_16 : decode cX5_next 16 = .ok (.sipush 200, 3) := by decide +kernel
theorem dX5_next_19 : decode cX5_next 19 = .ok (.if_icmp .ge 54, 3) := by decide +kernel
theorem dX5_next_22 : decode cX5_next 22 = .ok (.aload_n 0, 1) := by decide +kernel
theorem dX5_next_23 : decode cX5_next 23 = .ok (.getfield 25, 3) := by decide +kernel
theorem dX5_next_26 : decode cX5_next 26 = .ok (.iload_n 3, 1) := by decide +kernel
theorem dX5_next_27 : decode cX5_next 27 = .ok (.iaload, 1) := by decide +kernel
theorem dX5_next_28 : decode cX5_next 28 = .ok (.iload_n 1, 1) := by decide +kernel
theorem dX5_next_29 : decode cX5_next 29 = .ok (.if_icmp .ne 38, 3) := by decide +kernel
theorem dX5_next_32 : decode cX5_next 32 = .ok (.aload_n 0, 1) := by decide +kernel
theorem dX5_next_33 : decode cX5_next 33 = .ok (.iload_n 3, 1) := by decide +kernel
theorem dX5_next_34 : decode cX5_next 34 = .ok (.invokevirtual 73, 3) := by decide +kernel
theorem dX5_next_37 : decode cX5_next 37 = .ok (.ifCond .eq 30, 3) := by decide +kernel
theorem dX5_next_40 : decode cX5_next 40 = .ok (.iload_n 2, 1) := by decide +kernel
theorem dX5_next_41 : decode cX5_next 41 = .ok (.ldc 55, 2) := by decide +kernel
theorem dX5_next_43 : decode cX5_next 43 = .ok (.if_icmp .eq 13, 3) := by decide +kernel
theorem dX5_next_46 : decode cX5_next 46 = .ok (.aload_n 0, 1) := by decide +kernel
theorem dX5_next_47 : decode cX5_next 47 = .ok (.getfield 40, 3) := by decide +kernel
theorem dX5_next_50 : decode cX5_next 50 = .ok (.iload_n 3, 1) := by decide +kernel
theorem dX5_next_51 : decode cX5_next 51 = .ok (.iaload, 1) := by decide +kernel
theorem dX5_next_52 : decode cX5_next 52 = .ok (.iload_n 2, 1) := by decide +kernel
theorem dX5_next_53 : decode cX5_next 53 = .ok (.if_icmp .ge 12, 3) := by decide +kernel
theorem dX5_next_56 : decode cX5_next 56 = .ok (.aload_n 0, 1) := by decide +kernel
theorem dX5_next_57 : decode cX5_next 57 = .ok (.getfield 40, 3) := by decide +kernel
theorem dX5_next_60 : decode cX5_next 60 = .ok (.iload_n 3, 1) := by decide +kernel
theorem dX5_next_61 : decode cX5_next 61 = .ok (.iaload, 1) := by decide +kernel
theorem dX5_next_62 : decode cX5_next 62 = .ok (.goto 4, 3) := by decide +kernel
theorem dX5_next_65 : decode cX5_next 65 = .ok (.iload_n 2, 1) := by decide +kernel
theorem dX5_next_66 : decode cX5_next 66 = .ok (.istore_n 2, 1) := by decide +kernel
theorem dX5_next_67 : decode cX5_next 67 = .ok (.iinc 3 1, 3) := by decide +kernel
theorem dX5_next_70 : decode cX5_next 70 = .ok (.goto (-55), 3) := by decide +kernel
theorem dX5_next_73 : decode cX5_next 73 = .ok (.iload_n 2, 1) := by decide +kernel
theorem dX5_next_74 : decode cX5_next 74 = .ok (.ireturn, 1) := by decide +kernel
set_option maxRecDepth 20000 in
theorem ggX5_count_X5_isShown : GoodIn wsX5_count wsX5_isShown := goodIn_r _ [12, 1, 2, 13, 14, 15, 16, 11, 17, 6, 18, 19, 20, 21, 22, 23, 24, 25, 26, 27, 28, 29, 30, 31, 32, 33, 34, 35, 36, 37, 38] (by decide +kernel) (by decide +kernel)
set_option maxRecDepth 20000 in
theorem gX5_count_X5_isShown : GoodIn wsX5_count (wsV RX5 73 RX5 yX5_isShown wsX5_isShown) := goodIn_app (goodIn_of _ (by decide +kernel)) ggX5_count_X5_isShown
theorem dX5_count_0 : decode cX5_count 0 = .ok (.iconst 0, 1) := by decide +kernel
theorem dX5_count_1 : decode cX5_count 1 = .ok (.istore_n 2, 1) := by decide +kernel
theorem dX5_count_2 : decode cX5_count 2 = .ok (.iconst 0, 1) := by decide +kernel
theorem dX5_count_3 : decode cX5_count 3 = .ok (.istore_n 3, 1) := by decide +kernel
theorem dX5_count_4 : decode cX5_count 4 = .ok (.iconst 0, 1) := by decide +kernel
theorem dX5_count_5 : decode cX5_count 5 = .ok (.istore 4, 2) := by decide +kernel
theorem dX5_count_7 : decode cX5_count 7 = .ok (.iload 4, 2) := by decide +kernel
theorem dX5_count_9 : decode cX5_count 9 = .ok (.sipush 200, 3) := by decide +kernel
theorem dX5_count_12 : decode cX5_count 12 = .ok (.if_icmp .ge 46, 3) := by decide +kernel
theorem dX5_count_15 : decode cX5_count 15 = .ok (.iload_n 2, 1) := by decide +kernel
theorem dX5_count_16 : decode cX5_count 16 = .ok (.aload_n 0, 1) := by decide +kernel
theorem dX5_count_17 : decode cX5_count 17 = .ok (.getfield 25, 3) := by decide +kernel
theorem dX5_count_20 : decode cX5_count 20 = .ok (.iload 4, 2) := by decide +kernel
theorem dX5_count_22 : decode cX5_count 22 = .ok (.iaload, 1) := by decide +kernel
theorem dX5_count_23 : decode cX5_count 23 = .ok (.ldc 55, 2) := by decide +kernel
theorem dX5_count_25 : decode cX5_count 25 = .ok (.if_icmp .eq 7, 3) := by decide +kernel
theorem dX5_count_28 : decode cX5_count 28 = .ok (.iconst 1, 1) := by decide +kernel
theorem dX5_count_29 : decode cX5_count 29 = .ok (.goto 4, 3) := by decide +kernel
theorem dX5_count_32 : decode cX5_count 32 = .ok (.iconst 0, 1) := by decide +kernel
theorem dX5_count_33 : decode cX5_count 33 = .ok (.iadd, 1) := by decide +kernel
theorem dX5_count_34 : decode cX5_count 34 = .ok (.istore_n 2, 1) := by decide +kernel
theorem dX5_count_35 : decode cX5_count 35 = .ok (.iload_n 3, 1) := by decide +kernel
theorem dX5_count_36 : decode cX5_count 36 = .ok (.aload_n 0, 1) := by decide +kernel
theorem dX5_count_37 : decode cX5_count 37 = .ok (.iload 4, 2) := by decide +kernel
theorem dX5_count_39 : decode cX5_count 39 = .ok (.invokevirtual 73, 3) := by decide +kernel
theorem dX5_count_42 : decode cX5_count 42 = .ok (.ifCond .eq 7, 3) := by decide +kernel
theorem dX5_count_45 : decode cX5_count 45 = .ok (.iconst 1, 1) := by decide +kernel
theorem dX5_count_46 : decode cX5_count 46 = .ok (.goto 4, 3) := by decide +kernel
theorem dX5_count_49 : decode cX5_count 49 = .ok (.iconst 0, 1) := by decide +kernel
theorem dX5_count_50 : decode cX5_count 50 = .ok (.iadd, 1) := by decide +kernel
theorem dX5_count_51 : decode cX5_count 51 = .ok (.istore_n 3, 1) := by decide +kernel
theorem dX5_count_52 : decode cX5_count 52 = .ok (.iinc 4 1, 3) := by decide +kernel
theorem dX5_count_55 : decode cX5_count 55 = .ok (.goto (-48), 3) := by decide +kernel
theorem dX5_count_58 : decode cX5_count 58 = .ok (.iload_n 1, 1) := by decide +kernel
theorem dX5_count_59 : decode cX5_count 59 = .ok (.tableswitch 83 0 7 #[45, 50, 52, 54, 59, 64, 71, 78], 45) := by decide +kernel
theorem dX5_count_104 : decode cX5_count 104 = .ok (.aload_n 0, 1) := by decide +kernel
theorem dX5_count_105 : decode cX5_count 105 = .ok (.getfield 56, 3) := by decide +kernel
theorem dX5_count_108 : decode cX5_count 108 = .ok (.ireturn, 1) := by decide +kernel
theorem dX5_count_109 : decode cX5_count 109 = .ok (.iload_n 2, 1) := by decide +kernel
theorem dX5_count_110 : decode cX5_count 110 = .ok (.ireturn, 1) := by decide +kernel
theorem dX5_count_111 : decode cX5_count 111 = .ok (.iload_n 3, 1) := by decide +kernel
theorem dX5_count_112 : decode cX5_count 112 = .ok (.ireturn, 1) := by decide +kernel
theorem dX5_count_113 : decode cX5_count 113 = .ok (.aload_n 0, 1) := by decide +kernel
theorem dX5_count_114 : decode cX5_count 114 = .ok (.getfield 83, 3) := by decide +kernel
theorem dX5_count_117 : decode cX5_count 117 = .ok (.ireturn, 1) := by decide +kernel
theorem dX5_count_118 : decode cX5_count 118 = .ok (.aload_n 0, 1) := by decide +kernel
