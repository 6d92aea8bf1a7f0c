theorem dX5_isLong_1 : decode cX5_isLong 1 = .ok (.aload_n 0, 1) := by decide +kernel
theorem dX5_isLong_2 : decode cX5_isLong 2 = .ok (.getfield 51, 3) := by decide +kernel
theorem dX5_isLong_5 : decode cX5_isLong 5 = .ok (.aload_n 0, 1) := by decide +kernel
theorem dX5_isLong_6 : decode cX5_isLong 6 = .ok (.getfield 130, 3) := by decide +kernel
theorem dX5_isLong_9 : decode cX5_isLong 9 = .ok (.iaload, 1) := by decide +kernel
theorem dX5_isLong_10 : decode cX5_isLong 10 = .ok (.isub, 1) := by decide +kernel
theorem dX5_isLong_11 : decode cX5_isLong 11 = .ok (.sipush 4000, 3) := by decide +kernel
theorem dX5_isLong_14 : decode cX5_isLong 14 = .ok (.if_icmp .le 7, 3) := by decide +kernel
theorem dX5_isLong_17 : decode cX5_isLong 17 = .ok (.iconst 1, 1) := by decide +kernel
theorem dX5_isLong_18 : decode cX5_isLong 18 = .ok (.goto 4, 3) := by decide +kernel
theorem dX5_isLong_21 : decode cX5_isLong 21 = .ok (.iconst 0, 1) := by decide +kernel
theorem dX5_isLong_22 : decode cX5_isLong 22 = .ok (.ireturn, 1) := by decide +kernel
set_option maxRecDepth 20000 in
theorem ggX5_finish_X5_isLong : GoodIn wsX5_finish wsX5_isLong := goodIn_r _ [5, 6, 7, 27, 28, 29, 30, 31, 32, 33, 34, 35, 36, 37, 38, 39, 40, 41, 42, 43, 44, 45, 46, 47, 48, 49, 50, 51, 52, 53, 54, 55, 56] (by decide +kernel) (by decide +kernel)
set_option maxRecDepth 20000 in
theorem gX5_finish_X5_isLong : GoodIn wsX5_finish (wsV RX5 142 RX5 yX5_isLong wsX5_isLong) := goodIn_app (goodIn_of _ (by decide +kernel)) ggX5_finish_X5_isLong
set_option maxRecDepth 20000 in
theorem ggX5_finish_X5_fail : GoodIn wsX5_finish wsX5_fail := goodIn_r _ [11, 12, 27, 28, 29, 30, 31, 32, 33, 34, 35, 36, 37, 38, 39, 40, 41, 42, 43, 44, 45, 46, 47, 48, 49, 50, 51, 52, 53, 54, 55, 56] (by decide +kernel) (by decide +kernel)
set_option maxRecDepth 20000 in
theorem gX5_finish_X5_fail : GoodIn wsX5_finish (wsV RX5 106 RX5 yX5_fail wsX5_fail) := goodIn_app (goodIn_of _ (by decide +kernel)) ggX5_finish_X5_fail
set_option maxRecDepth 20000 in
theorem ggX5_finish_X5_keepTerm : GoodIn wsX5_finish wsX5_keepTerm := goodIn_r _ [16, 6, 7, 17, 18, 19, 4, 20, 21, 22, 23, 24, 25, 26, 8, 9, 10, 11, 12, 27, 28, 29, 30, 31, 32, 33, 34, 35, 36, 37, 38, 39, 40, 41, 42, 43, 44, 45, 46, 47, 48, 49, 50, 51, 52, 53, 54, 55, 56] (by decide +kernel) (by decide +kernel)
set_option maxRecDepth 20000 in
theorem gX5_finish_X5_keepTerm : GoodIn wsX5_finish (wsV RX5 145 RX5 yX5_keepTerm wsX5_keepTerm) := goodIn_app (goodIn_of _ (by decide +kernel)) ggX5_finish_X5_keepTerm
theorem dX5_finish_0 : decode cX5_finish 0 = .ok (.aload_n 0, 1) := by decide +kernel
theorem dX5_finish_1 : decode cX5_finish 1 = .ok (.iload_n 1, 1) := by decide +kernel
theorem dX5_finish_2 : decode cX5_finish 2 = .ok (.invokevirtual 142, 3) := by decide +kernel
theorem dX5_finish_5 : decode cX5_finish 5 = .ok (.ifCond .eq 11, 3) := by decide +kernel
theorem dX5_finish_8 : decode cX5_finish 8 = .ok (.aload_n 0, 1) := by decide +kernel
theorem dX5_finish_9 : decode cX5_finish 9 = .ok (.iload_n 2, 1) := by decide +kernel
theorem dX5_finish_10 : decode cX5_finish 10 = .ok (.invokevirtual 106, 3) := by decide +kernel
theorem dX5_finish_13 : decode cX5_finish 13 = .ok (.goto 9, 3) := by decide +kernel
theorem dX5_finish_16 : decode cX5_finish 16 = .ok (.aload_n 0, 1) := by decide +kernel
theorem dX5_finish_17 : decode cX5_finish 17 = .ok (.iload_n 1, 1) := by decide +kernel
theorem dX5_finish_18 : decode cX5_finish 18 = .ok (.iload_n 2, 1) := by decide +kernel
theorem dX5_finish_19 : decode cX5_finish 19 = .ok (.invokevirtual 145, 3) := by decide +kernel
theorem dX5_finish_22 : decode cX5_finish 22 = .ok (.ireturn, 1) := by decide +kernel
set_option maxRecDepth 20000 in
theorem ggX5_free_X5_outside : GoodIn wsX5_free wsX5_outside := goodIn_r _ [9] (by decide +kernel) (by decide +kernel)
set_option maxRecDepth 20000 in
theorem gX5_free_X5_outside : GoodIn wsX5_free (va_wsS RX5 88 yX5_outside wsX5_outside) := goodIn_app (goodIn_of _ (by decide +kernel)) ggX5_free_X5_outside
set_option maxRecDepth 20000 in
theorem ggX5_free_X5_write : GoodIn wsX5_free wsX5_write := goodIn_r _ [13, 3, 4, 14, 15, 41, 42, 43, 44, 45, 46, 47, 48, 49, 50, 51, 52, 53, 54, 55, 56, 57, 58, 59, 60, 61, 62, 63, 64, 65, 66, 67, 68, 69, 70] (by decide +kernel) (by decide +kernel)
set_option maxRecDepth 20000 in
theorem gX5_free_X5_write : GoodIn wsX5_free (wsV RX5 139 RX5 yX5_write wsX5_write) := goodIn_app (goodIn_of _ (by decide +kernel)) ggX5_free_X5_write
set_option maxRecDepth 20000 in
theorem ggX5_free_X5_finish : GoodIn wsX5_free wsX5_finish := goodIn_r _ [19, 20, 21, 22, 8, 23, 3, 4, 24, 25, 26, 27, 2, 28, 29, 30, 31, 32, 33, 34, 35, 36, 14, 37, 38, 39, 40, 41, 42, 43, 44, 45, 46, 47, 48, 49, 50, 51, 52, 53, 54, 55, 56, 57, 58, 59, 60, 61, 62, 63, 64, 65, 66, 67, 68, 69, 70] (by decide +kernel) (by decide +kernel)
set_option maxRecDepth 20000 in
theorem gX5_free_X5_finish : GoodIn wsX5_free (wsV RX5 148 RX5 yX5_finish wsX5_finish) := goodIn_app (goodIn_of _ (by decide +kernel)) ggX5_free_X5_finish
theorem dX5_free_0 : decode cX5_free 0 = .ok (.aload_n 0, 1) := by decide +kernel
theorem dX5_free_1 : decode cX5_free 1 = .ok (.iload_n 2, 1) := by decide +kernel
theorem dX5_free_2 : decode cX5_free 2 = .ok (.aload_n 0, 1) := by decide +kernel
theorem dX5_free_3 : decode cX5_free 3 = .ok (.getfield 110, 3) := by decide +kernel
theorem dX5_free_6 : decode cX5_free 6 = .ok (.invokestatic 88, 3) := by decide +kernel
theorem dX5_free_9 : decode cX5_free 9 = .ok (.ifCond .eq 7, 3) := by decide +kernel
theorem dX5_free_12 : decode cX5_free 12 = .ok (.iconst 1, 1) := by decide +kernel
theorem dX5_free_13 : decode cX5_free 13 = .ok (.goto 18, 3) := by decide +kernel
theorem dX5_free_16 : decode cX5_free 16 = .ok (.iload_n 1, 1) := by decide +kernel
theorem dX5_free_17 : decode cX5_free 17 = .ok (.sipush 1000, 3) := by decide +kernel
theorem dX5_free_20 : decode cX5_free 20 = .ok (.invokestatic 88, 3) := by decide +kernel
theorem dX5_free_23 : decode cX5_free 23 = .ok (.ifCond .eq 7, 3) := by decide +kernel
theorem dX5_free_26 : decode cX5_free 26 = .ok (.iconst 2, 1) := by decide +kernel
theorem dX5_free_27 : decode cX5_free 27 = .ok (.goto 4, 3) := by decide +kernel
theorem dX5_free_30 : decode cX5_free 30 = .ok (.iconst 0, 1) := by decide +kernel
theorem dX5_free_31 : decode cX5_free 31 = .ok (.putfield 85, 3) := by decide +kernel
theorem dX5_free_34 : decode cX5_free 34 = .ok (.aload_n 0, 1) := by decide +kernel
theorem dX5_free_35 : decode cX5_free 35 = .ok (.getfield 85, 3) := by decide +kernel
theorem dX5_free_38 : decode cX5_free 38 = .ok (.ifCond .le 5, 3) := by decide +kernel
theorem dX5_free_41 : decode cX5_free 41 = .ok (.iconst 0, 1) := by decide +kernel
theorem dX5_free_42 : decode cX5_free 42 = .ok (.ireturn, 1) := by decide +kernel
theorem dX5_free_43 : decode cX5_free 43 = .ok (.aload_n 0, 1) := by decide +kernel
theorem dX5_free_44 : decode cX5_free 44 = .ok (.aload_n 0, 1) := by decide +kernel
theorem dX5_free_45 : decode cX5_free 45 = .ok (.aload_n 0, 1) := by decide +kernel
theorem dX5_free_46 : decode cX5_free 46 = .ok (.getfield 51, 3) := by decide +kernel
theorem dX5_free_49 : decode cX5_free 49 = .ok (.aload_n 0, 1) := by decide +kernel
theorem dX5_free_50 : decode cX5_free 50 = .ok (.getfield 130, 3) := by decide +kernel
theorem dX5_free_53 : decode cX5_free 53 = .ok (.iaload, 1) := by decide +kernel
theorem dX5_free_54 : decode cX5_free 54 = .ok (.iconst 4, 1) := by decide +kernel
theorem dX5_free_55 : decode cX5_free 55 = .ok (.iload_n 1, 1) := by decide +kernel
theorem dX5_free_56 : decode cX5_free 56 = .ok (.imul, 1) := by decide +kernel
theorem dX5_free_57 : decode cX5_free 57 = .ok (.iconst 1, 1) := by decide +kernel
theorem dX5_free_58 : decode cX5_free 58 = .ok (.iadd, 1) := by decide +kernel
theorem dX5_free_59 : decode cX5_free 59 = .ok (.aload_n 0, 1) := by decide +kernel
theorem dX5_free_60 : decode cX5_free 60 = .ok (.getfield 41, 3) := by decide +kernel
theorem dX5_free_63 : decode cX5_free 63 = .ok (.iload_n 2, 1) := by decide +kernel
theorem dX5_free_64 : decode cX5_free 64 = .ok (.iaload, 1) := by decide +kernel
theorem dX5_free_65 : decode cX5_free 65 = .ok (.invokevirtual 139, 3) := by decide +kernel
theorem dX5_free_68 : decode cX5_free 68 = .ok (.iconst 3, 1) := by decide +kernel
theorem dX5_free_69 : decode cX5_free 69 = .ok (.invokevirtual 148, 3) := by decide +kernel
theorem dX5_free_72 : decode cX5_free 72 = .ok (.ireturn, 1) := by decide +kernel
set_option maxRecDepth 20000 in
theorem ggX5_constant_X5_outside : GoodIn wsX5_constant wsX5_outside := goodIn_r _ [11] (by decide +kernel) (by decide +kernel)
set_option maxRecDepth 20000 in
theorem gX5_constant_X5_outside : GoodIn wsX5_constant (va_wsS RX5 88 yX5_outside wsX5_outside) := goodIn_app (goodIn_of _ (by decide +kernel)) ggX5_constant_X5_outside
set_option maxRecDepth 20000 in
theorem ggX5_constant_X5_fail : GoodIn wsX5_constant wsX5_fail := goodIn_r _ [15, 1, 57, 58, 59, 60, 61, 62, 63, 64, 65, 66, 67, 68, 69, 70, 71, 72, 73, 74, 75, 76, 77, 78, 79, 80, 81, 82, 83, 84, 85, 86] (by decide +kernel) (by decide +kernel)
set_option maxRecDepth 20000 in
theorem gX5_constant_X5_fail : GoodIn wsX5_constant (wsV RX5 106 RX5 yX5_fail wsX5_fail) := goodIn_app (goodIn_of _ (by decide +kernel)) ggX5_constant_X5_fail
set_option maxRecDepth 20000 in
theorem ggX5_constant_X5_freeTypes : GoodIn wsX5_constant wsX5_freeTypes := goodIn_r _ [19, 20, 57, 58, 59, 60, 61, 62, 63, 64, 65, 66, 67, 68, 69, 70, 71, 72, 73, 74, 75, 76, 77, 78, 79, 80, 81, 82, 83, 84, 85, 86] (by decide +kernel) (by decide +kernel)
set_option maxRecDepth 20000 in
theorem gX5_constant_X5_freeTypes : GoodIn wsX5_constant (wsV RX5 151 RX5 yX5_freeTypes wsX5_freeTypes) := goodIn_app (goodIn_of _ (by decide +kernel)) ggX5_constant_X5_freeTypes
set_option maxRecDepth 20000 in
theorem ggX5_constant_X5_fits : GoodIn wsX5_constant wsX5_fits := goodIn_r _ [24, 25, 26, 27, 20, 28, 29, 57, 58, 59, 60, 61, 62, 63, 64, 65, 66, 67, 68, 69, 70, 71, 72, 73, 74, 75, 76, 77, 78, 79, 80, 81, 82, 83, 84, 85, 86] (by decide +kernel) (by decide +kernel)
set_option maxRecDepth 20000 in
theorem gX5_constant_X5_fits : GoodIn wsX5_constant (wsV RX5 154 RX5 yX5_fits wsX5_fits) := goodIn_app (goodIn_of _ (by decide +kernel)) ggX5_constant_X5_fits
set_option maxRecDepth 20000 in
theorem ggX5_constant_X5_write : GoodIn wsX5_constant wsX5_write := goodIn_r _ [33, 6, 7, 34, 35, 57, 58, 59, 60, 61, 62, 63, 64, 65, 66, 67, 68, 69, 70, 71, 72, 73, 74, 75, 76, 77, 78, 79, 80, 81, 82, 83, 84, 85, 86] (by decide +kernel) (by decide +kernel)
set_option maxRecDepth 20000 in
theorem gX5_constant_X5_write : GoodIn wsX5_constant (wsV RX5 139 RX5 yX5_write wsX5_write) := goodIn_app (goodIn_of _ (by decide +kernel)) ggX5_constant_X5_write
set_option maxRecDepth 20000 in
theorem ggX5_constant_X5_finish : GoodIn wsX5_constant wsX5_finish := goodIn_r _ [39, 40, 41, 42, 10, 43, 6, 7, 12, 13, 14, 15, 1, 44, 45, 46, 47, 48, 49, 50, 51, 52, 34, 53, 54, 55, 56, 57, 58, 59, 60, 61, 62, 63, 64, 65, 66, 67, 68, 69, 70, 71, 72, 73, 74, 75, 76, 77, 78, 79, 80, 81, 82, 83, 84, 85, 86] (by decide +kernel) (by decide +kernel)
set_option maxRecDepth 20000 in
theorem gX5_constant_X5_finish : GoodIn wsX5_constant (wsV RX5 148 RX5 yX5_finish wsX5_finish) := goodIn_app (goodIn_of _ (by decide +kernel)) ggX5_constant_X5_finish
theorem dX5_constant_0 : decode cX5_constant 0 = .ok (.aload_n 0, 1) := by decide +kernel
theorem dX5_constant_1 : decode cX5_constant 1 = .ok (.iconst 0, 1) := by decide +kernel
theorem dX5_constant_2 : decode cX5_constant 2 = .ok (.putfield 85, 3) := by decide +kernel
theorem dX5_constant_5 : decode cX5_constant 5 = .ok (.iload_n 2, 1) := by decide +kernel
theorem dX5_constant_6 : decode cX5_constant 6 = .ok (.aload_n 0, 1) := by decide +kernel
theorem dX5_constant_7 : decode cX5_constant 7 = .ok (.getfield 110, 3) := by decide +kernel
theorem dX5_constant_10 : decode cX5_constant 10 = .ok (.invokestatic 88, 3) := by decide +kernel
theorem dX5_constant_13 : decode cX5_constant 13 = .ok (.ifCond .eq 9, 3) := by decide +kernel
theorem dX5_constant_16 : decode cX5_constant 16 = .ok (.aload_n 0, 1) := by decide +kernel
theorem dX5_constant_17 : decode cX5_constant 17 = .ok (.iconst 1, 1) := by decide +kernel
theorem dX5_constant_18 : decode cX5_constant 18 = .ok (.invokevirtual 106, 3) := by decide +kernel
theorem dX5_constant_21 : decode cX5_constant 21 = .ok (.ireturn, 1) := by decide +kernel
theorem dX5_constant_22 : decode cX5_constant 22 = .ok (.iload_n 1, 1) := by decide +kernel
theorem dX5_constant_23 : decode cX5_constant 23 = .ok (.aload_n 0, 1) := by decide +kernel
theorem dX5_constant_24 : decode cX5_constant 24 = .ok (.getfield 124, 3) := by decide +kernel
theorem dX5_constant_27 : decode cX5_constant 27 = .ok (.invokestatic 88, 3) := by decide +kernel
theorem dX5_constant_30 : decode cX5_constant 30 = .ok (.ifCond .eq 9, 3) := by decide +kernel
theorem dX5_constant_33 : decode cX5_constant 33 = .ok (.aload_n 0, 1) := by decide +kernel
theorem dX5_constant_34 : decode cX5_constant 34 = .ok (.iconst 2, 1) := by decide +kernel
theorem dX5_constant_35 : decode cX5_constant 35 = .ok (.invokevirtual 106, 3) := by decide +kernel
theorem dX5_constant_38 : decode cX5_constant 38 = .ok (.ireturn, 1) := by decide +kernel
theorem dX5_constant_39 : decode cX5_constant 39 = .ok (.aload_n 0, 1) := by decide +kernel
theorem dX5_constant_40 : decode cX5_constant 40 = .ok (.invokevirtual 151, 3) := by decide +kernel
theorem dX5_constant_43 : decode cX5_constant 43 = .ok (.aload_n 0, 1) := by decide +kernel
theorem dX5_constant_44 : decode cX5_constant 44 = .ok (.aload_n 0, 1) := by decide +kernel
theorem dX5_constant_45 : decode cX5_constant 45 = .ok (.getfield 17, 3) := by decide +kernel
theorem dX5_constant_48 : decode cX5_constant 48 = .ok (.iload_n 1, 1) := by decide +kernel
theorem dX5_constant_49 : decode cX5_constant 49 = .ok (.iaload, 1) := by decide +kernel
theorem dX5_constant_50 : decode cX5_constant 50 = .ok (.aload_n 0, 1) := by decide +kernel
theorem dX5_constant_51 : decode cX5_constant 51 = .ok (.getfield 41, 3) := by decide +kernel
theorem dX5_constant_54 : decode cX5_constant 54 = .ok (.iload_n 2, 1) := by decide +kernel
theorem dX5_constant_55 : decode cX5_constant 55 = .ok (.iaload, 1) := by decide +kernel
theorem dX5_constant_56 : decode cX5_constant 56 = .ok (.invokevirtual 154, 3) := by decide +kernel
theorem dX5_constant_59 : decode cX5_constant 59 = .ok (.ifCond .ne 9, 3) := by decide +kernel
theorem dX5_constant_62 : decode cX5_constant 62 = .ok (.aload_n 0, 1) := by decide +kernel
theorem dX5_constant_63 : decode cX5_constant 63 = .ok (.iconst 2, 1) := by decide +kernel
theorem dX5_constant_64 : decode cX5_constant 64 = .ok (.invokevirtual 106, 3) := by decide +kernel
theorem dX5_constant_67 : decode cX5_constant 67 = .ok (.ireturn, 1) := by decide +kernel
theorem dX5_constant_68 : decode cX5_constant 68 = .ok (.aload_n 0, 1) := by decide +kernel
theorem dX5_constant_69 : decode cX5_constant 69 = .ok (.aload_n 0, 1) := by decide +kernel
theorem dX5_constant_70 : decode cX5_constant 70 = .ok (.aload_n 0, 1) := by decide +kernel
theorem dX5_constant_71 : decode cX5_constant 71 = .ok (.getfield 51, 3) := by decide +kernel
theorem dX5_constant_74 : decode cX5_constant 74 = .ok (.aload_n 0, 1) := by decide +kernel
theorem dX5_constant_75 : decode cX5_constant 75 = .ok (.getfield 130, 3) := by decide +kernel
theorem dX5_constant_78 : decode cX5_constant 78 = .ok (.iaload, 1) := by decide +kernel
theorem dX5_constant_79 : decode cX5_constant 79 = .ok (.iconst 4, 1) := by decide +kernel
theorem dX5_constant_80 : decode cX5_constant 80 = .ok (.iload_n 1, 1) := by decide +kernel
theorem dX5_constant_81 : decode cX5_constant 81 = .ok (.imul, 1) := by decide +kernel
theorem dX5_constant_82 : decode cX5_constant 82 = .ok (.iconst 2, 1) := by decide +kernel
theorem dX5_constant_83 : decode cX5_constant 83 = .ok (.iadd, 1) := by decide +kernel
theorem dX5_constant_84 : decode cX5_constant 84 = .ok (.aload_n 0, 1) := by decide +kernel
theorem dX5_constant_85 : decode cX5_constant 85 = .ok (.getfield 41, 3) := by decide +kernel
theorem dX5_constant_88 : decode cX5_constant 88 = .ok (.iload_n 2, 1) := by decide +kernel
theorem dX5_constant_89 : decode cX5_constant 89 = .ok (.iaload, 1) := by decide +kernel
theorem dX5_constant_90 : decode cX5_constant 90 = .ok (.invokevirtual 139, 3) := by decide +kernel
theorem dX5_constant_93 : decode cX5_constant 93 = .ok (.iconst 3, 1) := by decide +kernel
theorem dX5_constant_94 : decode cX5_constant 94 = .ok (.invokevirtual 148, 3) := by decide +kernel
theorem dX5_constant_97 : decode cX5_constant 97 = .ok (.ireturn, 1) := by decide +kernel
set_option maxRecDepth 20000 in
theorem ggX5_apply_X5_isTerm : GoodIn wsX5_apply wsX5_isTerm := goodIn_r _ [11, 5, 12, 13, 10, 14, 57, 58, 59, 60, 61, 62, 63, 64, 65, 66, 67, 68, 69, 70, 71, 72, 73, 74, 75, 76, 77, 78, 79, 80, 81, 82, 83, 84, 85, 86] (by decide +kernel) (by decide +kernel)
set_option maxRecDepth 20000 in
theorem gX5_apply_X5_isTerm : GoodIn wsX5_apply (wsV RX5 157 RX5 yX5_isTerm wsX5_isTerm) := goodIn_app (goodIn_of _ (by decide +kernel)) ggX5_apply_X5_isTerm
set_option maxRecDepth 20000 in
theorem ggX5_apply_X5_fail : GoodIn wsX5_apply wsX5_fail := goodIn_r _ [18, 1, 57, 58, 59, 60, 61, 62, 63, 64, 65, 66, 67, 68, 69, 70, 71, 72, 73, 74, 75, 76, 77, 78, 79, 80, 81, 82, 83, 84, 85, 86] (by decide +kernel) (by decide +kernel)
set_option maxRecDepth 20000 in
theorem gX5_apply_X5_fail : GoodIn wsX5_apply (wsV RX5 106 RX5 yX5_fail wsX5_fail) := goodIn_app (goodIn_of _ (by decide +kernel)) ggX5_apply_X5_fail
set_option maxRecDepth 20000 in
theorem ggX5_apply_X5_topType : GoodIn wsX5_apply wsX5_topType := goodIn_r _ [22, 23, 4, 57, 58, 59, 60, 61, 62, 63, 64, 65, 66, 67, 68, 69, 70, 71, 72, 73, 74, 75, 76, 77, 78, 79, 80, 81, 82, 83, 84, 85, 86] (by decide +kernel) (by decide +kernel)
set_option maxRecDepth 20000 in
theorem gX5_apply_X5_topType : GoodIn wsX5_apply (wsV RX5 160 RX5 yX5_topType wsX5_topType) := goodIn_app (goodIn_of _ (by decide +kernel)) ggX5_apply_X5_topType
set_option maxRecDepth 20000 in
theorem ggX5_apply_X5_areSameTypes : GoodIn wsX5_apply wsX5_areSameTypes := goodIn_r _ [26] (by decide +kernel) (by decide +kernel)
set_option maxRecDepth 20000 in
theorem gX5_apply_X5_areSameTypes : GoodIn wsX5_apply (va_wsS RX5 163 yX5_areSameTypes wsX5_areSameTypes) := goodIn_app (goodIn_of _ (by decide +kernel)) ggX5_apply_X5_areSameTypes
set_option maxRecDepth 20000 in
theorem ggX5_apply_X5_write : GoodIn wsX5_apply wsX5_write := goodIn_r _ [30, 4, 5, 31, 23, 57, 58, 59, 60, 61, 62, 63, 64, 65, 66, 67, 68, 69, 70, 71, 72, 73, 74, 75, 76, 77, 78, 79, 80, 81, 82, 83, 84, 85, 86] (by decide +kernel) (by decide +kernel)
set_option maxRecDepth 20000 in
theorem gX5_apply_X5_write : GoodIn wsX5_apply (wsV RX5 139 RX5 yX5_write wsX5_write) := goodIn_app (goodIn_of _ (by decide +kernel)) ggX5_apply_X5_write
set_option maxRecDepth 20000 in
theorem ggX5_apply_X5_copy : GoodIn wsX5_apply wsX5_copy := goodIn_r _ [35, 31, 23, 27, 28, 29, 10, 30, 4, 5, 57, 58, 59, 60, 61, 62, 63, 64, 65, 66, 67, 68, 69, 70, 71, 72, 73, 74, 75, 76, 77, 78, 79, 80, 81, 82, 83, 84, 85, 86] (by decide +kernel) (by decide +kernel)
set_option maxRecDepth 20000 in
theorem gX5_apply_X5_copy : GoodIn wsX5_apply (wsV RX5 166 RX5 yX5_copy wsX5_copy) := goodIn_app (goodIn_of _ (by decide +kernel)) ggX5_apply_X5_copy
set_option maxRecDepth 20000 in
theorem ggX5_apply_X5_finish : GoodIn wsX5_apply wsX5_finish := goodIn_r _ [39, 40, 41, 42, 10, 43, 4, 5, 15, 16, 17, 18, 1, 44, 45, 46, 47, 48, 49, 50, 51, 52, 31, 53, 54, 55, 56, 57, 58, 59, 60, 61, 62, 63, 64, 65, 66, 67, 68, 69, 70, 71, 72, 73, 74, 75, 76, 77, 78, 79, 80, 81, 82, 83, 84, 85, 86] (by decide +kernel) (by decide +kernel)
set_option maxRecDepth 20000 in
theorem gX5_apply_X5_finish : GoodIn wsX5_apply (wsV RX5 148 RX5 yX5_finish wsX5_finish) := goodIn_app (goodIn_of _ (by decide +kernel)) ggX5_apply_X5_finish
theorem dX5_apply_0 : decode cX5_apply 0 = .ok (.aload_n 0, 1) := by decide +kernel
theorem dX5_apply_1 : decode cX5_apply 1 = .ok (.iconst 0, 1) := by decide +kernel
theorem dX5_apply_2 : decode cX5_apply 2 = .ok (.putfield 85, 3) := by decide +kernel
theorem dX5_apply_5 : decode cX5_apply 5 = .ok (.aload_n 0, 1) := by decide +kernel
theorem dX5_apply_6 : decode cX5_apply 6 = .ok (.iload_n 1, 1) := by decide +kernel
theorem dX5_apply_7 : decode cX5_apply 7 = .ok (.invokevirtual 157, 3) := by decide +kernel
theorem dX5_apply_10 : decode cX5_apply 10 = .ok (.ifCond .eq 11, 3) := by decide +kernel
theorem dX5_apply_13 : decode cX5_apply 13 = .ok (.aload_n 0, 1) := by decide +kernel
theorem dX5_apply_14 : decode cX5_apply 14 = .ok (.iload_n 2, 1) := by decide +kernel
theorem dX5_apply_15 : decode cX5_apply 15 = .ok (.invokevirtual 157, 3) := by decide +kernel
theorem dX5_apply_18 : decode cX5_apply 18 = .ok (.ifCond .ne 9, 3) := by decide +kernel
theorem dX5_apply_21 : decode cX5_apply 21 = .ok (.aload_n 0, 1) := by decide +kernel
theorem dX5_apply_22 : decode cX5_apply 22 = .ok (.iconst 1, 1) := by decide +kernel
theorem dX5_apply_23 : decode cX5_apply 23 = .ok (.invokevirtual 106, 3) := by decide +kernel
theorem dX5_apply_26 : decode cX5_apply 26 = .ok (.ireturn, 1) := by decide +kernel
theorem dX5_apply_27 : decode cX5_apply 27 = .ok (.aload_n 0, 1) := by decide +kernel
theorem dX5_apply_28 : decode cX5_apply 28 = .ok (.iload_n 1, 1) := by decide +kernel
theorem dX5_apply_29 : decode cX5_apply 29 = .ok (.invokevirtual 160, 3) := by decide +kernel
theorem dX5_apply_32 : decode cX5_apply 32 = .ok (.istore_n 3, 1) := by decide +kernel
theorem dX5_apply_33 : decode cX5_apply 33 = .ok (.aload_n 0, 1) := by decide +kernel
theorem dX5_apply_34 : decode cX5_apply 34 = .ok (.getfield 20, 3) := by decide +kernel
theorem dX5_apply_37 : decode cX5_apply 37 = .ok (.iload_n 3, 1) := by decide +kernel
theorem dX5_apply_38 : decode cX5_apply 38 = .ok (.iaload, 1) := by decide +kernel
theorem dX5_apply_39 : decode cX5_apply 39 = .ok (.iconst 2, 1) := by decide +kernel
theorem dX5_apply_40 : decode cX5_apply 40 = .ok (.if_icmp .ne 20, 3) := by decide +kernel
theorem dX5_apply_43 : decode cX5_apply 43 = .ok (.aload_n 0, 1) := by decide +kernel
theorem dX5_apply_44 : decode cX5_apply 44 = .ok (.getfield 23, 3) := by decide +kernel
theorem dX5_apply_47 : decode cX5_apply 47 = .ok (.iload_n 3, 1) := by decide +kernel
theorem dX5_apply_48 : decode cX5_apply 48 = .ok (.iaload, 1) := by decide +kernel
theorem dX5_apply_49 : decode cX5_apply 49 = .ok (.aload_n 0, 1) := by decide +kernel
theorem dX5_apply_50 : decode cX5_apply 50 = .ok (.iload_n 2, 1) := by decide +kernel
theorem dX5_apply_51 : decode cX5_apply 51 = .ok (.invokevirtual 160, 3) := by decide +kernel
theorem dX5_apply_54 : decode cX5_apply 54 = .ok (.invokestatic 163, 3) := by decide +kernel
theorem dX5_apply_57 : decode cX5_apply 57 = .ok (.ifCond .ne 9, 3) := by decide +kernel
theorem dX5_apply_60 : decode cX5_apply 60 = .ok (.aload_n 0, 1) := by decide +kernel
theorem dX5_apply_61 : decode cX5_apply 61 = .ok (.iconst 2, 1) := by decide +kernel
theorem dX5_apply_62 : decode cX5_apply 62 = .ok (.invokevirtual 106, 3) := by decide +kernel
theorem dX5_apply_65 : decode cX5_apply 65 = .ok (.ireturn, 1) := by decide +kernel
theorem dX5_apply_66 : decode cX5_apply 66 = .ok (.aload_n 0, 1) := by decide +kernel
theorem dX5_apply_67 : decode cX5_apply 67 = .ok (.aload_n 0, 1) := by decide +kernel
theorem dX5_apply_68 : decode cX5_apply 68 = .ok (.getfield 51, 3) := by decide +kernel
theorem dX5_apply_71 : decode cX5_apply 71 = .ok (.aload_n 0, 1) := by decide +kernel
theorem dX5_apply_72 : decode cX5_apply 72 = .ok (.getfield 130, 3) := by decide +kernel
theorem dX5_apply_75 : decode cX5_apply 75 = .ok (.iaload, 1) := by decide +kernel
theorem dX5_apply_76 : decode cX5_apply 76 = .ok (.iconst (-1), 1) := by decide +kernel
theorem dX5_apply_77 : decode cX5_apply 77 = .ok (.aload_n 0, 1) := by decide +kernel
theorem dX5_apply_78 : decode cX5_apply 78 = .ok (.getfield 26, 3) := by decide +kernel
theorem dX5_apply_81 : decode cX5_apply 81 = .ok (.iload_n 3, 1) := by decide +kernel
theorem dX5_apply_82 : decode cX5_apply 82 = .ok (.iaload, 1) := by decide +kernel
theorem dX5_apply_83 : decode cX5_apply 83 = .ok (.invokevirtual 139, 3) := by decide +kernel
theorem dX5_apply_86 : decode cX5_apply 86 = .ok (.istore 4, 2) := by decide +kernel
theorem dX5_apply_88 : decode cX5_apply 88 = .ok (.aload_n 0, 1) := by decide +kernel
theorem dX5_apply_89 : decode cX5_apply 89 = .ok (.iload 4, 2) := by decide +kernel
theorem dX5_apply_91 : decode cX5_apply 91 = .ok (.aload_n 0, 1) := by decide +kernel
theorem dX5_apply_92 : decode cX5_apply 92 = .ok (.getfield 51, 3) := by decide +kernel
theorem dX5_apply_95 : decode cX5_apply 95 = .ok (.iload_n 1, 1) := by decide +kernel
theorem dX5_apply_96 : decode cX5_apply 96 = .ok (.iaload, 1) := by decide +kernel
theorem dX5_apply_97 : decode cX5_apply 97 = .ok (.aload_n 0, 1) := by decide +kernel
theorem dX5_apply_98 : decode cX5_apply 98 = .ok (.getfield 51, 3) := by decide +kernel
theorem dX5_apply_101 : decode cX5_apply 101 = .ok (.iload_n 1, 1) := by decide +kernel
theorem dX5_apply_102 : decode cX5_apply 102 = .ok (.iconst 1, 1) := by decide +kernel
theorem dX5_apply_103 : decode cX5_apply 103 = .ok (.iadd, 1) := by decide +kernel
theorem dX5_apply_104 : decode cX5_apply 104 = .ok (.iaload, 1) := by decide +kernel
theorem dX5_apply_105 : decode cX5_apply 105 = .ok (.invokevirtual 166, 3) := by decide +kernel
theorem dX5_apply_108 : decode cX5_apply 108 = .ok (.istore 4, 2) := by decide +kernel
theorem dX5_apply_110 : decode cX5_apply 110 = .ok (.aload_n 0, 1) := by decide +kernel
theorem dX5_apply_111 : decode cX5_apply 111 = .ok (.aload_n 0, 1) := by decide +kernel
theorem dX5_apply_112 : decode cX5_apply 112 = .ok (.iload 4, 2) := by decide +kernel
theorem dX5_apply_114 : decode cX5_apply 114 = .ok (.aload_n 0, 1) := by decide +kernel
theorem dX5_apply_115 : decode cX5_apply 115 = .ok (.getfield 51, 3) := by decide +kernel
theorem dX5_apply_118 : decode cX5_apply 118 = .ok (.iload_n 2, 1) := by decide +kernel
theorem dX5_apply_119 : decode cX5_apply 119 = .ok (.iaload, 1) := by decide +kernel
theorem dX5_apply_120 : decode cX5_apply 120 = .ok (.aload_n 0, 1) := by decide +kernel
theorem dX5_apply_121 : decode cX5_apply 121 = .ok (.getfield 51, 3) := by decide +kernel
theorem dX5_apply_124 : decode cX5_apply 124 = .ok (.iload_n 2, 1) := by decide +kernel
theorem dX5_apply_125 : decode cX5_apply 125 = .ok (.iconst 1, 1) := by decide +kernel
theorem dX5_apply_126 : decode cX5_apply 126 = .ok (.iadd, 1) := by decide +kernel
theorem dX5_apply_127 : decode cX5_apply 127 = .ok (.iaload, 1) := by decide +kernel
theorem dX5_apply_128 : decode cX5_apply 128 = .ok (.invokevirtual 166, 3) := by decide +kernel
theorem dX5_apply_131 : decode cX5_apply 131 = .ok (.iconst 3, 1) := by decide +kernel
theorem dX5_apply_132 : decode cX5_apply 132 = .ok (.invokevirtual 148, 3) := by decide +kernel
theorem dX5_apply_135 : decode cX5_apply 135 = .ok (.ireturn, 1) := by decide +kernel
set_option maxRecDepth 20000 in
theorem ggX5_isVariable_X5_areSameTypes : GoodIn wsX5_isVariable wsX5_areSameTypes := goodIn_r _ [6] (by decide +kernel) (by decide +kernel)
set_option maxRecDepth 20000 in
theorem gX5_isVariable_X5_areSameTypes : GoodIn wsX5_isVariable (va_wsS RX5 163 yX5_areSameTypes wsX5_areSameTypes) := goodIn_app (goodIn_of _ (by decide +kernel)) ggX5_isVariable_X5_areSameTypes
theorem dX5_isVariable_0 : decode cX5_isVariable 0 = .ok (.aload_n 0, 1) := by decide +kernel
theorem dX5_isVariable_1 : decode cX5_isVariable 1 = .ok (.getfield 55, 3) := by decide +kernel
theorem dX5_isVariable_4 : decode cX5_isVariable 4 = .ok (.iload_n 1, 1) := by decide +kernel
theorem dX5_isVariable_5 : decode cX5_isVariable 5 = .ok (.iaload, 1) := by decide +kernel
theorem dX5_isVariable_6 : decode cX5_isVariable 6 = .ok (.iload_n 2, 1) := by decide +kernel
theorem dX5_isVariable_7 : decode cX5_isVariable 7 = .ok (.if_icmp .ne 20, 3) := by decide +kernel
theorem dX5_isVariable_10 : decode cX5_isVariable 10 = .ok (.aload_n 0, 1) := by decide +kernel
theorem dX5_isVariable_11 : decode cX5_isVariable 11 = .ok (.getfield 58, 3) := by decide +kernel
theorem dX5_isVariable_14 : decode cX5_isVariable 14 = .ok (.iload_n 1, 1) := by decide +kernel
theorem dX5_isVariable_15 : decode cX5_isVariable 15 = .ok (.iaload, 1) := by decide +kernel
theorem dX5_isVariable_16 : decode cX5_isVariable 16 = .ok (.iload_n 3, 1) := by decide +kernel
theorem dX5_isVariable_17 : decode cX5_isVariable 17 = .ok (.invokestatic 163, 3) := by decide +kernel
theorem dX5_isVariable_20 : decode cX5_isVariable 20 = .ok (.ifCond .eq 7, 3) := by decide +kernel
theorem dX5_isVariable_23 : decode cX5_isVariable 23 = .ok (.iconst 1, 1) := by decide +kernel
theorem dX5_isVariable_24 : decode cX5_isVariable 24 = .ok (.goto 4, 3) := by decide +kernel
theorem dX5_isVariable_27 : decode cX5_isVariable 27 = .ok (.iconst 0, 1) := by decide +kernel
theorem dX5_isVariable_28 : decode cX5_isVariable 28 = .ok (.ireturn, 1) := by decide +kernel
set_option maxRecDepth 20000 in
theorem ggX5_abstraction_X5_isTerm : GoodIn wsX5_abstraction wsX5_isTerm := goodIn_r _ [12, 5, 13, 14, 11, 15, 85, 86, 87, 88, 89, 90, 91, 92, 93, 94, 95, 96, 97, 98, 99, 100, 101, 102, 103, 104, 105, 106, 107, 108, 109, 110, 111, 112, 113, 114] (by decide +kernel) (by decide +kernel)
set_option maxRecDepth 20000 in
theorem gX5_abstraction_X5_isTerm : GoodIn wsX5_abstraction (wsV RX5 157 RX5 yX5_isTerm wsX5_isTerm) := goodIn_app (goodIn_of _ (by decide +kernel)) ggX5_abstraction_X5_isTerm
set_option maxRecDepth 20000 in
theorem ggX5_abstraction_X5_fail : GoodIn wsX5_abstraction wsX5_fail := goodIn_r _ [19, 1, 85, 86, 87, 88, 89, 90, 91, 92, 93, 94, 95, 96, 97, 98, 99, 100, 101, 102, 103, 104, 105, 106, 107, 108, 109, 110, 111, 112, 113, 114] (by decide +kernel) (by decide +kernel)
set_option maxRecDepth 20000 in
theorem gX5_abstraction_X5_fail : GoodIn wsX5_abstraction (wsV RX5 106 RX5 yX5_fail wsX5_fail) := goodIn_app (goodIn_of _ (by decide +kernel)) ggX5_abstraction_X5_fail
set_option maxRecDepth 20000 in
theorem ggX5_abstraction_X5_isFree : GoodIn wsX5_abstraction wsX5_isFree := goodIn_r _ [23, 2, 3, 24, 25, 26, 11, 27, 85, 86, 87, 88, 89, 90, 91, 92, 93, 94, 95, 96, 97, 98, 99, 100, 101, 102, 103, 104, 105, 106, 107, 108, 109, 110, 111, 112, 113, 114] (by decide +kernel) (by decide +kernel)
set_option maxRecDepth 20000 in
theorem gX5_abstraction_X5_isFree : GoodIn wsX5_abstraction (wsV RX5 169 RX5 yX5_isFree wsX5_isFree) := goodIn_app (goodIn_of _ (by decide +kernel)) ggX5_abstraction_X5_isFree
set_option maxRecDepth 20000 in
theorem ggX5_abstraction_X5_topType : GoodIn wsX5_abstraction wsX5_topType := goodIn_r _ [31, 7, 3, 85, 86, 87, 88, 89, 90, 91, 92, 93, 94, 95, 96, 97, 98, 99, 100, 101, 102, 103, 104, 105, 106, 107, 108, 109, 110, 111, 112, 113, 114] (by decide +kernel) (by decide +kernel)
set_option maxRecDepth 20000 in
theorem gX5_abstraction_X5_topType : GoodIn wsX5_abstraction (wsV RX5 160 RX5 yX5_topType wsX5_topType) := goodIn_app (goodIn_of _ (by decide +kernel)) ggX5_abstraction_X5_topType
set_option maxRecDepth 20000 in
theorem ggX5_abstraction_X5_node : GoodIn wsX5_abstraction wsX5_node := goodIn_r _ [35, 36, 37, 38, 39, 40, 4, 41, 42, 43, 44, 11, 45, 85, 86, 87, 88, 89, 90, 91, 92, 93, 94, 95, 96, 97, 98, 99, 100, 101, 102, 103, 104, 105, 106, 107, 108, 109, 110, 111, 112, 113, 114] (by decide +kernel) (by decide +kernel)
set_option maxRecDepth 20000 in
theorem gX5_abstraction_X5_node : GoodIn wsX5_abstraction (wsV RX5 113 RX5 yX5_node wsX5_node) := goodIn_app (goodIn_of _ (by decide +kernel)) ggX5_abstraction_X5_node
set_option maxRecDepth 20000 in
theorem ggX5_abstraction_X5_write : GoodIn wsX5_abstraction wsX5_write := goodIn_r _ [49, 3, 5, 2, 7, 85, 86, 87, 88, 89, 90, 91, 92, 93, 94, 95, 96, 97, 98, 99, 100, 101, 102, 103, 104, 105, 106, 107, 108, 109, 110, 111, 112, 113, 114] (by decide +kernel) (by decide +kernel)
set_option maxRecDepth 20000 in
theorem gX5_abstraction_X5_write : GoodIn wsX5_abstraction (wsV RX5 139 RX5 yX5_write wsX5_write) := goodIn_app (goodIn_of _ (by decide +kernel)) ggX5_abstraction_X5_write
set_option maxRecDepth 20000 in
theorem ggX5_abstraction_X5_isVariable : GoodIn wsX5_abstraction wsX5_isVariable := goodIn_r _ [53, 2, 7, 54, 55, 11, 56, 85, 86, 87, 88, 89, 90, 91, 92, 93, 94, 95, 96, 97, 98, 99, 100, 101, 102, 103, 104, 105, 106, 107, 108, 109, 110, 111, 112, 113, 114] (by decide +kernel) (by decide +kernel)
set_option maxRecDepth 20000 in
theorem gX5_abstraction_X5_isVariable : GoodIn wsX5_abstraction (wsV RX5 172 RX5 yX5_isVariable wsX5_isVariable) := goodIn_app (goodIn_of _ (by decide +kernel)) ggX5_abstraction_X5_isVariable
set_option maxRecDepth 20000 in
theorem ggX5_abstraction_X5_endOf : GoodIn wsX5_abstraction wsX5_endOf := goodIn_r _ [60, 2, 85, 86, 87, 88, 89, 90, 91, 92, 93, 94, 95, 96, 97, 98, 99, 100, 101, 102, 103, 104, 105, 106, 107, 108, 109, 110, 111, 112, 113, 114] (by decide +kernel) (by decide +kernel)
set_option maxRecDepth 20000 in
theorem gX5_abstraction_X5_endOf : GoodIn wsX5_abstraction (wsV RX5 127 RX5 yX5_endOf wsX5_endOf) := goodIn_app (goodIn_of _ (by decide +kernel)) ggX5_abstraction_X5_endOf
set_option maxRecDepth 20000 in
theorem ggX5_abstraction_X5_isSmall : GoodIn wsX5_abstraction wsX5_isSmall := goodIn_r _ [64, 41, 42, 85, 86, 87, 88, 89, 90, 91, 92, 93, 94, 95, 96, 97, 98, 99, 100, 101, 102, 103, 104, 105, 106, 107, 108, 109, 110, 111, 112, 113, 114] (by decide +kernel) (by decide +kernel)
set_option maxRecDepth 20000 in
theorem gX5_abstraction_X5_isSmall : GoodIn wsX5_abstraction (wsV RX5 99 RX5 yX5_isSmall wsX5_isSmall) := goodIn_app (goodIn_of _ (by decide +kernel)) ggX5_abstraction_X5_isSmall
set_option maxRecDepth 20000 in
theorem ggX5_abstraction_X5_finish : GoodIn wsX5_abstraction wsX5_finish := goodIn_r _ [68, 69, 70, 71, 11, 72, 3, 5, 16, 17, 18, 19, 1, 73, 74, 75, 76, 77, 78, 79, 80, 6, 2, 57, 58, 59, 60, 85, 86, 87, 88, 89, 90, 91, 92, 93, 94, 95, 96, 97, 98, 99, 100, 101, 102, 103, 104, 105, 106, 107, 108, 109, 110, 111, 112, 113, 114] (by decide +kernel) (by decide +kernel)
set_option maxRecDepth 20000 in
theorem gX5_abstraction_X5_finish : GoodIn wsX5_abstraction (wsV RX5 148 RX5 yX5_finish wsX5_finish) := goodIn_app (goodIn_of _ (by decide +kernel)) ggX5_abstraction_X5_finish
set_option maxRecDepth 20000 in
theorem ggX5_abstraction_X5_cut : GoodIn wsX5_abstraction wsX5_cut := goodIn_r _ [84, 4, 36, 37, 38, 39, 40, 43, 44, 11, 45, 85, 86, 87, 88, 89, 90, 91, 92, 93, 94, 95, 96, 97, 98, 99, 100, 101, 102, 103, 104, 105, 106, 107, 108, 109, 110, 111, 112, 113, 114] (by decide +kernel) (by decide +kernel)
set_option maxRecDepth 20000 in
theorem gX5_abstraction_X5_cut : GoodIn wsX5_abstraction (wsV RX5 120 RX5 yX5_cut wsX5_cut) := goodIn_app (goodIn_of _ (by decide +kernel)) ggX5_abstraction_X5_cut
theorem dX5_abstraction_0 : decode cX5_abstraction 0 = .ok (.aload_n 0, 1) := by decide +kernel
theorem dX5_abstraction_1 : decode cX5_abstraction 1 = .ok (.iconst 0, 1) := by decide +kernel
theorem dX5_abstraction_2 : decode cX5_abstraction 2 = .ok (.putfield 85, 3) := by decide +kernel
theorem dX5_abstraction_5 : decode cX5_abstraction 5 = .ok (.aload_n 0, 1) := by decide +kernel
theorem dX5_abstraction_6 : decode cX5_abstraction 6 = .ok (.iload_n 1, 1) := by decide +kernel
theorem dX5_abstraction_7 : decode cX5_abstraction 7 = .ok (.invokevirtual 157, 3) := by decide +kernel
theorem dX5_abstraction_10 : decode cX5_abstraction 10 = .ok (.ifCond .eq 11, 3) := by decide +kernel
theorem dX5_abstraction_13 : decode cX5_abstraction 13 = .ok (.aload_n 0, 1) := by decide +kernel
theorem dX5_abstraction_14 : decode cX5_abstraction 14 = .ok (.iload_n 2, 1) := by decide +kernel
theorem dX5_abstraction_15 : decode cX5_abstraction 15 = .ok (.invokevirtual 157, 3) := by decide +kernel
theorem dX5_abstraction_18 : decode cX5_abstraction 18 = .ok (.ifCond .ne 9, 3) := by decide +kernel
theorem dX5_abstraction_21 : decode cX5_abstraction 21 = .ok (.aload_n 0, 1) := by decide +kernel
theorem dX5_abstraction_22 : decode cX5_abstraction 22 = .ok (.iconst 1, 1) := by decide +kernel
theorem dX5_abstraction_23 : decode cX5_abstraction 23 = .ok (.invokevirtual 106, 3) := by decide +kernel
theorem dX5_abstraction_26 : decode cX5_abstraction 26 = .ok (.ireturn, 1) := by decide +kernel
theorem dX5_abstraction_27 : decode cX5_abstraction 27 = .ok (.aload_n 0, 1) := by decide +kernel
theorem dX5_abstraction_28 : decode cX5_abstraction 28 = .ok (.iload_n 1, 1) := by decide +kernel
theorem dX5_abstraction_29 : decode cX5_abstraction 29 = .ok (.invokevirtual 169, 3) := by decide +kernel
theorem dX5_abstraction_32 : decode cX5_abstraction 32 = .ok (.ifCond .ne 9, 3) := by decide +kernel
theorem dX5_abstraction_35 : decode cX5_abstraction 35 = .ok (.aload_n 0, 1) := by decide +kernel
theorem dX5_abstraction_36 : decode cX5_abstraction 36 = .ok (.iconst 2, 1) := by decide +kernel
theorem dX5_abstraction_37 : decode cX5_abstraction 37 = .ok (.invokevirtual 106, 3) := by decide +kernel
theorem dX5_abstraction_40 : decode cX5_abstraction 40 = .ok (.ireturn, 1) := by decide +kernel
theorem dX5_abstraction_41 : decode cX5_abstraction 41 = .ok (.aload_n 0, 1) := by decide +kernel
theorem dX5_abstraction_42 : decode cX5_abstraction 42 = .ok (.getfield 55, 3) := by decide +kernel
theorem dX5_abstraction_45 : decode cX5_abstraction 45 = .ok (.aload_n 0, 1) := by decide +kernel
theorem dX5_abstraction_46 : decode cX5_abstraction 46 = .ok (.getfield 51, 3) := by decide +kernel
theorem dX5_abstraction_49 : decode cX5_abstraction 49 = .ok (.iload_n 1, 1) := by decide +kernel
theorem dX5_abstraction_50 : decode cX5_abstraction 50 = .ok (.iaload, 1) := by decide +kernel
theorem dX5_abstraction_51 : decode cX5_abstraction 51 = .ok (.iaload, 1) := by decide +kernel
theorem dX5_abstraction_52 : decode cX5_abstraction 52 = .ok (.istore_n 3, 1) := by decide +kernel
theorem dX5_abstraction_53 : decode cX5_abstraction 53 = .ok (.aload_n 0, 1) := by decide +kernel
theorem dX5_abstraction_54 : decode cX5_abstraction 54 = .ok (.getfield 96, 3) := by decide +kernel
theorem dX5_abstraction_57 : decode cX5_abstraction 57 = .ok (.istore 4, 2) := by decide +kernel
theorem dX5_abstraction_59 : decode cX5_abstraction 59 = .ok (.aload_n 0, 1) := by decide +kernel
theorem dX5_abstraction_60 : decode cX5_abstraction 60 = .ok (.iconst 2, 1) := by decide +kernel
theorem dX5_abstraction_61 : decode cX5_abstraction 61 = .ok (.aload_n 0, 1) := by decide +kernel
theorem dX5_abstraction_62 : decode cX5_abstraction 62 = .ok (.iload_n 1, 1) := by decide +kernel
theorem dX5_abstraction_63 : decode cX5_abstraction 63 = .ok (.invokevirtual 160, 3) := by decide +kernel
theorem dX5_abstraction_66 : decode cX5_abstraction 66 = .ok (.aload_n 0, 1) := by decide +kernel
theorem dX5_abstraction_67 : decode cX5_abstraction 67 = .ok (.iload_n 2, 1) := by decide +kernel
theorem dX5_abstraction_68 : decode cX5_abstraction 68 = .ok (.invokevirtual 160, 3) := by decide +kernel
theorem dX5_abstraction_71 : decode cX5_abstraction 71 = .ok (.invokevirtual 113, 3) := by decide +kernel
theorem dX5_abstraction_74 : decode cX5_abstraction 74 = .ok (.istore 5, 2) := by decide +kernel
theorem dX5_abstraction_76 : decode cX5_abstraction 76 = .ok (.aload_n 0, 1) := by decide +kernel
theorem dX5_abstraction_77 : decode cX5_abstraction 77 = .ok (.aload_n 0, 1) := by decide +kernel
theorem dX5_abstraction_78 : decode cX5_abstraction 78 = .ok (.getfield 51, 3) := by decide +kernel
theorem dX5_abstraction_81 : decode cX5_abstraction 81 = .ok (.aload_n 0, 1) := by decide +kernel
theorem dX5_abstraction_82 : decode cX5_abstraction 82 = .ok (.getfield 130, 3) := by decide +kernel
theorem dX5_abstraction_85 : decode cX5_abstraction 85 = .ok (.iaload, 1) := by decide +kernel
theorem dX5_abstraction_86 : decode cX5_abstraction 86 = .ok (.bipush (-2), 2) := by decide +kernel
theorem dX5_abstraction_88 : decode cX5_abstraction 88 = .ok (.iload 5, 2) := by decide +kernel
theorem dX5_abstraction_90 : decode cX5_abstraction 90 = .ok (.invokevirtual 139, 3) := by decide +kernel
theorem dX5_abstraction_93 : decode cX5_abstraction 93 = .ok (.istore 6, 2) := by decide +kernel
theorem dX5_abstraction_95 : decode cX5_abstraction 95 = .ok (.iconst 0, 1) := by decide +kernel
theorem dX5_abstraction_96 : decode cX5_abstraction 96 = .ok (.istore 7, 2) := by decide +kernel
theorem dX5_abstraction_98 : decode cX5_abstraction 98 = .ok (.aload_n 0, 1) := by decide +kernel
theorem dX5_abstraction_99 : decode cX5_abstraction 99 = .ok (.getfield 51, 3) := by decide +kernel
theorem dX5_abstraction_102 : decode cX5_abstraction 102 = .ok (.iload_n 2, 1) := by decide +kernel
theorem dX5_abstraction_103 : decode cX5_abstraction 103 = .ok (.iaload, 1) := by decide +kernel
theorem dX5_abstraction_104 : decode cX5_abstraction 104 = .ok (.istore 8, 2) := by decide +kernel
theorem dX5_abstraction_106 : decode cX5_abstraction 106 = .ok (.iload 8, 2) := by decide +kernel
theorem dX5_abstraction_108 : decode cX5_abstraction 108 = .ok (.aload_n 0, 1) := by decide +kernel
theorem dX5_abstraction_109 : decode cX5_abstraction 109 = .ok (.getfield 51, 3) := by decide +kernel
theorem dX5_abstraction_112 : decode cX5_abstraction 112 = .ok (.iload_n 2, 1) := by decide +kernel
theorem dX5_abstraction_113 : decode cX5_abstraction 113 = .ok (.iconst 1, 1) := by decide +kernel
theorem dX5_abstraction_114 : decode cX5_abstraction 114 = .ok (.iadd, 1) := by decide +kernel
theorem dX5_abstraction_115 : decode cX5_abstraction 115 = .ok (.iaload, 1) := by decide +kernel
theorem dX5_abstraction_116 : decode cX5_abstraction 116 = .ok (.if_icmp .ge 122, 3) := by decide +kernel
theorem dX5_abstraction_119 : decode cX5_abstraction 119 = .ok (.iload 7, 2) := by decide +kernel
theorem dX5_abstraction_121 : decode cX5_abstraction 121 = .ok (.ifCond .le 23, 3) := by decide +kernel
theorem dX5_abstraction_124 : decode cX5_abstraction 124 = .ok (.aload_n 0, 1) := by decide +kernel
theorem dX5_abstraction_125 : decode cX5_abstraction 125 = .ok (.getfield 67, 3) := by decide +kernel
theorem dX5_abstraction_128 : decode cX5_abstraction 128 = .ok (.iload 7, 2) := by decide +kernel
theorem dX5_abstraction_130 : decode cX5_abstraction 130 = .ok (.iconst 1, 1) := by decide +kernel
theorem dX5_abstraction_131 : decode cX5_abstraction 131 = .ok (.isub, 1) := by decide +kernel
theorem dX5_abstraction_132 : decode cX5_abstraction 132 = .ok (.iaload, 1) := by decide +kernel
theorem dX5_abstraction_133 : decode cX5_abstraction 133 = .ok (.iload 8, 2) := by decide +kernel
theorem dX5_abstraction_135 : decode cX5_abstraction 135 = .ok (.if_icmp .gt 9, 3) := by decide +kernel
theorem dX5_abstraction_138 : decode cX5_abstraction 138 = .ok (.iinc 7 (-1), 3) := by decide +kernel
theorem dX5_abstraction_141 : decode cX5_abstraction 141 = .ok (.goto (-22), 3) := by decide +kernel
theorem dX5_abstraction_144 : decode cX5_abstraction 144 = .ok (.aload_n 0, 1) := by decide +kernel
theorem dX5_abstraction_145 : decode cX5_abstraction 145 = .ok (.iload 8, 2) := by decide +kernel
theorem dX5_abstraction_147 : decode cX5_abstraction 147 = .ok (.iload_n 3, 1) := by decide +kernel
theorem dX5_abstraction_148 : decode cX5_abstraction 148 = .ok (.aload_n 0, 1) := by decide +kernel
theorem dX5_abstraction_149 : decode cX5_abstraction 149 = .ok (.iload_n 1, 1) := by decide +kernel
theorem dX5_abstraction_150 : decode cX5_abstraction 150 = .ok (.invokevirtual 160, 3) := by decide +kernel
theorem dX5_abstraction_153 : decode cX5_abstraction 153 = .ok (.invokevirtual 172, 3) := by decide +kernel
theorem dX5_abstraction_156 : decode cX5_abstraction 156 = .ok (.ifCond .eq 23, 3) := by decide +kernel
theorem dX5_abstraction_159 : decode cX5_abstraction 159 = .ok (.aload_n 0, 1) := by decide +kernel
theorem dX5_abstraction_160 : decode cX5_abstraction 160 = .ok (.iload 6, 2) := by decide +kernel
theorem dX5_abstraction_162 : decode cX5_abstraction 162 = .ok (.iconst 4, 1) := by decide +kernel
theorem dX5_abstraction_163 : decode cX5_abstraction 163 = .ok (.iload 7, 2) := by decide +kernel
theorem dX5_abstraction_165 : decode cX5_abstraction 165 = .ok (.imul, 1) := by decide +kernel
theorem dX5_abstraction_166 : decode cX5_abstraction 166 = .ok (.aload_n 0, 1) := by decide +kernel
theorem dX5_abstraction_167 : decode cX5_abstraction 167 = .ok (.getfield 58, 3) := by decide +kernel
theorem dX5_abstraction_170 : decode cX5_abstraction 170 = .ok (.iload 8, 2) := by decide +kernel
theorem dX5_abstraction_172 : decode cX5_abstraction 172 = .ok (.iaload, 1) := by decide +kernel
theorem dX5_abstraction_173 : decode cX5_abstraction 173 = .ok (.invokevirtual 139, 3) := by decide +kernel
theorem dX5_abstraction_176 : decode cX5_abstraction 176 = .ok (.goto 23, 3) := by decide +kernel
theorem dX5_abstraction_179 : decode cX5_abstraction 179 = .ok (.aload_n 0, 1) := by decide +kernel
theorem dX5_abstraction_180 : decode cX5_abstraction 180 = .ok (.iload 6, 2) := by decide +kernel
theorem dX5_abstraction_182 : decode cX5_abstraction 182 = .ok (.aload_n 0, 1) := by decide +kernel
theorem dX5_abstraction_183 : decode cX5_abstraction 183 = .ok (.getfield 55, 3) := by decide +kernel
theorem dX5_abstraction_186 : decode cX5_abstraction 186 = .ok (.iload 8, 2) := by decide +kernel
theorem dX5_abstraction_188 : decode cX5_abstraction 188 = .ok (.iaload, 1) := by decide +kernel
theorem dX5_abstraction_189 : decode cX5_abstraction 189 = .ok (.aload_n 0, 1) := by decide +kernel
theorem dX5_abstraction_190 : decode cX5_abstraction 190 = .ok (.getfield 58, 3) := by decide +kernel
theorem dX5_abstraction_193 : decode cX5_abstraction 193 = .ok (.iload 8, 2) := by decide +kernel
theorem dX5_abstraction_195 : decode cX5_abstraction 195 = .ok (.iaload, 1) := by decide +kernel
theorem dX5_abstraction_196 : decode cX5_abstraction 196 = .ok (.invokevirtual 139, 3) := by decide +kernel
theorem dX5_abstraction_199 : decode cX5_abstraction 199 = .ok (.istore 6, 2) := by decide +kernel
theorem dX5_abstraction_201 : decode cX5_abstraction 201 = .ok (.aload_n 0, 1) := by decide +kernel
theorem dX5_abstraction_202 : decode cX5_abstraction 202 = .ok (.getfield 55, 3) := by decide +kernel
theorem dX5_abstraction_205 : decode cX5_abstraction 205 = .ok (.iload 8, 2) := by decide +kernel
theorem dX5_abstraction_207 : decode cX5_abstraction 207 = .ok (.iaload, 1) := by decide +kernel
theorem dX5_abstraction_208 : decode cX5_abstraction 208 = .ok (.bipush (-2), 2) := by decide +kernel
theorem dX5_abstraction_210 : decode cX5_abstraction 210 = .ok (.if_icmp .eq 6, 3) := by decide +kernel
theorem dX5_abstraction_213 : decode cX5_abstraction 213 = .ok (.goto 19, 3) := by decide +kernel
theorem dX5_abstraction_216 : decode cX5_abstraction 216 = .ok (.aload_n 0, 1) := by decide +kernel
theorem dX5_abstraction_217 : decode cX5_abstraction 217 = .ok (.getfield 67, 3) := by decide +kernel
theorem dX5_abstraction_220 : decode cX5_abstraction 220 = .ok (.iload 7, 2) := by decide +kernel
theorem dX5_abstraction_222 : decode cX5_abstraction 222 = .ok (.aload_n 0, 1) := by decide +kernel
theorem dX5_abstraction_223 : decode cX5_abstraction 223 = .ok (.iload 8, 2) := by decide +kernel
theorem dX5_abstraction_225 : decode cX5_abstraction 225 = .ok (.invokevirtual 127, 3) := by decide +kernel
theorem dX5_abstraction_228 : decode cX5_abstraction 228 = .ok (.iastore, 1) := by decide +kernel
theorem dX5_abstraction_229 : decode cX5_abstraction 229 = .ok (.iinc 7 1, 3) := by decide +kernel
theorem dX5_abstraction_232 : decode cX5_abstraction 232 = .ok (.iinc 8 1, 3) := by decide +kernel
theorem dX5_abstraction_235 : decode cX5_abstraction 235 = .ok (.goto (-129), 3) := by decide +kernel
theorem dX5_abstraction_238 : decode cX5_abstraction 238 = .ok (.aload_n 0, 1) := by decide +kernel
theorem dX5_abstraction_239 : decode cX5_abstraction 239 = .ok (.iload 5, 2) := by decide +kernel
theorem dX5_abstraction_241 : decode cX5_abstraction 241 = .ok (.invokevirtual 99, 3) := by decide +kernel
theorem dX5_abstraction_244 : decode cX5_abstraction 244 = .ok (.ifCond .eq 23, 3) := by decide +kernel
theorem dX5_abstraction_247 : decode cX5_abstraction 247 = .ok (.aload_n 0, 1) := by decide +kernel
theorem dX5_abstraction_248 : decode cX5_abstraction 248 = .ok (.getfield 96, 3) := by decide +kernel
theorem dX5_abstraction_251 : decode cX5_abstraction 251 = .ok (.sipush 8000, 3) := by decide +kernel
theorem dX5_abstraction_254 : decode cX5_abstraction 254 = .ok (.if_icmp .gt 13, 3) := by decide +kernel
theorem dX5_abstraction_257 : decode cX5_abstraction 257 = .ok (.aload_n 0, 1) := by decide +kernel
theorem dX5_abstraction_258 : decode cX5_abstraction 258 = .ok (.iload 6, 2) := by decide +kernel
theorem dX5_abstraction_260 : decode cX5_abstraction 260 = .ok (.iconst 3, 1) := by decide +kernel
theorem dX5_abstraction_261 : decode cX5_abstraction 261 = .ok (.invokevirtual 148, 3) := by decide +kernel
theorem dX5_abstraction_264 : decode cX5_abstraction 264 = .ok (.goto 8, 3) := by decide +kernel
theorem dX5_abstraction_267 : decode cX5_abstraction 267 = .ok (.aload_n 0, 1) := by decide +kernel
theorem dX5_abstraction_268 : decode cX5_abstraction 268 = .ok (.iconst 3, 1) := by decide +kernel
theorem dX5_abstraction_269 : decode cX5_abstraction 269 = .ok (.invokevirtual 106, 3) := by decide +kernel
theorem dX5_abstraction_272 : decode cX5_abstraction 272 = .ok (.istore 8, 2) := by decide +kernel
theorem dX5_abstraction_274 : decode cX5_abstraction 274 = .ok (.aload_n 0, 1) := by decide +kernel
theorem dX5_abstraction_275 : decode cX5_abstraction 275 = .ok (.getfield 85, 3) := by decide +kernel
theorem dX5_abstraction_278 : decode cX5_abstraction 278 = .ok (.ifCond .le 9, 3) := by decide +kernel
theorem dX5_abstraction_281 : decode cX5_abstraction 281 = .ok (.aload_n 0, 1) := by decide +kernel
theorem dX5_abstraction_282 : decode cX5_abstraction 282 = .ok (.iload 4, 2) := by decide +kernel
theorem dX5_abstraction_284 : decode cX5_abstraction 284 = .ok (.invokevirtual 120, 3) := by decide +kernel
theorem dX5_abstraction_287 : decode cX5_abstraction 287 = .ok (.iload 8, 2) := by decide +kernel
theorem dX5_abstraction_289 : decode cX5_abstraction 289 = .ok (.ireturn, 1) := by decide +kernel
set_option maxRecDepth 20000 in
theorem ggX5_part_X5_isTerm : GoodIn wsX5_part wsX5_isTerm := goodIn_r _ [9, 4, 10, 11, 8, 12, 47, 48, 49, 50, 51, 52, 53, 54, 55, 56, 57, 58, 59, 60, 61, 62, 63, 64, 65, 66, 67, 68, 69, 70, 71, 72, 73, 74, 75, 76] (by decide +kernel) (by decide +kernel)
set_option maxRecDepth 20000 in
theorem gX5_part_X5_isTerm : GoodIn wsX5_part (wsV RX5 157 RX5 yX5_isTerm wsX5_isTerm) := goodIn_app (goodIn_of _ (by decide +kernel)) ggX5_part_X5_isTerm
set_option maxRecDepth 20000 in
theorem ggX5_part_X5_fail : GoodIn wsX5_part wsX5_fail := goodIn_r _ [16, 1, 47, 48, 49, 50, 51, 52, 53, 54, 55, 56, 57, 58, 59, 60, 61, 62, 63, 64, 65, 66, 67, 68, 69, 70, 71, 72, 73, 74, 75, 76] (by decide +kernel) (by decide +kernel)
set_option maxRecDepth 20000 in
theorem gX5_part_X5_fail : GoodIn wsX5_part (wsV RX5 106 RX5 yX5_fail wsX5_fail) := goodIn_app (goodIn_of _ (by decide +kernel)) ggX5_part_X5_fail
set_option maxRecDepth 20000 in
theorem ggX5_part_X5_outside : GoodIn wsX5_part wsX5_outside := goodIn_r _ [12] (by decide +kernel) (by decide +kernel)
set_option maxRecDepth 20000 in
theorem gX5_part_X5_outside : GoodIn wsX5_part (va_wsS RX5 88 yX5_outside wsX5_outside) := goodIn_app (goodIn_of _ (by decide +kernel)) ggX5_part_X5_outside
set_option maxRecDepth 20000 in
theorem ggX5_part_X5_endOf : GoodIn wsX5_part wsX5_endOf := goodIn_r _ [20, 2, 47, 48, 49, 50, 51, 52, 53, 54, 55, 56, 57, 58, 59, 60, 61, 62, 63, 64, 65, 66, 67, 68, 69, 70, 71, 72, 73, 74, 75, 76] (by decide +kernel) (by decide +kernel)
set_option maxRecDepth 20000 in
theorem gX5_part_X5_endOf : GoodIn wsX5_part (wsV RX5 127 RX5 yX5_endOf wsX5_endOf) := goodIn_app (goodIn_of _ (by decide +kernel)) ggX5_part_X5_endOf
set_option maxRecDepth 20000 in
theorem ggX5_part_X5_copy : GoodIn wsX5_part wsX5_copy := goodIn_r _ [24, 2, 25, 26, 27, 28, 8, 29, 3, 4, 47, 48, 49, 50, 51, 52, 53, 54, 55, 56, 57, 58, 59, 60, 61, 62, 63, 64, 65, 66, 67, 68, 69, 70, 71, 72, 73, 74, 75, 76] (by decide +kernel) (by decide +kernel)
set_option maxRecDepth 20000 in
theorem gX5_part_X5_copy : GoodIn wsX5_part (wsV RX5 166 RX5 yX5_copy wsX5_copy) := goodIn_app (goodIn_of _ (by decide +kernel)) ggX5_part_X5_copy
set_option maxRecDepth 20000 in
theorem ggX5_part_X5_finish : GoodIn wsX5_part wsX5_finish := goodIn_r _ [33, 34, 35, 36, 8, 37, 3, 4, 13, 14, 15, 16, 1, 38, 39, 40, 41, 42, 43, 44, 45, 46, 2, 17, 18, 19, 20, 47, 48, 49, 50, 51, 52, 53, 54, 55, 56, 57, 58, 59, 60, 61, 62, 63, 64, 65, 66, 67, 68, 69, 70, 71, 72, 73, 74, 75, 76] (by decide +kernel) (by decide +kernel)
set_option maxRecDepth 20000 in
theorem gX5_part_X5_finish : GoodIn wsX5_part (wsV RX5 148 RX5 yX5_finish wsX5_finish) := goodIn_app (goodIn_of _ (by decide +kernel)) ggX5_part_X5_finish
theorem dX5_part_0 : decode cX5_part 0 = .ok (.aload_n 0, 1) := by decide +kernel
theorem dX5_part_1 : decode cX5_part 1 = .ok (.iconst 0, 1) := by decide +kernel
theorem dX5_part_2 : decode cX5_part 2 = .ok (.putfield 85, 3) := by decide +kernel
theorem dX5_part_5 : decode cX5_part 5 = .ok (.aload_n 0, 1) := by decide +kernel
theorem dX5_part_6 : decode cX5_part 6 = .ok (.iload_n 1, 1) := by decide +kernel
theorem dX5_part_7 : decode cX5_part 7 = .ok (.invokevirtual 157, 3) := by decide +kernel
theorem dX5_part_10 : decode cX5_part 10 = .ok (.ifCond .ne 9, 3) := by decide +kernel
theorem dX5_part_13 : decode cX5_part 13 = .ok (.aload_n 0, 1) := by decide +kernel
theorem dX5_part_14 : decode cX5_part 14 = .ok (.iconst 1, 1) := by decide +kernel
theorem dX5_part_15 : decode cX5_part 15 = .ok (.invokevirtual 106, 3) := by decide +kernel
theorem dX5_part_18 : decode cX5_part 18 = .ok (.ireturn, 1) := by decide +kernel
theorem dX5_part_19 : decode cX5_part 19 = .ok (.aload_n 0, 1) := by decide +kernel
theorem dX5_part_20 : decode cX5_part 20 = .ok (.getfield 55, 3) := by decide +kernel
theorem dX5_part_23 : decode cX5_part 23 = .ok (.aload_n 0, 1) := by decide +kernel
theorem dX5_part_24 : decode cX5_part 24 = .ok (.getfield 51, 3) := by decide +kernel
theorem dX5_part_27 : decode cX5_part 27 = .ok (.iload_n 1, 1) := by decide +kernel
theorem dX5_part_28 : decode cX5_part 28 = .ok (.iaload, 1) := by decide +kernel
theorem dX5_part_29 : decode cX5_part 29 = .ok (.iaload, 1) := by decide +kernel
theorem dX5_part_30 : decode cX5_part 30 = .ok (.iconst (-1), 1) := by decide +kernel
theorem dX5_part_31 : decode cX5_part 31 = .ok (.if_icmp .ne 11, 3) := by decide +kernel
theorem dX5_part_34 : decode cX5_part 34 = .ok (.iload_n 2, 1) := by decide +kernel
theorem dX5_part_35 : decode cX5_part 35 = .ok (.iconst 2, 1) := by decide +kernel
theorem dX5_part_36 : decode cX5_part 36 = .ok (.invokestatic 88, 3) := by decide +kernel
theorem dX5_part_39 : decode cX5_part 39 = .ok (.ifCond .eq 9, 3) := by decide +kernel
theorem dX5_part_42 : decode cX5_part 42 = .ok (.aload_n 0, 1) := by decide +kernel
theorem dX5_part_43 : decode cX5_part 43 = .ok (.iconst 2, 1) := by decide +kernel
theorem dX5_part_44 : decode cX5_part 44 = .ok (.invokevirtual 106, 3) := by decide +kernel
theorem dX5_part_47 : decode cX5_part 47 = .ok (.ireturn, 1) := by decide +kernel
theorem dX5_part_48 : decode cX5_part 48 = .ok (.aload_n 0, 1) := by decide +kernel
theorem dX5_part_49 : decode cX5_part 49 = .ok (.aload_n 0, 1) := by decide +kernel
theorem dX5_part_50 : decode cX5_part 50 = .ok (.getfield 51, 3) := by decide +kernel
theorem dX5_part_53 : decode cX5_part 53 = .ok (.iload_n 1, 1) := by decide +kernel
theorem dX5_part_54 : decode cX5_part 54 = .ok (.iaload, 1) := by decide +kernel
theorem dX5_part_55 : decode cX5_part 55 = .ok (.iconst 1, 1) := by decide +kernel
theorem dX5_part_56 : decode cX5_part 56 = .ok (.iadd, 1) := by decide +kernel
theorem dX5_part_57 : decode cX5_part 57 = .ok (.invokevirtual 127, 3) := by decide +kernel
theorem dX5_part_60 : decode cX5_part 60 = .ok (.istore_n 3, 1) := by decide +kernel
theorem dX5_part_61 : decode cX5_part 61 = .ok (.aload_n 0, 1) := by decide +kernel
theorem dX5_part_62 : decode cX5_part 62 = .ok (.iload_n 2, 1) := by decide +kernel
theorem dX5_part_63 : decode cX5_part 63 = .ok (.ifCond .ne 28, 3) := by decide +kernel
theorem dX5_part_66 : decode cX5_part 66 = .ok (.aload_n 0, 1) := by decide +kernel
theorem dX5_part_67 : decode cX5_part 67 = .ok (.aload_n 0, 1) := by decide +kernel
theorem dX5_part_68 : decode cX5_part 68 = .ok (.getfield 51, 3) := by decide +kernel
theorem dX5_part_71 : decode cX5_part 71 = .ok (.aload_n 0, 1) := by decide +kernel
theorem dX5_part_72 : decode cX5_part 72 = .ok (.getfield 130, 3) := by decide +kernel
theorem dX5_part_75 : decode cX5_part 75 = .ok (.iaload, 1) := by decide +kernel
theorem dX5_part_76 : decode cX5_part 76 = .ok (.aload_n 0, 1) := by decide +kernel
theorem dX5_part_77 : decode cX5_part 77 = .ok (.getfield 51, 3) := by decide +kernel
theorem dX5_part_80 : decode cX5_part 80 = .ok (.iload_n 1, 1) := by decide +kernel
theorem dX5_part_81 : decode cX5_part 81 = .ok (.iaload, 1) := by decide +kernel
theorem dX5_part_82 : decode cX5_part 82 = .ok (.iconst 1, 1) := by decide +kernel
theorem dX5_part_83 : decode cX5_part 83 = .ok (.iadd, 1) := by decide +kernel
theorem dX5_part_84 : decode cX5_part 84 = .ok (.iload_n 3, 1) := by decide +kernel
theorem dX5_part_85 : decode cX5_part 85 = .ok (.invokevirtual 166, 3) := by decide +kernel
theorem dX5_part_88 : decode cX5_part 88 = .ok (.goto 25, 3) := by decide +kernel
theorem dX5_part_91 : decode cX5_part 91 = .ok (.aload_n 0, 1) := by decide +kernel
theorem dX5_part_92 : decode cX5_part 92 = .ok (.aload_n 0, 1) := by decide +kernel
theorem dX5_part_93 : decode cX5_part 93 = .ok (.getfield 51, 3) := by decide +kernel
theorem dX5_part_96 : decode cX5_part 96 = .ok (.aload_n 0, 1) := by decide +kernel
theorem dX5_part_97 : decode cX5_part 97 = .ok (.getfield 130, 3) := by decide +kernel
theorem dX5_part_100 : decode cX5_part 100 = .ok (.iaload, 1) := by decide +kernel
theorem dX5_part_101 : decode cX5_part 101 = .ok (.iload_n 3, 1) := by decide +kernel
theorem dX5_part_102 : decode cX5_part 102 = .ok (.aload_n 0, 1) := by decide +kernel
theorem dX5_part_103 : decode cX5_part 103 = .ok (.getfield 51, 3) := by decide +kernel
theorem dX5_part_106 : decode cX5_part 106 = .ok (.iload_n 1, 1) := by decide +kernel
theorem dX5_part_107 : decode cX5_part 107 = .ok (.iconst 1, 1) := by decide +kernel
theorem dX5_part_108 : decode cX5_part 108 = .ok (.iadd, 1) := by decide +kernel
theorem dX5_part_109 : decode cX5_part 109 = .ok (.iaload, 1) := by decide +kernel
theorem dX5_part_110 : decode cX5_part 110 = .ok (.invokevirtual 166, 3) := by decide +kernel
theorem dX5_part_113 : decode cX5_part 113 = .ok (.iconst 3, 1) := by decide +kernel
theorem dX5_part_114 : decode cX5_part 114 = .ok (.invokevirtual 148, 3) := by decide +kernel
theorem dX5_part_117 : decode cX5_part 117 = .ok (.ireturn, 1) := by decide +kernel
set_option maxRecDepth 20000 in
theorem ggX5_open_X5_isTerm : GoodIn wsX5_open wsX5_isTerm := goodIn_r _ [12, 5, 13, 14, 11, 15, 55, 56, 57, 58, 59, 60, 61, 62, 63, 64, 65, 66, 67, 68, 69, 70, 71, 72, 73, 74, 75, 76, 77, 78, 79, 80, 81, 82, 83, 84] (by decide +kernel) (by decide +kernel)
set_option maxRecDepth 20000 in
theorem gX5_open_X5_isTerm : GoodIn wsX5_open (wsV RX5 157 RX5 yX5_isTerm wsX5_isTerm) := goodIn_app (goodIn_of _ (by decide +kernel)) ggX5_open_X5_isTerm
set_option maxRecDepth 20000 in
theorem ggX5_open_X5_fail : GoodIn wsX5_open wsX5_fail := goodIn_r _ [19, 1, 55, 56, 57, 58, 59, 60, 61, 62, 63, 64, 65, 66, 67, 68, 69, 70, 71, 72, 73, 74, 75, 76, 77, 78, 79, 80, 81, 82, 83, 84] (by decide +kernel) (by decide +kernel)
set_option maxRecDepth 20000 in
theorem gX5_open_X5_fail : GoodIn wsX5_open (wsV RX5 106 RX5 yX5_fail wsX5_fail) := goodIn_app (goodIn_of _ (by decide +kernel)) ggX5_open_X5_fail
set_option maxRecDepth 20000 in
theorem ggX5_open_X5_topType : GoodIn wsX5_open wsX5_topType := goodIn_r _ [23, 7, 3, 55, 56, 57, 58, 59, 60, 61, 62, 63, 64, 65, 66, 67, 68, 69, 70, 71, 72, 73, 74, 75, 76, 77, 78, 79, 80, 81, 82, 83, 84] (by decide +kernel) (by decide +kernel)
set_option maxRecDepth 20000 in
theorem gX5_open_X5_topType : GoodIn wsX5_open (wsV RX5 160 RX5 yX5_topType wsX5_topType) := goodIn_app (goodIn_of _ (by decide +kernel)) ggX5_open_X5_topType
set_option maxRecDepth 20000 in
theorem ggX5_open_X5_areSameTypes : GoodIn wsX5_open wsX5_areSameTypes := goodIn_r _ [26] (by decide +kernel) (by decide +kernel)
set_option maxRecDepth 20000 in
theorem gX5_open_X5_areSameTypes : GoodIn wsX5_open (va_wsS RX5 163 yX5_areSameTypes wsX5_areSameTypes) := goodIn_app (goodIn_of _ (by decide +kernel)) ggX5_open_X5_areSameTypes
set_option maxRecDepth 20000 in
theorem ggX5_open_X5_copy : GoodIn wsX5_open wsX5_copy := goodIn_r _ [30, 2, 7, 31, 32, 33, 11, 34, 3, 5, 55, 56, 57, 58, 59, 60, 61, 62, 63, 64, 65, 66, 67, 68, 69, 70, 71, 72, 73, 74, 75, 76, 77, 78, 79, 80, 81, 82, 83, 84] (by decide +kernel) (by decide +kernel)
set_option maxRecDepth 20000 in
theorem gX5_open_X5_copy : GoodIn wsX5_open (wsV RX5 166 RX5 yX5_copy wsX5_copy) := goodIn_app (goodIn_of _ (by decide +kernel)) ggX5_open_X5_copy
set_option maxRecDepth 20000 in
theorem ggX5_open_X5_write : GoodIn wsX5_open wsX5_write := goodIn_r _ [34, 3, 5, 2, 7, 55, 56, 57, 58, 59, 60, 61, 62, 63, 64, 65, 66, 67, 68, 69, 70, 71, 72, 73, 74, 75, 76, 77, 78, 79, 80, 81, 82, 83, 84] (by decide +kernel) (by decide +kernel)
set_option maxRecDepth 20000 in
theorem gX5_open_X5_write : GoodIn wsX5_open (wsV RX5 139 RX5 yX5_write wsX5_write) := goodIn_app (goodIn_of _ (by decide +kernel)) ggX5_open_X5_write
set_option maxRecDepth 20000 in
theorem ggX5_open_X5_endOf : GoodIn wsX5_open wsX5_endOf := goodIn_r _ [38, 2, 55, 56, 57, 58, 59, 60, 61, 62, 63, 64, 65, 66, 67, 68, 69, 70, 71, 72, 73, 74, 75, 76, 77, 78, 79, 80, 81, 82, 83, 84] (by decide +kernel) (by decide +kernel)
set_option maxRecDepth 20000 in
theorem gX5_open_X5_endOf : GoodIn wsX5_open (wsV RX5 127 RX5 yX5_endOf wsX5_endOf) := goodIn_app (goodIn_of _ (by decide +kernel)) ggX5_open_X5_endOf
set_option maxRecDepth 20000 in
theorem ggX5_open_X5_finish : GoodIn wsX5_open wsX5_finish := goodIn_r _ [42, 43, 44, 45, 11, 46, 3, 5, 16, 17, 18, 19, 1, 47, 48, 49, 50, 51, 52, 53, 54, 6, 2, 35, 36, 37, 38, 55, 56, 57, 58, 59, 60, 61, 62, 63, 64, 65, 66, 67, 68, 69, 70, 71, 72, 73, 74, 75, 76, 77, 78, 79, 80, 81, 82, 83, 84] (by decide +kernel) (by decide +kernel)
set_option maxRecDepth 20000 in
theorem gX5_open_X5_finish : GoodIn wsX5_open (wsV RX5 148 RX5 yX5_finish wsX5_finish) := goodIn_app (goodIn_of _ (by decide +kernel)) ggX5_open_X5_finish
theorem dX5_open_0 : decode cX5_open 0 = .ok (.aload_n 0, 1) := by decide +kernel
theorem dX5_open_1 : decode cX5_open 1 = .ok (.iconst 0, 1) := by decide +kernel
theorem dX5_open_2 : decode cX5_open 2 = .ok (.putfield 85, 3) := by decide +kernel
theorem dX5_open_5 : decode cX5_open 5 = .ok (.aload_n 0, 1) := by decide +kernel
theorem dX5_open_6 : decode cX5_open 6 = .ok (.iload_n 1, 1) := by decide +kernel
theorem dX5_open_7 : decode cX5_open 7 = .ok (.invokevirtual 157, 3) := by decide +kernel
theorem dX5_open_10 : decode cX5_open 10 = .ok (.ifCond .eq 11, 3) := by decide +kernel
theorem dX5_open_13 : decode cX5_open 13 = .ok (.aload_n 0, 1) := by decide +kernel
theorem dX5_open_14 : decode cX5_open 14 = .ok (.iload_n 2, 1) := by decide +kernel
theorem dX5_open_15 : decode cX5_open 15 = .ok (.invokevirtual 157, 3) := by decide +kernel
theorem dX5_open_18 : decode cX5_open 18 = .ok (.ifCond .ne 9, 3) := by decide +kernel
theorem dX5_open_21 : decode cX5_open 21 = .ok (.aload_n 0, 1) := by decide +kernel
theorem dX5_open_22 : decode cX5_open 22 = .ok (.iconst 1, 1) := by decide +kernel
theorem dX5_open_23 : decode cX5_open 23 = .ok (.invokevirtual 106, 3) := by decide +kernel
theorem dX5_open_26 : decode cX5_open 26 = .ok (.ireturn, 1) := by decide +kernel
theorem dX5_open_27 : decode cX5_open 27 = .ok (.aload_n 0, 1) := by decide +kernel
theorem dX5_open_28 : decode cX5_open 28 = .ok (.getfield 55, 3) := by decide +kernel
theorem dX5_open_31 : decode cX5_open 31 = .ok (.aload_n 0, 1) := by decide +kernel
theorem dX5_open_32 : decode cX5_open 32 = .ok (.getfield 51, 3) := by decide +kernel
theorem dX5_open_35 : decode cX5_open 35 = .ok (.iload_n 1, 1) := by decide +kernel
theorem dX5_open_36 : decode cX5_open 36 = .ok (.iaload, 1) := by decide +kernel
theorem dX5_open_37 : decode cX5_open 37 = .ok (.iaload, 1) := by decide +kernel
theorem dX5_open_38 : decode cX5_open 38 = .ok (.bipush (-2), 2) := by decide +kernel
theorem dX5_open_40 : decode cX5_open 40 = .ok (.if_icmp .ne 24, 3) := by decide +kernel
theorem dX5_open_43 : decode cX5_open 43 = .ok (.aload_n 0, 1) := by decide +kernel
theorem dX5_open_44 : decode cX5_open 44 = .ok (.getfield 23, 3) := by decide +kernel
theorem dX5_open_47 : decode cX5_open 47 = .ok (.aload_n 0, 1) := by decide +kernel
theorem dX5_open_48 : decode cX5_open 48 = .ok (.iload_n 1, 1) := by decide +kernel
theorem dX5_open_49 : decode cX5_open 49 = .ok (.invokevirtual 160, 3) := by decide +kernel
theorem dX5_open_52 : decode cX5_open 52 = .ok (.iaload, 1) := by decide +kernel
theorem dX5_open_53 : decode cX5_open 53 = .ok (.aload_n 0, 1) := by decide +kernel
theorem dX5_open_54 : decode cX5_open 54 = .ok (.iload_n 2, 1) := by decide +kernel
theorem dX5_open_55 : decode cX5_open 55 = .ok (.invokevirtual 160, 3) := by decide +kernel
theorem dX5_open_58 : decode cX5_open 58 = .ok (.invokestatic 163, 3) := by decide +kernel
theorem dX5_open_61 : decode cX5_open 61 = .ok (.ifCond .ne 9, 3) := by decide +kernel
theorem dX5_open_64 : decode cX5_open 64 = .ok (.aload_n 0, 1) := by decide +kernel
theorem dX5_open_65 : decode cX5_open 65 = .ok (.iconst 2, 1) := by decide +kernel
theorem dX5_open_66 : decode cX5_open 66 = .ok (.invokevirtual 106, 3) := by decide +kernel
theorem dX5_open_69 : decode cX5_open 69 = .ok (.ireturn, 1) := by decide +kernel
theorem dX5_open_70 : decode cX5_open 70 = .ok (.aload_n 0, 1) := by decide +kernel
theorem dX5_open_71 : decode cX5_open 71 = .ok (.getfield 51, 3) := by decide +kernel
theorem dX5_open_74 : decode cX5_open 74 = .ok (.aload_n 0, 1) := by decide +kernel
theorem dX5_open_75 : decode cX5_open 75 = .ok (.getfield 130, 3) := by decide +kernel
theorem dX5_open_78 : decode cX5_open 78 = .ok (.iaload, 1) := by decide +kernel
theorem dX5_open_79 : decode cX5_open 79 = .ok (.istore_n 3, 1) := by decide +kernel
theorem dX5_open_80 : decode cX5_open 80 = .ok (.iconst 0, 1) := by decide +kernel
theorem dX5_open_81 : decode cX5_open 81 = .ok (.istore 4, 2) := by decide +kernel
theorem dX5_open_83 : decode cX5_open 83 = .ok (.aload_n 0, 1) := by decide +kernel
theorem dX5_open_84 : decode cX5_open 84 = .ok (.getfield 51, 3) := by decide +kernel
theorem dX5_open_87 : decode cX5_open 87 = .ok (.iload_n 1, 1) := by decide +kernel
theorem dX5_open_88 : decode cX5_open 88 = .ok (.iaload, 1) := by decide +kernel
theorem dX5_open_89 : decode cX5_open 89 = .ok (.iconst 1, 1) := by decide +kernel
theorem dX5_open_90 : decode cX5_open 90 = .ok (.iadd, 1) := by decide +kernel
theorem dX5_open_91 : decode cX5_open 91 = .ok (.istore 5, 2) := by decide +kernel
theorem dX5_open_93 : decode cX5_open 93 = .ok (.iload 5, 2) := by decide +kernel
theorem dX5_open_95 : decode cX5_open 95 = .ok (.aload_n 0, 1) := by decide +kernel
theorem dX5_open_96 : decode cX5_open 96 = .ok (.getfield 51, 3) := by decide +kernel
theorem dX5_open_99 : decode cX5_open 99 = .ok (.iload_n 1, 1) := by decide +kernel
theorem dX5_open_100 : decode cX5_open 100 = .ok (.iconst 1, 1) := by decide +kernel
theorem dX5_open_101 : decode cX5_open 101 = .ok (.iadd, 1) := by decide +kernel
theorem dX5_open_102 : decode cX5_open 102 = .ok (.iaload, 1) := by decide +kernel
theorem dX5_open_103 : decode cX5_open 103 = .ok (.if_icmp .ge 121, 3) := by decide +kernel
theorem dX5_open_106 : decode cX5_open 106 = .ok (.iload 4, 2) := by decide +kernel
theorem dX5_open_108 : decode cX5_open 108 = .ok (.ifCond .le 23, 3) := by decide +kernel
theorem dX5_open_111 : decode cX5_open 111 = .ok (.aload_n 0, 1) := by decide +kernel
theorem dX5_open_112 : decode cX5_open 112 = .ok (.getfield 67, 3) := by decide +kernel
theorem dX5_open_115 : decode cX5_open 115 = .ok (.iload 4, 2) := by decide +kernel
theorem dX5_open_117 : decode cX5_open 117 = .ok (.iconst 1, 1) := by decide +kernel
theorem dX5_open_118 : decode cX5_open 118 = .ok (.isub, 1) := by decide +kernel
theorem dX5_open_119 : decode cX5_open 119 = .ok (.iaload, 1) := by decide +kernel
theorem dX5_open_120 : decode cX5_open 120 = .ok (.iload 5, 2) := by decide +kernel
theorem dX5_open_122 : decode cX5_open 122 = .ok (.if_icmp .gt 9, 3) := by decide +kernel
theorem dX5_open_125 : decode cX5_open 125 = .ok (.iinc 4 (-1), 3) := by decide +kernel
theorem dX5_open_128 : decode cX5_open 128 = .ok (.goto (-22), 3) := by decide +kernel
theorem dX5_open_131 : decode cX5_open 131 = .ok (.aload_n 0, 1) := by decide +kernel
theorem dX5_open_132 : decode cX5_open 132 = .ok (.getfield 55, 3) := by decide +kernel
theorem dX5_open_135 : decode cX5_open 135 = .ok (.iload 5, 2) := by decide +kernel
theorem dX5_open_137 : decode cX5_open 137 = .ok (.iaload, 1) := by decide +kernel
theorem dX5_open_138 : decode cX5_open 138 = .ok (.iconst 4, 1) := by decide +kernel
theorem dX5_open_139 : decode cX5_open 139 = .ok (.iload 4, 2) := by decide +kernel
theorem dX5_open_141 : decode cX5_open 141 = .ok (.imul, 1) := by decide +kernel
theorem dX5_open_142 : decode cX5_open 142 = .ok (.if_icmp .ne 25, 3) := by decide +kernel
theorem dX5_open_145 : decode cX5_open 145 = .ok (.aload_n 0, 1) := by decide +kernel
theorem dX5_open_146 : decode cX5_open 146 = .ok (.iload_n 3, 1) := by decide +kernel
theorem dX5_open_147 : decode cX5_open 147 = .ok (.aload_n 0, 1) := by decide +kernel
theorem dX5_open_148 : decode cX5_open 148 = .ok (.getfield 51, 3) := by decide +kernel
theorem dX5_open_151 : decode cX5_open 151 = .ok (.iload_n 2, 1) := by decide +kernel
theorem dX5_open_152 : decode cX5_open 152 = .ok (.iaload, 1) := by decide +kernel
theorem dX5_open_153 : decode cX5_open 153 = .ok (.aload_n 0, 1) := by decide +kernel
theorem dX5_open_154 : decode cX5_open 154 = .ok (.getfield 51, 3) := by decide +kernel
theorem dX5_open_157 : decode cX5_open 157 = .ok (.iload_n 2, 1) := by decide +kernel
theorem dX5_open_158 : decode cX5_open 158 = .ok (.iconst 1, 1) := by decide +kernel
theorem dX5_open_159 : decode cX5_open 159 = .ok (.iadd, 1) := by decide +kernel
theorem dX5_open_160 : decode cX5_open 160 = .ok (.iaload, 1) := by decide +kernel
theorem dX5_open_161 : decode cX5_open 161 = .ok (.invokevirtual 166, 3) := by decide +kernel
theorem dX5_open_164 : decode cX5_open 164 = .ok (.goto 22, 3) := by decide +kernel
theorem dX5_open_167 : decode cX5_open 167 = .ok (.aload_n 0, 1) := by decide +kernel
theorem dX5_open_168 : decode cX5_open 168 = .ok (.iload_n 3, 1) := by decide +kernel
theorem dX5_open_169 : decode cX5_open 169 = .ok (.aload_n 0, 1) := by decide +kernel
theorem dX5_open_170 : decode cX5_open 170 = .ok (.getfield 55, 3) := by decide +kernel
theorem dX5_open_173 : decode cX5_open 173 = .ok (.iload 5, 2) := by decide +kernel
theorem dX5_open_175 : decode cX5_open 175 = .ok (.iaload, 1) := by decide +kernel
theorem dX5_open_176 : decode cX5_open 176 = .ok (.aload_n 0, 1) := by decide +kernel
theorem dX5_open_177 : decode cX5_open 177 = .ok (.getfield 58, 3) := by decide +kernel
theorem dX5_open_180 : decode cX5_open 180 = .ok (.iload 5, 2) := by decide +kernel
theorem dX5_open_182 : decode cX5_open 182 = .ok (.iaload, 1) := by decide +kernel
theorem dX5_open_183 : decode cX5_open 183 = .ok (.invokevirtual 139, 3) := by decide +kernel
theorem dX5_open_186 : decode cX5_open 186 = .ok (.istore_n 3, 1) := by decide +kernel
theorem dX5_open_187 : decode cX5_open 187 = .ok (.aload_n 0, 1) := by decide +kernel
theorem dX5_open_188 : decode cX5_open 188 = .ok (.getfield 55, 3) := by decide +kernel
theorem dX5_open_191 : decode cX5_open 191 = .ok (.iload 5, 2) := by decide +kernel
theorem dX5_open_193 : decode cX5_open 193 = .ok (.iaload, 1) := by decide +kernel
theorem dX5_open_194 : decode cX5_open 194 = .ok (.bipush (-2), 2) := by decide +kernel
theorem dX5_open_196 : decode cX5_open 196 = .ok (.if_icmp .eq 6, 3) := by decide +kernel
theorem dX5_open_199 : decode cX5_open 199 = .ok (.goto 19, 3) := by decide +kernel
theorem dX5_open_202 : decode cX5_open 202 = .ok (.aload_n 0, 1) := by decide +kernel
theorem dX5_open_203 : decode cX5_open 203 = .ok (.getfield 67, 3) := by decide +kernel
theorem dX5_open_206 : decode cX5_open 206 = .ok (.iload 4, 2) := by decide +kernel
theorem dX5_open_208 : decode cX5_open 208 = .ok (.aload_n 0, 1) := by decide +kernel
theorem dX5_open_209 : decode cX5_open 209 = .ok (.iload 5, 2) := by decide +kernel
theorem dX5_open_211 : decode cX5_open 211 = .ok (.invokevirtual 127, 3) := by decide +kernel
theorem dX5_open_214 : decode cX5_open 214 = .ok (.iastore, 1) := by decide +kernel
theorem dX5_open_215 : decode cX5_open 215 = .ok (.iinc 4 1, 3) := by decide +kernel
theorem dX5_open_218 : decode cX5_open 218 = .ok (.iinc 5 1, 3) := by decide +kernel
theorem dX5_open_221 : decode cX5_open 221 = .ok (.goto (-128), 3) := by decide +kernel
theorem dX5_open_224 : decode cX5_open 224 = .ok (.aload_n 0, 1) := by decide +kernel
theorem dX5_open_225 : decode cX5_open 225 = .ok (.iload_n 3, 1) := by decide +kernel
theorem dX5_open_226 : decode cX5_open 226 = .ok (.iconst 3, 1) := by decide +kernel
theorem dX5_open_227 : decode cX5_open 227 = .ok (.invokevirtual 148, 3) := by decide +kernel
theorem dX5_open_230 : decode cX5_open 230 = .ok (.ireturn, 1) := by decide +kernel
set_option maxRecDepth 20000 in
theorem ggX5_put_X5_isTerm : GoodIn wsX5_put wsX5_isTerm := goodIn_r _ [10, 4, 11, 12, 9, 13, 66, 67, 68, 69, 70, 71, 72, 73, 74, 75, 76, 77, 78, 79, 80, 81, 82, 83, 84, 85, 86, 87, 88, 89, 90, 91, 92, 93, 94, 95] (by decide +kernel) (by decide +kernel)
set_option maxRecDepth 20000 in
theorem gX5_put_X5_isTerm : GoodIn wsX5_put (wsV RX5 157 RX5 yX5_isTerm wsX5_isTerm) := goodIn_app (goodIn_of _ (by decide +kernel)) ggX5_put_X5_isTerm
set_option maxRecDepth 20000 in
theorem ggX5_put_X5_fail : GoodIn wsX5_put wsX5_fail := goodIn_r _ [17, 1, 66, 67, 68, 69, 70, 71, 72, 73, 74, 75, 76, 77, 78, 79, 80, 81, 82, 83, 84, 85, 86, 87, 88, 89, 90, 91, 92, 93, 94, 95] (by decide +kernel) (by decide +kernel)
set_option maxRecDepth 20000 in
theorem gX5_put_X5_fail : GoodIn wsX5_put (wsV RX5 106 RX5 yX5_fail wsX5_fail) := goodIn_app (goodIn_of _ (by decide +kernel)) ggX5_put_X5_fail
set_option maxRecDepth 20000 in
theorem ggX5_put_X5_isFree : GoodIn wsX5_put wsX5_isFree := goodIn_r _ [21, 2, 3, 22, 23, 24, 9, 25, 66, 67, 68, 69, 70, 71, 72, 73, 74, 75, 76, 77, 78, 79, 80, 81, 82, 83, 84, 85, 86, 87, 88, 89, 90, 91, 92, 93, 94, 95] (by decide +kernel) (by decide +kernel)
set_option maxRecDepth 20000 in
theorem gX5_put_X5_isFree : GoodIn wsX5_put (wsV RX5 169 RX5 yX5_isFree wsX5_isFree) := goodIn_app (goodIn_of _ (by decide +kernel)) ggX5_put_X5_isFree
set_option maxRecDepth 20000 in
theorem ggX5_put_X5_topType : GoodIn wsX5_put wsX5_topType := goodIn_r _ [29, 5, 3, 66, 67, 68, 69, 70, 71, 72, 73, 74, 75, 76, 77, 78, 79, 80, 81, 82, 83, 84, 85, 86, 87, 88, 89, 90, 91, 92, 93, 94, 95] (by decide +kernel) (by decide +kernel)
set_option maxRecDepth 20000 in
theorem gX5_put_X5_topType : GoodIn wsX5_put (wsV RX5 160 RX5 yX5_topType wsX5_topType) := goodIn_app (goodIn_of _ (by decide +kernel)) ggX5_put_X5_topType
set_option maxRecDepth 20000 in
theorem ggX5_put_X5_areSameTypes : GoodIn wsX5_put wsX5_areSameTypes := goodIn_r _ [32] (by decide +kernel) (by decide +kernel)
set_option maxRecDepth 20000 in
theorem gX5_put_X5_areSameTypes : GoodIn wsX5_put (va_wsS RX5 163 yX5_areSameTypes wsX5_areSameTypes) := goodIn_app (goodIn_of _ (by decide +kernel)) ggX5_put_X5_areSameTypes
set_option maxRecDepth 20000 in
theorem ggX5_put_X5_isVariable : GoodIn wsX5_put wsX5_isVariable := goodIn_r _ [36, 2, 5, 30, 31, 9, 32, 66, 67, 68, 69, 70, 71, 72, 73, 74, 75, 76, 77, 78, 79, 80, 81, 82, 83, 84, 85, 86, 87, 88, 89, 90, 91, 92, 93, 94, 95] (by decide +kernel) (by decide +kernel)
set_option maxRecDepth 20000 in
theorem gX5_put_X5_isVariable : GoodIn wsX5_put (wsV RX5 172 RX5 yX5_isVariable wsX5_isVariable) := goodIn_app (goodIn_of _ (by decide +kernel)) ggX5_put_X5_isVariable
set_option maxRecDepth 20000 in
theorem ggX5_put_X5_copy : GoodIn wsX5_put wsX5_copy := goodIn_r _ [40, 2, 5, 41, 42, 43, 9, 44, 3, 4, 66, 67, 68, 69, 70, 71, 72, 73, 74, 75, 76, 77, 78, 79, 80, 81, 82, 83, 84, 85, 86, 87, 88, 89, 90, 91, 92, 93, 94, 95] (by decide +kernel) (by decide +kernel)
set_option maxRecDepth 20000 in
theorem gX5_put_X5_copy : GoodIn wsX5_put (wsV RX5 166 RX5 yX5_copy wsX5_copy) := goodIn_app (goodIn_of _ (by decide +kernel)) ggX5_put_X5_copy
set_option maxRecDepth 20000 in
theorem ggX5_put_X5_write : GoodIn wsX5_put wsX5_write := goodIn_r _ [44, 3, 4, 2, 5, 66, 67, 68, 69, 70, 71, 72, 73, 74, 75, 76, 77, 78, 79, 80, 81, 82, 83, 84, 85, 86, 87, 88, 89, 90, 91, 92, 93, 94, 95] (by decide +kernel) (by decide +kernel)
set_option maxRecDepth 20000 in
theorem gX5_put_X5_write : GoodIn wsX5_put (wsV RX5 139 RX5 yX5_write wsX5_write) := goodIn_app (goodIn_of _ (by decide +kernel)) ggX5_put_X5_write
set_option maxRecDepth 20000 in
theorem ggX5_put_X5_finish : GoodIn wsX5_put wsX5_finish := goodIn_r _ [48, 49, 50, 51, 9, 52, 3, 4, 14, 15, 16, 17, 1, 53, 54, 55, 56, 57, 58, 59, 60, 61, 2, 62, 63, 64, 65, 66, 67, 68, 69, 70, 71, 72, 73, 74, 75, 76, 77, 78, 79, 80, 81, 82, 83, 84, 85, 86, 87, 88, 89, 90, 91, 92, 93, 94, 95] (by decide +kernel) (by decide +kernel)
set_option maxRecDepth 20000 in
theorem gX5_put_X5_finish : GoodIn wsX5_put (wsV RX5 148 RX5 yX5_finish wsX5_finish) := goodIn_app (goodIn_of _ (by decide +kernel)) ggX5_put_X5_finish
theorem dX5_put_0 : decode cX5_put 0 = .ok (.aload_n 0, 1) := by decide +kernel
theorem dX5_put_1 : decode cX5_put 1 = .ok (.iconst 0, 1) := by decide +kernel
theorem dX5_put_2 : decode cX5_put 2 = .ok (.putfield 85, 3) := by decide +kernel
theorem dX5_put_5 : decode cX5_put 5 = .ok (.aload_n 0, 1) := by decide +kernel
theorem dX5_put_6 : decode cX5_put 6 = .ok (.iload_n 1, 1) := by decide +kernel
theorem dX5_put_7 : decode cX5_put 7 = .ok (.invokevirtual 157, 3) := by decide +kernel
theorem dX5_put_10 : decode cX5_put 10 = .ok (.ifCond .eq 19, 3) := by decide +kernel
theorem dX5_put_13 : decode cX5_put 13 = .ok (.aload_n 0, 1) := by decide +kernel
theorem dX5_put_14 : decode cX5_put 14 = .ok (.iload_n 2, 1) := by decide +kernel
theorem dX5_put_15 : decode cX5_put 15 = .ok (.invokevirtual 157, 3) := by decide +kernel
theorem dX5_put_18 : decode cX5_put 18 = .ok (.ifCond .eq 11, 3) := by decide +kernel
theorem dX5_put_21 : decode cX5_put 21 = .ok (.aload_n 0, 1) := by decide +kernel
theorem dX5_put_22 : decode cX5_put 22 = .ok (.iload_n 3, 1) := by decide +kernel
theorem dX5_put_23 : decode cX5_put 23 = .ok (.invokevirtual 157, 3) := by decide +kernel
theorem dX5_put_26 : decode cX5_put 26 = .ok (.ifCond .ne 9, 3) := by decide +kernel
theorem dX5_put_29 : decode cX5_put 29 = .ok (.aload_n 0, 1) := by decide +kernel
theorem dX5_put_30 : decode cX5_put 30 = .ok (.iconst 1, 1) := by decide +kernel
theorem dX5_put_31 : decode cX5_put 31 = .ok (.invokevirtual 106, 3) := by decide +kernel
theorem dX5_put_34 : decode cX5_put 34 = .ok (.ireturn, 1) := by decide +kernel
theorem dX5_put_35 : decode cX5_put 35 = .ok (.aload_n 0, 1) := by decide +kernel
theorem dX5_put_36 : decode cX5_put 36 = .ok (.iload_n 2, 1) := by decide +kernel
theorem dX5_put_37 : decode cX5_put 37 = .ok (.invokevirtual 169, 3) := by decide +kernel
theorem dX5_put_40 : decode cX5_put 40 = .ok (.ifCond .eq 19, 3) := by decide +kernel
theorem dX5_put_43 : decode cX5_put 43 = .ok (.aload_n 0, 1) := by decide +kernel
theorem dX5_put_44 : decode cX5_put 44 = .ok (.iload_n 2, 1) := by decide +kernel
theorem dX5_put_45 : decode cX5_put 45 = .ok (.invokevirtual 160, 3) := by decide +kernel
theorem dX5_put_48 : decode cX5_put 48 = .ok (.aload_n 0, 1) := by decide +kernel
theorem dX5_put_49 : decode cX5_put 49 = .ok (.iload_n 3, 1) := by decide +kernel
theorem dX5_put_50 : decode cX5_put 50 = .ok (.invokevirtual 160, 3) := by decide +kernel
theorem dX5_put_53 : decode cX5_put 53 = .ok (.invokestatic 163, 3) := by decide +kernel
theorem dX5_put_56 : decode cX5_put 56 = .ok (.ifCond .ne 9, 3) := by decide +kernel
theorem dX5_put_59 : decode cX5_put 59 = .ok (.aload_n 0, 1) := by decide +kernel
theorem dX5_put_60 : decode cX5_put 60 = .ok (.iconst 2, 1) := by decide +kernel
theorem dX5_put_61 : decode cX5_put 61 = .ok (.invokevirtual 106, 3) := by decide +kernel
theorem dX5_put_64 : decode cX5_put 64 = .ok (.ireturn, 1) := by decide +kernel
theorem dX5_put_65 : decode cX5_put 65 = .ok (.aload_n 0, 1) := by decide +kernel
theorem dX5_put_66 : decode cX5_put 66 = .ok (.getfield 55, 3) := by decide +kernel
theorem dX5_put_69 : decode cX5_put 69 = .ok (.aload_n 0, 1) := by decide +kernel
theorem dX5_put_70 : decode cX5_put 70 = .ok (.getfield 51, 3) := by decide +kernel
theorem dX5_put_73 : decode cX5_put 73 = .ok (.iload_n 2, 1) := by decide +kernel
theorem dX5_put_74 : decode cX5_put 74 = .ok (.iaload, 1) := by decide +kernel
theorem dX5_put_75 : decode cX5_put 75 = .ok (.iaload, 1) := by decide +kernel
theorem dX5_put_76 : decode cX5_put 76 = .ok (.istore 4, 2) := by decide +kernel
theorem dX5_put_78 : decode cX5_put 78 = .ok (.aload_n 0, 1) := by decide +kernel
theorem dX5_put_79 : decode cX5_put 79 = .ok (.getfield 51, 3) := by decide +kernel
theorem dX5_put_82 : decode cX5_put 82 = .ok (.aload_n 0, 1) := by decide +kernel
theorem dX5_put_83 : decode cX5_put 83 = .ok (.getfield 130, 3) := by decide +kernel
theorem dX5_put_86 : decode cX5_put 86 = .ok (.iaload, 1) := by decide +kernel
theorem dX5_put_87 : decode cX5_put 87 = .ok (.istore 5, 2) := by decide +kernel
theorem dX5_put_89 : decode cX5_put 89 = .ok (.aload_n 0, 1) := by decide +kernel
theorem dX5_put_90 : decode cX5_put 90 = .ok (.getfield 51, 3) := by decide +kernel
theorem dX5_put_93 : decode cX5_put 93 = .ok (.iload_n 1, 1) := by decide +kernel
theorem dX5_put_94 : decode cX5_put 94 = .ok (.iaload, 1) := by decide +kernel
theorem dX5_put_95 : decode cX5_put 95 = .ok (.istore 6, 2) := by decide +kernel
theorem dX5_put_97 : decode cX5_put 97 = .ok (.iload 6, 2) := by decide +kernel
theorem dX5_put_99 : decode cX5_put 99 = .ok (.aload_n 0, 1) := by decide +kernel
theorem dX5_put_100 : decode cX5_put 100 = .ok (.getfield 51, 3) := by decide +kernel
theorem dX5_put_103 : decode cX5_put 103 = .ok (.iload_n 1, 1) := by decide +kernel
theorem dX5_put_104 : decode cX5_put 104 = .ok (.iconst 1, 1) := by decide +kernel
theorem dX5_put_105 : decode cX5_put 105 = .ok (.iadd, 1) := by decide +kernel
theorem dX5_put_106 : decode cX5_put 106 = .ok (.iaload, 1) := by decide +kernel
theorem dX5_put_107 : decode cX5_put 107 = .ok (.if_icmp .ge 70, 3) := by decide +kernel
theorem dX5_put_110 : decode cX5_put 110 = .ok (.aload_n 0, 1) := by decide +kernel
theorem dX5_put_111 : decode cX5_put 111 = .ok (.iload 6, 2) := by decide +kernel
theorem dX5_put_113 : decode cX5_put 113 = .ok (.iload 4, 2) := by decide +kernel
theorem dX5_put_115 : decode cX5_put 115 = .ok (.aload_n 0, 1) := by decide +kernel
theorem dX5_put_116 : decode cX5_put 116 = .ok (.iload_n 2, 1) := by decide +kernel
theorem dX5_put_117 : decode cX5_put 117 = .ok (.invokevirtual 160, 3) := by decide +kernel
theorem dX5_put_120 : decode cX5_put 120 = .ok (.invokevirtual 172, 3) := by decide +kernel
theorem dX5_put_123 : decode cX5_put 123 = .ok (.ifCond .eq 26, 3) := by decide +kernel
theorem dX5_put_126 : decode cX5_put 126 = .ok (.aload_n 0, 1) := by decide +kernel
theorem dX5_put_127 : decode cX5_put 127 = .ok (.iload 5, 2) := by decide +kernel
theorem dX5_put_129 : decode cX5_put 129 = .ok (.aload_n 0, 1) := by decide +kernel
theorem dX5_put_130 : decode cX5_put 130 = .ok (.getfield 51, 3) := by decide +kernel
theorem dX5_put_133 : decode cX5_put 133 = .ok (.iload_n 3, 1) := by decide +kernel
theorem dX5_put_134 : decode cX5_put 134 = .ok (.iaload, 1) := by decide +kernel
theorem dX5_put_135 : decode cX5_put 135 = .ok (.aload_n 0, 1) := by decide +kernel
theorem dX5_put_136 : decode cX5_put 136 = .ok (.getfield 51, 3) := by decide +kernel
theorem dX5_put_139 : decode cX5_put 139 = .ok (.iload_n 3, 1) := by decide +kernel
theorem dX5_put_140 : decode cX5_put 140 = .ok (.iconst 1, 1) := by decide +kernel
theorem dX5_put_141 : decode cX5_put 141 = .ok (.iadd, 1) := by decide +kernel
theorem dX5_put_142 : decode cX5_put 142 = .ok (.iaload, 1) := by decide +kernel
theorem dX5_put_143 : decode cX5_put 143 = .ok (.invokevirtual 166, 3) := by decide +kernel
theorem dX5_put_146 : decode cX5_put 146 = .ok (.goto 23, 3) := by decide +kernel
theorem dX5_put_149 : decode cX5_put 149 = .ok (.aload_n 0, 1) := by decide +kernel
theorem dX5_put_150 : decode cX5_put 150 = .ok (.iload 5, 2) := by decide +kernel
theorem dX5_put_152 : decode cX5_put 152 = .ok (.aload_n 0, 1) := by decide +kernel
theorem dX5_put_153 : decode cX5_put 153 = .ok (.getfield 55, 3) := by decide +kernel
theorem dX5_put_156 : decode cX5_put 156 = .ok (.iload 6, 2) := by decide +kernel
theorem dX5_put_158 : decode cX5_put 158 = .ok (.iaload, 1) := by decide +kernel
theorem dX5_put_159 : decode cX5_put 159 = .ok (.aload_n 0, 1) := by decide +kernel
theorem dX5_put_160 : decode cX5_put 160 = .ok (.getfield 58, 3) := by decide +kernel
theorem dX5_put_163 : decode cX5_put 163 = .ok (.iload 6, 2) := by decide +kernel
theorem dX5_put_165 : decode cX5_put 165 = .ok (.iaload, 1) := by decide +kernel
theorem dX5_put_166 : decode cX5_put 166 = .ok (.invokevirtual 139, 3) := by decide +kernel
theorem dX5_put_169 : decode cX5_put 169 = .ok (.istore 5, 2) := by decide +kernel
theorem dX5_put_171 : decode cX5_put 171 = .ok (.iinc 6 1, 3) := by decide +kernel
theorem dX5_put_174 : decode cX5_put 174 = .ok (.goto (-77), 3) := by decide +kernel
theorem dX5_put_177 : decode cX5_put 177 = .ok (.aload_n 0, 1) := by decide +kernel
theorem dX5_put_178 : decode cX5_put 178 = .ok (.iload 5, 2) := by decide +kernel
theorem dX5_put_180 : decode cX5_put 180 = .ok (.iconst 3, 1) := by decide +kernel
theorem dX5_put_181 : decode cX5_put 181 = .ok (.invokevirtual 148, 3) := by decide +kernel
theorem dX5_put_184 : decode cX5_put 184 = .ok (.ireturn, 1) := by decide +kernel
set_option maxRecDepth 20000 in
theorem ggX5_exchange_X5_node : GoodIn wsX5_exchange wsX5_node := goodIn_r _ [13, 14, 8, 5, 6, 15, 1, 16, 17, 18, 19, 12, 20, 21, 22, 23, 24, 25, 26, 27, 28, 29, 30, 31, 32, 33, 34, 35, 36, 37, 38, 39, 40, 41, 42, 43, 44, 45, 46, 47, 48, 49, 50] (by decide +kernel) (by decide +kernel)
set_option maxRecDepth 20000 in
theorem gX5_exchange_X5_node : GoodIn wsX5_exchange (wsV RX5 113 RX5 yX5_node wsX5_node) := goodIn_app (goodIn_of _ (by decide +kernel)) ggX5_exchange_X5_node
theorem dX5_exchange_0 : decode cX5_exchange 0 = .ok (.aload_n 0, 1) := by decide +kernel
theorem dX5_exchange_1 : decode cX5_exchange 1 = .ok (.getfield 96, 3) := by decide +kernel
theorem dX5_exchange_4 : decode cX5_exchange 4 = .ok (.istore 4, 2) := by decide +kernel
theorem dX5_exchange_6 : decode cX5_exchange 6 = .ok (.iconst 0, 1) := by decide +kernel
theorem dX5_exchange_7 : decode cX5_exchange 7 = .ok (.istore 5, 2) := by decide +kernel
theorem dX5_exchange_9 : decode cX5_exchange 9 = .ok (.iload 5, 2) := by decide +kernel
theorem dX5_exchange_11 : decode cX5_exchange 11 = .ok (.iload 4, 2) := by decide +kernel
theorem dX5_exchange_13 : decode cX5_exchange 13 = .ok (.if_icmp .ge 17, 3) := by decide +kernel
theorem dX5_exchange_16 : decode cX5_exchange 16 = .ok (.aload_n 0, 1) := by decide +kernel
theorem dX5_exchange_17 : decode cX5_exchange 17 = .ok (.getfield 47, 3) := by decide +kernel
theorem dX5_exchange_20 : decode cX5_exchange 20 = .ok (.iload 5, 2) := by decide +kernel
theorem dX5_exchange_22 : decode cX5_exchange 22 = .ok (.iconst 0, 1) := by decide +kernel
theorem dX5_exchange_23 : decode cX5_exchange 23 = .ok (.bastore, 1) := by decide +kernel
theorem dX5_exchange_24 : decode cX5_exchange 24 = .ok (.iinc 5 1, 3) := by decide +kernel
theorem dX5_exchange_27 : decode cX5_exchange 27 = .ok (.goto (-18), 3) := by decide +kernel
theorem dX5_exchange_30 : decode cX5_exchange 30 = .ok (.aload_n 0, 1) := by decide +kernel
theorem dX5_exchange_31 : decode cX5_exchange 31 = .ok (.getfield 51, 3) := by decide +kernel
theorem dX5_exchange_34 : decode cX5_exchange 34 = .ok (.iload_n 1, 1) := by decide +kernel
theorem dX5_exchange_35 : decode cX5_exchange 35 = .ok (.iaload, 1) := by decide +kernel
theorem dX5_exchange_36 : decode cX5_exchange 36 = .ok (.istore 5, 2) := by decide +kernel
theorem dX5_exchange_38 : decode cX5_exchange 38 = .ok (.iload 5, 2) := by decide +kernel
theorem dX5_exchange_40 : decode cX5_exchange 40 = .ok (.aload_n 0, 1) := by decide +kernel
theorem dX5_exchange_41 : decode cX5_exchange 41 = .ok (.getfield 51, 3) := by decide +kernel
theorem dX5_exchange_44 : decode cX5_exchange 44 = .ok (.iload_n 1, 1) := by decide +kernel
theorem dX5_exchange_45 : decode cX5_exchange 45 = .ok (.iconst 1, 1) := by decide +kernel
theorem dX5_exchange_46 : decode cX5_exchange 46 = .ok (.iadd, 1) := by decide +kernel
theorem dX5_exchange_47 : decode cX5_exchange 47 = .ok (.iaload, 1) := by decide +kernel
theorem dX5_exchange_48 : decode cX5_exchange 48 = .ok (.if_icmp .ge 22, 3) := by decide +kernel
theorem dX5_exchange_51 : decode cX5_exchange 51 = .ok (.aload_n 0, 1) := by decide +kernel
theorem dX5_exchange_52 : decode cX5_exchange 52 = .ok (.getfield 47, 3) := by decide +kernel
theorem dX5_exchange_55 : decode cX5_exchange 55 = .ok (.aload_n 0, 1) := by decide +kernel
theorem dX5_exchange_56 : decode cX5_exchange 56 = .ok (.getfield 58, 3) := by decide +kernel
theorem dX5_exchange_59 : decode cX5_exchange 59 = .ok (.iload 5, 2) := by decide +kernel
theorem dX5_exchange_61 : decode cX5_exchange 61 = .ok (.iaload, 1) := by decide +kernel
theorem dX5_exchange_62 : decode cX5_exchange 62 = .ok (.iconst 1, 1) := by decide +kernel
theorem dX5_exchange_63 : decode cX5_exchange 63 = .ok (.bastore, 1) := by decide +kernel
theorem dX5_exchange_64 : decode cX5_exchange 64 = .ok (.iinc 5 1, 3) := by decide +kernel
theorem dX5_exchange_67 : decode cX5_exchange 67 = .ok (.goto (-29), 3) := by decide +kernel
theorem dX5_exchange_70 : decode cX5_exchange 70 = .ok (.iload 4, 2) := by decide +kernel
theorem dX5_exchange_72 : decode cX5_exchange 72 = .ok (.iconst 1, 1) := by decide +kernel
theorem dX5_exchange_73 : decode cX5_exchange 73 = .ok (.isub, 1) := by decide +kernel
theorem dX5_exchange_74 : decode cX5_exchange 74 = .ok (.istore 5, 2) := by decide +kernel
theorem dX5_exchange_76 : decode cX5_exchange 76 = .ok (.iload 5, 2) := by decide +kernel
theorem dX5_exchange_78 : decode cX5_exchange 78 = .ok (.ifCond .lt 70, 3) := by decide +kernel
theorem dX5_exchange_81 : decode cX5_exchange 81 = .ok (.aload_n 0, 1) := by decide +kernel
theorem dX5_exchange_82 : decode cX5_exchange 82 = .ok (.getfield 47, 3) := by decide +kernel
theorem dX5_exchange_85 : decode cX5_exchange 85 = .ok (.iload 5, 2) := by decide +kernel
theorem dX5_exchange_87 : decode cX5_exchange 87 = .ok (.baload, 1) := by decide +kernel
theorem dX5_exchange_88 : decode cX5_exchange 88 = .ok (.ifCond .eq 54, 3) := by decide +kernel
theorem dX5_exchange_91 : decode cX5_exchange 91 = .ok (.aload_n 0, 1) := by decide +kernel
theorem dX5_exchange_92 : decode cX5_exchange 92 = .ok (.getfield 23, 3) := by decide +kernel
theorem dX5_exchange_95 : decode cX5_exchange 95 = .ok (.iload 5, 2) := by decide +kernel
theorem dX5_exchange_97 : decode cX5_exchange 97 = .ok (.iaload, 1) := by decide +kernel
theorem dX5_exchange_98 : decode cX5_exchange 98 = .ok (.iconst (-1), 1) := by decide +kernel
theorem dX5_exchange_99 : decode cX5_exchange 99 = .ok (.if_icmp .ne 6, 3) := by decide +kernel
theorem dX5_exchange_102 : decode cX5_exchange 102 = .ok (.goto 40, 3) := by decide +kernel
theorem dX5_exchange_105 : decode cX5_exchange 105 = .ok (.aload_n 0, 1) := by decide +kernel
theorem dX5_exchange_106 : decode cX5_exchange 106 = .ok (.getfield 47, 3) := by decide +kernel
theorem dX5_exchange_109 : decode cX5_exchange 109 = .ok (.aload_n 0, 1) := by decide +kernel
theorem dX5_exchange_110 : decode cX5_exchange 110 = .ok (.getfield 23, 3) := by decide +kernel
theorem dX5_exchange_113 : decode cX5_exchange 113 = .ok (.iload 5, 2) := by decide +kernel
theorem dX5_exchange_115 : decode cX5_exchange 115 = .ok (.iaload, 1) := by decide +kernel
theorem dX5_exchange_116 : decode cX5_exchange 116 = .ok (.iconst 1, 1) := by decide +kernel
theorem dX5_exchange_117 : decode cX5_exchange 117 = .ok (.bastore, 1) := by decide +kernel
theorem dX5_exchange_118 : decode cX5_exchange 118 = .ok (.aload_n 0, 1) := by decide +kernel
theorem dX5_exchange_119 : decode cX5_exchange 119 = .ok (.getfield 26, 3) := by decide +kernel
theorem dX5_exchange_122 : decode cX5_exchange 122 = .ok (.iload 5, 2) := by decide +kernel
theorem dX5_exchange_124 : decode cX5_exchange 124 = .ok (.iaload, 1) := by decide +kernel
theorem dX5_exchange_125 : decode cX5_exchange 125 = .ok (.iconst (-1), 1) := by decide +kernel
theorem dX5_exchange_126 : decode cX5_exchange 126 = .ok (.if_icmp .eq 16, 3) := by decide +kernel
theorem dX5_exchange_129 : decode cX5_exchange 129 = .ok (.aload_n 0, 1) := by decide +kernel
theorem dX5_exchange_130 : decode cX5_exchange 130 = .ok (.getfield 47, 3) := by decide +kernel
theorem dX5_exchange_133 : decode cX5_exchange 133 = .ok (.aload_n 0, 1) := by decide +kernel
theorem dX5_exchange_134 : decode cX5_exchange 134 = .ok (.getfield 26, 3) := by decide +kernel
theorem dX5_exchange_137 : decode cX5_exchange 137 = .ok (.iload 5, 2) := by decide +kernel
theorem dX5_exchange_139 : decode cX5_exchange 139 = .ok (.iaload, 1) := by decide +kernel
theorem dX5_exchange_140 : decode cX5_exchange 140 = .ok (.iconst 1, 1) := by decide +kernel
theorem dX5_exchange_141 : decode cX5_exchange 141 = .ok (.bastore, 1) := by decide +kernel
theorem dX5_exchange_142 : decode cX5_exchange 142 = .ok (.iinc 5 (-1), 3) := by decide +kernel
theorem dX5_exchange_145 : decode cX5_exchange 145 = .ok (.goto (-69), 3) := by decide +kernel
theorem dX5_exchange_148 : decode cX5_exchange 148 = .ok (.iconst 0, 1) := by decide +kernel
theorem dX5_exchange_149 : decode cX5_exchange 149 = .ok (.istore 5, 2) := by decide +kernel
theorem dX5_exchange_151 : decode cX5_exchange 151 = .ok (.iload 5, 2) := by decide +kernel
theorem dX5_exchange_153 : decode cX5_exchange 153 = .ok (.iload 4, 2) := by decide +kernel
theorem dX5_exchange_155 : decode cX5_exchange 155 = .ok (.if_icmp .ge 151, 3) := by decide +kernel
theorem dX5_exchange_158 : decode cX5_exchange 158 = .ok (.aload_n 0, 1) := by decide +kernel
theorem dX5_exchange_159 : decode cX5_exchange 159 = .ok (.getfield 47, 3) := by decide +kernel
theorem dX5_exchange_162 : decode cX5_exchange 162 = .ok (.iload 5, 2) := by decide +kernel
theorem dX5_exchange_164 : decode cX5_exchange 164 = .ok (.baload, 1) := by decide +kernel
theorem dX5_exchange_165 : decode cX5_exchange 165 = .ok (.ifCond .ne 6, 3) := by decide +kernel
theorem dX5_exchange_168 : decode cX5_exchange 168 = .ok (.goto 132, 3) := by decide +kernel
theorem dX5_exchange_171 : decode cX5_exchange 171 = .ok (.aload_n 0, 1) := by decide +kernel
theorem dX5_exchange_172 : decode cX5_exchange 172 = .ok (.getfield 44, 3) := by decide +kernel
theorem dX5_exchange_175 : decode cX5_exchange 175 = .ok (.iload 5, 2) := by decide +kernel
theorem dX5_exchange_177 : decode cX5_exchange 177 = .ok (.aload_n 0, 1) := by decide +kernel
theorem dX5_exchange_178 : decode cX5_exchange 178 = .ok (.getfield 20, 3) := by decide +kernel
theorem dX5_exchange_181 : decode cX5_exchange 181 = .ok (.iload 5, 2) := by decide +kernel
theorem dX5_exchange_183 : decode cX5_exchange 183 = .ok (.iaload, 1) := by decide +kernel
theorem dX5_exchange_184 : decode cX5_exchange 184 = .ok (.iconst (-1), 1) := by decide +kernel
theorem dX5_exchange_185 : decode cX5_exchange 185 = .ok (.iload_n 2, 1) := by decide +kernel
theorem dX5_exchange_186 : decode cX5_exchange 186 = .ok (.isub, 1) := by decide +kernel
theorem dX5_exchange_187 : decode cX5_exchange 187 = .ok (.if_icmp .ne 7, 3) := by decide +kernel
theorem dX5_exchange_190 : decode cX5_exchange 190 = .ok (.iload_n 3, 1) := by decide +kernel
theorem dX5_exchange_191 : decode cX5_exchange 191 = .ok (.goto 5, 3) := by decide +kernel
theorem dX5_exchange_194 : decode cX5_exchange 194 = .ok (.iload 5, 2) := by decide +kernel
theorem dX5_exchange_196 : decode cX5_exchange 196 = .ok (.iastore, 1) := by decide +kernel
theorem dX5_exchange_197 : decode cX5_exchange 197 = .ok (.aload_n 0, 1) := by decide +kernel
theorem dX5_exchange_198 : decode cX5_exchange 198 = .ok (.getfield 23, 3) := by decide +kernel
theorem dX5_exchange_201 : decode cX5_exchange 201 = .ok (.iload 5, 2) := by decide +kernel
theorem dX5_exchange_203 : decode cX5_exchange 203 = .ok (.iaload, 1) := by decide +kernel
theorem dX5_exchange_204 : decode cX5_exchange 204 = .ok (.iconst (-1), 1) := by decide +kernel
theorem dX5_exchange_205 : decode cX5_exchange 205 = .ok (.if_icmp .ne 6, 3) := by decide +kernel
theorem dX5_exchange_208 : decode cX5_exchange 208 = .ok (.goto 92, 3) := by decide +kernel
theorem dX5_exchange_211 : decode cX5_exchange 211 = .ok (.aload_n 0, 1) := by decide +kernel
theorem dX5_exchange_212 : decode cX5_exchange 212 = .ok (.getfield 44, 3) := by decide +kernel
theorem dX5_exchange_215 : decode cX5_exchange 215 = .ok (.aload_n 0, 1) := by decide +kernel
theorem dX5_exchange_216 : decode cX5_exchange 216 = .ok (.getfield 23, 3) := by decide +kernel
theorem dX5_exchange_219 : decode cX5_exchange 219 = .ok (.iload 5, 2) := by decide +kernel
theorem dX5_exchange_221 : decode cX5_exchange 221 = .ok (.iaload, 1) := by decide +kernel
theorem dX5_exchange_222 : decode cX5_exchange 222 = .ok (.iaload, 1) := by decide +kernel
theorem dX5_exchange_223 : decode cX5_exchange 223 = .ok (.istore 6, 2) := by decide +kernel
theorem dX5_exchange_225 : decode cX5_exchange 225 = .ok (.aload_n 0, 1) := by decide +kernel
theorem dX5_exchange_226 : decode cX5_exchange 226 = .ok (.getfield 26, 3) := by decide +kernel
theorem dX5_exchange_229 : decode cX5_exchange 229 = .ok (.iload 5, 2) := by decide +kernel
theorem dX5_exchange_231 : decode cX5_exchange 231 = .ok (.iaload, 1) := by decide +kernel
theorem dX5_exchange_232 : decode cX5_exchange 232 = .ok (.iconst (-1), 1) := by decide +kernel
theorem dX5_exchange_233 : decode cX5_exchange 233 = .ok (.if_icmp .ne 7, 3) := by decide +kernel
theorem dX5_exchange_236 : decode cX5_exchange 236 = .ok (.iconst (-1), 1) := by decide +kernel
theorem dX5_exchange_237 : decode cX5_exchange 237 = .ok (.goto 15, 3) := by decide +kernel
theorem dX5_exchange_240 : decode cX5_exchange 240 = .ok (.aload_n 0, 1) := by decide +kernel
theorem dX5_exchange_241 : decode cX5_exchange 241 = .ok (.getfield 44, 3) := by decide +kernel
theorem dX5_exchange_244 : decode cX5_exchange 244 = .ok (.aload_n 0, 1) := by decide +kernel
theorem dX5_exchange_245 : decode cX5_exchange 245 = .ok (.getfield 26, 3) := by decide +kernel
theorem dX5_exchange_248 : decode cX5_exchange 248 = .ok (.iload 5, 2) := by decide +kernel
theorem dX5_exchange_250 : decode cX5_exchange 250 = .ok (.iaload, 1) := by decide +kernel
theorem dX5_exchange_251 : decode cX5_exchange 251 = .ok (.iaload, 1) := by decide +kernel
theorem dX5_exchange_252 : decode cX5_exchange 252 = .ok (.istore 7, 2) := by decide +kernel
theorem dX5_exchange_254 : decode cX5_exchange 254 = .ok (.iload 6, 2) := by decide +kernel
theorem dX5_exchange_256 : decode cX5_exchange 256 = .ok (.aload_n 0, 1) := by decide +kernel
theorem dX5_exchange_257 : decode cX5_exchange 257 = .ok (.getfield 23, 3) := by decide +kernel
theorem dX5_exchange_260 : decode cX5_exchange 260 = .ok (.iload 5, 2) := by decide +kernel
theorem dX5_exchange_262 : decode cX5_exchange 262 = .ok (.iaload, 1) := by decide +kernel
theorem dX5_exchange_263 : decode cX5_exchange 263 = .ok (.if_icmp .ne 15, 3) := by decide +kernel
theorem dX5_exchange_266 : decode cX5_exchange 266 = .ok (.iload 7, 2) := by decide +kernel
theorem dX5_exchange_268 : decode cX5_exchange 268 = .ok (.aload_n 0, 1) := by decide +kernel
theorem dX5_exchange_269 : decode cX5_exchange 269 = .ok (.getfield 26, 3) := by decide +kernel
theorem dX5_exchange_272 : decode cX5_exchange 272 = .ok (.iload 5, 2) := by decide +kernel
theorem dX5_exchange_274 : decode cX5_exchange 274 = .ok (.iaload, 1) := by decide +kernel
theorem dX5_exchange_275 : decode cX5_exchange 275 = .ok (.if_icmp .eq 25, 3) := by decide +kernel
theorem dX5_exchange_278 : decode cX5_exchange 278 = .ok (.aload_n 0, 1) := by decide +kernel
theorem dX5_exchange_279 : decode cX5_exchange 279 = .ok (.getfield 44, 3) := by decide +kernel
theorem dX5_exchange_282 : decode cX5_exchange 282 = .ok (.iload 5, 2) := by decide +kernel
theorem dX5_exchange_284 : decode cX5_exchange 284 = .ok (.aload_n 0, 1) := by decide +kernel
theorem dX5_exchange_285 : decode cX5_exchange 285 = .ok (.aload_n 0, 1) := by decide +kernel
theorem dX5_exchange_286 : decode cX5_exchange 286 = .ok (.getfield 20, 3) := by decide +kernel
theorem dX5_exchange_289 : decode cX5_exchange 289 = .ok (.iload 5, 2) := by decide +kernel
theorem dX5_exchange_291 : decode cX5_exchange 291 = .ok (.iaload, 1) := by decide +kernel
theorem dX5_exchange_292 : decode cX5_exchange 292 = .ok (.iload 6, 2) := by decide +kernel
theorem dX5_exchange_294 : decode cX5_exchange 294 = .ok (.iload 7, 2) := by decide +kernel
theorem dX5_exchange_296 : decode cX5_exchange 296 = .ok (.invokevirtual 113, 3) := by decide +kernel
theorem dX5_exchange_299 : decode cX5_exchange 299 = .ok (.iastore, 1) := by decide +kernel
theorem dX5_exchange_300 : decode cX5_exchange 300 = .ok (.iinc 5 1, 3) := by decide +kernel
theorem dX5_exchange_303 : decode cX5_exchange 303 = .ok (.goto (-152), 3) := by decide +kernel
theorem dX5_exchange_306 : decode cX5_exchange 306 = .ok (.return_, 1) := by decide +kernel
set_option maxRecDepth 20000 in
theorem ggX5_retype_X5_isTerm : GoodIn wsX5_retype wsX5_isTerm := goodIn_r _ [14, 6, 15, 16, 13, 17, 74, 75, 76, 77, 78, 79, 80, 81, 82, 83, 84, 85, 86, 87, 88, 89, 90, 91, 92, 93, 94, 95, 96, 97, 98, 99, 100, 101, 102, 103] (by decide +kernel) (by decide +kernel)
set_option maxRecDepth 20000 in
theorem gX5_retype_X5_isTerm : GoodIn wsX5_retype (wsV RX5 157 RX5 yX5_isTerm wsX5_isTerm) := goodIn_app (goodIn_of _ (by decide +kernel)) ggX5_retype_X5_isTerm
set_option maxRecDepth 20000 in
theorem ggX5_retype_X5_outside : GoodIn wsX5_retype wsX5_outside := goodIn_r _ [17] (by decide +kernel) (by decide +kernel)
set_option maxRecDepth 20000 in
theorem gX5_retype_X5_outside : GoodIn wsX5_retype (va_wsS RX5 88 yX5_outside wsX5_outside) := goodIn_app (goodIn_of _ (by decide +kernel)) ggX5_retype_X5_outside
set_option maxRecDepth 20000 in
theorem ggX5_retype_X5_fail : GoodIn wsX5_retype wsX5_fail := goodIn_r _ [21, 1, 74, 75, 76, 77, 78, 79, 80, 81, 82, 83, 84, 85, 86, 87, 88, 89, 90, 91, 92, 93, 94, 95, 96, 97, 98, 99, 100, 101, 102, 103] (by decide +kernel) (by decide +kernel)
set_option maxRecDepth 20000 in
theorem gX5_retype_X5_fail : GoodIn wsX5_retype (wsV RX5 106 RX5 yX5_fail wsX5_fail) := goodIn_app (goodIn_of _ (by decide +kernel)) ggX5_retype_X5_fail
set_option maxRecDepth 20000 in
theorem ggX5_retype_X5_exchange : GoodIn wsX5_retype wsX5_exchange := goodIn_r _ [25, 3, 26, 5, 8, 27, 28, 7, 29, 30, 31, 32, 13, 33, 34, 35, 36, 37, 38, 39, 40, 74, 75, 76, 77, 78, 79, 80, 81, 82, 83, 84, 85, 86, 87, 88, 89, 90, 91, 92, 93, 94, 95, 96, 97, 98, 99, 100, 101, 102, 103] (by decide +kernel) (by decide +kernel)
set_option maxRecDepth 20000 in
theorem gX5_retype_X5_exchange : GoodIn wsX5_retype (wsV RX5 176 RX5 yX5_exchange wsX5_exchange) := goodIn_app (goodIn_of _ (by decide +kernel)) ggX5_retype_X5_exchange
set_option maxRecDepth 20000 in
theorem ggX5_retype_X5_isSmall : GoodIn wsX5_retype wsX5_isSmall := goodIn_r _ [44, 36, 37, 74, 75, 76, 77, 78, 79, 80, 81, 82, 83, 84, 85, 86, 87, 88, 89, 90, 91, 92, 93, 94, 95, 96, 97, 98, 99, 100, 101, 102, 103] (by decide +kernel) (by decide +kernel)
set_option maxRecDepth 20000 in
theorem gX5_retype_X5_isSmall : GoodIn wsX5_retype (wsV RX5 99 RX5 yX5_isSmall wsX5_isSmall) := goodIn_app (goodIn_of _ (by decide +kernel)) ggX5_retype_X5_isSmall
set_option maxRecDepth 20000 in
theorem ggX5_retype_X5_write : GoodIn wsX5_retype wsX5_write := goodIn_r _ [48, 5, 6, 9, 8, 74, 75, 76, 77, 78, 79, 80, 81, 82, 83, 84, 85, 86, 87, 88, 89, 90, 91, 92, 93, 94, 95, 96, 97, 98, 99, 100, 101, 102, 103] (by decide +kernel) (by decide +kernel)
set_option maxRecDepth 20000 in
theorem gX5_retype_X5_write : GoodIn wsX5_retype (wsV RX5 139 RX5 yX5_write wsX5_write) := goodIn_app (goodIn_of _ (by decide +kernel)) ggX5_retype_X5_write
set_option maxRecDepth 20000 in
theorem ggX5_retype_X5_finish : GoodIn wsX5_retype wsX5_finish := goodIn_r _ [52, 53, 54, 55, 13, 56, 5, 6, 18, 19, 20, 21, 1, 57, 58, 59, 60, 61, 62, 63, 64, 65, 9, 66, 67, 68, 69, 74, 75, 76, 77, 78, 79, 80, 81, 82, 83, 84, 85, 86, 87, 88, 89, 90, 91, 92, 93, 94, 95, 96, 97, 98, 99, 100, 101, 102, 103] (by decide +kernel) (by decide +kernel)
set_option maxRecDepth 20000 in
theorem gX5_retype_X5_finish : GoodIn wsX5_retype (wsV RX5 148 RX5 yX5_finish wsX5_finish) := goodIn_app (goodIn_of _ (by decide +kernel)) ggX5_retype_X5_finish
set_option maxRecDepth 20000 in
theorem ggX5_retype_X5_cut : GoodIn wsX5_retype wsX5_cut := goodIn_r _ [73, 3, 34, 29, 27, 28, 35, 38, 39, 13, 40, 74, 75, 76, 77, 78, 79, 80, 81, 82, 83, 84, 85, 86, 87, 88, 89, 90, 91, 92, 93, 94, 95, 96, 97, 98, 99, 100, 101, 102, 103] (by decide +kernel) (by decide +kernel)
set_option maxRecDepth 20000 in
theorem gX5_retype_X5_cut : GoodIn wsX5_retype (wsV RX5 120 RX5 yX5_cut wsX5_cut) := goodIn_app (goodIn_of _ (by decide +kernel)) ggX5_retype_X5_cut
theorem dX5_retype_0 : decode cX5_retype 0 = .ok (.aload_n 0, 1) := by decide +kernel
theorem dX5_retype_1 : decode cX5_retype 1 = .ok (.iconst 0, 1) := by decide +kernel
theorem dX5_retype_2 : decode cX5_retype 2 = .ok (.putfield 85, 3) := by decide +kernel
theorem dX5_retype_5 : decode cX5_retype 5 = .ok (.aload_n 0, 1) := by decide +kernel
theorem dX5_retype_6 : decode cX5_retype 6 = .ok (.iload_n 1, 1) := by decide +kernel
theorem dX5_retype_7 : decode cX5_retype 7 = .ok (.invokevirtual 157, 3) := by decide +kernel
theorem dX5_retype_10 : decode cX5_retype 10 = .ok (.ifCond .eq 14, 3) := by decide +kernel
theorem dX5_retype_13 : decode cX5_retype 13 = .ok (.iload_n 3, 1) := by decide +kernel
theorem dX5_retype_14 : decode cX5_retype 14 = .ok (.aload_n 0, 1) := by decide +kernel
theorem dX5_retype_15 : decode cX5_retype 15 = .ok (.getfield 110, 3) := by decide +kernel
theorem dX5_retype_18 : decode cX5_retype 18 = .ok (.invokestatic 88, 3) := by decide +kernel
theorem dX5_retype_21 : decode cX5_retype 21 = .ok (.ifCond .eq 9, 3) := by decide +kernel
theorem dX5_retype_24 : decode cX5_retype 24 = .ok (.aload_n 0, 1) := by decide +kernel
theorem dX5_retype_25 : decode cX5_retype 25 = .ok (.iconst 1, 1) := by decide +kernel
theorem dX5_retype_26 : decode cX5_retype 26 = .ok (.invokevirtual 106, 3) := by decide +kernel
theorem dX5_retype_29 : decode cX5_retype 29 = .ok (.ireturn, 1) := by decide +kernel
theorem dX5_retype_30 : decode cX5_retype 30 = .ok (.iload_n 2, 1) := by decide +kernel
theorem dX5_retype_31 : decode cX5_retype 31 = .ok (.sipush 1000, 3) := by decide +kernel
theorem dX5_retype_34 : decode cX5_retype 34 = .ok (.invokestatic 88, 3) := by decide +kernel
theorem dX5_retype_37 : decode cX5_retype 37 = .ok (.ifCond .eq 9, 3) := by decide +kernel
theorem dX5_retype_40 : decode cX5_retype 40 = .ok (.aload_n 0, 1) := by decide +kernel
theorem dX5_retype_41 : decode cX5_retype 41 = .ok (.iconst 2, 1) := by decide +kernel
theorem dX5_retype_42 : decode cX5_retype 42 = .ok (.invokevirtual 106, 3) := by decide +kernel
theorem dX5_retype_45 : decode cX5_retype 45 = .ok (.ireturn, 1) := by decide +kernel
theorem dX5_retype_46 : decode cX5_retype 46 = .ok (.aload_n 0, 1) := by decide +kernel
theorem dX5_retype_47 : decode cX5_retype 47 = .ok (.getfield 96, 3) := by decide +kernel
theorem dX5_retype_50 : decode cX5_retype 50 = .ok (.istore 4, 2) := by decide +kernel
theorem dX5_retype_52 : decode cX5_retype 52 = .ok (.aload_n 0, 1) := by decide +kernel
theorem dX5_retype_53 : decode cX5_retype 53 = .ok (.iload_n 1, 1) := by decide +kernel
theorem dX5_retype_54 : decode cX5_retype 54 = .ok (.iload_n 2, 1) := by decide +kernel
theorem dX5_retype_55 : decode cX5_retype 55 = .ok (.aload_n 0, 1) := by decide +kernel
theorem dX5_retype_56 : decode cX5_retype 56 = .ok (.getfield 41, 3) := by decide +kernel
theorem dX5_retype_59 : decode cX5_retype 59 = .ok (.iload_n 3, 1) := by decide +kernel
theorem dX5_retype_60 : decode cX5_retype 60 = .ok (.iaload, 1) := by decide +kernel
theorem dX5_retype_61 : decode cX5_retype 61 = .ok (.invokevirtual 176, 3) := by decide +kernel
theorem dX5_retype_64 : decode cX5_retype 64 = .ok (.iconst 1, 1) := by decide +kernel
theorem dX5_retype_65 : decode cX5_retype 65 = .ok (.istore 5, 2) := by decide +kernel
theorem dX5_retype_67 : decode cX5_retype 67 = .ok (.aload_n 0, 1) := by decide +kernel
theorem dX5_retype_68 : decode cX5_retype 68 = .ok (.getfield 51, 3) := by decide +kernel
theorem dX5_retype_71 : decode cX5_retype 71 = .ok (.aload_n 0, 1) := by decide +kernel
theorem dX5_retype_72 : decode cX5_retype 72 = .ok (.getfield 130, 3) := by decide +kernel
theorem dX5_retype_75 : decode cX5_retype 75 = .ok (.iaload, 1) := by decide +kernel
theorem dX5_retype_76 : decode cX5_retype 76 = .ok (.istore 6, 2) := by decide +kernel
theorem dX5_retype_78 : decode cX5_retype 78 = .ok (.aload_n 0, 1) := by decide +kernel
theorem dX5_retype_79 : decode cX5_retype 79 = .ok (.getfield 51, 3) := by decide +kernel
theorem dX5_retype_82 : decode cX5_retype 82 = .ok (.iload_n 1, 1) := by decide +kernel
theorem dX5_retype_83 : decode cX5_retype 83 = .ok (.iaload, 1) := by decide +kernel
theorem dX5_retype_84 : decode cX5_retype 84 = .ok (.istore 7, 2) := by decide +kernel
theorem dX5_retype_86 : decode cX5_retype 86 = .ok (.iload 7, 2) := by decide +kernel
theorem dX5_retype_88 : decode cX5_retype 88 = .ok (.aload_n 0, 1) := by decide +kernel
theorem dX5_retype_89 : decode cX5_retype 89 = .ok (.getfield 51, 3) := by decide +kernel
theorem dX5_retype_92 : decode cX5_retype 92 = .ok (.iload_n 1, 1) := by decide +kernel
theorem dX5_retype_93 : decode cX5_retype 93 = .ok (.iconst 1, 1) := by decide +kernel
theorem dX5_retype_94 : decode cX5_retype 94 = .ok (.iadd, 1) := by decide +kernel
theorem dX5_retype_95 : decode cX5_retype 95 = .ok (.iaload, 1) := by decide +kernel
theorem dX5_retype_96 : decode cX5_retype 96 = .ok (.if_icmp .ge 67, 3) := by decide +kernel
theorem dX5_retype_99 : decode cX5_retype 99 = .ok (.iload 5, 2) := by decide +kernel
theorem dX5_retype_101 : decode cX5_retype 101 = .ok (.ifCond .eq 26, 3) := by decide +kernel
theorem dX5_retype_104 : decode cX5_retype 104 = .ok (.aload_n 0, 1) := by decide +kernel
theorem dX5_retype_105 : decode cX5_retype 105 = .ok (.aload_n 0, 1) := by decide +kernel
theorem dX5_retype_106 : decode cX5_retype 106 = .ok (.getfield 44, 3) := by decide +kernel
theorem dX5_retype_109 : decode cX5_retype 109 = .ok (.aload_n 0, 1) := by decide +kernel
theorem dX5_retype_110 : decode cX5_retype 110 = .ok (.getfield 58, 3) := by decide +kernel
theorem dX5_retype_113 : decode cX5_retype 113 = .ok (.iload 7, 2) := by decide +kernel
theorem dX5_retype_115 : decode cX5_retype 115 = .ok (.iaload, 1) := by decide +kernel
theorem dX5_retype_116 : decode cX5_retype 116 = .ok (.iaload, 1) := by decide +kernel
theorem dX5_retype_117 : decode cX5_retype 117 = .ok (.invokevirtual 99, 3) := by decide +kernel
theorem dX5_retype_120 : decode cX5_retype 120 = .ok (.ifCond .eq 7, 3) := by decide +kernel
theorem dX5_retype_123 : decode cX5_retype 123 = .ok (.iconst 1, 1) := by decide +kernel
theorem dX5_retype_124 : decode cX5_retype 124 = .ok (.goto 4, 3) := by decide +kernel
theorem dX5_retype_127 : decode cX5_retype 127 = .ok (.iconst 0, 1) := by decide +kernel
theorem dX5_retype_128 : decode cX5_retype 128 = .ok (.istore 5, 2) := by decide +kernel
theorem dX5_retype_130 : decode cX5_retype 130 = .ok (.aload_n 0, 1) := by decide +kernel
theorem dX5_retype_131 : decode cX5_retype 131 = .ok (.iload 6, 2) := by decide +kernel
theorem dX5_retype_133 : decode cX5_retype 133 = .ok (.aload_n 0, 1) := by decide +kernel
theorem dX5_retype_134 : decode cX5_retype 134 = .ok (.getfield 55, 3) := by decide +kernel
theorem dX5_retype_137 : decode cX5_retype 137 = .ok (.iload 7, 2) := by decide +kernel
theorem dX5_retype_139 : decode cX5_retype 139 = .ok (.iaload, 1) := by decide +kernel
theorem dX5_retype_140 : decode cX5_retype 140 = .ok (.aload_n 0, 1) := by decide +kernel
theorem dX5_retype_141 : decode cX5_retype 141 = .ok (.getfield 44, 3) := by decide +kernel
theorem dX5_retype_144 : decode cX5_retype 144 = .ok (.aload_n 0, 1) := by decide +kernel
theorem dX5_retype_145 : decode cX5_retype 145 = .ok (.getfield 58, 3) := by decide +kernel
theorem dX5_retype_148 : decode cX5_retype 148 = .ok (.iload 7, 2) := by decide +kernel
theorem dX5_retype_150 : decode cX5_retype 150 = .ok (.iaload, 1) := by decide +kernel
theorem dX5_retype_151 : decode cX5_retype 151 = .ok (.iaload, 1) := by decide +kernel
theorem dX5_retype_152 : decode cX5_retype 152 = .ok (.invokevirtual 139, 3) := by decide +kernel
theorem dX5_retype_155 : decode cX5_retype 155 = .ok (.istore 6, 2) := by decide +kernel
theorem dX5_retype_157 : decode cX5_retype 157 = .ok (.iinc 7 1, 3) := by decide +kernel
theorem dX5_retype_160 : decode cX5_retype 160 = .ok (.goto (-74), 3) := by decide +kernel
theorem dX5_retype_163 : decode cX5_retype 163 = .ok (.iload 5, 2) := by decide +kernel
theorem dX5_retype_165 : decode cX5_retype 165 = .ok (.ifCond .eq 23, 3) := by decide +kernel
theorem dX5_retype_168 : decode cX5_retype 168 = .ok (.aload_n 0, 1) := by decide +kernel
theorem dX5_retype_169 : decode cX5_retype 169 = .ok (.getfield 96, 3) := by decide +kernel
theorem dX5_retype_172 : decode cX5_retype 172 = .ok (.sipush 8000, 3) := by decide +kernel
theorem dX5_retype_175 : decode cX5_retype 175 = .ok (.if_icmp .gt 13, 3) := by decide +kernel
theorem dX5_retype_178 : decode cX5_retype 178 = .ok (.aload_n 0, 1) := by decide +kernel
theorem dX5_retype_179 : decode cX5_retype 179 = .ok (.iload 6, 2) := by decide +kernel
theorem dX5_retype_181 : decode cX5_retype 181 = .ok (.iconst 3, 1) := by decide +kernel
theorem dX5_retype_182 : decode cX5_retype 182 = .ok (.invokevirtual 148, 3) := by decide +kernel
theorem dX5_retype_185 : decode cX5_retype 185 = .ok (.goto 8, 3) := by decide +kernel
theorem dX5_retype_188 : decode cX5_retype 188 = .ok (.aload_n 0, 1) := by decide +kernel
theorem dX5_retype_189 : decode cX5_retype 189 = .ok (.iconst 3, 1) := by decide +kernel
theorem dX5_retype_190 : decode cX5_retype 190 = .ok (.invokevirtual 106, 3) := by decide +kernel
theorem dX5_retype_193 : decode cX5_retype 193 = .ok (.istore 7, 2) := by decide +kernel
theorem dX5_retype_195 : decode cX5_retype 195 = .ok (.aload_n 0, 1) := by decide +kernel
theorem dX5_retype_196 : decode cX5_retype 196 = .ok (.getfield 85, 3) := by decide +kernel
theorem dX5_retype_199 : decode cX5_retype 199 = .ok (.ifCond .le 9, 3) := by decide +kernel
theorem dX5_retype_202 : decode cX5_retype 202 = .ok (.aload_n 0, 1) := by decide +kernel
theorem dX5_retype_203 : decode cX5_retype 203 = .ok (.iload 4, 2) := by decide +kernel
theorem dX5_retype_205 : decode cX5_retype 205 = .ok (.invokevirtual 120, 3) := by decide +kernel
theorem dX5_retype_208 : decode cX5_retype 208 = .ok (.iload 7, 2) := by decide +kernel
theorem dX5_retype_210 : decode cX5_retype 210 = .ok (.ireturn, 1) := by decide +kernel
set_option maxRecDepth 20000 in
theorem ggX5_typeOf_X5_isTerm : GoodIn wsX5_typeOf wsX5_isTerm := goodIn_r _ [6, 7, 8, 9, 5, 10, 35, 36, 37, 38, 39, 40, 41, 42, 43, 44, 45, 46, 47, 48, 49, 50, 51, 52, 53, 54, 55, 56, 57, 58, 59, 60, 61, 62, 63, 64] (by decide +kernel) (by decide +kernel)
set_option maxRecDepth 20000 in
theorem gX5_typeOf_X5_isTerm : GoodIn wsX5_typeOf (wsV RX5 157 RX5 yX5_isTerm wsX5_isTerm) := goodIn_app (goodIn_of _ (by decide +kernel)) ggX5_typeOf_X5_isTerm
set_option maxRecDepth 20000 in
theorem ggX5_typeOf_X5_topType : GoodIn wsX5_typeOf wsX5_topType := goodIn_r _ [14, 15, 16, 35, 36, 37, 38, 39, 40, 41, 42, 43, 44, 45, 46, 47, 48, 49, 50, 51, 52, 53, 54, 55, 56, 57, 58, 59, 60, 61, 62, 63, 64] (by decide +kernel) (by decide +kernel)
set_option maxRecDepth 20000 in
theorem gX5_typeOf_X5_topType : GoodIn wsX5_typeOf (wsV RX5 160 RX5 yX5_topType wsX5_topType) := goodIn_app (goodIn_of _ (by decide +kernel)) ggX5_typeOf_X5_topType
set_option maxRecDepth 20000 in
theorem ggX5_typeOf_X5_keepType : GoodIn wsX5_typeOf wsX5_keepType := goodIn_r _ [20, 21, 22, 23, 24, 25, 26, 27, 28, 5, 29, 30, 31, 32, 33, 34, 1, 35, 36, 37, 38, 39, 40, 41, 42, 43, 44, 45, 46, 47, 48, 49, 50, 51, 52, 53, 54, 55, 56, 57, 58, 59, 60, 61, 62, 63, 64] (by decide +kernel) (by decide +kernel)
set_option maxRecDepth 20000 in
theorem gX5_typeOf_X5_keepType : GoodIn wsX5_typeOf (wsV RX5 116 RX5 yX5_keepType wsX5_keepType) := goodIn_app (goodIn_of _ (by decide +kernel)) ggX5_typeOf_X5_keepType
theorem dX5_typeOf_0 : decode cX5_typeOf 0 = .ok (.aload_n 0, 1) := by decide +kernel
theorem dX5_typeOf_1 : decode cX5_typeOf 1 = .ok (.aload_n 0, 1) := by decide +kernel
theorem dX5_typeOf_2 : decode cX5_typeOf 2 = .ok (.iload_n 1, 1) := by decide +kernel
theorem dX5_typeOf_3 : decode cX5_typeOf 3 = .ok (.invokevirtual 157, 3) := by decide +kernel
theorem dX5_typeOf_6 : decode cX5_typeOf 6 = .ok (.ifCond .eq 7, 3) := by decide +kernel
theorem dX5_typeOf_9 : decode cX5_typeOf 9 = .ok (.iconst 0, 1) := by decide +kernel
theorem dX5_typeOf_10 : decode cX5_typeOf 10 = .ok (.goto 4, 3) := by decide +kernel
theorem dX5_typeOf_13 : decode cX5_typeOf 13 = .ok (.iconst 1, 1) := by decide +kernel
theorem dX5_typeOf_14 : decode cX5_typeOf 14 = .ok (.putfield 85, 3) := by decide +kernel
theorem dX5_typeOf_17 : decode cX5_typeOf 17 = .ok (.aload_n 0, 1) := by decide +kernel
theorem dX5_typeOf_18 : decode cX5_typeOf 18 = .ok (.getfield 85, 3) := by decide +kernel
theorem dX5_typeOf_21 : decode cX5_typeOf 21 = .ok (.ifCond .le 7, 3) := by decide +kernel
theorem dX5_typeOf_24 : decode cX5_typeOf 24 = .ok (.iconst 0, 1) := by decide +kernel
theorem dX5_typeOf_25 : decode cX5_typeOf 25 = .ok (.goto 13, 3) := by decide +kernel
theorem dX5_typeOf_28 : decode cX5_typeOf 28 = .ok (.aload_n 0, 1) := by decide +kernel
theorem dX5_typeOf_29 : decode cX5_typeOf 29 = .ok (.aload_n 0, 1) := by decide +kernel
theorem dX5_typeOf_30 : decode cX5_typeOf 30 = .ok (.iload_n 1, 1) := by decide +kernel
theorem dX5_typeOf_31 : decode cX5_typeOf 31 = .ok (.invokevirtual 160, 3) := by decide +kernel
theorem dX5_typeOf_34 : decode cX5_typeOf 34 = .ok (.iconst 2, 1) := by decide +kernel
theorem dX5_typeOf_35 : decode cX5_typeOf 35 = .ok (.invokevirtual 116, 3) := by decide +kernel
theorem dX5_typeOf_38 : decode cX5_typeOf 38 = .ok (.ireturn, 1) := by decide +kernel
set_option maxRecDepth 20000 in
theorem ggX5_symbol_X5_isTerm : GoodIn wsX5_symbol wsX5_isTerm := goodIn_r _ [8, 9, 10, 11, 7, 12, 17, 18, 19, 20, 21, 22, 23, 24, 25, 26, 27, 28, 29, 30, 31, 32, 33, 34, 35, 36, 37, 38, 39, 40, 41, 42, 43, 44, 45, 46] (by decide +kernel) (by decide +kernel)
set_option maxRecDepth 20000 in
theorem gX5_symbol_X5_isTerm : GoodIn wsX5_symbol (wsV RX5 157 RX5 yX5_isTerm wsX5_isTerm) := goodIn_app (goodIn_of _ (by decide +kernel)) ggX5_symbol_X5_isTerm
set_option maxRecDepth 20000 in
theorem ggX5_symbol_X5_lengthOf : GoodIn wsX5_symbol wsX5_lengthOf := goodIn_r _ [16, 3, 17, 18, 19, 20, 21, 22, 23, 24, 25, 26, 27, 28, 29, 30, 31, 32, 33, 34, 35, 36, 37, 38, 39, 40, 41, 42, 43, 44, 45, 46] (by decide +kernel) (by decide +kernel)
set_option maxRecDepth 20000 in
theorem gX5_symbol_X5_lengthOf : GoodIn wsX5_symbol (wsV RX5 133 RX5 yX5_lengthOf wsX5_lengthOf) := goodIn_app (goodIn_of _ (by decide +kernel)) ggX5_symbol_X5_lengthOf
set_option maxRecDepth 20000 in
theorem ggX5_symbol_X5_outside : GoodIn wsX5_symbol wsX5_outside := goodIn_r _ [12] (by decide +kernel) (by decide +kernel)
set_option maxRecDepth 20000 in
theorem gX5_symbol_X5_outside : GoodIn wsX5_symbol (va_wsS RX5 88 yX5_outside wsX5_outside) := goodIn_app (goodIn_of _ (by decide +kernel)) ggX5_symbol_X5_outside
theorem dX5_symbol_0 : decode cX5_symbol 0 = .ok (.aload_n 0, 1) := by decide +kernel
theorem dX5_symbol_1 : decode cX5_symbol 1 = .ok (.aload_n 0, 1) := by decide +kernel
theorem dX5_symbol_2 : decode cX5_symbol 2 = .ok (.iload_n 1, 1) := by decide +kernel
theorem dX5_symbol_3 : decode cX5_symbol 3 = .ok (.invokevirtual 157, 3) := by decide +kernel
theorem dX5_symbol_6 : decode cX5_symbol 6 = .ok (.ifCond .eq 15, 3) := by decide +kernel
theorem dX5_symbol_9 : decode cX5_symbol 9 = .ok (.iload_n 2, 1) := by decide +kernel
theorem dX5_symbol_10 : decode cX5_symbol 10 = .ok (.aload_n 0, 1) := by decide +kernel
theorem dX5_symbol_11 : decode cX5_symbol 11 = .ok (.iload_n 1, 1) := by decide +kernel
theorem dX5_symbol_12 : decode cX5_symbol 12 = .ok (.invokevirtual 133, 3) := by decide +kernel
theorem dX5_symbol_15 : decode cX5_symbol 15 = .ok (.invokestatic 88, 3) := by decide +kernel
theorem dX5_symbol_18 : decode cX5_symbol 18 = .ok (.ifCond .eq 7, 3) := by decide +kernel
theorem dX5_symbol_21 : decode cX5_symbol 21 = .ok (.iconst 1, 1) := by decide +kernel
theorem dX5_symbol_22 : decode cX5_symbol 22 = .ok (.goto 4, 3) := by decide +kernel
theorem dX5_symbol_25 : decode cX5_symbol 25 = .ok (.iconst 0, 1) := by decide +kernel
theorem dX5_symbol_26 : decode cX5_symbol 26 = .ok (.putfield 85, 3) := by decide +kernel
theorem dX5_symbol_29 : decode cX5_symbol 29 = .ok (.aload_n 0, 1) := by decide +kernel
theorem dX5_symbol_30 : decode cX5_symbol 30 = .ok (.getfield 85, 3) := by decide +kernel
theorem dX5_symbol_33 : decode cX5_symbol 33 = .ok (.ifCond .le 7, 3) := by decide +kernel
theorem dX5_symbol_36 : decode cX5_symbol 36 = .ok (.iconst 0, 1) := by decide +kernel
theorem dX5_symbol_37 : decode cX5_symbol 37 = .ok (.goto 16, 3) := by decide +kernel
theorem dX5_symbol_40 : decode cX5_symbol 40 = .ok (.aload_n 0, 1) := by decide +kernel
theorem dX5_symbol_41 : decode cX5_symbol 41 = .ok (.getfield 55, 3) := by decide +kernel
theorem dX5_symbol_44 : decode cX5_symbol 44 = .ok (.aload_n 0, 1) := by decide +kernel
theorem dX5_symbol_45 : decode cX5_symbol 45 = .ok (.getfield 51, 3) := by decide +kernel
theorem dX5_symbol_48 : decode cX5_symbol 48 = .ok (.iload_n 1, 1) := by decide +kernel
theorem dX5_symbol_49 : decode cX5_symbol 49 = .ok (.iaload, 1) := by decide +kernel
theorem dX5_symbol_50 : decode cX5_symbol 50 = .ok (.iload_n 2, 1) := by decide +kernel
theorem dX5_symbol_51 : decode cX5_symbol 51 = .ok (.iadd, 1) := by decide +kernel
theorem dX5_symbol_52 : decode cX5_symbol 52 = .ok (.iaload, 1) := by decide +kernel
theorem dX5_symbol_53 : decode cX5_symbol 53 = .ok (.ireturn, 1) := by decide +kernel
set_option maxRecDepth 20000 in
theorem ggX5_measure_X5_isTerm : GoodIn wsX5_measure wsX5_isTerm := goodIn_r _ [7, 8, 9, 10, 6, 11, 26, 27, 28, 29, 30, 31, 32, 33, 34, 35, 36, 37, 38, 39, 40, 41, 42, 43, 44, 45, 46, 47, 48, 49, 50, 51, 52, 53, 54, 55] (by decide +kernel) (by decide +kernel)
set_option maxRecDepth 20000 in
theorem gX5_measure_X5_isTerm : GoodIn wsX5_measure (wsV RX5 157 RX5 yX5_isTerm wsX5_isTerm) := goodIn_app (goodIn_of _ (by decide +kernel)) ggX5_measure_X5_isTerm
set_option maxRecDepth 20000 in
theorem ggX5_measure_X5_outside : GoodIn wsX5_measure wsX5_outside := goodIn_r _ [11] (by decide +kernel) (by decide +kernel)
set_option maxRecDepth 20000 in
theorem gX5_measure_X5_outside : GoodIn wsX5_measure (va_wsS RX5 88 yX5_outside wsX5_outside) := goodIn_app (goodIn_of _ (by decide +kernel)) ggX5_measure_X5_outside
set_option maxRecDepth 20000 in
theorem ggX5_measure_X5_lengthOf : GoodIn wsX5_measure wsX5_lengthOf := goodIn_r _ [15, 2, 26, 27, 28, 29, 30, 31, 32, 33, 34, 35, 36, 37, 38, 39, 40, 41, 42, 43, 44, 45, 46, 47, 48, 49, 50, 51, 52, 53, 54, 55] (by decide +kernel) (by decide +kernel)
set_option maxRecDepth 20000 in
theorem gX5_measure_X5_lengthOf : GoodIn wsX5_measure (wsV RX5 133 RX5 yX5_lengthOf wsX5_lengthOf) := goodIn_app (goodIn_of _ (by decide +kernel)) ggX5_measure_X5_lengthOf
set_option maxRecDepth 20000 in
theorem ggX5_measure_X5_heightOf : GoodIn wsX5_measure wsX5_heightOf := goodIn_r _ [19, 20, 21, 22, 23, 24, 6, 25, 26, 27, 28, 29, 30, 31, 32, 33, 34, 35, 36, 37, 38, 39, 40, 41, 42, 43, 44, 45, 46, 47, 48, 49, 50, 51, 52, 53, 54, 55] (by decide +kernel) (by decide +kernel)
set_option maxRecDepth 20000 in
theorem gX5_measure_X5_heightOf : GoodIn wsX5_measure (wsV RX5 136 RX5 yX5_heightOf wsX5_heightOf) := goodIn_app (goodIn_of _ (by decide +kernel)) ggX5_measure_X5_heightOf
theorem dX5_measure_0 : decode cX5_measure 0 = .ok (.aload_n 0, 1) := by decide +kernel
theorem dX5_measure_1 : decode cX5_measure 1 = .ok (.aload_n 0, 1) := by decide +kernel
theorem dX5_measure_2 : decode cX5_measure 2 = .ok (.iload_n 1, 1) := by decide +kernel
theorem dX5_measure_3 : decode cX5_measure 3 = .ok (.invokevirtual 157, 3) := by decide +kernel
theorem dX5_measure_6 : decode cX5_measure 6 = .ok (.ifCond .ne 7, 3) := by decide +kernel
theorem dX5_measure_9 : decode cX5_measure 9 = .ok (.iconst 1, 1) := by decide +kernel
theorem dX5_measure_10 : decode cX5_measure 10 = .ok (.goto 16, 3) := by decide +kernel
theorem dX5_measure_13 : decode cX5_measure 13 = .ok (.iload_n 2, 1) := by decide +kernel
theorem dX5_measure_14 : decode cX5_measure 14 = .ok (.iconst 2, 1) := by decide +kernel
theorem dX5_measure_15 : decode cX5_measure 15 = .ok (.invokestatic 88, 3) := by decide +kernel
theorem dX5_measure_18 : decode cX5_measure 18 = .ok (.ifCond .eq 7, 3) := by decide +kernel
theorem dX5_measure_21 : decode cX5_measure 21 = .ok (.iconst 2, 1) := by decide +kernel
theorem dX5_measure_22 : decode cX5_measure 22 = .ok (.goto 4, 3) := by decide +kernel
theorem dX5_measure_25 : decode cX5_measure 25 = .ok (.iconst 0, 1) := by decide +kernel
theorem dX5_measure_26 : decode cX5_measure 26 = .ok (.putfield 85, 3) := by decide +kernel
theorem dX5_measure_29 : decode cX5_measure 29 = .ok (.aload_n 0, 1) := by decide +kernel
theorem dX5_measure_30 : decode cX5_measure 30 = .ok (.getfield 85, 3) := by decide +kernel
theorem dX5_measure_33 : decode cX5_measure 33 = .ok (.ifCond .le 5, 3) := by decide +kernel
theorem dX5_measure_36 : decode cX5_measure 36 = .ok (.iconst 0, 1) := by decide +kernel
theorem dX5_measure_37 : decode cX5_measure 37 = .ok (.ireturn, 1) := by decide +kernel
theorem dX5_measure_38 : decode cX5_measure 38 = .ok (.iload_n 2, 1) := by decide +kernel
theorem dX5_measure_39 : decode cX5_measure 39 = .ok (.ifCond .ne 11, 3) := by decide +kernel
theorem dX5_measure_42 : decode cX5_measure 42 = .ok (.aload_n 0, 1) := by decide +kernel
theorem dX5_measure_43 : decode cX5_measure 43 = .ok (.iload_n 1, 1) := by decide +kernel
theorem dX5_measure_44 : decode cX5_measure 44 = .ok (.invokevirtual 133, 3) := by decide +kernel
theorem dX5_measure_47 : decode cX5_measure 47 = .ok (.goto 13, 3) := by decide +kernel
theorem dX5_measure_50 : decode cX5_measure 50 = .ok (.aload_n 0, 1) := by decide +kernel
theorem dX5_measure_51 : decode cX5_measure 51 = .ok (.aload_n 0, 1) := by decide +kernel
theorem dX5_measure_52 : decode cX5_measure 52 = .ok (.getfield 51, 3) := by decide +kernel
theorem dX5_measure_55 : decode cX5_measure 55 = .ok (.iload_n 1, 1) := by decide +kernel
theorem dX5_measure_56 : decode cX5_measure 56 = .ok (.iaload, 1) := by decide +kernel
theorem dX5_measure_57 : decode cX5_measure 57 = .ok (.invokevirtual 136, 3) := by decide +kernel
theorem dX5_measure_60 : decode cX5_measure 60 = .ok (.ireturn, 1) := by decide +kernel
set_option maxRecDepth 20000 in
theorem ggX5_areAlike_X5_areSameTypes : GoodIn wsX5_areAlike wsX5_areSameTypes := goodIn_r _ [6] (by decide +kernel) (by decide +kernel)
set_option maxRecDepth 20000 in
theorem gX5_areAlike_X5_areSameTypes : GoodIn wsX5_areAlike (va_wsS RX5 163 yX5_areSameTypes wsX5_areSameTypes) := goodIn_app (goodIn_of _ (by decide +kernel)) ggX5_areAlike_X5_areSameTypes
theorem dX5_areAlike_0 : decode cX5_areAlike 0 = .ok (.iconst 1, 1) := by decide +kernel
theorem dX5_areAlike_1 : decode cX5_areAlike 1 = .ok (.istore 4, 2) := by decide +kernel
theorem dX5_areAlike_3 : decode cX5_areAlike 3 = .ok (.iconst 0, 1) := by decide +kernel
theorem dX5_areAlike_4 : decode cX5_areAlike 4 = .ok (.istore 5, 2) := by decide +kernel
theorem dX5_areAlike_6 : decode cX5_areAlike 6 = .ok (.iload 5, 2) := by decide +kernel
theorem dX5_areAlike_8 : decode cX5_areAlike 8 = .ok (.iload_n 3, 1) := by decide +kernel
theorem dX5_areAlike_9 : decode cX5_areAlike 9 = .ok (.if_icmp .ge 66, 3) := by decide +kernel
theorem dX5_areAlike_12 : decode cX5_areAlike 12 = .ok (.iload 4, 2) := by decide +kernel
theorem dX5_areAlike_14 : decode cX5_areAlike 14 = .ok (.ifCond .eq 61, 3) := by decide +kernel
theorem dX5_areAlike_17 : decode cX5_areAlike 17 = .ok (.aload_n 0, 1) := by decide +kernel
theorem dX5_areAlike_18 : decode cX5_areAlike 18 = .ok (.getfield 55, 3) := by decide +kernel
theorem dX5_areAlike_21 : decode cX5_areAlike 21 = .ok (.iload_n 1, 1) := by decide +kernel
theorem dX5_areAlike_22 : decode cX5_areAlike 22 = .ok (.iload 5, 2) := by decide +kernel
theorem dX5_areAlike_24 : decode cX5_areAlike 24 = .ok (.iadd, 1) := by decide +kernel
theorem dX5_areAlike_25 : decode cX5_areAlike 25 = .ok (.iaload, 1) := by decide +kernel
theorem dX5_areAlike_26 : decode cX5_areAlike 26 = .ok (.aload_n 0, 1) := by decide +kernel
theorem dX5_areAlike_27 : decode cX5_areAlike 27 = .ok (.getfield 55, 3) := by decide +kernel
theorem dX5_areAlike_30 : decode cX5_areAlike 30 = .ok (.iload_n 2, 1) := by decide +kernel
theorem dX5_areAlike_31 : decode cX5_areAlike 31 = .ok (.iload 5, 2) := by decide +kernel
theorem dX5_areAlike_33 : decode cX5_areAlike 33 = .ok (.iadd, 1) := by decide +kernel
theorem dX5_areAlike_34 : decode cX5_areAlike 34 = .ok (.iaload, 1) := by decide +kernel
theorem dX5_areAlike_35 : decode cX5_areAlike 35 = .ok (.if_icmp .ne 31, 3) := by decide +kernel
theorem dX5_areAlike_38 : decode cX5_areAlike 38 = .ok (.aload_n 0, 1) := by decide +kernel
theorem dX5_areAlike_39 : decode cX5_areAlike 39 = .ok (.getfield 58, 3) := by decide +kernel
theorem dX5_areAlike_42 : decode cX5_areAlike 42 = .ok (.iload_n 1, 1) := by decide +kernel
theorem dX5_areAlike_43 : decode cX5_areAlike 43 = .ok (.iload 5, 2) := by decide +kernel
theorem dX5_areAlike_45 : decode cX5_areAlike 45 = .ok (.iadd, 1) := by decide +kernel
theorem dX5_areAlike_46 : decode cX5_areAlike 46 = .ok (.iaload, 1) := by decide +kernel
theorem dX5_areAlike_47 : decode cX5_areAlike 47 = .ok (.aload_n 0, 1) := by decide +kernel
theorem dX5_areAlike_48 : decode cX5_areAlike 48 = .ok (.getfield 58, 3) := by decide +kernel
theorem dX5_areAlike_51 : decode cX5_areAlike 51 = .ok (.iload_n 2, 1) := by decide +kernel
theorem dX5_areAlike_52 : decode cX5_areAlike 52 = .ok (.iload 5, 2) := by decide +kernel
theorem dX5_areAlike_54 : decode cX5_areAlike 54 = .ok (.iadd, 1) := by decide +kernel
theorem dX5_areAlike_55 : decode cX5_areAlike 55 = .ok (.iaload, 1) := by decide +kernel
theorem dX5_areAlike_56 : decode cX5_areAlike 56 = .ok (.invokestatic 163, 3) := by decide +kernel
theorem dX5_areAlike_59 : decode cX5_areAlike 59 = .ok (.ifCond .eq 7, 3) := by decide +kernel
theorem dX5_areAlike_62 : decode cX5_areAlike 62 = .ok (.iconst 1, 1) := by decide +kernel
theorem dX5_areAlike_63 : decode cX5_areAlike 63 = .ok (.goto 4, 3) := by decide +kernel
theorem dX5_areAlike_66 : decode cX5_areAlike 66 = .ok (.iconst 0, 1) := by decide +kernel
theorem dX5_areAlike_67 : decode cX5_areAlike 67 = .ok (.istore 4, 2) := by decide +kernel
theorem dX5_areAlike_69 : decode cX5_areAlike 69 = .ok (.iinc 5 1, 3) := by decide +kernel
theorem dX5_areAlike_72 : decode cX5_areAlike 72 = .ok (.goto (-66), 3) := by decide +kernel
theorem dX5_areAlike_75 : decode cX5_areAlike 75 = .ok (.iload 4, 2) := by decide +kernel
theorem dX5_areAlike_77 : decode cX5_areAlike 77 = .ok (.ireturn, 1) := by decide +kernel
set_option maxRecDepth 20000 in
theorem ggX5_same_X5_isTerm : GoodIn wsX5_same wsX5_isTerm := goodIn_r _ [7, 8, 9, 10, 6, 11, 25, 26, 27, 28, 29, 30, 31, 32, 33, 34, 35, 36, 37, 38, 39, 40, 41, 42, 43, 44, 45, 46, 47, 48, 49, 50, 51, 52, 53, 54] (by decide +kernel) (by decide +kernel)
set_option maxRecDepth 20000 in
theorem gX5_same_X5_isTerm : GoodIn wsX5_same (wsV RX5 157 RX5 yX5_isTerm wsX5_isTerm) := goodIn_app (goodIn_of _ (by decide +kernel)) ggX5_same_X5_isTerm
set_option maxRecDepth 20000 in
theorem ggX5_same_X5_lengthOf : GoodIn wsX5_same wsX5_lengthOf := goodIn_r _ [15, 2, 25, 26, 27, 28, 29, 30, 31, 32, 33, 34, 35, 36, 37, 38, 39, 40, 41, 42, 43, 44, 45, 46, 47, 48, 49, 50, 51, 52, 53, 54] (by decide +kernel) (by decide +kernel)
set_option maxRecDepth 20000 in
theorem gX5_same_X5_lengthOf : GoodIn wsX5_same (wsV RX5 133 RX5 yX5_lengthOf wsX5_lengthOf) := goodIn_app (goodIn_of _ (by decide +kernel)) ggX5_same_X5_lengthOf
set_option maxRecDepth 20000 in
theorem ggX5_same_X5_areAlike : GoodIn wsX5_same wsX5_areAlike := goodIn_r _ [19, 20, 21, 22, 23, 6, 24, 25, 26, 27, 28, 29, 30, 31, 32, 33, 34, 35, 36, 37, 38, 39, 40, 41, 42, 43, 44, 45, 46, 47, 48, 49, 50, 51, 52, 53, 54] (by decide +kernel) (by decide +kernel)
set_option maxRecDepth 20000 in
theorem gX5_same_X5_areAlike : GoodIn wsX5_same (wsV RX5 180 RX5 yX5_areAlike wsX5_areAlike) := goodIn_app (goodIn_of _ (by decide +kernel)) ggX5_same_X5_areAlike
theorem dX5_same_0 : decode cX5_same 0 = .ok (.aload_n 0, 1) := by decide +kernel
theorem dX5_same_1 : decode cX5_same 1 = .ok (.aload_n 0, 1) := by decide +kernel
theorem dX5_same_2 : decode cX5_same 2 = .ok (.iload_n 1, 1) := by decide +kernel
theorem dX5_same_3 : decode cX5_same 3 = .ok (.invokevirtual 157, 3) := by decide +kernel
theorem dX5_same_6 : decode cX5_same 6 = .ok (.ifCond .eq 15, 3) := by decide +kernel
theorem dX5_same_9 : decode cX5_same 9 = .ok (.aload_n 0, 1) := by decide +kernel
