theorem dX5_same_10 : decode cX5_same 10 = .ok (.iload_n 2, 1) := by decide +kernel
theorem dX5_same_11 : decode cX5_same 11 = .ok (.invokevirtual 157, 3) := by decide +kernel
theorem dX5_same_14 : decode cX5_same 14 = .ok (.ifCond .eq 7, 3) := by decide +kernel
theorem dX5_same_17 : decode cX5_same 17 = .ok (.iconst 0, 1) := by decide +kernel
theorem dX5_same_18 : decode cX5_same 18 = .ok (.goto 4, 3) := by decide +kernel
theorem dX5_same_21 : decode cX5_same 21 = .ok (.iconst 1, 1) := by decide +kernel
theorem dX5_same_22 : decode cX5_same 22 = .ok (.putfield 85, 3) := by decide +kernel
theorem dX5_same_25 : decode cX5_same 25 = .ok (.aload_n 0, 1) := by decide +kernel
theorem dX5_same_26 : decode cX5_same 26 = .ok (.getfield 85, 3) := by decide +kernel
theorem dX5_same_29 : decode cX5_same 29 = .ok (.ifCond .ne 44, 3) := by decide +kernel
theorem dX5_same_32 : decode cX5_same 32 = .ok (.aload_n 0, 1) := by decide +kernel
theorem dX5_same_33 : decode cX5_same 33 = .ok (.iload_n 1, 1) := by decide +kernel
theorem dX5_same_34 : decode cX5_same 34 = .ok (.invokevirtual 133, 3) := by decide +kernel
theorem dX5_same_37 : decode cX5_same 37 = .ok (.aload_n 0, 1) := by decide +kernel
theorem dX5_same_38 : decode cX5_same 38 = .ok (.iload_n 2, 1) := by decide +kernel
theorem dX5_same_39 : decode cX5_same 39 = .ok (.invokevirtual 133, 3) := by decide +kernel
theorem dX5_same_42 : decode cX5_same 42 = .ok (.if_icmp .ne 31, 3) := by decide +kernel
theorem dX5_same_45 : decode cX5_same 45 = .ok (.aload_n 0, 1) := by decide +kernel
theorem dX5_same_46 : decode cX5_same 46 = .ok (.aload_n 0, 1) := by decide +kernel
theorem dX5_same_47 : decode cX5_same 47 = .ok (.getfield 51, 3) := by decide +kernel
theorem dX5_same_50 : decode cX5_same 50 = .ok (.iload_n 1, 1) := by decide +kernel
theorem dX5_same_51 : decode cX5_same 51 = .ok (.iaload, 1) := by decide +kernel
theorem dX5_same_52 : decode cX5_same 52 = .ok (.aload_n 0, 1) := by decide +kernel
theorem dX5_same_53 : decode cX5_same 53 = .ok (.getfield 51, 3) := by decide +kernel
theorem dX5_same_56 : decode cX5_same 56 = .ok (.iload_n 2, 1) := by decide +kernel
theorem dX5_same_57 : decode cX5_same 57 = .ok (.iaload, 1) := by decide +kernel
theorem dX5_same_58 : decode cX5_same 58 = .ok (.aload_n 0, 1) := by decide +kernel
theorem dX5_same_59 : decode cX5_same 59 = .ok (.iload_n 1, 1) := by decide +kernel
theorem dX5_same_60 : decode cX5_same 60 = .ok (.invokevirtual 133, 3) := by decide +kernel
theorem dX5_same_63 : decode cX5_same 63 = .ok (.invokevirtual 180, 3) := by decide +kernel
theorem dX5_same_66 : decode cX5_same 66 = .ok (.ifCond .eq 7, 3) := by decide +kernel
theorem dX5_same_69 : decode cX5_same 69 = .ok (.iconst 1, 1) := by decide +kernel
theorem dX5_same_70 : decode cX5_same 70 = .ok (.goto 4, 3) := by decide +kernel
theorem dX5_same_73 : decode cX5_same 73 = .ok (.iconst 0, 1) := by decide +kernel
theorem dX5_same_74 : decode cX5_same 74 = .ok (.ireturn, 1) := by decide +kernel
set_option maxRecDepth 20000 in
theorem ggX5_sameType_X5_outside : GoodIn wsX5_sameType wsX5_outside := goodIn_r _ [7] (by decide +kernel) (by decide +kernel)
set_option maxRecDepth 20000 in
theorem gX5_sameType_X5_outside : GoodIn wsX5_sameType (va_wsS RX5 88 yX5_outside wsX5_outside) := goodIn_app (goodIn_of _ (by decide +kernel)) ggX5_sameType_X5_outside
set_option maxRecDepth 20000 in
theorem ggX5_sameType_X5_areSameTypes : GoodIn wsX5_sameType wsX5_areSameTypes := goodIn_r _ [10] (by decide +kernel) (by decide +kernel)
set_option maxRecDepth 20000 in
theorem gX5_sameType_X5_areSameTypes : GoodIn wsX5_sameType (va_wsS RX5 163 yX5_areSameTypes wsX5_areSameTypes) := goodIn_app (goodIn_of _ (by decide +kernel)) ggX5_sameType_X5_areSameTypes
theorem dX5_sameType_0 : decode cX5_sameType 0 = .ok (.aload_n 0, 1) := by decide +kernel
theorem dX5_sameType_1 : decode cX5_sameType 1 = .ok (.iload_n 1, 1) := by decide +kernel
theorem dX5_sameType_2 : decode cX5_sameType 2 = .ok (.aload_n 0, 1) := by decide +kernel
theorem dX5_sameType_3 : decode cX5_sameType 3 = .ok (.getfield 110, 3) := by decide +kernel
theorem dX5_sameType_6 : decode cX5_sameType 6 = .ok (.invokestatic 88, 3) := by decide +kernel
theorem dX5_sameType_9 : decode cX5_sameType 9 = .ok (.ifCond .ne 14, 3) := by decide +kernel
theorem dX5_sameType_12 : decode cX5_sameType 12 = .ok (.iload_n 2, 1) := by decide +kernel
theorem dX5_sameType_13 : decode cX5_sameType 13 = .ok (.aload_n 0, 1) := by decide +kernel
theorem dX5_sameType_14 : decode cX5_sameType 14 = .ok (.getfield 110, 3) := by decide +kernel
theorem dX5_sameType_17 : decode cX5_sameType 17 = .ok (.invokestatic 88, 3) := by decide +kernel
theorem dX5_sameType_20 : decode cX5_sameType 20 = .ok (.ifCond .eq 7, 3) := by decide +kernel
theorem dX5_sameType_23 : decode cX5_sameType 23 = .ok (.iconst 1, 1) := by decide +kernel
theorem dX5_sameType_24 : decode cX5_sameType 24 = .ok (.goto 4, 3) := by decide +kernel
theorem dX5_sameType_27 : decode cX5_sameType 27 = .ok (.iconst 0, 1) := by decide +kernel
theorem dX5_sameType_28 : decode cX5_sameType 28 = .ok (.putfield 85, 3) := by decide +kernel
theorem dX5_sameType_31 : decode cX5_sameType 31 = .ok (.aload_n 0, 1) := by decide +kernel
theorem dX5_sameType_32 : decode cX5_sameType 32 = .ok (.getfield 85, 3) := by decide +kernel
theorem dX5_sameType_35 : decode cX5_sameType 35 = .ok (.ifCond .ne 25, 3) := by decide +kernel
theorem dX5_sameType_38 : decode cX5_sameType 38 = .ok (.aload_n 0, 1) := by decide +kernel
theorem dX5_sameType_39 : decode cX5_sameType 39 = .ok (.getfield 41, 3) := by decide +kernel
theorem dX5_sameType_42 : decode cX5_sameType 42 = .ok (.iload_n 1, 1) := by decide +kernel
theorem dX5_sameType_43 : decode cX5_sameType 43 = .ok (.iaload, 1) := by decide +kernel
theorem dX5_sameType_44 : decode cX5_sameType 44 = .ok (.aload_n 0, 1) := by decide +kernel
theorem dX5_sameType_45 : decode cX5_sameType 45 = .ok (.getfield 41, 3) := by decide +kernel
theorem dX5_sameType_48 : decode cX5_sameType 48 = .ok (.iload_n 2, 1) := by decide +kernel
theorem dX5_sameType_49 : decode cX5_sameType 49 = .ok (.iaload, 1) := by decide +kernel
theorem dX5_sameType_50 : decode cX5_sameType 50 = .ok (.invokestatic 163, 3) := by decide +kernel
theorem dX5_sameType_53 : decode cX5_sameType 53 = .ok (.ifCond .eq 7, 3) := by decide +kernel
theorem dX5_sameType_56 : decode cX5_sameType 56 = .ok (.iconst 1, 1) := by decide +kernel
theorem dX5_sameType_57 : decode cX5_sameType 57 = .ok (.goto 4, 3) := by decide +kernel
theorem dX5_sameType_60 : decode cX5_sameType 60 = .ok (.iconst 0, 1) := by decide +kernel
theorem dX5_sameType_61 : decode cX5_sameType 61 = .ok (.ireturn, 1) := by decide +kernel
set_option maxRecDepth 20000 in
theorem ggX5_occurs_X5_isTerm : GoodIn wsX5_occurs wsX5_isTerm := goodIn_r _ [8, 9, 10, 11, 7, 12, 33, 34, 35, 36, 37, 38, 39, 40, 41, 42, 43, 44, 45, 46, 47, 48, 49, 50, 51, 52, 53, 54, 55, 56, 57, 58, 59, 60, 61, 62] (by decide +kernel) (by decide +kernel)
set_option maxRecDepth 20000 in
theorem gX5_occurs_X5_isTerm : GoodIn wsX5_occurs (wsV RX5 157 RX5 yX5_isTerm wsX5_isTerm) := goodIn_app (goodIn_of _ (by decide +kernel)) ggX5_occurs_X5_isTerm
set_option maxRecDepth 20000 in
theorem ggX5_occurs_X5_isFree : GoodIn wsX5_occurs wsX5_isFree := goodIn_r _ [16, 3, 2, 17, 18, 19, 7, 20, 33, 34, 35, 36, 37, 38, 39, 40, 41, 42, 43, 44, 45, 46, 47, 48, 49, 50, 51, 52, 53, 54, 55, 56, 57, 58, 59, 60, 61, 62] (by decide +kernel) (by decide +kernel)
set_option maxRecDepth 20000 in
theorem gX5_occurs_X5_isFree : GoodIn wsX5_occurs (wsV RX5 169 RX5 yX5_isFree wsX5_isFree) := goodIn_app (goodIn_of _ (by decide +kernel)) ggX5_occurs_X5_isFree
set_option maxRecDepth 20000 in
theorem ggX5_occurs_X5_topType : GoodIn wsX5_occurs wsX5_topType := goodIn_r _ [24, 25, 2, 33, 34, 35, 36, 37, 38, 39, 40, 41, 42, 43, 44, 45, 46, 47, 48, 49, 50, 51, 52, 53, 54, 55, 56, 57, 58, 59, 60, 61, 62] (by decide +kernel) (by decide +kernel)
set_option maxRecDepth 20000 in
theorem gX5_occurs_X5_topType : GoodIn wsX5_occurs (wsV RX5 160 RX5 yX5_topType wsX5_topType) := goodIn_app (goodIn_of _ (by decide +kernel)) ggX5_occurs_X5_topType
set_option maxRecDepth 20000 in
theorem ggX5_occurs_X5_isVariable : GoodIn wsX5_occurs wsX5_isVariable := goodIn_r _ [29, 3, 25, 30, 31, 7, 32, 33, 34, 35, 36, 37, 38, 39, 40, 41, 42, 43, 44, 45, 46, 47, 48, 49, 50, 51, 52, 53, 54, 55, 56, 57, 58, 59, 60, 61, 62] (by decide +kernel) (by decide +kernel)
set_option maxRecDepth 20000 in
theorem gX5_occurs_X5_isVariable : GoodIn wsX5_occurs (wsV RX5 172 RX5 yX5_isVariable wsX5_isVariable) := goodIn_app (goodIn_of _ (by decide +kernel)) ggX5_occurs_X5_isVariable
theorem dX5_occurs_0 : decode cX5_occurs 0 = .ok (.aload_n 0, 1) := by decide +kernel
theorem dX5_occurs_1 : decode cX5_occurs 1 = .ok (.aload_n 0, 1) := by decide +kernel
theorem dX5_occurs_2 : decode cX5_occurs 2 = .ok (.iload_n 1, 1) := by decide +kernel
theorem dX5_occurs_3 : decode cX5_occurs 3 = .ok (.invokevirtual 157, 3) := by decide +kernel
theorem dX5_occurs_6 : decode cX5_occurs 6 = .ok (.ifCond .eq 11, 3) := by decide +kernel
theorem dX5_occurs_9 : decode cX5_occurs 9 = .ok (.aload_n 0, 1) := by decide +kernel
theorem dX5_occurs_10 : decode cX5_occurs 10 = .ok (.iload_n 2, 1) := by decide +kernel
theorem dX5_occurs_11 : decode cX5_occurs 11 = .ok (.invokevirtual 157, 3) := by decide +kernel
theorem dX5_occurs_14 : decode cX5_occurs 14 = .ok (.ifCond .ne 7, 3) := by decide +kernel
theorem dX5_occurs_17 : decode cX5_occurs 17 = .ok (.iconst 1, 1) := by decide +kernel
theorem dX5_occurs_18 : decode cX5_occurs 18 = .ok (.goto 16, 3) := by decide +kernel
theorem dX5_occurs_21 : decode cX5_occurs 21 = .ok (.aload_n 0, 1) := by decide +kernel
theorem dX5_occurs_22 : decode cX5_occurs 22 = .ok (.iload_n 1, 1) := by decide +kernel
theorem dX5_occurs_23 : decode cX5_occurs 23 = .ok (.invokevirtual 169, 3) := by decide +kernel
theorem dX5_occurs_26 : decode cX5_occurs 26 = .ok (.ifCond .ne 7, 3) := by decide +kernel
theorem dX5_occurs_29 : decode cX5_occurs 29 = .ok (.iconst 2, 1) := by decide +kernel
theorem dX5_occurs_30 : decode cX5_occurs 30 = .ok (.goto 4, 3) := by decide +kernel
theorem dX5_occurs_33 : decode cX5_occurs 33 = .ok (.iconst 0, 1) := by decide +kernel
theorem dX5_occurs_34 : decode cX5_occurs 34 = .ok (.putfield 85, 3) := by decide +kernel
theorem dX5_occurs_37 : decode cX5_occurs 37 = .ok (.iconst 0, 1) := by decide +kernel
theorem dX5_occurs_38 : decode cX5_occurs 38 = .ok (.istore_n 3, 1) := by decide +kernel
theorem dX5_occurs_39 : decode cX5_occurs 39 = .ok (.aload_n 0, 1) := by decide +kernel
theorem dX5_occurs_40 : decode cX5_occurs 40 = .ok (.getfield 85, 3) := by decide +kernel
theorem dX5_occurs_43 : decode cX5_occurs 43 = .ok (.ifCond .le 7, 3) := by decide +kernel
theorem dX5_occurs_46 : decode cX5_occurs 46 = .ok (.iconst 0, 1) := by decide +kernel
theorem dX5_occurs_47 : decode cX5_occurs 47 = .ok (.goto 9, 3) := by decide +kernel
theorem dX5_occurs_50 : decode cX5_occurs 50 = .ok (.aload_n 0, 1) := by decide +kernel
theorem dX5_occurs_51 : decode cX5_occurs 51 = .ok (.getfield 51, 3) := by decide +kernel
theorem dX5_occurs_54 : decode cX5_occurs 54 = .ok (.iload_n 2, 1) := by decide +kernel
theorem dX5_occurs_55 : decode cX5_occurs 55 = .ok (.iaload, 1) := by decide +kernel
theorem dX5_occurs_56 : decode cX5_occurs 56 = .ok (.istore 4, 2) := by decide +kernel
theorem dX5_occurs_58 : decode cX5_occurs 58 = .ok (.aload_n 0, 1) := by decide +kernel
theorem dX5_occurs_59 : decode cX5_occurs 59 = .ok (.getfield 85, 3) := by decide +kernel
theorem dX5_occurs_62 : decode cX5_occurs 62 = .ok (.ifCond .ne 57, 3) := by decide +kernel
theorem dX5_occurs_65 : decode cX5_occurs 65 = .ok (.iload 4, 2) := by decide +kernel
theorem dX5_occurs_67 : decode cX5_occurs 67 = .ok (.aload_n 0, 1) := by decide +kernel
theorem dX5_occurs_68 : decode cX5_occurs 68 = .ok (.getfield 51, 3) := by decide +kernel
theorem dX5_occurs_71 : decode cX5_occurs 71 = .ok (.iload_n 2, 1) := by decide +kernel
theorem dX5_occurs_72 : decode cX5_occurs 72 = .ok (.iconst 1, 1) := by decide +kernel
theorem dX5_occurs_73 : decode cX5_occurs 73 = .ok (.iadd, 1) := by decide +kernel
theorem dX5_occurs_74 : decode cX5_occurs 74 = .ok (.iaload, 1) := by decide +kernel
theorem dX5_occurs_75 : decode cX5_occurs 75 = .ok (.if_icmp .ge 44, 3) := by decide +kernel
theorem dX5_occurs_78 : decode cX5_occurs 78 = .ok (.iload_n 3, 1) := by decide +kernel
theorem dX5_occurs_79 : decode cX5_occurs 79 = .ok (.ifCond .ne 28, 3) := by decide +kernel
theorem dX5_occurs_82 : decode cX5_occurs 82 = .ok (.aload_n 0, 1) := by decide +kernel
theorem dX5_occurs_83 : decode cX5_occurs 83 = .ok (.iload 4, 2) := by decide +kernel
theorem dX5_occurs_85 : decode cX5_occurs 85 = .ok (.aload_n 0, 1) := by decide +kernel
theorem dX5_occurs_86 : decode cX5_occurs 86 = .ok (.getfield 55, 3) := by decide +kernel
theorem dX5_occurs_89 : decode cX5_occurs 89 = .ok (.aload_n 0, 1) := by decide +kernel
theorem dX5_occurs_90 : decode cX5_occurs 90 = .ok (.getfield 51, 3) := by decide +kernel
theorem dX5_occurs_93 : decode cX5_occurs 93 = .ok (.iload_n 1, 1) := by decide +kernel
theorem dX5_occurs_94 : decode cX5_occurs 94 = .ok (.iaload, 1) := by decide +kernel
theorem dX5_occurs_95 : decode cX5_occurs 95 = .ok (.iaload, 1) := by decide +kernel
theorem dX5_occurs_96 : decode cX5_occurs 96 = .ok (.aload_n 0, 1) := by decide +kernel
theorem dX5_occurs_97 : decode cX5_occurs 97 = .ok (.iload_n 1, 1) := by decide +kernel
theorem dX5_occurs_98 : decode cX5_occurs 98 = .ok (.invokevirtual 160, 3) := by decide +kernel
theorem dX5_occurs_101 : decode cX5_occurs 101 = .ok (.invokevirtual 172, 3) := by decide +kernel
theorem dX5_occurs_104 : decode cX5_occurs 104 = .ok (.ifCond .eq 7, 3) := by decide +kernel
theorem dX5_occurs_107 : decode cX5_occurs 107 = .ok (.iconst 1, 1) := by decide +kernel
theorem dX5_occurs_108 : decode cX5_occurs 108 = .ok (.goto 4, 3) := by decide +kernel
theorem dX5_occurs_111 : decode cX5_occurs 111 = .ok (.iconst 0, 1) := by decide +kernel
theorem dX5_occurs_112 : decode cX5_occurs 112 = .ok (.istore_n 3, 1) := by decide +kernel
theorem dX5_occurs_113 : decode cX5_occurs 113 = .ok (.iinc 4 1, 3) := by decide +kernel
theorem dX5_occurs_116 : decode cX5_occurs 116 = .ok (.goto (-58), 3) := by decide +kernel
theorem dX5_occurs_119 : decode cX5_occurs 119 = .ok (.iload_n 3, 1) := by decide +kernel
theorem dX5_occurs_120 : decode cX5_occurs 120 = .ok (.ireturn, 1) := by decide +kernel
set_option maxRecDepth 20000 in
theorem ggX5_isClosed_X5_endOf : GoodIn wsX5_isClosed wsX5_endOf := goodIn_r _ [7, 2, 8, 9, 10, 11, 12, 13, 14, 15, 16, 17, 18, 19, 20, 21, 22, 23, 24, 25, 26, 27, 28, 29, 30, 31, 32, 33, 34, 35, 36, 37] (by decide +kernel) (by decide +kernel)
set_option maxRecDepth 20000 in
theorem gX5_isClosed_X5_endOf : GoodIn wsX5_isClosed (wsV RX5 127 RX5 yX5_endOf wsX5_endOf) := goodIn_app (goodIn_of _ (by decide +kernel)) ggX5_isClosed_X5_endOf
theorem dX5_isClosed_0 : decode cX5_isClosed 0 = .ok (.iconst 0, 1) := by decide +kernel
theorem dX5_isClosed_1 : decode cX5_isClosed 1 = .ok (.istore_n 3, 1) := by decide +kernel
theorem dX5_isClosed_2 : decode cX5_isClosed 2 = .ok (.iload_n 1, 1) := by decide +kernel
theorem dX5_isClosed_3 : decode cX5_isClosed 3 = .ok (.istore 4, 2) := by decide +kernel
theorem dX5_isClosed_5 : decode cX5_isClosed 5 = .ok (.iload 4, 2) := by decide +kernel
theorem dX5_isClosed_7 : decode cX5_isClosed 7 = .ok (.iload_n 2, 1) := by decide +kernel
theorem dX5_isClosed_8 : decode cX5_isClosed 8 = .ok (.if_icmp .ge 99, 3) := by decide +kernel
theorem dX5_isClosed_11 : decode cX5_isClosed 11 = .ok (.iload_n 3, 1) := by decide +kernel
theorem dX5_isClosed_12 : decode cX5_isClosed 12 = .ok (.ifCond .le 22, 3) := by decide +kernel
theorem dX5_isClosed_15 : decode cX5_isClosed 15 = .ok (.aload_n 0, 1) := by decide +kernel
theorem dX5_isClosed_16 : decode cX5_isClosed 16 = .ok (.getfield 67, 3) := by decide +kernel
theorem dX5_isClosed_19 : decode cX5_isClosed 19 = .ok (.iload_n 3, 1) := by decide +kernel
theorem dX5_isClosed_20 : decode cX5_isClosed 20 = .ok (.iconst 1, 1) := by decide +kernel
theorem dX5_isClosed_21 : decode cX5_isClosed 21 = .ok (.isub, 1) := by decide +kernel
theorem dX5_isClosed_22 : decode cX5_isClosed 22 = .ok (.iaload, 1) := by decide +kernel
theorem dX5_isClosed_23 : decode cX5_isClosed 23 = .ok (.iload 4, 2) := by decide +kernel
theorem dX5_isClosed_25 : decode cX5_isClosed 25 = .ok (.if_icmp .gt 9, 3) := by decide +kernel
theorem dX5_isClosed_28 : decode cX5_isClosed 28 = .ok (.iinc 3 (-1), 3) := by decide +kernel
theorem dX5_isClosed_31 : decode cX5_isClosed 31 = .ok (.goto (-20), 3) := by decide +kernel
theorem dX5_isClosed_34 : decode cX5_isClosed 34 = .ok (.aload_n 0, 1) := by decide +kernel
theorem dX5_isClosed_35 : decode cX5_isClosed 35 = .ok (.getfield 55, 3) := by decide +kernel
theorem dX5_isClosed_38 : decode cX5_isClosed 38 = .ok (.iload 4, 2) := by decide +kernel
theorem dX5_isClosed_40 : decode cX5_isClosed 40 = .ok (.iaload, 1) := by decide +kernel
theorem dX5_isClosed_41 : decode cX5_isClosed 41 = .ok (.ifCond .lt 30, 3) := by decide +kernel
theorem dX5_isClosed_44 : decode cX5_isClosed 44 = .ok (.aload_n 0, 1) := by decide +kernel
theorem dX5_isClosed_45 : decode cX5_isClosed 45 = .ok (.getfield 55, 3) := by decide +kernel
theorem dX5_isClosed_48 : decode cX5_isClosed 48 = .ok (.iload 4, 2) := by decide +kernel
theorem dX5_isClosed_50 : decode cX5_isClosed 50 = .ok (.iaload, 1) := by decide +kernel
theorem dX5_isClosed_51 : decode cX5_isClosed 51 = .ok (.iconst 4, 1) := by decide +kernel
theorem dX5_isClosed_52 : decode cX5_isClosed 52 = .ok (.irem, 1) := by decide +kernel
theorem dX5_isClosed_53 : decode cX5_isClosed 53 = .ok (.ifCond .ne 18, 3) := by decide +kernel
theorem dX5_isClosed_56 : decode cX5_isClosed 56 = .ok (.aload_n 0, 1) := by decide +kernel
theorem dX5_isClosed_57 : decode cX5_isClosed 57 = .ok (.getfield 55, 3) := by decide +kernel
theorem dX5_isClosed_60 : decode cX5_isClosed 60 = .ok (.iload 4, 2) := by decide +kernel
theorem dX5_isClosed_62 : decode cX5_isClosed 62 = .ok (.iaload, 1) := by decide +kernel
theorem dX5_isClosed_63 : decode cX5_isClosed 63 = .ok (.iconst 4, 1) := by decide +kernel
theorem dX5_isClosed_64 : decode cX5_isClosed 64 = .ok (.idiv, 1) := by decide +kernel
theorem dX5_isClosed_65 : decode cX5_isClosed 65 = .ok (.iload_n 3, 1) := by decide +kernel
theorem dX5_isClosed_66 : decode cX5_isClosed 66 = .ok (.if_icmp .lt 5, 3) := by decide +kernel
theorem dX5_isClosed_69 : decode cX5_isClosed 69 = .ok (.iconst 0, 1) := by decide +kernel
theorem dX5_isClosed_70 : decode cX5_isClosed 70 = .ok (.ireturn, 1) := by decide +kernel
theorem dX5_isClosed_71 : decode cX5_isClosed 71 = .ok (.aload_n 0, 1) := by decide +kernel
theorem dX5_isClosed_72 : decode cX5_isClosed 72 = .ok (.getfield 55, 3) := by decide +kernel
theorem dX5_isClosed_75 : decode cX5_isClosed 75 = .ok (.iload 4, 2) := by decide +kernel
theorem dX5_isClosed_77 : decode cX5_isClosed 77 = .ok (.iaload, 1) := by decide +kernel
theorem dX5_isClosed_78 : decode cX5_isClosed 78 = .ok (.bipush (-2), 2) := by decide +kernel
theorem dX5_isClosed_80 : decode cX5_isClosed 80 = .ok (.if_icmp .eq 6, 3) := by decide +kernel
theorem dX5_isClosed_83 : decode cX5_isClosed 83 = .ok (.goto 18, 3) := by decide +kernel
theorem dX5_isClosed_86 : decode cX5_isClosed 86 = .ok (.aload_n 0, 1) := by decide +kernel
theorem dX5_isClosed_87 : decode cX5_isClosed 87 = .ok (.getfield 67, 3) := by decide +kernel
theorem dX5_isClosed_90 : decode cX5_isClosed 90 = .ok (.iload_n 3, 1) := by decide +kernel
theorem dX5_isClosed_91 : decode cX5_isClosed 91 = .ok (.aload_n 0, 1) := by decide +kernel
theorem dX5_isClosed_92 : decode cX5_isClosed 92 = .ok (.iload 4, 2) := by decide +kernel
theorem dX5_isClosed_94 : decode cX5_isClosed 94 = .ok (.invokevirtual 127, 3) := by decide +kernel
theorem dX5_isClosed_97 : decode cX5_isClosed 97 = .ok (.iastore, 1) := by decide +kernel
theorem dX5_isClosed_98 : decode cX5_isClosed 98 = .ok (.iinc 3 1, 3) := by decide +kernel
theorem dX5_isClosed_101 : decode cX5_isClosed 101 = .ok (.iinc 4 1, 3) := by decide +kernel
theorem dX5_isClosed_104 : decode cX5_isClosed 104 = .ok (.goto (-99), 3) := by decide +kernel
theorem dX5_isClosed_107 : decode cX5_isClosed 107 = .ok (.iconst 1, 1) := by decide +kernel
theorem dX5_isClosed_108 : decode cX5_isClosed 108 = .ok (.ireturn, 1) := by decide +kernel
set_option maxRecDepth 20000 in
theorem ggX5_takesPart_X5_fits : GoodIn wsX5_takesPart wsX5_fits := goodIn_r _ [11, 12, 13, 14, 15, 16, 17, 38, 39, 40, 41, 42, 43, 44, 45, 46, 47, 48, 49, 50, 51, 52, 53, 54, 55, 56, 57, 58, 59, 60, 61, 62, 63, 64, 65, 66, 67] (by decide +kernel) (by decide +kernel)
set_option maxRecDepth 20000 in
theorem gX5_takesPart_X5_fits : GoodIn wsX5_takesPart (wsV RX5 154 RX5 yX5_fits wsX5_fits) := goodIn_app (goodIn_of _ (by decide +kernel)) ggX5_takesPart_X5_fits
set_option maxRecDepth 20000 in
theorem ggX5_takesPart_X5_isClosed : GoodIn wsX5_takesPart wsX5_isClosed := goodIn_r _ [21, 22, 4, 23, 24, 25, 10, 26, 38, 39, 40, 41, 42, 43, 44, 45, 46, 47, 48, 49, 50, 51, 52, 53, 54, 55, 56, 57, 58, 59, 60, 61, 62, 63, 64, 65, 66, 67] (by decide +kernel) (by decide +kernel)
set_option maxRecDepth 20000 in
theorem gX5_takesPart_X5_isClosed : GoodIn wsX5_takesPart (wsV RX5 183 RX5 yX5_isClosed wsX5_isClosed) := goodIn_app (goodIn_of _ (by decide +kernel)) ggX5_takesPart_X5_isClosed
set_option maxRecDepth 20000 in
theorem ggX5_takesPart_X5_isVariable : GoodIn wsX5_takesPart wsX5_isVariable := goodIn_r _ [30, 4, 1, 31, 32, 10, 33, 38, 39, 40, 41, 42, 43, 44, 45, 46, 47, 48, 49, 50, 51, 52, 53, 54, 55, 56, 57, 58, 59, 60, 61, 62, 63, 64, 65, 66, 67] (by decide +kernel) (by decide +kernel)
set_option maxRecDepth 20000 in
theorem gX5_takesPart_X5_isVariable : GoodIn wsX5_takesPart (wsV RX5 172 RX5 yX5_isVariable wsX5_isVariable) := goodIn_app (goodIn_of _ (by decide +kernel)) ggX5_takesPart_X5_isVariable
set_option maxRecDepth 20000 in
theorem ggX5_takesPart_X5_areAlike : GoodIn wsX5_takesPart wsX5_areAlike := goodIn_r _ [37, 4, 1, 31, 32, 10, 33, 38, 39, 40, 41, 42, 43, 44, 45, 46, 47, 48, 49, 50, 51, 52, 53, 54, 55, 56, 57, 58, 59, 60, 61, 62, 63, 64, 65, 66, 67] (by decide +kernel) (by decide +kernel)
set_option maxRecDepth 20000 in
theorem gX5_takesPart_X5_areAlike : GoodIn wsX5_takesPart (wsV RX5 180 RX5 yX5_areAlike wsX5_areAlike) := goodIn_app (goodIn_of _ (by decide +kernel)) ggX5_takesPart_X5_areAlike
theorem dX5_takesPart_0 : decode cX5_takesPart 0 = .ok (.aload_n 0, 1) := by decide +kernel
theorem dX5_takesPart_1 : decode cX5_takesPart 1 = .ok (.aload_n 0, 1) := by decide +kernel
theorem dX5_takesPart_2 : decode cX5_takesPart 2 = .ok (.getfield 58, 3) := by decide +kernel
theorem dX5_takesPart_5 : decode cX5_takesPart 5 = .ok (.iload_n 1, 1) := by decide +kernel
theorem dX5_takesPart_6 : decode cX5_takesPart 6 = .ok (.iaload, 1) := by decide +kernel
theorem dX5_takesPart_7 : decode cX5_takesPart 7 = .ok (.aload_n 0, 1) := by decide +kernel
theorem dX5_takesPart_8 : decode cX5_takesPart 8 = .ok (.getfield 58, 3) := by decide +kernel
theorem dX5_takesPart_11 : decode cX5_takesPart 11 = .ok (.iload_n 2, 1) := by decide +kernel
theorem dX5_takesPart_12 : decode cX5_takesPart 12 = .ok (.iaload, 1) := by decide +kernel
theorem dX5_takesPart_13 : decode cX5_takesPart 13 = .ok (.invokevirtual 154, 3) := by decide +kernel
theorem dX5_takesPart_16 : decode cX5_takesPart 16 = .ok (.ifCond .eq 12, 3) := by decide +kernel
theorem dX5_takesPart_19 : decode cX5_takesPart 19 = .ok (.aload_n 0, 1) := by decide +kernel
theorem dX5_takesPart_20 : decode cX5_takesPart 20 = .ok (.iload_n 2, 1) := by decide +kernel
theorem dX5_takesPart_21 : decode cX5_takesPart 21 = .ok (.iload_n 3, 1) := by decide +kernel
theorem dX5_takesPart_22 : decode cX5_takesPart 22 = .ok (.invokevirtual 183, 3) := by decide +kernel
theorem dX5_takesPart_25 : decode cX5_takesPart 25 = .ok (.ifCond .ne 5, 3) := by decide +kernel
theorem dX5_takesPart_28 : decode cX5_takesPart 28 = .ok (.iconst 0, 1) := by decide +kernel
theorem dX5_takesPart_29 : decode cX5_takesPart 29 = .ok (.ireturn, 1) := by decide +kernel
theorem dX5_takesPart_30 : decode cX5_takesPart 30 = .ok (.iconst 0, 1) := by decide +kernel
theorem dX5_takesPart_31 : decode cX5_takesPart 31 = .ok (.istore 4, 2) := by decide +kernel
theorem dX5_takesPart_33 : decode cX5_takesPart 33 = .ok (.iload 4, 2) := by decide +kernel
theorem dX5_takesPart_35 : decode cX5_takesPart 35 = .ok (.aload_n 0, 1) := by decide +kernel
theorem dX5_takesPart_36 : decode cX5_takesPart 36 = .ok (.getfield 73, 3) := by decide +kernel
theorem dX5_takesPart_39 : decode cX5_takesPart 39 = .ok (.if_icmp .ge 72, 3) := by decide +kernel
theorem dX5_takesPart_42 : decode cX5_takesPart 42 = .ok (.aload_n 0, 1) := by decide +kernel
theorem dX5_takesPart_43 : decode cX5_takesPart 43 = .ok (.aload_n 0, 1) := by decide +kernel
theorem dX5_takesPart_44 : decode cX5_takesPart 44 = .ok (.getfield 76, 3) := by decide +kernel
theorem dX5_takesPart_47 : decode cX5_takesPart 47 = .ok (.iload 4, 2) := by decide +kernel
theorem dX5_takesPart_49 : decode cX5_takesPart 49 = .ok (.iaload, 1) := by decide +kernel
theorem dX5_takesPart_50 : decode cX5_takesPart 50 = .ok (.aload_n 0, 1) := by decide +kernel
theorem dX5_takesPart_51 : decode cX5_takesPart 51 = .ok (.getfield 55, 3) := by decide +kernel
theorem dX5_takesPart_54 : decode cX5_takesPart 54 = .ok (.iload_n 1, 1) := by decide +kernel
theorem dX5_takesPart_55 : decode cX5_takesPart 55 = .ok (.iaload, 1) := by decide +kernel
theorem dX5_takesPart_56 : decode cX5_takesPart 56 = .ok (.aload_n 0, 1) := by decide +kernel
theorem dX5_takesPart_57 : decode cX5_takesPart 57 = .ok (.getfield 58, 3) := by decide +kernel
theorem dX5_takesPart_60 : decode cX5_takesPart 60 = .ok (.iload_n 1, 1) := by decide +kernel
theorem dX5_takesPart_61 : decode cX5_takesPart 61 = .ok (.iaload, 1) := by decide +kernel
theorem dX5_takesPart_62 : decode cX5_takesPart 62 = .ok (.invokevirtual 172, 3) := by decide +kernel
theorem dX5_takesPart_65 : decode cX5_takesPart 65 = .ok (.ifCond .eq 40, 3) := by decide +kernel
theorem dX5_takesPart_68 : decode cX5_takesPart 68 = .ok (.aload_n 0, 1) := by decide +kernel
theorem dX5_takesPart_69 : decode cX5_takesPart 69 = .ok (.getfield 82, 3) := by decide +kernel
theorem dX5_takesPart_72 : decode cX5_takesPart 72 = .ok (.iload 4, 2) := by decide +kernel
theorem dX5_takesPart_74 : decode cX5_takesPart 74 = .ok (.iaload, 1) := by decide +kernel
theorem dX5_takesPart_75 : decode cX5_takesPart 75 = .ok (.iload_n 3, 1) := by decide +kernel
theorem dX5_takesPart_76 : decode cX5_takesPart 76 = .ok (.iload_n 2, 1) := by decide +kernel
theorem dX5_takesPart_77 : decode cX5_takesPart 77 = .ok (.isub, 1) := by decide +kernel
theorem dX5_takesPart_78 : decode cX5_takesPart 78 = .ok (.if_icmp .ne 25, 3) := by decide +kernel
theorem dX5_takesPart_81 : decode cX5_takesPart 81 = .ok (.aload_n 0, 1) := by decide +kernel
theorem dX5_takesPart_82 : decode cX5_takesPart 82 = .ok (.aload_n 0, 1) := by decide +kernel
theorem dX5_takesPart_83 : decode cX5_takesPart 83 = .ok (.getfield 79, 3) := by decide +kernel
theorem dX5_takesPart_86 : decode cX5_takesPart 86 = .ok (.iload 4, 2) := by decide +kernel
theorem dX5_takesPart_88 : decode cX5_takesPart 88 = .ok (.iaload, 1) := by decide +kernel
theorem dX5_takesPart_89 : decode cX5_takesPart 89 = .ok (.iload_n 2, 1) := by decide +kernel
theorem dX5_takesPart_90 : decode cX5_takesPart 90 = .ok (.iload_n 3, 1) := by decide +kernel
theorem dX5_takesPart_91 : decode cX5_takesPart 91 = .ok (.iload_n 2, 1) := by decide +kernel
theorem dX5_takesPart_92 : decode cX5_takesPart 92 = .ok (.isub, 1) := by decide +kernel
theorem dX5_takesPart_93 : decode cX5_takesPart 93 = .ok (.invokevirtual 180, 3) := by decide +kernel
theorem dX5_takesPart_96 : decode cX5_takesPart 96 = .ok (.ifCond .eq 7, 3) := by decide +kernel
theorem dX5_takesPart_99 : decode cX5_takesPart 99 = .ok (.iconst 1, 1) := by decide +kernel
theorem dX5_takesPart_100 : decode cX5_takesPart 100 = .ok (.goto 4, 3) := by decide +kernel
theorem dX5_takesPart_103 : decode cX5_takesPart 103 = .ok (.iconst 0, 1) := by decide +kernel
theorem dX5_takesPart_104 : decode cX5_takesPart 104 = .ok (.ireturn, 1) := by decide +kernel
theorem dX5_takesPart_105 : decode cX5_takesPart 105 = .ok (.iinc 4 1, 3) := by decide +kernel
theorem dX5_takesPart_108 : decode cX5_takesPart 108 = .ok (.goto (-75), 3) := by decide +kernel
theorem dX5_takesPart_111 : decode cX5_takesPart 111 = .ok (.aload_n 0, 1) := by decide +kernel
theorem dX5_takesPart_112 : decode cX5_takesPart 112 = .ok (.getfield 76, 3) := by decide +kernel
theorem dX5_takesPart_115 : decode cX5_takesPart 115 = .ok (.aload_n 0, 1) := by decide +kernel
theorem dX5_takesPart_116 : decode cX5_takesPart 116 = .ok (.getfield 73, 3) := by decide +kernel
theorem dX5_takesPart_119 : decode cX5_takesPart 119 = .ok (.iload_n 1, 1) := by decide +kernel
theorem dX5_takesPart_120 : decode cX5_takesPart 120 = .ok (.iastore, 1) := by decide +kernel
theorem dX5_takesPart_121 : decode cX5_takesPart 121 = .ok (.aload_n 0, 1) := by decide +kernel
theorem dX5_takesPart_122 : decode cX5_takesPart 122 = .ok (.getfield 79, 3) := by decide +kernel
theorem dX5_takesPart_125 : decode cX5_takesPart 125 = .ok (.aload_n 0, 1) := by decide +kernel
theorem dX5_takesPart_126 : decode cX5_takesPart 126 = .ok (.getfield 73, 3) := by decide +kernel
theorem dX5_takesPart_129 : decode cX5_takesPart 129 = .ok (.iload_n 2, 1) := by decide +kernel
theorem dX5_takesPart_130 : decode cX5_takesPart 130 = .ok (.iastore, 1) := by decide +kernel
theorem dX5_takesPart_131 : decode cX5_takesPart 131 = .ok (.aload_n 0, 1) := by decide +kernel
theorem dX5_takesPart_132 : decode cX5_takesPart 132 = .ok (.getfield 82, 3) := by decide +kernel
theorem dX5_takesPart_135 : decode cX5_takesPart 135 = .ok (.aload_n 0, 1) := by decide +kernel
theorem dX5_takesPart_136 : decode cX5_takesPart 136 = .ok (.getfield 73, 3) := by decide +kernel
theorem dX5_takesPart_139 : decode cX5_takesPart 139 = .ok (.iload_n 3, 1) := by decide +kernel
theorem dX5_takesPart_140 : decode cX5_takesPart 140 = .ok (.iload_n 2, 1) := by decide +kernel
theorem dX5_takesPart_141 : decode cX5_takesPart 141 = .ok (.isub, 1) := by decide +kernel
theorem dX5_takesPart_142 : decode cX5_takesPart 142 = .ok (.iastore, 1) := by decide +kernel
theorem dX5_takesPart_143 : decode cX5_takesPart 143 = .ok (.aload_n 0, 1) := by decide +kernel
theorem dX5_takesPart_144 : decode cX5_takesPart 144 = .ok (.dup, 1) := by decide +kernel
theorem dX5_takesPart_145 : decode cX5_takesPart 145 = .ok (.getfield 73, 3) := by decide +kernel
theorem dX5_takesPart_148 : decode cX5_takesPart 148 = .ok (.iconst 1, 1) := by decide +kernel
theorem dX5_takesPart_149 : decode cX5_takesPart 149 = .ok (.iadd, 1) := by decide +kernel
theorem dX5_takesPart_150 : decode cX5_takesPart 150 = .ok (.putfield 73, 3) := by decide +kernel
theorem dX5_takesPart_153 : decode cX5_takesPart 153 = .ok (.iconst 1, 1) := by decide +kernel
theorem dX5_takesPart_154 : decode cX5_takesPart 154 = .ok (.ireturn, 1) := by decide +kernel
set_option maxRecDepth 20000 in
theorem ggX5_isFit_X5_fits : GoodIn wsX5_isFit wsX5_fits := goodIn_r _ [8, 9, 10, 11, 12, 13, 2, 14, 15, 16, 17, 18, 19, 20, 21, 22, 23, 24, 25, 26, 27, 28, 29, 30, 31, 32, 33, 34, 35, 36, 37, 38, 39, 40, 41, 42, 43] (by decide +kernel) (by decide +kernel)
set_option maxRecDepth 20000 in
theorem gX5_isFit_X5_fits : GoodIn wsX5_isFit (wsV RX5 154 RX5 yX5_fits wsX5_fits) := goodIn_app (goodIn_of _ (by decide +kernel)) ggX5_isFit_X5_fits
theorem dX5_isFit_0 : decode cX5_isFit 0 = .ok (.aload_n 0, 1) := by decide +kernel
theorem dX5_isFit_1 : decode cX5_isFit 1 = .ok (.getfield 55, 3) := by decide +kernel
theorem dX5_isFit_4 : decode cX5_isFit 4 = .ok (.iload_n 1, 1) := by decide +kernel
theorem dX5_isFit_5 : decode cX5_isFit 5 = .ok (.iaload, 1) := by decide +kernel
theorem dX5_isFit_6 : decode cX5_isFit 6 = .ok (.aload_n 0, 1) := by decide +kernel
theorem dX5_isFit_7 : decode cX5_isFit 7 = .ok (.getfield 55, 3) := by decide +kernel
theorem dX5_isFit_10 : decode cX5_isFit 10 = .ok (.iload_n 2, 1) := by decide +kernel
theorem dX5_isFit_11 : decode cX5_isFit 11 = .ok (.iaload, 1) := by decide +kernel
theorem dX5_isFit_12 : decode cX5_isFit 12 = .ok (.if_icmp .eq 5, 3) := by decide +kernel
theorem dX5_isFit_15 : decode cX5_isFit 15 = .ok (.iconst 0, 1) := by decide +kernel
theorem dX5_isFit_16 : decode cX5_isFit 16 = .ok (.ireturn, 1) := by decide +kernel
theorem dX5_isFit_17 : decode cX5_isFit 17 = .ok (.aload_n 0, 1) := by decide +kernel
theorem dX5_isFit_18 : decode cX5_isFit 18 = .ok (.getfield 55, 3) := by decide +kernel
theorem dX5_isFit_21 : decode cX5_isFit 21 = .ok (.iload_n 1, 1) := by decide +kernel
theorem dX5_isFit_22 : decode cX5_isFit 22 = .ok (.iaload, 1) := by decide +kernel
theorem dX5_isFit_23 : decode cX5_isFit 23 = .ok (.bipush (-2), 2) := by decide +kernel
theorem dX5_isFit_25 : decode cX5_isFit 25 = .ok (.if_icmp .ne 30, 3) := by decide +kernel
theorem dX5_isFit_28 : decode cX5_isFit 28 = .ok (.aload_n 0, 1) := by decide +kernel
theorem dX5_isFit_29 : decode cX5_isFit 29 = .ok (.aload_n 0, 1) := by decide +kernel
theorem dX5_isFit_30 : decode cX5_isFit 30 = .ok (.getfield 23, 3) := by decide +kernel
theorem dX5_isFit_33 : decode cX5_isFit 33 = .ok (.aload_n 0, 1) := by decide +kernel
theorem dX5_isFit_34 : decode cX5_isFit 34 = .ok (.getfield 58, 3) := by decide +kernel
theorem dX5_isFit_37 : decode cX5_isFit 37 = .ok (.iload_n 1, 1) := by decide +kernel
theorem dX5_isFit_38 : decode cX5_isFit 38 = .ok (.iaload, 1) := by decide +kernel
theorem dX5_isFit_39 : decode cX5_isFit 39 = .ok (.iaload, 1) := by decide +kernel
theorem dX5_isFit_40 : decode cX5_isFit 40 = .ok (.aload_n 0, 1) := by decide +kernel
theorem dX5_isFit_41 : decode cX5_isFit 41 = .ok (.getfield 23, 3) := by decide +kernel
theorem dX5_isFit_44 : decode cX5_isFit 44 = .ok (.aload_n 0, 1) := by decide +kernel
theorem dX5_isFit_45 : decode cX5_isFit 45 = .ok (.getfield 58, 3) := by decide +kernel
theorem dX5_isFit_48 : decode cX5_isFit 48 = .ok (.iload_n 2, 1) := by decide +kernel
theorem dX5_isFit_49 : decode cX5_isFit 49 = .ok (.iaload, 1) := by decide +kernel
theorem dX5_isFit_50 : decode cX5_isFit 50 = .ok (.iaload, 1) := by decide +kernel
theorem dX5_isFit_51 : decode cX5_isFit 51 = .ok (.invokevirtual 154, 3) := by decide +kernel
theorem dX5_isFit_54 : decode cX5_isFit 54 = .ok (.ireturn, 1) := by decide +kernel
theorem dX5_isFit_55 : decode cX5_isFit 55 = .ok (.aload_n 0, 1) := by decide +kernel
theorem dX5_isFit_56 : decode cX5_isFit 56 = .ok (.getfield 55, 3) := by decide +kernel
theorem dX5_isFit_59 : decode cX5_isFit 59 = .ok (.iload_n 1, 1) := by decide +kernel
theorem dX5_isFit_60 : decode cX5_isFit 60 = .ok (.iaload, 1) := by decide +kernel
theorem dX5_isFit_61 : decode cX5_isFit 61 = .ok (.iconst 4, 1) := by decide +kernel
theorem dX5_isFit_62 : decode cX5_isFit 62 = .ok (.irem, 1) := by decide +kernel
theorem dX5_isFit_63 : decode cX5_isFit 63 = .ok (.iconst 2, 1) := by decide +kernel
theorem dX5_isFit_64 : decode cX5_isFit 64 = .ok (.if_icmp .ne 22, 3) := by decide +kernel
theorem dX5_isFit_67 : decode cX5_isFit 67 = .ok (.aload_n 0, 1) := by decide +kernel
theorem dX5_isFit_68 : decode cX5_isFit 68 = .ok (.aload_n 0, 1) := by decide +kernel
theorem dX5_isFit_69 : decode cX5_isFit 69 = .ok (.getfield 58, 3) := by decide +kernel
theorem dX5_isFit_72 : decode cX5_isFit 72 = .ok (.iload_n 1, 1) := by decide +kernel
theorem dX5_isFit_73 : decode cX5_isFit 73 = .ok (.iaload, 1) := by decide +kernel
theorem dX5_isFit_74 : decode cX5_isFit 74 = .ok (.aload_n 0, 1) := by decide +kernel
theorem dX5_isFit_75 : decode cX5_isFit 75 = .ok (.getfield 58, 3) := by decide +kernel
theorem dX5_isFit_78 : decode cX5_isFit 78 = .ok (.iload_n 2, 1) := by decide +kernel
theorem dX5_isFit_79 : decode cX5_isFit 79 = .ok (.iaload, 1) := by decide +kernel
theorem dX5_isFit_80 : decode cX5_isFit 80 = .ok (.invokevirtual 154, 3) := by decide +kernel
theorem dX5_isFit_83 : decode cX5_isFit 83 = .ok (.ifCond .eq 7, 3) := by decide +kernel
theorem dX5_isFit_86 : decode cX5_isFit 86 = .ok (.iconst 1, 1) := by decide +kernel
theorem dX5_isFit_87 : decode cX5_isFit 87 = .ok (.goto 4, 3) := by decide +kernel
theorem dX5_isFit_90 : decode cX5_isFit 90 = .ok (.iconst 0, 1) := by decide +kernel
theorem dX5_isFit_91 : decode cX5_isFit 91 = .ok (.ireturn, 1) := by decide +kernel
set_option maxRecDepth 20000 in
theorem ggX5_match_X5_isTerm : GoodIn wsX5_match wsX5_isTerm := goodIn_r _ [9, 10, 11, 12, 8, 13, 60, 61, 62, 63, 64, 65, 66, 67, 68, 69, 70, 71, 72, 73, 74, 75, 76, 77, 78, 79, 80, 81, 82, 83, 84, 85, 86, 87, 88, 89] (by decide +kernel) (by decide +kernel)
set_option maxRecDepth 20000 in
theorem gX5_match_X5_isTerm : GoodIn wsX5_match (wsV RX5 157 RX5 yX5_isTerm wsX5_isTerm) := goodIn_app (goodIn_of _ (by decide +kernel)) ggX5_match_X5_isTerm
set_option maxRecDepth 20000 in
theorem ggX5_match_X5_freeTypes : GoodIn wsX5_match wsX5_freeTypes := goodIn_r _ [17, 18, 60, 61, 62, 63, 64, 65, 66, 67, 68, 69, 70, 71, 72, 73, 74, 75, 76, 77, 78, 79, 80, 81, 82, 83, 84, 85, 86, 87, 88, 89] (by decide +kernel) (by decide +kernel)
set_option maxRecDepth 20000 in
theorem gX5_match_X5_freeTypes : GoodIn wsX5_match (wsV RX5 151 RX5 yX5_freeTypes wsX5_freeTypes) := goodIn_app (goodIn_of _ (by decide +kernel)) ggX5_match_X5_freeTypes
set_option maxRecDepth 20000 in
theorem ggX5_match_X5_endOf : GoodIn wsX5_match wsX5_endOf := goodIn_r _ [22, 4, 60, 61, 62, 63, 64, 65, 66, 67, 68, 69, 70, 71, 72, 73, 74, 75, 76, 77, 78, 79, 80, 81, 82, 83, 84, 85, 86, 87, 88, 89] (by decide +kernel) (by decide +kernel)
set_option maxRecDepth 20000 in
theorem gX5_match_X5_endOf : GoodIn wsX5_match (wsV RX5 127 RX5 yX5_endOf wsX5_endOf) := goodIn_app (goodIn_of _ (by decide +kernel)) ggX5_match_X5_endOf
set_option maxRecDepth 20000 in
theorem ggX5_match_X5_takesPart : GoodIn wsX5_match wsX5_takesPart := goodIn_r _ [26, 27, 2, 28, 4, 29, 30, 31, 32, 33, 8, 34, 35, 36, 37, 18, 38, 39, 40, 41, 42, 43, 44, 19, 20, 21, 22, 45, 46, 47, 48, 49, 50, 51, 52, 53, 54, 55, 60, 61, 62, 63, 64, 65, 66, 67, 68, 69, 70, 71, 72, 73, 74, 75, 76, 77, 78, 79, 80, 81, 82, 83, 84, 85, 86, 87, 88, 89] (by decide +kernel) (by decide +kernel)
set_option maxRecDepth 20000 in
theorem gX5_match_X5_takesPart : GoodIn wsX5_match (wsV RX5 186 RX5 yX5_takesPart wsX5_takesPart) := goodIn_app (goodIn_of _ (by decide +kernel)) ggX5_match_X5_takesPart
set_option maxRecDepth 20000 in
theorem ggX5_match_X5_isFit : GoodIn wsX5_match wsX5_isFit := goodIn_r _ [59, 4, 39, 27, 31, 32, 33, 8, 34, 35, 36, 37, 18, 38, 60, 61, 62, 63, 64, 65, 66, 67, 68, 69, 70, 71, 72, 73, 74, 75, 76, 77, 78, 79, 80, 81, 82, 83, 84, 85, 86, 87, 88, 89] (by decide +kernel) (by decide +kernel)
set_option maxRecDepth 20000 in
theorem gX5_match_X5_isFit : GoodIn wsX5_match (wsV RX5 189 RX5 yX5_isFit wsX5_isFit) := goodIn_app (goodIn_of _ (by decide +kernel)) ggX5_match_X5_isFit
theorem dX5_match_0 : decode cX5_match 0 = .ok (.aload_n 0, 1) := by decide +kernel
theorem dX5_match_1 : decode cX5_match 1 = .ok (.aload_n 0, 1) := by decide +kernel
theorem dX5_match_2 : decode cX5_match 2 = .ok (.iload_n 1, 1) := by decide +kernel
theorem dX5_match_3 : decode cX5_match 3 = .ok (.invokevirtual 157, 3) := by decide +kernel
theorem dX5_match_6 : decode cX5_match 6 = .ok (.ifCond .eq 15, 3) := by decide +kernel
theorem dX5_match_9 : decode cX5_match 9 = .ok (.aload_n 0, 1) := by decide +kernel
theorem dX5_match_10 : decode cX5_match 10 = .ok (.iload_n 2, 1) := by decide +kernel
theorem dX5_match_11 : decode cX5_match 11 = .ok (.invokevirtual 157, 3) := by decide +kernel
theorem dX5_match_14 : decode cX5_match 14 = .ok (.ifCond .eq 7, 3) := by decide +kernel
theorem dX5_match_17 : decode cX5_match 17 = .ok (.iconst 0, 1) := by decide +kernel
theorem dX5_match_18 : decode cX5_match 18 = .ok (.goto 4, 3) := by decide +kernel
theorem dX5_match_21 : decode cX5_match 21 = .ok (.iconst 1, 1) := by decide +kernel
theorem dX5_match_22 : decode cX5_match 22 = .ok (.putfield 85, 3) := by decide +kernel
theorem dX5_match_25 : decode cX5_match 25 = .ok (.aload_n 0, 1) := by decide +kernel
theorem dX5_match_26 : decode cX5_match 26 = .ok (.getfield 85, 3) := by decide +kernel
theorem dX5_match_29 : decode cX5_match 29 = .ok (.ifCond .le 5, 3) := by decide +kernel
theorem dX5_match_32 : decode cX5_match 32 = .ok (.iconst 0, 1) := by decide +kernel
theorem dX5_match_33 : decode cX5_match 33 = .ok (.ireturn, 1) := by decide +kernel
theorem dX5_match_34 : decode cX5_match 34 = .ok (.aload_n 0, 1) := by decide +kernel
theorem dX5_match_35 : decode cX5_match 35 = .ok (.invokevirtual 151, 3) := by decide +kernel
theorem dX5_match_38 : decode cX5_match 38 = .ok (.aload_n 0, 1) := by decide +kernel
theorem dX5_match_39 : decode cX5_match 39 = .ok (.iconst 0, 1) := by decide +kernel
theorem dX5_match_40 : decode cX5_match 40 = .ok (.putfield 73, 3) := by decide +kernel
theorem dX5_match_43 : decode cX5_match 43 = .ok (.aload_n 0, 1) := by decide +kernel
theorem dX5_match_44 : decode cX5_match 44 = .ok (.getfield 51, 3) := by decide +kernel
theorem dX5_match_47 : decode cX5_match 47 = .ok (.iload_n 2, 1) := by decide +kernel
theorem dX5_match_48 : decode cX5_match 48 = .ok (.iaload, 1) := by decide +kernel
theorem dX5_match_49 : decode cX5_match 49 = .ok (.istore_n 3, 1) := by decide +kernel
theorem dX5_match_50 : decode cX5_match 50 = .ok (.iconst 1, 1) := by decide +kernel
theorem dX5_match_51 : decode cX5_match 51 = .ok (.istore 4, 2) := by decide +kernel
theorem dX5_match_53 : decode cX5_match 53 = .ok (.aload_n 0, 1) := by decide +kernel
theorem dX5_match_54 : decode cX5_match 54 = .ok (.getfield 51, 3) := by decide +kernel
theorem dX5_match_57 : decode cX5_match 57 = .ok (.iload_n 1, 1) := by decide +kernel
theorem dX5_match_58 : decode cX5_match 58 = .ok (.iaload, 1) := by decide +kernel
theorem dX5_match_59 : decode cX5_match 59 = .ok (.istore 5, 2) := by decide +kernel
theorem dX5_match_61 : decode cX5_match 61 = .ok (.iload 5, 2) := by decide +kernel
theorem dX5_match_63 : decode cX5_match 63 = .ok (.aload_n 0, 1) := by decide +kernel
theorem dX5_match_64 : decode cX5_match 64 = .ok (.getfield 51, 3) := by decide +kernel
theorem dX5_match_67 : decode cX5_match 67 = .ok (.iload_n 1, 1) := by decide +kernel
theorem dX5_match_68 : decode cX5_match 68 = .ok (.iconst 1, 1) := by decide +kernel
theorem dX5_match_69 : decode cX5_match 69 = .ok (.iadd, 1) := by decide +kernel
theorem dX5_match_70 : decode cX5_match 70 = .ok (.iaload, 1) := by decide +kernel
theorem dX5_match_71 : decode cX5_match 71 = .ok (.if_icmp .ge 91, 3) := by decide +kernel
theorem dX5_match_74 : decode cX5_match 74 = .ok (.iload 4, 2) := by decide +kernel
theorem dX5_match_76 : decode cX5_match 76 = .ok (.ifCond .eq 86, 3) := by decide +kernel
theorem dX5_match_79 : decode cX5_match 79 = .ok (.aload_n 0, 1) := by decide +kernel
theorem dX5_match_80 : decode cX5_match 80 = .ok (.getfield 55, 3) := by decide +kernel
theorem dX5_match_83 : decode cX5_match 83 = .ok (.iload 5, 2) := by decide +kernel
theorem dX5_match_85 : decode cX5_match 85 = .ok (.iaload, 1) := by decide +kernel
theorem dX5_match_86 : decode cX5_match 86 = .ok (.ifCond .lt 20, 3) := by decide +kernel
theorem dX5_match_89 : decode cX5_match 89 = .ok (.aload_n 0, 1) := by decide +kernel
theorem dX5_match_90 : decode cX5_match 90 = .ok (.getfield 55, 3) := by decide +kernel
theorem dX5_match_93 : decode cX5_match 93 = .ok (.iload 5, 2) := by decide +kernel
theorem dX5_match_95 : decode cX5_match 95 = .ok (.iaload, 1) := by decide +kernel
theorem dX5_match_96 : decode cX5_match 96 = .ok (.iconst 4, 1) := by decide +kernel
theorem dX5_match_97 : decode cX5_match 97 = .ok (.irem, 1) := by decide +kernel
theorem dX5_match_98 : decode cX5_match 98 = .ok (.iconst 1, 1) := by decide +kernel
theorem dX5_match_99 : decode cX5_match 99 = .ok (.if_icmp .ne 7, 3) := by decide +kernel
theorem dX5_match_102 : decode cX5_match 102 = .ok (.iconst 1, 1) := by decide +kernel
theorem dX5_match_103 : decode cX5_match 103 = .ok (.goto 4, 3) := by decide +kernel
theorem dX5_match_106 : decode cX5_match 106 = .ok (.iconst 0, 1) := by decide +kernel
theorem dX5_match_107 : decode cX5_match 107 = .ok (.istore 6, 2) := by decide +kernel
theorem dX5_match_109 : decode cX5_match 109 = .ok (.iload 6, 2) := by decide +kernel
theorem dX5_match_111 : decode cX5_match 111 = .ok (.ifCond .eq 11, 3) := by decide +kernel
theorem dX5_match_114 : decode cX5_match 114 = .ok (.aload_n 0, 1) := by decide +kernel
theorem dX5_match_115 : decode cX5_match 115 = .ok (.iload_n 3, 1) := by decide +kernel
theorem dX5_match_116 : decode cX5_match 116 = .ok (.invokevirtual 127, 3) := by decide +kernel
theorem dX5_match_119 : decode cX5_match 119 = .ok (.goto 6, 3) := by decide +kernel
theorem dX5_match_122 : decode cX5_match 122 = .ok (.iload_n 3, 1) := by decide +kernel
theorem dX5_match_123 : decode cX5_match 123 = .ok (.iconst 1, 1) := by decide +kernel
theorem dX5_match_124 : decode cX5_match 124 = .ok (.iadd, 1) := by decide +kernel
theorem dX5_match_125 : decode cX5_match 125 = .ok (.istore 7, 2) := by decide +kernel
theorem dX5_match_127 : decode cX5_match 127 = .ok (.iload 6, 2) := by decide +kernel
theorem dX5_match_129 : decode cX5_match 129 = .ok (.ifCond .eq 15, 3) := by decide +kernel
theorem dX5_match_132 : decode cX5_match 132 = .ok (.aload_n 0, 1) := by decide +kernel
theorem dX5_match_133 : decode cX5_match 133 = .ok (.iload 5, 2) := by decide +kernel
theorem dX5_match_135 : decode cX5_match 135 = .ok (.iload_n 3, 1) := by decide +kernel
theorem dX5_match_136 : decode cX5_match 136 = .ok (.iload 7, 2) := by decide +kernel
theorem dX5_match_138 : decode cX5_match 138 = .ok (.invokevirtual 186, 3) := by decide +kernel
theorem dX5_match_141 : decode cX5_match 141 = .ok (.goto 10, 3) := by decide +kernel
theorem dX5_match_144 : decode cX5_match 144 = .ok (.aload_n 0, 1) := by decide +kernel
theorem dX5_match_145 : decode cX5_match 145 = .ok (.iload 5, 2) := by decide +kernel
theorem dX5_match_147 : decode cX5_match 147 = .ok (.iload_n 3, 1) := by decide +kernel
theorem dX5_match_148 : decode cX5_match 148 = .ok (.invokevirtual 189, 3) := by decide +kernel
theorem dX5_match_151 : decode cX5_match 151 = .ok (.istore 4, 2) := by decide +kernel
theorem dX5_match_153 : decode cX5_match 153 = .ok (.iload 7, 2) := by decide +kernel
theorem dX5_match_155 : decode cX5_match 155 = .ok (.istore_n 3, 1) := by decide +kernel
theorem dX5_match_156 : decode cX5_match 156 = .ok (.iinc 5 1, 3) := by decide +kernel
theorem dX5_match_159 : decode cX5_match 159 = .ok (.goto (-98), 3) := by decide +kernel
theorem dX5_match_162 : decode cX5_match 162 = .ok (.iload 4, 2) := by decide +kernel
theorem dX5_match_164 : decode cX5_match 164 = .ok (.ifCond .ne 8, 3) := by decide +kernel
theorem dX5_match_167 : decode cX5_match 167 = .ok (.aload_n 0, 1) := by decide +kernel
theorem dX5_match_168 : decode cX5_match 168 = .ok (.iconst (-1), 1) := by decide +kernel
theorem dX5_match_169 : decode cX5_match 169 = .ok (.putfield 73, 3) := by decide +kernel
theorem dX5_match_172 : decode cX5_match 172 = .ok (.aload_n 0, 1) := by decide +kernel
theorem dX5_match_173 : decode cX5_match 173 = .ok (.getfield 73, 3) := by decide +kernel
theorem dX5_match_176 : decode cX5_match 176 = .ok (.ireturn, 1) := by decide +kernel
set_option maxRecDepth 20000 in
theorem ggX5_matched_X5_outside : GoodIn wsX5_matched wsX5_outside := goodIn_r _ [10] (by decide +kernel) (by decide +kernel)
set_option maxRecDepth 20000 in
theorem gX5_matched_X5_outside : GoodIn wsX5_matched (va_wsS RX5 88 yX5_outside wsX5_outside) := goodIn_app (goodIn_of _ (by decide +kernel)) ggX5_matched_X5_outside
set_option maxRecDepth 20000 in
theorem ggX5_matched_X5_copy : GoodIn wsX5_matched wsX5_copy := goodIn_r _ [14, 15, 16, 17, 18, 19, 9, 20, 3, 4, 46, 47, 48, 49, 50, 51, 52, 53, 54, 55, 56, 57, 58, 59, 60, 61, 62, 63, 64, 65, 66, 67, 68, 69, 70, 71, 72, 73, 74, 75] (by decide +kernel) (by decide +kernel)
set_option maxRecDepth 20000 in
theorem gX5_matched_X5_copy : GoodIn wsX5_matched (wsV RX5 166 RX5 yX5_copy wsX5_copy) := goodIn_app (goodIn_of _ (by decide +kernel)) ggX5_matched_X5_copy
set_option maxRecDepth 20000 in
theorem ggX5_matched_X5_finish : GoodIn wsX5_matched wsX5_finish := goodIn_r _ [24, 25, 26, 27, 9, 28, 3, 4, 29, 30, 31, 32, 2, 33, 34, 35, 36, 37, 38, 39, 40, 41, 15, 42, 43, 44, 45, 46, 47, 48, 49, 50, 51, 52, 53, 54, 55, 56, 57, 58, 59, 60, 61, 62, 63, 64, 65, 66, 67, 68, 69, 70, 71, 72, 73, 74, 75] (by decide +kernel) (by decide +kernel)
set_option maxRecDepth 20000 in
theorem gX5_matched_X5_finish : GoodIn wsX5_matched (wsV RX5 148 RX5 yX5_finish wsX5_finish) := goodIn_app (goodIn_of _ (by decide +kernel)) ggX5_matched_X5_finish
theorem dX5_matched_0 : decode cX5_matched 0 = .ok (.aload_n 0, 1) := by decide +kernel
theorem dX5_matched_1 : decode cX5_matched 1 = .ok (.iload_n 1, 1) := by decide +kernel
theorem dX5_matched_2 : decode cX5_matched 2 = .ok (.aload_n 0, 1) := by decide +kernel
theorem dX5_matched_3 : decode cX5_matched 3 = .ok (.getfield 73, 3) := by decide +kernel
theorem dX5_matched_6 : decode cX5_matched 6 = .ok (.invokestatic 88, 3) := by decide +kernel
theorem dX5_matched_9 : decode cX5_matched 9 = .ok (.ifCond .eq 7, 3) := by decide +kernel
theorem dX5_matched_12 : decode cX5_matched 12 = .ok (.iconst 1, 1) := by decide +kernel
theorem dX5_matched_13 : decode cX5_matched 13 = .ok (.goto 4, 3) := by decide +kernel
theorem dX5_matched_16 : decode cX5_matched 16 = .ok (.iconst 0, 1) := by decide +kernel
theorem dX5_matched_17 : decode cX5_matched 17 = .ok (.putfield 85, 3) := by decide +kernel
theorem dX5_matched_20 : decode cX5_matched 20 = .ok (.aload_n 0, 1) := by decide +kernel
theorem dX5_matched_21 : decode cX5_matched 21 = .ok (.getfield 85, 3) := by decide +kernel
theorem dX5_matched_24 : decode cX5_matched 24 = .ok (.ifCond .le 5, 3) := by decide +kernel
theorem dX5_matched_27 : decode cX5_matched 27 = .ok (.iconst 0, 1) := by decide +kernel
theorem dX5_matched_28 : decode cX5_matched 28 = .ok (.ireturn, 1) := by decide +kernel
theorem dX5_matched_29 : decode cX5_matched 29 = .ok (.aload_n 0, 1) := by decide +kernel
theorem dX5_matched_30 : decode cX5_matched 30 = .ok (.aload_n 0, 1) := by decide +kernel
theorem dX5_matched_31 : decode cX5_matched 31 = .ok (.aload_n 0, 1) := by decide +kernel
theorem dX5_matched_32 : decode cX5_matched 32 = .ok (.getfield 51, 3) := by decide +kernel
theorem dX5_matched_35 : decode cX5_matched 35 = .ok (.aload_n 0, 1) := by decide +kernel
theorem dX5_matched_36 : decode cX5_matched 36 = .ok (.getfield 130, 3) := by decide +kernel
theorem dX5_matched_39 : decode cX5_matched 39 = .ok (.iaload, 1) := by decide +kernel
theorem dX5_matched_40 : decode cX5_matched 40 = .ok (.aload_n 0, 1) := by decide +kernel
theorem dX5_matched_41 : decode cX5_matched 41 = .ok (.getfield 79, 3) := by decide +kernel
theorem dX5_matched_44 : decode cX5_matched 44 = .ok (.iload_n 1, 1) := by decide +kernel
theorem dX5_matched_45 : decode cX5_matched 45 = .ok (.iaload, 1) := by decide +kernel
theorem dX5_matched_46 : decode cX5_matched 46 = .ok (.aload_n 0, 1) := by decide +kernel
theorem dX5_matched_47 : decode cX5_matched 47 = .ok (.getfield 79, 3) := by decide +kernel
theorem dX5_matched_50 : decode cX5_matched 50 = .ok (.iload_n 1, 1) := by decide +kernel
theorem dX5_matched_51 : decode cX5_matched 51 = .ok (.iaload, 1) := by decide +kernel
theorem dX5_matched_52 : decode cX5_matched 52 = .ok (.aload_n 0, 1) := by decide +kernel
theorem dX5_matched_53 : decode cX5_matched 53 = .ok (.getfield 82, 3) := by decide +kernel
theorem dX5_matched_56 : decode cX5_matched 56 = .ok (.iload_n 1, 1) := by decide +kernel
theorem dX5_matched_57 : decode cX5_matched 57 = .ok (.iaload, 1) := by decide +kernel
theorem dX5_matched_58 : decode cX5_matched 58 = .ok (.iadd, 1) := by decide +kernel
theorem dX5_matched_59 : decode cX5_matched 59 = .ok (.invokevirtual 166, 3) := by decide +kernel
theorem dX5_matched_62 : decode cX5_matched 62 = .ok (.iconst 2, 1) := by decide +kernel
theorem dX5_matched_63 : decode cX5_matched 63 = .ok (.invokevirtual 148, 3) := by decide +kernel
theorem dX5_matched_66 : decode cX5_matched 66 = .ok (.ireturn, 1) := by decide +kernel
theorem dJ9_max_7cf53_0 : decode cJ9_max_7cf53 0 = .ok (.iload_n 0, 1) := by decide +kernel
theorem dJ9_max_7cf53_1 : decode cJ9_max_7cf53 1 = .ok (.iload_n 1, 1) := by decide +kernel
theorem dJ9_max_7cf53_2 : decode cJ9_max_7cf53 2 = .ok (.if_icmp .lt 7, 3) := by decide +kernel
theorem dJ9_max_7cf53_5 : decode cJ9_max_7cf53 5 = .ok (.iload_n 0, 1) := by decide +kernel
theorem dJ9_max_7cf53_6 : decode cJ9_max_7cf53 6 = .ok (.goto 4, 3) := by decide +kernel
theorem dJ9_max_7cf53_9 : decode cJ9_max_7cf53 9 = .ok (.iload_n 1, 1) := by decide +kernel
theorem dJ9_max_7cf53_10 : decode cJ9_max_7cf53 10 = .ok (.ireturn, 1) := by decide +kernel
theorem dJ9_min_7cf53_0 : decode cJ9_min_7cf53 0 = .ok (.iload_n 0, 1) := by decide +kernel
theorem dJ9_min_7cf53_1 : decode cJ9_min_7cf53 1 = .ok (.iload_n 1, 1) := by decide +kernel
theorem dJ9_min_7cf53_2 : decode cJ9_min_7cf53 2 = .ok (.if_icmp .gt 7, 3) := by decide +kernel
theorem dJ9_min_7cf53_5 : decode cJ9_min_7cf53 5 = .ok (.iload_n 0, 1) := by decide +kernel
theorem dJ9_min_7cf53_6 : decode cJ9_min_7cf53 6 = .ok (.goto 4, 3) := by decide +kernel
theorem dJ9_min_7cf53_9 : decode cJ9_min_7cf53 9 = .ok (.iload_n 1, 1) := by decide +kernel
theorem dJ9_min_7cf53_10 : decode cJ9_min_7cf53 10 = .ok (.ireturn, 1) := by decide +kernel
theorem dJ7_fill_53178_0 : decode cJ7_fill_53178 0 = .ok (.iconst 0, 1) := by decide +kernel
theorem dJ7_fill_53178_1 : decode cJ7_fill_53178 1 = .ok (.istore_n 2, 1) := by decide +kernel
theorem dJ7_fill_53178_2 : decode cJ7_fill_53178 2 = .ok (.aload_n 0, 1) := by decide +kernel
theorem dJ7_fill_53178_3 : decode cJ7_fill_53178 3 = .ok (.arraylength, 1) := by decide +kernel
theorem dJ7_fill_53178_4 : decode cJ7_fill_53178 4 = .ok (.istore_n 3, 1) := by decide +kernel
theorem dJ7_fill_53178_5 : decode cJ7_fill_53178 5 = .ok (.iload_n 2, 1) := by decide +kernel
theorem dJ7_fill_53178_6 : decode cJ7_fill_53178 6 = .ok (.iload_n 3, 1) := by decide +kernel
theorem dJ7_fill_53178_7 : decode cJ7_fill_53178 7 = .ok (.if_icmp .ge 13, 3) := by decide +kernel
theorem dJ7_fill_53178_10 : decode cJ7_fill_53178 10 = .ok (.aload_n 0, 1) := by decide +kernel
theorem dJ7_fill_53178_11 : decode cJ7_fill_53178 11 = .ok (.iload_n 2, 1) := by decide +kernel
theorem dJ7_fill_53178_12 : decode cJ7_fill_53178 12 = .ok (.iload_n 1, 1) := by decide +kernel
theorem dJ7_fill_53178_13 : decode cJ7_fill_53178 13 = .ok (.iastore, 1) := by decide +kernel
theorem dJ7_fill_53178_14 : decode cJ7_fill_53178 14 = .ok (.iinc 2 1, 3) := by decide +kernel
theorem dJ7_fill_53178_17 : decode cJ7_fill_53178 17 = .ok (.goto (-12), 3) := by decide +kernel
theorem dJ7_fill_53178_20 : decode cJ7_fill_53178 20 = .ok (.return_, 1) := by decide +kernel
abbrev vwCl : List vw_C := [(RX0, TX0, 7), (RX1, TX1, 8), (RX2, TX2, 14), (RX3, TX3, 6), (RX4, TX4, 7), (RX5, TX5, 30)]
