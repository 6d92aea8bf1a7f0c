theorem dX4_behindFitting_25 : decode cX4_behindFitting 25 = .ok (.aload_n 0, 1) := by decide +kernel
theorem dX4_behindFitting_26 : decode cX4_behindFitting 26 = .ok (.getfield 19, 3) := by decide +kernel
theorem dX4_behindFitting_29 : decode cX4_behindFitting 29 = .ok (.iload_n 2, 1) := by decide +kernel
theorem dX4_behindFitting_30 : decode cX4_behindFitting 30 = .ok (.invokevirtual 197, 3) := by decide +kernel
theorem dX4_behindFitting_33 : decode cX4_behindFitting 33 = .ok (.if_icmp .eq 5, 3) := by decide +kernel
theorem dX4_behindFitting_36 : decode cX4_behindFitting 36 = .ok (.iconst (-1), 1) := by decide +kernel
theorem dX4_behindFitting_37 : decode cX4_behindFitting 37 = .ok (.ireturn, 1) := by decide +kernel
theorem dX4_behindFitting_38 : decode cX4_behindFitting 38 = .ok (.aload_n 0, 1) := by decide +kernel
theorem dX4_behindFitting_39 : decode cX4_behindFitting 39 = .ok (.getfield 19, 3) := by decide +kernel
theorem dX4_behindFitting_42 : decode cX4_behindFitting 42 = .ok (.iload_n 1, 1) := by decide +kernel
theorem dX4_behindFitting_43 : decode cX4_behindFitting 43 = .ok (.invokevirtual 234, 3) := by decide +kernel
theorem dX4_behindFitting_46 : decode cX4_behindFitting 46 = .ok (.istore 4, 2) := by decide +kernel
theorem dX4_behindFitting_48 : decode cX4_behindFitting 48 = .ok (.aload_n 0, 1) := by decide +kernel
theorem dX4_behindFitting_49 : decode cX4_behindFitting 49 = .ok (.getfield 19, 3) := by decide +kernel
theorem dX4_behindFitting_52 : decode cX4_behindFitting 52 = .ok (.iload_n 2, 1) := by decide +kernel
theorem dX4_behindFitting_53 : decode cX4_behindFitting 53 = .ok (.invokevirtual 234, 3) := by decide +kernel
theorem dX4_behindFitting_56 : decode cX4_behindFitting 56 = .ok (.istore 5, 2) := by decide +kernel
theorem dX4_behindFitting_58 : decode cX4_behindFitting 58 = .ok (.iconst 1, 1) := by decide +kernel
theorem dX4_behindFitting_59 : decode cX4_behindFitting 59 = .ok (.istore 6, 2) := by decide +kernel
theorem dX4_behindFitting_61 : decode cX4_behindFitting 61 = .ok (.iload_n 3, 1) := by decide +kernel
theorem dX4_behindFitting_62 : decode cX4_behindFitting 62 = .ok (.bipush (-2), 2) := by decide +kernel
theorem dX4_behindFitting_64 : decode cX4_behindFitting 64 = .ok (.if_icmp .ne 33, 3) := by decide +kernel
theorem dX4_behindFitting_67 : decode cX4_behindFitting 67 = .ok (.aload_n 0, 1) := by decide +kernel
theorem dX4_behindFitting_68 : decode cX4_behindFitting 68 = .ok (.getfield 10, 3) := by decide +kernel
theorem dX4_behindFitting_71 : decode cX4_behindFitting 71 = .ok (.aload_n 0, 1) := by decide +kernel
theorem dX4_behindFitting_72 : decode cX4_behindFitting 72 = .ok (.getfield 10, 3) := by decide +kernel
theorem dX4_behindFitting_75 : decode cX4_behindFitting 75 = .ok (.iload 4, 2) := by decide +kernel
theorem dX4_behindFitting_77 : decode cX4_behindFitting 77 = .ok (.invokevirtual 127, 3) := by decide +kernel
theorem dX4_behindFitting_80 : decode cX4_behindFitting 80 = .ok (.aload_n 0, 1) := by decide +kernel
theorem dX4_behindFitting_81 : decode cX4_behindFitting 81 = .ok (.getfield 10, 3) := by decide +kernel
theorem dX4_behindFitting_84 : decode cX4_behindFitting 84 = .ok (.iload 5, 2) := by decide +kernel
theorem dX4_behindFitting_86 : decode cX4_behindFitting 86 = .ok (.invokevirtual 127, 3) := by decide +kernel
theorem dX4_behindFitting_89 : decode cX4_behindFitting 89 = .ok (.invokevirtual 112, 3) := by decide +kernel
theorem dX4_behindFitting_92 : decode cX4_behindFitting 92 = .ok (.istore 6, 2) := by decide +kernel
theorem dX4_behindFitting_94 : decode cX4_behindFitting 94 = .ok (.goto 24, 3) := by decide +kernel
theorem dX4_behindFitting_97 : decode cX4_behindFitting 97 = .ok (.iconst 2, 1) := by decide +kernel
theorem dX4_behindFitting_98 : decode cX4_behindFitting 98 = .ok (.iload_n 3, 1) := by decide +kernel
theorem dX4_behindFitting_99 : decode cX4_behindFitting 99 = .ok (.invokestatic 228, 3) := by decide +kernel
theorem dX4_behindFitting_102 : decode cX4_behindFitting 102 = .ok (.ifCond .eq 16, 3) := by decide +kernel
theorem dX4_behindFitting_105 : decode cX4_behindFitting 105 = .ok (.aload_n 0, 1) := by decide +kernel
theorem dX4_behindFitting_106 : decode cX4_behindFitting 106 = .ok (.getfield 10, 3) := by decide +kernel
theorem dX4_behindFitting_109 : decode cX4_behindFitting 109 = .ok (.iload 4, 2) := by decide +kernel
theorem dX4_behindFitting_111 : decode cX4_behindFitting 111 = .ok (.iload 5, 2) := by decide +kernel
theorem dX4_behindFitting_113 : decode cX4_behindFitting 113 = .ok (.invokevirtual 112, 3) := by decide +kernel
theorem dX4_behindFitting_116 : decode cX4_behindFitting 116 = .ok (.istore 6, 2) := by decide +kernel
theorem dX4_behindFitting_118 : decode cX4_behindFitting 118 = .ok (.iload 6, 2) := by decide +kernel
theorem dX4_behindFitting_120 : decode cX4_behindFitting 120 = .ok (.ifCond .eq 9, 3) := by decide +kernel
theorem dX4_behindFitting_123 : decode cX4_behindFitting 123 = .ok (.iload_n 2, 1) := by decide +kernel
theorem dX4_behindFitting_124 : decode cX4_behindFitting 124 = .ok (.iconst 1, 1) := by decide +kernel
theorem dX4_behindFitting_125 : decode cX4_behindFitting 125 = .ok (.iadd, 1) := by decide +kernel
theorem dX4_behindFitting_126 : decode cX4_behindFitting 126 = .ok (.goto 4, 3) := by decide +kernel
theorem dX4_behindFitting_129 : decode cX4_behindFitting 129 = .ok (.iconst (-1), 1) := by decide +kernel
theorem dX4_behindFitting_130 : decode cX4_behindFitting 130 = .ok (.ireturn, 1) := by decide +kernel
set_option maxRecDepth 20000 in
theorem ggX4_behindBinding_X1_endOfClosed : GoodIn wsX4_behindBinding wsX1_endOfClosed := goodIn_r _ [8, 9, 10, 11, 12, 13, 14, 15, 16, 17, 18, 19, 20, 21, 22, 7, 23, 24, 25, 26, 27, 28, 29, 30, 31, 32, 33, 34, 35, 36, 37, 38, 39, 40, 41, 42, 43, 44, 45, 46, 47, 48, 49, 50, 51, 52, 53, 54, 55, 56, 57, 58, 140, 141, 142, 143, 144, 145, 146, 147, 148, 149, 150, 151, 152, 153] (by decide +kernel) (by decide +kernel)
set_option maxRecDepth 20000 in
theorem gX4_behindBinding_X1_endOfClosed : GoodIn wsX4_behindBinding (wsV RX4 166 RX1 yX1_endOfClosed wsX1_endOfClosed) := goodIn_app (goodIn_of _ (by decide +kernel)) ggX4_behindBinding_X1_endOfClosed
set_option maxRecDepth 20000 in
theorem ggX4_behindBinding_X1_code : GoodIn wsX4_behindBinding wsX1_code := goodIn_r _ [31, 32, 25, 26, 27, 140, 141, 142, 143, 144, 145, 146, 147] (by decide +kernel) (by decide +kernel)
set_option maxRecDepth 20000 in
theorem gX4_behindBinding_X1_code : GoodIn wsX4_behindBinding (wsV RX4 197 RX1 yX1_code wsX1_code) := goodIn_app (goodIn_of _ (by decide +kernel)) ggX4_behindBinding_X1_code
set_option maxRecDepth 20000 in
theorem ggX4_behindBinding_X1_symbolType : GoodIn wsX4_behindBinding wsX1_symbolType := goodIn_r _ [63, 64, 25, 26, 27, 140, 141, 142, 143, 144, 145, 146, 147] (by decide +kernel) (by decide +kernel)
set_option maxRecDepth 20000 in
theorem gX4_behindBinding_X1_symbolType : GoodIn wsX4_behindBinding (wsV RX4 234 RX1 yX1_symbolType wsX1_symbolType) := goodIn_app (goodIn_of _ (by decide +kernel)) ggX4_behindBinding_X1_symbolType
set_option maxRecDepth 20000 in
theorem ggX4_behindBinding_X0_find : GoodIn wsX4_behindBinding wsX0_find := goodIn_r _ [69, 70, 71, 72, 73, 35, 26, 36, 25, 27, 154, 155, 156, 157, 158, 159, 160] (by decide +kernel) (by decide +kernel)
set_option maxRecDepth 20000 in
theorem gX4_behindBinding_X0_find : GoodIn wsX4_behindBinding (wsV RX4 237 RX0 yX0_find wsX0_find) := goodIn_app (goodIn_of _ (by decide +kernel)) ggX4_behindBinding_X0_find
set_option maxRecDepth 20000 in
theorem ggX4_behindBinding_X0_from : GoodIn wsX4_behindBinding wsX0_from := goodIn_r _ [77, 78, 25, 26, 27, 154, 155, 156, 157, 158, 159, 160] (by decide +kernel) (by decide +kernel)
set_option maxRecDepth 20000 in
theorem gX4_behindBinding_X0_from : GoodIn wsX4_behindBinding (wsV RX4 221 RX0 yX0_from wsX0_from) := goodIn_app (goodIn_of _ (by decide +kernel)) ggX4_behindBinding_X0_from
set_option maxRecDepth 20000 in
theorem ggX4_behindBinding_X0_end : GoodIn wsX4_behindBinding wsX0_end := goodIn_r _ [82, 83, 25, 26, 27, 154, 155, 156, 157, 158, 159, 160] (by decide +kernel) (by decide +kernel)
set_option maxRecDepth 20000 in
theorem gX4_behindBinding_X0_end : GoodIn wsX4_behindBinding (wsV RX4 224 RX0 yX0_end wsX0_end) := goodIn_app (goodIn_of _ (by decide +kernel)) ggX4_behindBinding_X0_end
set_option maxRecDepth 20000 in
theorem ggX4_behindBinding_X1_alike : GoodIn wsX4_behindBinding wsX1_alike := goodIn_r _ [87, 28, 29, 30, 7, 31, 32, 25, 26, 27, 88, 61, 62, 63, 64, 140, 141, 142, 143, 144, 145, 146, 147] (by decide +kernel) (by decide +kernel)
set_option maxRecDepth 20000 in
theorem gX4_behindBinding_X1_alike : GoodIn wsX4_behindBinding (wsV RX4 205 RX1 yX1_alike wsX1_alike) := goodIn_app (goodIn_of _ (by decide +kernel)) ggX4_behindBinding_X1_alike
set_option maxRecDepth 20000 in
theorem ggX4_behindBinding_X2_fits : GoodIn wsX4_behindBinding wsX2_fits := goodIn_r _ [93, 94, 95, 96, 92, 97, 98, 99, 100, 101, 102, 103, 104, 25, 26, 27, 105, 106, 107, 108, 109, 110, 111, 112, 113, 114, 115, 116, 117, 118, 119, 120, 121, 122, 123, 161, 162, 163, 164, 165, 166, 167, 168, 169, 170, 171, 172, 173, 174] (by decide +kernel) (by decide +kernel)
set_option maxRecDepth 20000 in
theorem gX4_behindBinding_X2_fits : GoodIn wsX4_behindBinding (wsV RX4 112 RX2 yX2_fits wsX2_fits) := goodIn_app (goodIn_of _ (by decide +kernel)) ggX4_behindBinding_X2_fits
set_option maxRecDepth 20000 in
theorem ggX4_behindBinding_X0_add : GoodIn wsX4_behindBinding wsX0_add := goodIn_r _ [127, 71, 128, 72, 78, 83, 73, 70, 35, 26, 36, 25, 27, 129, 130, 131, 68, 132, 154, 155, 156, 157, 158, 159, 160] (by decide +kernel) (by decide +kernel)
set_option maxRecDepth 20000 in
theorem gX4_behindBinding_X0_add : GoodIn wsX4_behindBinding (wsV RX4 239 RX0 yX0_add wsX0_add) := goodIn_app (goodIn_of _ (by decide +kernel)) ggX4_behindBinding_X0_add
theorem dX4_behindBinding_0 : decode cX4_behindBinding 0 = .ok (.aload_n 0, 1) := by decide +kernel
theorem dX4_behindBinding_1 : decode cX4_behindBinding 1 = .ok (.getfield 19, 3) := by decide +kernel
theorem dX4_behindBinding_4 : decode cX4_behindBinding 4 = .ok (.iload_n 2, 1) := by decide +kernel
theorem dX4_behindBinding_5 : decode cX4_behindBinding 5 = .ok (.invokevirtual 166, 3) := by decide +kernel
theorem dX4_behindBinding_8 : decode cX4_behindBinding 8 = .ok (.istore_n 3, 1) := by decide +kernel
theorem dX4_behindBinding_9 : decode cX4_behindBinding 9 = .ok (.iload_n 3, 1) := by decide +kernel
theorem dX4_behindBinding_10 : decode cX4_behindBinding 10 = .ok (.iconst (-1), 1) := by decide +kernel
theorem dX4_behindBinding_11 : decode cX4_behindBinding 11 = .ok (.if_icmp .ne 5, 3) := by decide +kernel
theorem dX4_behindBinding_14 : decode cX4_behindBinding 14 = .ok (.iconst (-1), 1) := by decide +kernel
theorem dX4_behindBinding_15 : decode cX4_behindBinding 15 = .ok (.ireturn, 1) := by decide +kernel
theorem dX4_behindBinding_16 : decode cX4_behindBinding 16 = .ok (.aload_n 0, 1) := by decide +kernel
theorem dX4_behindBinding_17 : decode cX4_behindBinding 17 = .ok (.getfield 19, 3) := by decide +kernel
theorem dX4_behindBinding_20 : decode cX4_behindBinding 20 = .ok (.iload_n 1, 1) := by decide +kernel
theorem dX4_behindBinding_21 : decode cX4_behindBinding 21 = .ok (.invokevirtual 197, 3) := by decide +kernel
theorem dX4_behindBinding_24 : decode cX4_behindBinding 24 = .ok (.istore 4, 2) := by decide +kernel
theorem dX4_behindBinding_26 : decode cX4_behindBinding 26 = .ok (.aload_n 0, 1) := by decide +kernel
theorem dX4_behindBinding_27 : decode cX4_behindBinding 27 = .ok (.getfield 19, 3) := by decide +kernel
theorem dX4_behindBinding_30 : decode cX4_behindBinding 30 = .ok (.iload_n 1, 1) := by decide +kernel
theorem dX4_behindBinding_31 : decode cX4_behindBinding 31 = .ok (.invokevirtual 234, 3) := by decide +kernel
theorem dX4_behindBinding_34 : decode cX4_behindBinding 34 = .ok (.istore 5, 2) := by decide +kernel
theorem dX4_behindBinding_36 : decode cX4_behindBinding 36 = .ok (.aload_n 0, 1) := by decide +kernel
theorem dX4_behindBinding_37 : decode cX4_behindBinding 37 = .ok (.getfield 26, 3) := by decide +kernel
theorem dX4_behindBinding_40 : decode cX4_behindBinding 40 = .ok (.iload 4, 2) := by decide +kernel
theorem dX4_behindBinding_42 : decode cX4_behindBinding 42 = .ok (.iload 5, 2) := by decide +kernel
theorem dX4_behindBinding_44 : decode cX4_behindBinding 44 = .ok (.invokevirtual 237, 3) := by decide +kernel
theorem dX4_behindBinding_47 : decode cX4_behindBinding 47 = .ok (.istore 6, 2) := by decide +kernel
theorem dX4_behindBinding_49 : decode cX4_behindBinding 49 = .ok (.iload 6, 2) := by decide +kernel
theorem dX4_behindBinding_51 : decode cX4_behindBinding 51 = .ok (.iconst (-1), 1) := by decide +kernel
theorem dX4_behindBinding_52 : decode cX4_behindBinding 52 = .ok (.if_icmp .eq 43, 3) := by decide +kernel
theorem dX4_behindBinding_55 : decode cX4_behindBinding 55 = .ok (.aload_n 0, 1) := by decide +kernel
theorem dX4_behindBinding_56 : decode cX4_behindBinding 56 = .ok (.getfield 19, 3) := by decide +kernel
theorem dX4_behindBinding_59 : decode cX4_behindBinding 59 = .ok (.aload_n 0, 1) := by decide +kernel
theorem dX4_behindBinding_60 : decode cX4_behindBinding 60 = .ok (.getfield 26, 3) := by decide +kernel
theorem dX4_behindBinding_63 : decode cX4_behindBinding 63 = .ok (.iload 6, 2) := by decide +kernel
theorem dX4_behindBinding_65 : decode cX4_behindBinding 65 = .ok (.invokevirtual 221, 3) := by decide +kernel
theorem dX4_behindBinding_68 : decode cX4_behindBinding 68 = .ok (.aload_n 0, 1) := by decide +kernel
theorem dX4_behindBinding_69 : decode cX4_behindBinding 69 = .ok (.getfield 26, 3) := by decide +kernel
theorem dX4_behindBinding_72 : decode cX4_behindBinding 72 = .ok (.iload 6, 2) := by decide +kernel
theorem dX4_behindBinding_74 : decode cX4_behindBinding 74 = .ok (.invokevirtual 224, 3) := by decide +kernel
theorem dX4_behindBinding_77 : decode cX4_behindBinding 77 = .ok (.iload_n 2, 1) := by decide +kernel
theorem dX4_behindBinding_78 : decode cX4_behindBinding 78 = .ok (.iload_n 3, 1) := by decide +kernel
theorem dX4_behindBinding_79 : decode cX4_behindBinding 79 = .ok (.invokevirtual 205, 3) := by decide +kernel
theorem dX4_behindBinding_82 : decode cX4_behindBinding 82 = .ok (.istore 7, 2) := by decide +kernel
theorem dX4_behindBinding_84 : decode cX4_behindBinding 84 = .ok (.iload 7, 2) := by decide +kernel
theorem dX4_behindBinding_86 : decode cX4_behindBinding 86 = .ok (.ifCond .eq 7, 3) := by decide +kernel
theorem dX4_behindBinding_89 : decode cX4_behindBinding 89 = .ok (.iload_n 3, 1) := by decide +kernel
theorem dX4_behindBinding_90 : decode cX4_behindBinding 90 = .ok (.goto 4, 3) := by decide +kernel
theorem dX4_behindBinding_93 : decode cX4_behindBinding 93 = .ok (.iconst (-1), 1) := by decide +kernel
theorem dX4_behindBinding_94 : decode cX4_behindBinding 94 = .ok (.ireturn, 1) := by decide +kernel
theorem dX4_behindBinding_95 : decode cX4_behindBinding 95 = .ok (.aload_n 0, 1) := by decide +kernel
theorem dX4_behindBinding_96 : decode cX4_behindBinding 96 = .ok (.getfield 10, 3) := by decide +kernel
theorem dX4_behindBinding_99 : decode cX4_behindBinding 99 = .ok (.iload 5, 2) := by decide +kernel
theorem dX4_behindBinding_101 : decode cX4_behindBinding 101 = .ok (.aload_n 0, 1) := by decide +kernel
theorem dX4_behindBinding_102 : decode cX4_behindBinding 102 = .ok (.getfield 19, 3) := by decide +kernel
theorem dX4_behindBinding_105 : decode cX4_behindBinding 105 = .ok (.iload_n 2, 1) := by decide +kernel
theorem dX4_behindBinding_106 : decode cX4_behindBinding 106 = .ok (.invokevirtual 234, 3) := by decide +kernel
theorem dX4_behindBinding_109 : decode cX4_behindBinding 109 = .ok (.invokevirtual 112, 3) := by decide +kernel
theorem dX4_behindBinding_112 : decode cX4_behindBinding 112 = .ok (.ifCond .ne 5, 3) := by decide +kernel
theorem dX4_behindBinding_115 : decode cX4_behindBinding 115 = .ok (.iconst (-1), 1) := by decide +kernel
theorem dX4_behindBinding_116 : decode cX4_behindBinding 116 = .ok (.ireturn, 1) := by decide +kernel
theorem dX4_behindBinding_117 : decode cX4_behindBinding 117 = .ok (.aload_n 0, 1) := by decide +kernel
theorem dX4_behindBinding_118 : decode cX4_behindBinding 118 = .ok (.getfield 26, 3) := by decide +kernel
theorem dX4_behindBinding_121 : decode cX4_behindBinding 121 = .ok (.iload 4, 2) := by decide +kernel
theorem dX4_behindBinding_123 : decode cX4_behindBinding 123 = .ok (.iload 5, 2) := by decide +kernel
theorem dX4_behindBinding_125 : decode cX4_behindBinding 125 = .ok (.iload_n 2, 1) := by decide +kernel
theorem dX4_behindBinding_126 : decode cX4_behindBinding 126 = .ok (.iload_n 3, 1) := by decide +kernel
theorem dX4_behindBinding_127 : decode cX4_behindBinding 127 = .ok (.invokevirtual 239, 3) := by decide +kernel
theorem dX4_behindBinding_130 : decode cX4_behindBinding 130 = .ok (.iload_n 3, 1) := by decide +kernel
theorem dX4_behindBinding_131 : decode cX4_behindBinding 131 = .ok (.ireturn, 1) := by decide +kernel
set_option maxRecDepth 20000 in
theorem ggX4_settled_X2_forgetFrom : GoodIn wsX4_settled wsX2_forgetFrom := goodIn_r _ [8, 9, 10, 11, 12, 13, 14, 15, 16, 17, 18, 19, 20, 7, 21, 29, 30, 31, 32, 33, 34, 35, 36, 37, 38, 39, 40, 41, 42] (by decide +kernel) (by decide +kernel)
set_option maxRecDepth 20000 in
theorem gX4_settled_X2_forgetFrom : GoodIn wsX4_settled (wsV RX4 242 RX2 yX2_forgetFrom wsX2_forgetFrom) := goodIn_app (goodIn_of _ (by decide +kernel)) ggX4_settled_X2_forgetFrom
theorem dX4_settled_0 : decode cX4_settled 0 = .ok (.iload_n 1, 1) := by decide +kernel
theorem dX4_settled_1 : decode cX4_settled 1 = .ok (.iconst (-1), 1) := by decide +kernel
theorem dX4_settled_2 : decode cX4_settled 2 = .ok (.if_icmp .ne 21, 3) := by decide +kernel
theorem dX4_settled_5 : decode cX4_settled 5 = .ok (.aload_n 0, 1) := by decide +kernel
theorem dX4_settled_6 : decode cX4_settled 6 = .ok (.getfield 10, 3) := by decide +kernel
theorem dX4_settled_9 : decode cX4_settled 9 = .ok (.iload_n 2, 1) := by decide +kernel
theorem dX4_settled_10 : decode cX4_settled 10 = .ok (.invokevirtual 242, 3) := by decide +kernel
theorem dX4_settled_13 : decode cX4_settled 13 = .ok (.new 51, 3) := by decide +kernel
theorem dX4_settled_16 : decode cX4_settled 16 = .ok (.dup, 1) := by decide +kernel
theorem dX4_settled_17 : decode cX4_settled 17 = .ok (.ldc 245, 2) := by decide +kernel
theorem dX4_settled_19 : decode cX4_settled 19 = .ok (.invokespecial 55, 3) := by decide +kernel
theorem dX4_settled_22 : decode cX4_settled 22 = .ok (.athrow, 1) := by decide +kernel
theorem dX4_settled_23 : decode cX4_settled 23 = .ok (.iload_n 1, 1) := by decide +kernel
theorem dX4_settled_24 : decode cX4_settled 24 = .ok (.ireturn, 1) := by decide +kernel
set_option maxRecDepth 20000 in
theorem ggX4_typeBehind_X2_behind : GoodIn wsX4_typeBehind wsX2_behind := goodIn_r _ [8, 9, 10, 11, 12, 13, 21, 22, 23, 24, 25, 26, 27, 28, 29, 30, 31, 32, 33, 34] (by decide +kernel) (by decide +kernel)
set_option maxRecDepth 20000 in
theorem gX4_typeBehind_X2_behind : GoodIn wsX4_typeBehind (wsV RX4 247 RX2 yX2_behind wsX2_behind) := goodIn_app (goodIn_of _ (by decide +kernel)) ggX4_typeBehind_X2_behind
theorem dX4_typeBehind_0 : decode cX4_typeBehind 0 = .ok (.aload_n 0, 1) := by decide +kernel
theorem dX4_typeBehind_1 : decode cX4_typeBehind 1 = .ok (.getfield 10, 3) := by decide +kernel
theorem dX4_typeBehind_4 : decode cX4_typeBehind 4 = .ok (.iload_n 1, 1) := by decide +kernel
theorem dX4_typeBehind_5 : decode cX4_typeBehind 5 = .ok (.invokevirtual 247, 3) := by decide +kernel
theorem dX4_typeBehind_8 : decode cX4_typeBehind 8 = .ok (.istore_n 2, 1) := by decide +kernel
theorem dX4_typeBehind_9 : decode cX4_typeBehind 9 = .ok (.iload_n 2, 1) := by decide +kernel
theorem dX4_typeBehind_10 : decode cX4_typeBehind 10 = .ok (.iconst (-1), 1) := by decide +kernel
theorem dX4_typeBehind_11 : decode cX4_typeBehind 11 = .ok (.if_icmp .ne 13, 3) := by decide +kernel
theorem dX4_typeBehind_14 : decode cX4_typeBehind 14 = .ok (.new 91, 3) := by decide +kernel
theorem dX4_typeBehind_17 : decode cX4_typeBehind 17 = .ok (.dup, 1) := by decide +kernel
theorem dX4_typeBehind_18 : decode cX4_typeBehind 18 = .ok (.ldc 250, 2) := by decide +kernel
theorem dX4_typeBehind_20 : decode cX4_typeBehind 20 = .ok (.invokespecial 95, 3) := by decide +kernel
theorem dX4_typeBehind_23 : decode cX4_typeBehind 23 = .ok (.athrow, 1) := by decide +kernel
theorem dX4_typeBehind_24 : decode cX4_typeBehind 24 = .ok (.iload_n 2, 1) := by decide +kernel
theorem dX4_typeBehind_25 : decode cX4_typeBehind 25 = .ok (.ireturn, 1) := by decide +kernel
set_option maxRecDepth 20000 in
theorem ggX4_requireTerm_X1_has : GoodIn wsX4_requireTerm wsX1_has := goodIn_r _ [8, 9, 17, 18, 19, 20, 21, 22, 23, 24] (by decide +kernel) (by decide +kernel)
set_option maxRecDepth 20000 in
theorem gX4_requireTerm_X1_has : GoodIn wsX4_requireTerm (wsV RX4 252 RX1 yX1_has wsX1_has) := goodIn_app (goodIn_of _ (by decide +kernel)) ggX4_requireTerm_X1_has
theorem dX4_requireTerm_0 : decode cX4_requireTerm 0 = .ok (.aload_n 0, 1) := by decide +kernel
theorem dX4_requireTerm_1 : decode cX4_requireTerm 1 = .ok (.getfield 19, 3) := by decide +kernel
theorem dX4_requireTerm_4 : decode cX4_requireTerm 4 = .ok (.iload_n 1, 1) := by decide +kernel
theorem dX4_requireTerm_5 : decode cX4_requireTerm 5 = .ok (.invokevirtual 252, 3) := by decide +kernel
theorem dX4_requireTerm_8 : decode cX4_requireTerm 8 = .ok (.ifCond .ne 14, 3) := by decide +kernel
theorem dX4_requireTerm_11 : decode cX4_requireTerm 11 = .ok (.new 91, 3) := by decide +kernel
theorem dX4_requireTerm_14 : decode cX4_requireTerm 14 = .ok (.dup, 1) := by decide +kernel
theorem dX4_requireTerm_15 : decode cX4_requireTerm 15 = .ok (.ldc_w 256, 3) := by decide +kernel
theorem dX4_requireTerm_18 : decode cX4_requireTerm 18 = .ok (.invokespecial 95, 3) := by decide +kernel
theorem dX4_requireTerm_21 : decode cX4_requireTerm 21 = .ok (.athrow, 1) := by decide +kernel
theorem dX4_requireTerm_22 : decode cX4_requireTerm 22 = .ok (.return_, 1) := by decide +kernel
set_option maxRecDepth 20000 in
theorem ggX4_requireFree_X1_root : GoodIn wsX4_requireFree wsX1_root := goodIn_r _ [8, 9, 10, 11, 7, 12, 13, 14, 15, 16, 17, 18, 19, 20, 21, 32, 33, 34, 35, 36, 37, 38, 39] (by decide +kernel) (by decide +kernel)
set_option maxRecDepth 20000 in
theorem gX4_requireFree_X1_root : GoodIn wsX4_requireFree (wsV RX4 159 RX1 yX1_root wsX1_root) := goodIn_app (goodIn_of _ (by decide +kernel)) ggX4_requireFree_X1_root
set_option maxRecDepth 20000 in
theorem ggX4_requireFree_X4_isOf : GoodIn wsX4_requireFree wsX4_isOf := goodIn_r _ [24] (by decide +kernel) (by decide +kernel)
set_option maxRecDepth 20000 in
theorem gX4_requireFree_X4_isOf : GoodIn wsX4_requireFree (va_wsS RX4 228 yX4_isOf wsX4_isOf) := goodIn_app (goodIn_of _ (by decide +kernel)) ggX4_requireFree_X4_isOf
theorem dX4_requireFree_0 : decode cX4_requireFree 0 = .ok (.iconst 1, 1) := by decide +kernel
theorem dX4_requireFree_1 : decode cX4_requireFree 1 = .ok (.aload_n 0, 1) := by decide +kernel
theorem dX4_requireFree_2 : decode cX4_requireFree 2 = .ok (.getfield 19, 3) := by decide +kernel
theorem dX4_requireFree_5 : decode cX4_requireFree 5 = .ok (.iload_n 1, 1) := by decide +kernel
theorem dX4_requireFree_6 : decode cX4_requireFree 6 = .ok (.invokevirtual 159, 3) := by decide +kernel
theorem dX4_requireFree_9 : decode cX4_requireFree 9 = .ok (.invokestatic 228, 3) := by decide +kernel
theorem dX4_requireFree_12 : decode cX4_requireFree 12 = .ok (.ifCond .ne 14, 3) := by decide +kernel
theorem dX4_requireFree_15 : decode cX4_requireFree 15 = .ok (.new 44, 3) := by decide +kernel
theorem dX4_requireFree_18 : decode cX4_requireFree 18 = .ok (.dup, 1) := by decide +kernel
theorem dX4_requireFree_19 : decode cX4_requireFree 19 = .ok (.ldc_w 258, 3) := by decide +kernel
theorem dX4_requireFree_22 : decode cX4_requireFree 22 = .ok (.invokespecial 48, 3) := by decide +kernel
theorem dX4_requireFree_25 : decode cX4_requireFree 25 = .ok (.athrow, 1) := by decide +kernel
theorem dX4_requireFree_26 : decode cX4_requireFree 26 = .ok (.return_, 1) := by decide +kernel
theorem dX4_requireNumber_0 : decode cX4_requireNumber 0 = .ok (.iload_n 0, 1) := by decide +kernel
theorem dX4_requireNumber_1 : decode cX4_requireNumber 1 = .ok (.ifCond .lt 10, 3) := by decide +kernel
theorem dX4_requireNumber_4 : decode cX4_requireNumber 4 = .ok (.iload_n 0, 1) := by decide +kernel
theorem dX4_requireNumber_5 : decode cX4_requireNumber 5 = .ok (.sipush 1000, 3) := by decide +kernel
theorem dX4_requireNumber_8 : decode cX4_requireNumber 8 = .ok (.if_icmp .lt 14, 3) := by decide +kernel
theorem dX4_requireNumber_11 : decode cX4_requireNumber 11 = .ok (.new 44, 3) := by decide +kernel
theorem dX4_requireNumber_14 : decode cX4_requireNumber 14 = .ok (.dup, 1) := by decide +kernel
theorem dX4_requireNumber_15 : decode cX4_requireNumber 15 = .ok (.ldc_w 260, 3) := by decide +kernel
theorem dX4_requireNumber_18 : decode cX4_requireNumber 18 = .ok (.invokespecial 48, 3) := by decide +kernel
theorem dX4_requireNumber_21 : decode cX4_requireNumber 21 = .ok (.athrow, 1) := by decide +kernel
theorem dX4_requireNumber_22 : decode cX4_requireNumber 22 = .ok (.return_, 1) := by decide +kernel
theorem dX4_headOfVariable_0 : decode cX4_headOfVariable 0 = .ok (.iconst (-1), 1) := by decide +kernel
theorem dX4_headOfVariable_1 : decode cX4_headOfVariable 1 = .ok (.iload_n 0, 1) := by decide +kernel
theorem dX4_headOfVariable_2 : decode cX4_headOfVariable 2 = .ok (.isub, 1) := by decide +kernel
theorem dX4_headOfVariable_3 : decode cX4_headOfVariable 3 = .ok (.ireturn, 1) := by decide +kernel
theorem dX4_codeOf_0 : decode cX4_codeOf 0 = .ok (.iconst 4, 1) := by decide +kernel
theorem dX4_codeOf_1 : decode cX4_codeOf 1 = .ok (.iload_n 1, 1) := by decide +kernel
theorem dX4_codeOf_2 : decode cX4_codeOf 2 = .ok (.imul, 1) := by decide +kernel
theorem dX4_codeOf_3 : decode cX4_codeOf 3 = .ok (.iload_n 0, 1) := by decide +kernel
theorem dX4_codeOf_4 : decode cX4_codeOf 4 = .ok (.iadd, 1) := by decide +kernel
theorem dX4_codeOf_5 : decode cX4_codeOf 5 = .ok (.ireturn, 1) := by decide +kernel
theorem dX4_numberOf_0 : decode cX4_numberOf 0 = .ok (.iload_n 0, 1) := by decide +kernel
theorem dX4_numberOf_1 : decode cX4_numberOf 1 = .ok (.iconst 2, 1) := by decide +kernel
theorem dX4_numberOf_2 : decode cX4_numberOf 2 = .ok (.ishr, 1) := by decide +kernel
theorem dX4_numberOf_3 : decode cX4_numberOf 3 = .ok (.ireturn, 1) := by decide +kernel
theorem dX4_isOf_0 : decode cX4_isOf 0 = .ok (.iload_n 1, 1) := by decide +kernel
theorem dX4_isOf_1 : decode cX4_isOf 1 = .ok (.ifCond .lt 14, 3) := by decide +kernel
theorem dX4_isOf_4 : decode cX4_isOf 4 = .ok (.iload_n 1, 1) := by decide +kernel
theorem dX4_isOf_5 : decode cX4_isOf 5 = .ok (.iconst 3, 1) := by decide +kernel
theorem dX4_isOf_6 : decode cX4_isOf 6 = .ok (.iand, 1) := by decide +kernel
theorem dX4_isOf_7 : decode cX4_isOf 7 = .ok (.iload_n 0, 1) := by decide +kernel
theorem dX4_isOf_8 : decode cX4_isOf 8 = .ok (.if_icmp .ne 7, 3) := by decide +kernel
theorem dX4_isOf_11 : decode cX4_isOf 11 = .ok (.iconst 1, 1) := by decide +kernel
theorem dX4_isOf_12 : decode cX4_isOf 12 = .ok (.goto 4, 3) := by decide +kernel
theorem dX4_isOf_15 : decode cX4_isOf 15 = .ok (.iconst 0, 1) := by decide +kernel
theorem dX4_isOf_16 : decode cX4_isOf 16 = .ok (.ireturn, 1) := by decide +kernel
theorem dX4_read_0 : decode cX4_read 0 = .ok (.iload_n 1, 1) := by decide +kernel
theorem dX4_read_1 : decode cX4_read 1 = .ok (.ifCond .lt 15, 3) := by decide +kernel
theorem dX4_read_4 : decode cX4_read 4 = .ok (.iload_n 1, 1) := by decide +kernel
theorem dX4_read_5 : decode cX4_read 5 = .ok (.aload_n 0, 1) := by decide +kernel
theorem dX4_read_6 : decode cX4_read 6 = .ok (.arraylength, 1) := by decide +kernel
theorem dX4_read_7 : decode cX4_read 7 = .ok (.if_icmp .ge 9, 3) := by decide +kernel
theorem dX4_read_10 : decode cX4_read 10 = .ok (.aload_n 0, 1) := by decide +kernel
theorem dX4_read_11 : decode cX4_read 11 = .ok (.iload_n 1, 1) := by decide +kernel
theorem dX4_read_12 : decode cX4_read 12 = .ok (.iaload, 1) := by decide +kernel
theorem dX4_read_13 : decode cX4_read 13 = .ok (.goto 4, 3) := by decide +kernel
theorem dX4_read_16 : decode cX4_read 16 = .ok (.iconst (-1), 1) := by decide +kernel
theorem dX4_read_17 : decode cX4_read 17 = .ok (.ireturn, 1) := by decide +kernel
theorem dX5_init_0 : decode cX5_init 0 = .ok (.aload_n 0, 1) := by decide +kernel
theorem dX5_init_1 : decode cX5_init 1 = .ok (.invokespecial 1, 3) := by decide +kernel
theorem dX5_init_4 : decode cX5_init 4 = .ok (.aload_n 0, 1) := by decide +kernel
theorem dX5_init_5 : decode cX5_init 5 = .ok (.iconst 3, 1) := by decide +kernel
theorem dX5_init_6 : decode cX5_init 6 = .ok (.putfield 7, 3) := by decide +kernel
theorem dX5_init_9 : decode cX5_init 9 = .ok (.aload_n 0, 1) := by decide +kernel
theorem dX5_init_10 : decode cX5_init 10 = .ok (.bipush 40, 2) := by decide +kernel
theorem dX5_init_12 : decode cX5_init 12 = .ok (.newarray .int, 2) := by decide +kernel
theorem dX5_init_14 : decode cX5_init 14 = .ok (.putfield 13, 3) := by decide +kernel
theorem dX5_init_17 : decode cX5_init 17 = .ok (.aload_n 0, 1) := by decide +kernel
theorem dX5_init_18 : decode cX5_init 18 = .ok (.sipush 200, 3) := by decide +kernel
theorem dX5_init_21 : decode cX5_init 21 = .ok (.newarray .int, 2) := by decide +kernel
theorem dX5_init_23 : decode cX5_init 23 = .ok (.putfield 17, 3) := by decide +kernel
theorem dX5_init_26 : decode cX5_init 26 = .ok (.aload_n 0, 1) := by decide +kernel
theorem dX5_init_27 : decode cX5_init 27 = .ok (.sipush 16000, 3) := by decide +kernel
theorem dX5_init_30 : decode cX5_init 30 = .ok (.newarray .int, 2) := by decide +kernel
theorem dX5_init_32 : decode cX5_init 32 = .ok (.putfield 20, 3) := by decide +kernel
theorem dX5_init_35 : decode cX5_init 35 = .ok (.aload_n 0, 1) := by decide +kernel
theorem dX5_init_36 : decode cX5_init 36 = .ok (.sipush 16000, 3) := by decide +kernel
theorem dX5_init_39 : decode cX5_init 39 = .ok (.newarray .int, 2) := by decide +kernel
theorem dX5_init_41 : decode cX5_init 41 = .ok (.putfield 23, 3) := by decide +kernel
theorem dX5_init_44 : decode cX5_init 44 = .ok (.aload_n 0, 1) := by decide +kernel
theorem dX5_init_45 : decode cX5_init 45 = .ok (.sipush 16000, 3) := by decide +kernel
theorem dX5_init_48 : decode cX5_init 48 = .ok (.newarray .int, 2) := by decide +kernel
theorem dX5_init_50 : decode cX5_init 50 = .ok (.putfield 26, 3) := by decide +kernel
theorem dX5_init_53 : decode cX5_init 53 = .ok (.aload_n 0, 1) := by decide +kernel
theorem dX5_init_54 : decode cX5_init 54 = .ok (.sipush 16000, 3) := by decide +kernel
theorem dX5_init_57 : decode cX5_init 57 = .ok (.newarray .int, 2) := by decide +kernel
theorem dX5_init_59 : decode cX5_init 59 = .ok (.putfield 29, 3) := by decide +kernel
theorem dX5_init_62 : decode cX5_init 62 = .ok (.aload_n 0, 1) := by decide +kernel
theorem dX5_init_63 : decode cX5_init 63 = .ok (.sipush 16000, 3) := by decide +kernel
theorem dX5_init_66 : decode cX5_init 66 = .ok (.newarray .int, 2) := by decide +kernel
theorem dX5_init_68 : decode cX5_init 68 = .ok (.putfield 32, 3) := by decide +kernel
theorem dX5_init_71 : decode cX5_init 71 = .ok (.aload_n 0, 1) := by decide +kernel
theorem dX5_init_72 : decode cX5_init 72 = .ok (.sipush 16000, 3) := by decide +kernel
theorem dX5_init_75 : decode cX5_init 75 = .ok (.newarray .int, 2) := by decide +kernel
theorem dX5_init_77 : decode cX5_init 77 = .ok (.putfield 35, 3) := by decide +kernel
theorem dX5_init_80 : decode cX5_init 80 = .ok (.aload_n 0, 1) := by decide +kernel
theorem dX5_init_81 : decode cX5_init 81 = .ok (.sipush 4096, 3) := by decide +kernel
theorem dX5_init_84 : decode cX5_init 84 = .ok (.newarray .int, 2) := by decide +kernel
theorem dX5_init_86 : decode cX5_init 86 = .ok (.putfield 38, 3) := by decide +kernel
theorem dX5_init_89 : decode cX5_init 89 = .ok (.aload_n 0, 1) := by decide +kernel
theorem dX5_init_90 : decode cX5_init 90 = .ok (.sipush 4200, 3) := by decide +kernel
theorem dX5_init_93 : decode cX5_init 93 = .ok (.newarray .int, 2) := by decide +kernel
theorem dX5_init_95 : decode cX5_init 95 = .ok (.putfield 41, 3) := by decide +kernel
theorem dX5_init_98 : decode cX5_init 98 = .ok (.aload_n 0, 1) := by decide +kernel
theorem dX5_init_99 : decode cX5_init 99 = .ok (.sipush 16000, 3) := by decide +kernel
theorem dX5_init_102 : decode cX5_init 102 = .ok (.newarray .int, 2) := by decide +kernel
theorem dX5_init_104 : decode cX5_init 104 = .ok (.putfield 44, 3) := by decide +kernel
theorem dX5_init_107 : decode cX5_init 107 = .ok (.aload_n 0, 1) := by decide +kernel
theorem dX5_init_108 : decode cX5_init 108 = .ok (.sipush 16000, 3) := by decide +kernel
theorem dX5_init_111 : decode cX5_init 111 = .ok (.newarray .boolean, 2) := by decide +kernel
theorem dX5_init_113 : decode cX5_init 113 = .ok (.putfield 47, 3) := by decide +kernel
theorem dX5_init_116 : decode cX5_init 116 = .ok (.aload_n 0, 1) := by decide +kernel
theorem dX5_init_117 : decode cX5_init 117 = .ok (.sipush 4201, 3) := by decide +kernel
theorem dX5_init_120 : decode cX5_init 120 = .ok (.newarray .int, 2) := by decide +kernel
theorem dX5_init_122 : decode cX5_init 122 = .ok (.putfield 51, 3) := by decide +kernel
theorem dX5_init_125 : decode cX5_init 125 = .ok (.aload_n 0, 1) := by decide +kernel
theorem dX5_init_126 : decode cX5_init 126 = .ok (.ldc 54, 2) := by decide +kernel
theorem dX5_init_128 : decode cX5_init 128 = .ok (.newarray .int, 2) := by decide +kernel
theorem dX5_init_130 : decode cX5_init 130 = .ok (.putfield 55, 3) := by decide +kernel
theorem dX5_init_133 : decode cX5_init 133 = .ok (.aload_n 0, 1) := by decide +kernel
theorem dX5_init_134 : decode cX5_init 134 = .ok (.ldc 54, 2) := by decide +kernel
theorem dX5_init_136 : decode cX5_init 136 = .ok (.newarray .int, 2) := by decide +kernel
theorem dX5_init_138 : decode cX5_init 138 = .ok (.putfield 58, 3) := by decide +kernel
theorem dX5_init_141 : decode cX5_init 141 = .ok (.aload_n 0, 1) := by decide +kernel
theorem dX5_init_142 : decode cX5_init 142 = .ok (.bipush 64, 2) := by decide +kernel
theorem dX5_init_144 : decode cX5_init 144 = .ok (.newarray .int, 2) := by decide +kernel
theorem dX5_init_146 : decode cX5_init 146 = .ok (.putfield 61, 3) := by decide +kernel
theorem dX5_init_149 : decode cX5_init 149 = .ok (.aload_n 0, 1) := by decide +kernel
theorem dX5_init_150 : decode cX5_init 150 = .ok (.bipush 64, 2) := by decide +kernel
theorem dX5_init_152 : decode cX5_init 152 = .ok (.newarray .int, 2) := by decide +kernel
theorem dX5_init_154 : decode cX5_init 154 = .ok (.putfield 64, 3) := by decide +kernel
theorem dX5_init_157 : decode cX5_init 157 = .ok (.aload_n 0, 1) := by decide +kernel
theorem dX5_init_158 : decode cX5_init 158 = .ok (.sipush 130, 3) := by decide +kernel
theorem dX5_init_161 : decode cX5_init 161 = .ok (.newarray .int, 2) := by decide +kernel
theorem dX5_init_163 : decode cX5_init 163 = .ok (.putfield 67, 3) := by decide +kernel
theorem dX5_init_166 : decode cX5_init 166 = .ok (.aload_n 0, 1) := by decide +kernel
theorem dX5_init_167 : decode cX5_init 167 = .ok (.sipush 1000, 3) := by decide +kernel
theorem dX5_init_170 : decode cX5_init 170 = .ok (.newarray .int, 2) := by decide +kernel
theorem dX5_init_172 : decode cX5_init 172 = .ok (.putfield 70, 3) := by decide +kernel
theorem dX5_init_175 : decode cX5_init 175 = .ok (.aload_n 0, 1) := by decide +kernel
theorem dX5_init_176 : decode cX5_init 176 = .ok (.iconst (-1), 1) := by decide +kernel
theorem dX5_init_177 : decode cX5_init 177 = .ok (.putfield 73, 3) := by decide +kernel
theorem dX5_init_180 : decode cX5_init 180 = .ok (.aload_n 0, 1) := by decide +kernel
theorem dX5_init_181 : decode cX5_init 181 = .ok (.sipush 4000, 3) := by decide +kernel
theorem dX5_init_184 : decode cX5_init 184 = .ok (.newarray .int, 2) := by decide +kernel
theorem dX5_init_186 : decode cX5_init 186 = .ok (.putfield 76, 3) := by decide +kernel
theorem dX5_init_189 : decode cX5_init 189 = .ok (.aload_n 0, 1) := by decide +kernel
theorem dX5_init_190 : decode cX5_init 190 = .ok (.sipush 4000, 3) := by decide +kernel
theorem dX5_init_193 : decode cX5_init 193 = .ok (.newarray .int, 2) := by decide +kernel
theorem dX5_init_195 : decode cX5_init 195 = .ok (.putfield 79, 3) := by decide +kernel
theorem dX5_init_198 : decode cX5_init 198 = .ok (.aload_n 0, 1) := by decide +kernel
theorem dX5_init_199 : decode cX5_init 199 = .ok (.sipush 4000, 3) := by decide +kernel
theorem dX5_init_202 : decode cX5_init 202 = .ok (.newarray .int, 2) := by decide +kernel
theorem dX5_init_204 : decode cX5_init 204 = .ok (.putfield 82, 3) := by decide +kernel
theorem dX5_init_207 : decode cX5_init 207 = .ok (.iconst 0, 1) := by decide +kernel
theorem dX5_init_208 : decode cX5_init 208 = .ok (.istore_n 1, 1) := by decide +kernel
theorem dX5_init_209 : decode cX5_init 209 = .ok (.iload_n 1, 1) := by decide +kernel
theorem dX5_init_210 : decode cX5_init 210 = .ok (.sipush 4096, 3) := by decide +kernel
theorem dX5_init_213 : decode cX5_init 213 = .ok (.if_icmp .ge 16, 3) := by decide +kernel
theorem dX5_init_216 : decode cX5_init 216 = .ok (.aload_n 0, 1) := by decide +kernel
theorem dX5_init_217 : decode cX5_init 217 = .ok (.getfield 38, 3) := by decide +kernel
theorem dX5_init_220 : decode cX5_init 220 = .ok (.iload_n 1, 1) := by decide +kernel
theorem dX5_init_221 : decode cX5_init 221 = .ok (.iconst (-1), 1) := by decide +kernel
theorem dX5_init_222 : decode cX5_init 222 = .ok (.iastore, 1) := by decide +kernel
theorem dX5_init_223 : decode cX5_init 223 = .ok (.iinc 1 1, 3) := by decide +kernel
theorem dX5_init_226 : decode cX5_init 226 = .ok (.goto (-17), 3) := by decide +kernel
theorem dX5_init_229 : decode cX5_init 229 = .ok (.aload_n 0, 1) := by decide +kernel
theorem dX5_init_230 : decode cX5_init 230 = .ok (.getfield 13, 3) := by decide +kernel
theorem dX5_init_233 : decode cX5_init 233 = .ok (.iconst 2, 1) := by decide +kernel
theorem dX5_init_234 : decode cX5_init 234 = .ok (.iconst 2, 1) := by decide +kernel
theorem dX5_init_235 : decode cX5_init 235 = .ok (.iastore, 1) := by decide +kernel
theorem dX5_init_236 : decode cX5_init 236 = .ok (.return_, 1) := by decide +kernel
theorem dX5_thrown_0 : decode cX5_thrown 0 = .ok (.aload_n 0, 1) := by decide +kernel
theorem dX5_thrown_1 : decode cX5_thrown 1 = .ok (.getfield 85, 3) := by decide +kernel
theorem dX5_thrown_4 : decode cX5_thrown 4 = .ok (.ireturn, 1) := by decide +kernel
theorem dX5_fail_0 : decode cX5_fail 0 = .ok (.aload_n 0, 1) := by decide +kernel
theorem dX5_fail_1 : decode cX5_fail 1 = .ok (.iload_n 1, 1) := by decide +kernel
theorem dX5_fail_2 : decode cX5_fail 2 = .ok (.putfield 85, 3) := by decide +kernel
theorem dX5_fail_5 : decode cX5_fail 5 = .ok (.iconst 0, 1) := by decide +kernel
theorem dX5_fail_6 : decode cX5_fail 6 = .ok (.ireturn, 1) := by decide +kernel
theorem dX5_outside_0 : decode cX5_outside 0 = .ok (.iload_n 0, 1) := by decide +kernel
theorem dX5_outside_1 : decode cX5_outside 1 = .ok (.ifCond .lt 8, 3) := by decide +kernel
theorem dX5_outside_4 : decode cX5_outside 4 = .ok (.iload_n 0, 1) := by decide +kernel
theorem dX5_outside_5 : decode cX5_outside 5 = .ok (.iload_n 1, 1) := by decide +kernel
theorem dX5_outside_6 : decode cX5_outside 6 = .ok (.if_icmp .lt 7, 3) := by decide +kernel
theorem dX5_outside_9 : decode cX5_outside 9 = .ok (.iconst 1, 1) := by decide +kernel
theorem dX5_outside_10 : decode cX5_outside 10 = .ok (.goto 4, 3) := by decide +kernel
theorem dX5_outside_13 : decode cX5_outside 13 = .ok (.iconst 0, 1) := by decide +kernel
theorem dX5_outside_14 : decode cX5_outside 14 = .ok (.ireturn, 1) := by decide +kernel
set_option maxRecDepth 20000 in
theorem ggX5_constructor_X5_outside : GoodIn wsX5_constructor wsX5_outside := goodIn_r _ [7] (by decide +kernel) (by decide +kernel)
set_option maxRecDepth 20000 in
theorem gX5_constructor_X5_outside : GoodIn wsX5_constructor (va_wsS RX5 88 yX5_outside wsX5_outside) := goodIn_app (goodIn_of _ (by decide +kernel)) ggX5_constructor_X5_outside
theorem dX5_constructor_0 : decode cX5_constructor 0 = .ok (.aload_n 0, 1) := by decide +kernel
theorem dX5_constructor_1 : decode cX5_constructor 1 = .ok (.iload_n 1, 1) := by decide +kernel
theorem dX5_constructor_2 : decode cX5_constructor 2 = .ok (.iconst 3, 1) := by decide +kernel
theorem dX5_constructor_3 : decode cX5_constructor 3 = .ok (.invokestatic 88, 3) := by decide +kernel
theorem dX5_constructor_6 : decode cX5_constructor 6 = .ok (.ifCond .eq 7, 3) := by decide +kernel
theorem dX5_constructor_9 : decode cX5_constructor 9 = .ok (.iconst 1, 1) := by decide +kernel
theorem dX5_constructor_10 : decode cX5_constructor 10 = .ok (.goto 17, 3) := by decide +kernel
theorem dX5_constructor_13 : decode cX5_constructor 13 = .ok (.aload_n 0, 1) := by decide +kernel
theorem dX5_constructor_14 : decode cX5_constructor 14 = .ok (.getfield 7, 3) := by decide +kernel
theorem dX5_constructor_17 : decode cX5_constructor 17 = .ok (.bipush 40, 2) := by decide +kernel
theorem dX5_constructor_19 : decode cX5_constructor 19 = .ok (.if_icmp .ne 7, 3) := by decide +kernel
theorem dX5_constructor_22 : decode cX5_constructor 22 = .ok (.iconst 2, 1) := by decide +kernel
theorem dX5_constructor_23 : decode cX5_constructor 23 = .ok (.goto 4, 3) := by decide +kernel
theorem dX5_constructor_26 : decode cX5_constructor 26 = .ok (.iconst 0, 1) := by decide +kernel
theorem dX5_constructor_27 : decode cX5_constructor 27 = .ok (.putfield 85, 3) := by decide +kernel
theorem dX5_constructor_30 : decode cX5_constructor 30 = .ok (.aload_n 0, 1) := by decide +kernel
theorem dX5_constructor_31 : decode cX5_constructor 31 = .ok (.getfield 85, 3) := by decide +kernel
theorem dX5_constructor_34 : decode cX5_constructor 34 = .ok (.ifCond .le 5, 3) := by decide +kernel
theorem dX5_constructor_37 : decode cX5_constructor 37 = .ok (.iconst 0, 1) := by decide +kernel
theorem dX5_constructor_38 : decode cX5_constructor 38 = .ok (.ireturn, 1) := by decide +kernel
theorem dX5_constructor_39 : decode cX5_constructor 39 = .ok (.aload_n 0, 1) := by decide +kernel
theorem dX5_constructor_40 : decode cX5_constructor 40 = .ok (.getfield 13, 3) := by decide +kernel
theorem dX5_constructor_43 : decode cX5_constructor 43 = .ok (.aload_n 0, 1) := by decide +kernel
theorem dX5_constructor_44 : decode cX5_constructor 44 = .ok (.getfield 7, 3) := by decide +kernel
theorem dX5_constructor_47 : decode cX5_constructor 47 = .ok (.iload_n 1, 1) := by decide +kernel
theorem dX5_constructor_48 : decode cX5_constructor 48 = .ok (.iastore, 1) := by decide +kernel
theorem dX5_constructor_49 : decode cX5_constructor 49 = .ok (.aload_n 0, 1) := by decide +kernel
theorem dX5_constructor_50 : decode cX5_constructor 50 = .ok (.dup, 1) := by decide +kernel
theorem dX5_constructor_51 : decode cX5_constructor 51 = .ok (.getfield 7, 3) := by decide +kernel
theorem dX5_constructor_54 : decode cX5_constructor 54 = .ok (.iconst 1, 1) := by decide +kernel
theorem dX5_constructor_55 : decode cX5_constructor 55 = .ok (.iadd, 1) := by decide +kernel
theorem dX5_constructor_56 : decode cX5_constructor 56 = .ok (.putfield 7, 3) := by decide +kernel
theorem dX5_constructor_59 : decode cX5_constructor 59 = .ok (.aload_n 0, 1) := by decide +kernel
theorem dX5_constructor_60 : decode cX5_constructor 60 = .ok (.getfield 7, 3) := by decide +kernel
theorem dX5_constructor_63 : decode cX5_constructor 63 = .ok (.iconst 1, 1) := by decide +kernel
theorem dX5_constructor_64 : decode cX5_constructor 64 = .ok (.isub, 1) := by decide +kernel
theorem dX5_constructor_65 : decode cX5_constructor 65 = .ok (.ireturn, 1) := by decide +kernel
theorem dX5_chainOf_0 : decode cX5_chainOf 0 = .ok (.sipush 7919, 3) := by decide +kernel
theorem dX5_chainOf_3 : decode cX5_chainOf 3 = .ok (.iload_n 0, 1) := by decide +kernel
theorem dX5_chainOf_4 : decode cX5_chainOf 4 = .ok (.imul, 1) := by decide +kernel
theorem dX5_chainOf_5 : decode cX5_chainOf 5 = .ok (.sipush 131, 3) := by decide +kernel
theorem dX5_chainOf_8 : decode cX5_chainOf 8 = .ok (.iload_n 1, 1) := by decide +kernel
theorem dX5_chainOf_9 : decode cX5_chainOf 9 = .ok (.imul, 1) := by decide +kernel
theorem dX5_chainOf_10 : decode cX5_chainOf 10 = .ok (.iadd, 1) := by decide +kernel
theorem dX5_chainOf_11 : decode cX5_chainOf 11 = .ok (.iload_n 2, 1) := by decide +kernel
theorem dX5_chainOf_12 : decode cX5_chainOf 12 = .ok (.iadd, 1) := by decide +kernel
theorem dX5_chainOf_13 : decode cX5_chainOf 13 = .ok (.sipush 4095, 3) := by decide +kernel
theorem dX5_chainOf_16 : decode cX5_chainOf 16 = .ok (.iand, 1) := by decide +kernel
theorem dX5_chainOf_17 : decode cX5_chainOf 17 = .ok (.ireturn, 1) := by decide +kernel
set_option maxRecDepth 20000 in
theorem ggX5_node_X5_chainOf : GoodIn wsX5_node wsX5_chainOf := goodIn_r _ [12] (by decide +kernel) (by decide +kernel)
set_option maxRecDepth 20000 in
theorem gX5_node_X5_chainOf : GoodIn wsX5_node (va_wsS RX5 92 yX5_chainOf wsX5_chainOf) := goodIn_app (goodIn_of _ (by decide +kernel)) ggX5_node_X5_chainOf
theorem dX5_node_0 : decode cX5_node 0 = .ok (.iload_n 1, 1) := by decide +kernel
theorem dX5_node_1 : decode cX5_node 1 = .ok (.iload_n 2, 1) := by decide +kernel
theorem dX5_node_2 : decode cX5_node 2 = .ok (.iload_n 3, 1) := by decide +kernel
theorem dX5_node_3 : decode cX5_node 3 = .ok (.invokestatic 92, 3) := by decide +kernel
theorem dX5_node_6 : decode cX5_node 6 = .ok (.istore 4, 2) := by decide +kernel
theorem dX5_node_8 : decode cX5_node 8 = .ok (.aload_n 0, 1) := by decide +kernel
theorem dX5_node_9 : decode cX5_node 9 = .ok (.getfield 38, 3) := by decide +kernel
theorem dX5_node_12 : decode cX5_node 12 = .ok (.iload 4, 2) := by decide +kernel
theorem dX5_node_14 : decode cX5_node 14 = .ok (.iaload, 1) := by decide +kernel
theorem dX5_node_15 : decode cX5_node 15 = .ok (.istore 5, 2) := by decide +kernel
theorem dX5_node_17 : decode cX5_node 17 = .ok (.iload 5, 2) := by decide +kernel
theorem dX5_node_19 : decode cX5_node 19 = .ok (.iconst (-1), 1) := by decide +kernel
theorem dX5_node_20 : decode cX5_node 20 = .ok (.if_icmp .eq 51, 3) := by decide +kernel
theorem dX5_node_23 : decode cX5_node 23 = .ok (.aload_n 0, 1) := by decide +kernel
theorem dX5_node_24 : decode cX5_node 24 = .ok (.getfield 20, 3) := by decide +kernel
theorem dX5_node_27 : decode cX5_node 27 = .ok (.iload 5, 2) := by decide +kernel
theorem dX5_node_29 : decode cX5_node 29 = .ok (.iaload, 1) := by decide +kernel
theorem dX5_node_30 : decode cX5_node 30 = .ok (.iload_n 1, 1) := by decide +kernel
theorem dX5_node_31 : decode cX5_node 31 = .ok (.if_icmp .ne 28, 3) := by decide +kernel
theorem dX5_node_34 : decode cX5_node 34 = .ok (.aload_n 0, 1) := by decide +kernel
theorem dX5_node_35 : decode cX5_node 35 = .ok (.getfield 23, 3) := by decide +kernel
theorem dX5_node_38 : decode cX5_node 38 = .ok (.iload 5, 2) := by decide +kernel
theorem dX5_node_40 : decode cX5_node 40 = .ok (.iaload, 1) := by decide +kernel
theorem dX5_node_41 : decode cX5_node 41 = .ok (.iload_n 2, 1) := by decide +kernel
theorem dX5_node_42 : decode cX5_node 42 = .ok (.if_icmp .ne 17, 3) := by decide +kernel
theorem dX5_node_45 : decode cX5_node 45 = .ok (.aload_n 0, 1) := by decide +kernel
theorem dX5_node_46 : decode cX5_node 46 = .ok (.getfield 26, 3) := by decide +kernel
theorem dX5_node_49 : decode cX5_node 49 = .ok (.iload 5, 2) := by decide +kernel
theorem dX5_node_51 : decode cX5_node 51 = .ok (.iaload, 1) := by decide +kernel
theorem dX5_node_52 : decode cX5_node 52 = .ok (.iload_n 3, 1) := by decide +kernel
theorem dX5_node_53 : decode cX5_node 53 = .ok (.if_icmp .ne 6, 3) := by decide +kernel
theorem dX5_node_56 : decode cX5_node 56 = .ok (.iload 5, 2) := by decide +kernel
theorem dX5_node_58 : decode cX5_node 58 = .ok (.ireturn, 1) := by decide +kernel
theorem dX5_node_59 : decode cX5_node 59 = .ok (.aload_n 0, 1) := by decide +kernel
theorem dX5_node_60 : decode cX5_node 60 = .ok (.getfield 35, 3) := by decide +kernel
theorem dX5_node_63 : decode cX5_node 63 = .ok (.iload 5, 2) := by decide +kernel
theorem dX5_node_65 : decode cX5_node 65 = .ok (.iaload, 1) := by decide +kernel
theorem dX5_node_66 : decode cX5_node 66 = .ok (.istore 5, 2) := by decide +kernel
theorem dX5_node_68 : decode cX5_node 68 = .ok (.goto (-51), 3) := by decide +kernel
theorem dX5_node_71 : decode cX5_node 71 = .ok (.aload_n 0, 1) := by decide +kernel
theorem dX5_node_72 : decode cX5_node 72 = .ok (.getfield 35, 3) := by decide +kernel
theorem dX5_node_75 : decode cX5_node 75 = .ok (.aload_n 0, 1) := by decide +kernel
theorem dX5_node_76 : decode cX5_node 76 = .ok (.getfield 96, 3) := by decide +kernel
theorem dX5_node_79 : decode cX5_node 79 = .ok (.aload_n 0, 1) := by decide +kernel
theorem dX5_node_80 : decode cX5_node 80 = .ok (.getfield 38, 3) := by decide +kernel
theorem dX5_node_83 : decode cX5_node 83 = .ok (.iload 4, 2) := by decide +kernel
theorem dX5_node_85 : decode cX5_node 85 = .ok (.iaload, 1) := by decide +kernel
theorem dX5_node_86 : decode cX5_node 86 = .ok (.iastore, 1) := by decide +kernel
theorem dX5_node_87 : decode cX5_node 87 = .ok (.aload_n 0, 1) := by decide +kernel
theorem dX5_node_88 : decode cX5_node 88 = .ok (.getfield 38, 3) := by decide +kernel
theorem dX5_node_91 : decode cX5_node 91 = .ok (.iload 4, 2) := by decide +kernel
theorem dX5_node_93 : decode cX5_node 93 = .ok (.aload_n 0, 1) := by decide +kernel
theorem dX5_node_94 : decode cX5_node 94 = .ok (.getfield 96, 3) := by decide +kernel
theorem dX5_node_97 : decode cX5_node 97 = .ok (.iastore, 1) := by decide +kernel
theorem dX5_node_98 : decode cX5_node 98 = .ok (.aload_n 0, 1) := by decide +kernel
theorem dX5_node_99 : decode cX5_node 99 = .ok (.getfield 20, 3) := by decide +kernel
theorem dX5_node_102 : decode cX5_node 102 = .ok (.aload_n 0, 1) := by decide +kernel
theorem dX5_node_103 : decode cX5_node 103 = .ok (.getfield 96, 3) := by decide +kernel
theorem dX5_node_106 : decode cX5_node 106 = .ok (.iload_n 1, 1) := by decide +kernel
theorem dX5_node_107 : decode cX5_node 107 = .ok (.iastore, 1) := by decide +kernel
theorem dX5_node_108 : decode cX5_node 108 = .ok (.aload_n 0, 1) := by decide +kernel
theorem dX5_node_109 : decode cX5_node 109 = .ok (.getfield 23, 3) := by decide +kernel
theorem dX5_node_112 : decode cX5_node 112 = .ok (.aload_n 0, 1) := by decide +kernel
theorem dX5_node_113 : decode cX5_node 113 = .ok (.getfield 96, 3) := by decide +kernel
theorem dX5_node_116 : decode cX5_node 116 = .ok (.iload_n 2, 1) := by decide +kernel
theorem dX5_node_117 : decode cX5_node 117 = .ok (.iastore, 1) := by decide +kernel
theorem dX5_node_118 : decode cX5_node 118 = .ok (.aload_n 0, 1) := by decide +kernel
theorem dX5_node_119 : decode cX5_node 119 = .ok (.getfield 26, 3) := by decide +kernel
theorem dX5_node_122 : decode cX5_node 122 = .ok (.aload_n 0, 1) := by decide +kernel
theorem dX5_node_123 : decode cX5_node 123 = .ok (.getfield 96, 3) := by decide +kernel
theorem dX5_node_126 : decode cX5_node 126 = .ok (.iload_n 3, 1) := by decide +kernel
theorem dX5_node_127 : decode cX5_node 127 = .ok (.iastore, 1) := by decide +kernel
theorem dX5_node_128 : decode cX5_node 128 = .ok (.aload_n 0, 1) := by decide +kernel
theorem dX5_node_129 : decode cX5_node 129 = .ok (.getfield 29, 3) := by decide +kernel
theorem dX5_node_132 : decode cX5_node 132 = .ok (.aload_n 0, 1) := by decide +kernel
theorem dX5_node_133 : decode cX5_node 133 = .ok (.getfield 96, 3) := by decide +kernel
theorem dX5_node_136 : decode cX5_node 136 = .ok (.iconst 1, 1) := by decide +kernel
theorem dX5_node_137 : decode cX5_node 137 = .ok (.iload_n 2, 1) := by decide +kernel
theorem dX5_node_138 : decode cX5_node 138 = .ok (.iconst (-1), 1) := by decide +kernel
theorem dX5_node_139 : decode cX5_node 139 = .ok (.if_icmp .ne 7, 3) := by decide +kernel
theorem dX5_node_142 : decode cX5_node 142 = .ok (.iconst 0, 1) := by decide +kernel
theorem dX5_node_143 : decode cX5_node 143 = .ok (.goto 9, 3) := by decide +kernel
theorem dX5_node_146 : decode cX5_node 146 = .ok (.aload_n 0, 1) := by decide +kernel
theorem dX5_node_147 : decode cX5_node 147 = .ok (.getfield 29, 3) := by decide +kernel
theorem dX5_node_150 : decode cX5_node 150 = .ok (.iload_n 2, 1) := by decide +kernel
theorem dX5_node_151 : decode cX5_node 151 = .ok (.iaload, 1) := by decide +kernel
theorem dX5_node_152 : decode cX5_node 152 = .ok (.iadd, 1) := by decide +kernel
theorem dX5_node_153 : decode cX5_node 153 = .ok (.iload_n 3, 1) := by decide +kernel
theorem dX5_node_154 : decode cX5_node 154 = .ok (.iconst (-1), 1) := by decide +kernel
theorem dX5_node_155 : decode cX5_node 155 = .ok (.if_icmp .ne 7, 3) := by decide +kernel
theorem dX5_node_158 : decode cX5_node 158 = .ok (.iconst 0, 1) := by decide +kernel
theorem dX5_node_159 : decode cX5_node 159 = .ok (.goto 9, 3) := by decide +kernel
theorem dX5_node_162 : decode cX5_node 162 = .ok (.aload_n 0, 1) := by decide +kernel
theorem dX5_node_163 : decode cX5_node 163 = .ok (.getfield 29, 3) := by decide +kernel
theorem dX5_node_166 : decode cX5_node 166 = .ok (.iload_n 3, 1) := by decide +kernel
theorem dX5_node_167 : decode cX5_node 167 = .ok (.iaload, 1) := by decide +kernel
theorem dX5_node_168 : decode cX5_node 168 = .ok (.iadd, 1) := by decide +kernel
theorem dX5_node_169 : decode cX5_node 169 = .ok (.iastore, 1) := by decide +kernel
theorem dX5_node_170 : decode cX5_node 170 = .ok (.aload_n 0, 1) := by decide +kernel
theorem dX5_node_171 : decode cX5_node 171 = .ok (.getfield 29, 3) := by decide +kernel
theorem dX5_node_174 : decode cX5_node 174 = .ok (.aload_n 0, 1) := by decide +kernel
theorem dX5_node_175 : decode cX5_node 175 = .ok (.getfield 96, 3) := by decide +kernel
theorem dX5_node_178 : decode cX5_node 178 = .ok (.aload_n 0, 1) := by decide +kernel
theorem dX5_node_179 : decode cX5_node 179 = .ok (.getfield 29, 3) := by decide +kernel
theorem dX5_node_182 : decode cX5_node 182 = .ok (.aload_n 0, 1) := by decide +kernel
theorem dX5_node_183 : decode cX5_node 183 = .ok (.getfield 96, 3) := by decide +kernel
theorem dX5_node_186 : decode cX5_node 186 = .ok (.iaload, 1) := by decide +kernel
theorem dX5_node_187 : decode cX5_node 187 = .ok (.sipush 1000, 3) := by decide +kernel
theorem dX5_node_190 : decode cX5_node 190 = .ok (.if_icmp .le 9, 3) := by decide +kernel
theorem dX5_node_193 : decode cX5_node 193 = .ok (.sipush 1000, 3) := by decide +kernel
theorem dX5_node_196 : decode cX5_node 196 = .ok (.goto 12, 3) := by decide +kernel
theorem dX5_node_199 : decode cX5_node 199 = .ok (.aload_n 0, 1) := by decide +kernel
theorem dX5_node_200 : decode cX5_node 200 = .ok (.getfield 29, 3) := by decide +kernel
theorem dX5_node_203 : decode cX5_node 203 = .ok (.aload_n 0, 1) := by decide +kernel
theorem dX5_node_204 : decode cX5_node 204 = .ok (.getfield 96, 3) := by decide +kernel
theorem dX5_node_207 : decode cX5_node 207 = .ok (.iaload, 1) := by decide +kernel
theorem dX5_node_208 : decode cX5_node 208 = .ok (.iastore, 1) := by decide +kernel
theorem dX5_node_209 : decode cX5_node 209 = .ok (.iload_n 2, 1) := by decide +kernel
theorem dX5_node_210 : decode cX5_node 210 = .ok (.iconst (-1), 1) := by decide +kernel
theorem dX5_node_211 : decode cX5_node 211 = .ok (.if_icmp .ne 7, 3) := by decide +kernel
theorem dX5_node_214 : decode cX5_node 214 = .ok (.iconst 0, 1) := by decide +kernel
theorem dX5_node_215 : decode cX5_node 215 = .ok (.goto 9, 3) := by decide +kernel
theorem dX5_node_218 : decode cX5_node 218 = .ok (.aload_n 0, 1) := by decide +kernel
theorem dX5_node_219 : decode cX5_node 219 = .ok (.getfield 32, 3) := by decide +kernel
theorem dX5_node_222 : decode cX5_node 222 = .ok (.iload_n 2, 1) := by decide +kernel
theorem dX5_node_223 : decode cX5_node 223 = .ok (.iaload, 1) := by decide +kernel
theorem dX5_node_224 : decode cX5_node 224 = .ok (.istore 5, 2) := by decide +kernel
theorem dX5_node_226 : decode cX5_node 226 = .ok (.iload_n 3, 1) := by decide +kernel
theorem dX5_node_227 : decode cX5_node 227 = .ok (.iconst (-1), 1) := by decide +kernel
theorem dX5_node_228 : decode cX5_node 228 = .ok (.if_icmp .ne 7, 3) := by decide +kernel
theorem dX5_node_231 : decode cX5_node 231 = .ok (.iconst 0, 1) := by decide +kernel
theorem dX5_node_232 : decode cX5_node 232 = .ok (.goto 9, 3) := by decide +kernel
theorem dX5_node_235 : decode cX5_node 235 = .ok (.aload_n 0, 1) := by decide +kernel
theorem dX5_node_236 : decode cX5_node 236 = .ok (.getfield 32, 3) := by decide +kernel
theorem dX5_node_239 : decode cX5_node 239 = .ok (.iload_n 3, 1) := by decide +kernel
theorem dX5_node_240 : decode cX5_node 240 = .ok (.iaload, 1) := by decide +kernel
theorem dX5_node_241 : decode cX5_node 241 = .ok (.istore 6, 2) := by decide +kernel
theorem dX5_node_243 : decode cX5_node 243 = .ok (.aload_n 0, 1) := by decide +kernel
theorem dX5_node_244 : decode cX5_node 244 = .ok (.getfield 32, 3) := by decide +kernel
theorem dX5_node_247 : decode cX5_node 247 = .ok (.aload_n 0, 1) := by decide +kernel
theorem dX5_node_248 : decode cX5_node 248 = .ok (.getfield 96, 3) := by decide +kernel
theorem dX5_node_251 : decode cX5_node 251 = .ok (.iconst 1, 1) := by decide +kernel
theorem dX5_node_252 : decode cX5_node 252 = .ok (.iload 5, 2) := by decide +kernel
theorem dX5_node_254 : decode cX5_node 254 = .ok (.iload 6, 2) := by decide +kernel
theorem dX5_node_256 : decode cX5_node 256 = .ok (.if_icmp .le 8, 3) := by decide +kernel
theorem dX5_node_259 : decode cX5_node 259 = .ok (.iload 5, 2) := by decide +kernel
theorem dX5_node_261 : decode cX5_node 261 = .ok (.goto 5, 3) := by decide +kernel
theorem dX5_node_264 : decode cX5_node 264 = .ok (.iload 6, 2) := by decide +kernel
theorem dX5_node_266 : decode cX5_node 266 = .ok (.iadd, 1) := by decide +kernel
theorem dX5_node_267 : decode cX5_node 267 = .ok (.iastore, 1) := by decide +kernel
theorem dX5_node_268 : decode cX5_node 268 = .ok (.aload_n 0, 1) := by decide +kernel
theorem dX5_node_269 : decode cX5_node 269 = .ok (.dup, 1) := by decide +kernel
theorem dX5_node_270 : decode cX5_node 270 = .ok (.getfield 96, 3) := by decide +kernel
theorem dX5_node_273 : decode cX5_node 273 = .ok (.iconst 1, 1) := by decide +kernel
theorem dX5_node_274 : decode cX5_node 274 = .ok (.iadd, 1) := by decide +kernel
theorem dX5_node_275 : decode cX5_node 275 = .ok (.putfield 96, 3) := by decide +kernel
theorem dX5_node_278 : decode cX5_node 278 = .ok (.aload_n 0, 1) := by decide +kernel
theorem dX5_node_279 : decode cX5_node 279 = .ok (.getfield 96, 3) := by decide +kernel
theorem dX5_node_282 : decode cX5_node 282 = .ok (.iconst 1, 1) := by decide +kernel
theorem dX5_node_283 : decode cX5_node 283 = .ok (.isub, 1) := by decide +kernel
theorem dX5_node_284 : decode cX5_node 284 = .ok (.ireturn, 1) := by decide +kernel
set_option maxRecDepth 20000 in
theorem ggX5_cut_X5_chainOf : GoodIn wsX5_cut wsX5_chainOf := goodIn_r _ [10] (by decide +kernel) (by decide +kernel)
set_option maxRecDepth 20000 in
theorem gX5_cut_X5_chainOf : GoodIn wsX5_cut (va_wsS RX5 92 yX5_chainOf wsX5_chainOf) := goodIn_app (goodIn_of _ (by decide +kernel)) ggX5_cut_X5_chainOf
theorem dX5_cut_0 : decode cX5_cut 0 = .ok (.aload_n 0, 1) := by decide +kernel
theorem dX5_cut_1 : decode cX5_cut 1 = .ok (.getfield 96, 3) := by decide +kernel
theorem dX5_cut_4 : decode cX5_cut 4 = .ok (.iload_n 1, 1) := by decide +kernel
theorem dX5_cut_5 : decode cX5_cut 5 = .ok (.if_icmp .le 60, 3) := by decide +kernel
theorem dX5_cut_8 : decode cX5_cut 8 = .ok (.aload_n 0, 1) := by decide +kernel
theorem dX5_cut_9 : decode cX5_cut 9 = .ok (.dup, 1) := by decide +kernel
theorem dX5_cut_10 : decode cX5_cut 10 = .ok (.getfield 96, 3) := by decide +kernel
theorem dX5_cut_13 : decode cX5_cut 13 = .ok (.iconst 1, 1) := by decide +kernel
theorem dX5_cut_14 : decode cX5_cut 14 = .ok (.isub, 1) := by decide +kernel
theorem dX5_cut_15 : decode cX5_cut 15 = .ok (.putfield 96, 3) := by decide +kernel
theorem dX5_cut_18 : decode cX5_cut 18 = .ok (.aload_n 0, 1) := by decide +kernel
theorem dX5_cut_19 : decode cX5_cut 19 = .ok (.getfield 38, 3) := by decide +kernel
theorem dX5_cut_22 : decode cX5_cut 22 = .ok (.aload_n 0, 1) := by decide +kernel
theorem dX5_cut_23 : decode cX5_cut 23 = .ok (.getfield 20, 3) := by decide +kernel
theorem dX5_cut_26 : decode cX5_cut 26 = .ok (.aload_n 0, 1) := by decide +kernel
theorem dX5_cut_27 : decode cX5_cut 27 = .ok (.getfield 96, 3) := by decide +kernel
theorem dX5_cut_30 : decode cX5_cut 30 = .ok (.iaload, 1) := by decide +kernel
theorem dX5_cut_31 : decode cX5_cut 31 = .ok (.aload_n 0, 1) := by decide +kernel
theorem dX5_cut_32 : decode cX5_cut 32 = .ok (.getfield 23, 3) := by decide +kernel
theorem dX5_cut_35 : decode cX5_cut 35 = .ok (.aload_n 0, 1) := by decide +kernel
theorem dX5_cut_36 : decode cX5_cut 36 = .ok (.getfield 96, 3) := by decide +kernel
theorem dX5_cut_39 : decode cX5_cut 39 = .ok (.iaload, 1) := by decide +kernel
theorem dX5_cut_40 : decode cX5_cut 40 = .ok (.aload_n 0, 1) := by decide +kernel
theorem dX5_cut_41 : decode cX5_cut 41 = .ok (.getfield 26, 3) := by decide +kernel
theorem dX5_cut_44 : decode cX5_cut 44 = .ok (.aload_n 0, 1) := by decide +kernel
theorem dX5_cut_45 : decode cX5_cut 45 = .ok (.getfield 96, 3) := by decide +kernel
theorem dX5_cut_48 : decode cX5_cut 48 = .ok (.iaload, 1) := by decide +kernel
theorem dX5_cut_49 : decode cX5_cut 49 = .ok (.invokestatic 92, 3) := by decide +kernel
theorem dX5_cut_52 : decode cX5_cut 52 = .ok (.aload_n 0, 1) := by decide +kernel
theorem dX5_cut_53 : decode cX5_cut 53 = .ok (.getfield 35, 3) := by decide +kernel
theorem dX5_cut_56 : decode cX5_cut 56 = .ok (.aload_n 0, 1) := by decide +kernel
theorem dX5_cut_57 : decode cX5_cut 57 = .ok (.getfield 96, 3) := by decide +kernel
theorem dX5_cut_60 : decode cX5_cut 60 = .ok (.iaload, 1) := by decide +kernel
theorem dX5_cut_61 : decode cX5_cut 61 = .ok (.iastore, 1) := by decide +kernel
theorem dX5_cut_62 : decode cX5_cut 62 = .ok (.goto (-62), 3) := by decide +kernel
theorem dX5_cut_65 : decode cX5_cut 65 = .ok (.return_, 1) := by decide +kernel
theorem dX5_isSmall_0 : decode cX5_isSmall 0 = .ok (.aload_n 0, 1) := by decide +kernel
theorem dX5_isSmall_1 : decode cX5_isSmall 1 = .ok (.getfield 29, 3) := by decide +kernel
theorem dX5_isSmall_4 : decode cX5_isSmall 4 = .ok (.iload_n 1, 1) := by decide +kernel
theorem dX5_isSmall_5 : decode cX5_isSmall 5 = .ok (.iaload, 1) := by decide +kernel
theorem dX5_isSmall_6 : decode cX5_isSmall 6 = .ok (.sipush 200, 3) := by decide +kernel
theorem dX5_isSmall_9 : decode cX5_isSmall 9 = .ok (.if_icmp .gt 18, 3) := by decide +kernel
theorem dX5_isSmall_12 : decode cX5_isSmall 12 = .ok (.aload_n 0, 1) := by decide +kernel
theorem dX5_isSmall_13 : decode cX5_isSmall 13 = .ok (.getfield 32, 3) := by decide +kernel
theorem dX5_isSmall_16 : decode cX5_isSmall 16 = .ok (.iload_n 1, 1) := by decide +kernel
theorem dX5_isSmall_17 : decode cX5_isSmall 17 = .ok (.iaload, 1) := by decide +kernel
theorem dX5_isSmall_18 : decode cX5_isSmall 18 = .ok (.bipush 24, 2) := by decide +kernel
theorem dX5_isSmall_20 : decode cX5_isSmall 20 = .ok (.if_icmp .gt 7, 3) := by decide +kernel
theorem dX5_isSmall_23 : decode cX5_isSmall 23 = .ok (.iconst 1, 1) := by decide +kernel
theorem dX5_isSmall_24 : decode cX5_isSmall 24 = .ok (.goto 4, 3) := by decide +kernel
theorem dX5_isSmall_27 : decode cX5_isSmall 27 = .ok (.iconst 0, 1) := by decide +kernel
theorem dX5_isSmall_28 : decode cX5_isSmall 28 = .ok (.ireturn, 1) := by decide +kernel
set_option maxRecDepth 20000 in
theorem ggX5_keepType_X5_isSmall : GoodIn wsX5_keepType wsX5_isSmall := goodIn_r _ [10, 3, 11, 17, 18, 19, 20, 21, 22, 23, 24, 25, 26, 27, 28, 29, 30, 31, 32, 33, 34, 35, 36, 37, 38, 39, 40, 41, 42, 43, 44, 45, 46] (by decide +kernel) (by decide +kernel)
set_option maxRecDepth 20000 in
theorem gX5_keepType_X5_isSmall : GoodIn wsX5_keepType (wsV RX5 99 RX5 yX5_isSmall wsX5_isSmall) := goodIn_app (goodIn_of _ (by decide +kernel)) ggX5_keepType_X5_isSmall
set_option maxRecDepth 20000 in
theorem ggX5_keepType_X5_fail : GoodIn wsX5_keepType wsX5_fail := goodIn_r _ [15, 16, 17, 18, 19, 20, 21, 22, 23, 24, 25, 26, 27, 28, 29, 30, 31, 32, 33, 34, 35, 36, 37, 38, 39, 40, 41, 42, 43, 44, 45, 46] (by decide +kernel) (by decide +kernel)
set_option maxRecDepth 20000 in
theorem gX5_keepType_X5_fail : GoodIn wsX5_keepType (wsV RX5 106 RX5 yX5_fail wsX5_fail) := goodIn_app (goodIn_of _ (by decide +kernel)) ggX5_keepType_X5_fail
theorem dX5_keepType_0 : decode cX5_keepType 0 = .ok (.aload_n 0, 1) := by decide +kernel
theorem dX5_keepType_1 : decode cX5_keepType 1 = .ok (.iload_n 1, 1) := by decide +kernel
theorem dX5_keepType_2 : decode cX5_keepType 2 = .ok (.invokevirtual 99, 3) := by decide +kernel
theorem dX5_keepType_5 : decode cX5_keepType 5 = .ok (.ifCond .eq 30, 3) := by decide +kernel
theorem dX5_keepType_8 : decode cX5_keepType 8 = .ok (.aload_n 0, 1) := by decide +kernel
theorem dX5_keepType_9 : decode cX5_keepType 9 = .ok (.getfield 96, 3) := by decide +kernel
theorem dX5_keepType_12 : decode cX5_keepType 12 = .ok (.sipush 8000, 3) := by decide +kernel
theorem dX5_keepType_15 : decode cX5_keepType 15 = .ok (.if_icmp .gt 20, 3) := by decide +kernel
theorem dX5_keepType_18 : decode cX5_keepType 18 = .ok (.aload_n 0, 1) := by decide +kernel
theorem dX5_keepType_19 : decode cX5_keepType 19 = .ok (.getfield 103, 3) := by decide +kernel
theorem dX5_keepType_22 : decode cX5_keepType 22 = .ok (.aload_n 0, 1) := by decide +kernel
theorem dX5_keepType_23 : decode cX5_keepType 23 = .ok (.getfield 29, 3) := by decide +kernel
theorem dX5_keepType_26 : decode cX5_keepType 26 = .ok (.iload_n 1, 1) := by decide +kernel
theorem dX5_keepType_27 : decode cX5_keepType 27 = .ok (.iaload, 1) := by decide +kernel
theorem dX5_keepType_28 : decode cX5_keepType 28 = .ok (.iadd, 1) := by decide +kernel
theorem dX5_keepType_29 : decode cX5_keepType 29 = .ok (.sipush 6000, 3) := by decide +kernel
theorem dX5_keepType_32 : decode cX5_keepType 32 = .ok (.if_icmp .le 9, 3) := by decide +kernel
theorem dX5_keepType_35 : decode cX5_keepType 35 = .ok (.aload_n 0, 1) := by decide +kernel
theorem dX5_keepType_36 : decode cX5_keepType 36 = .ok (.iload_n 2, 1) := by decide +kernel
theorem dX5_keepType_37 : decode cX5_keepType 37 = .ok (.invokevirtual 106, 3) := by decide +kernel
theorem dX5_keepType_40 : decode cX5_keepType 40 = .ok (.ireturn, 1) := by decide +kernel
theorem dX5_keepType_41 : decode cX5_keepType 41 = .ok (.aload_n 0, 1) := by decide +kernel
theorem dX5_keepType_42 : decode cX5_keepType 42 = .ok (.getfield 41, 3) := by decide +kernel
theorem dX5_keepType_45 : decode cX5_keepType 45 = .ok (.aload_n 0, 1) := by decide +kernel
theorem dX5_keepType_46 : decode cX5_keepType 46 = .ok (.getfield 110, 3) := by decide +kernel
theorem dX5_keepType_49 : decode cX5_keepType 49 = .ok (.iload_n 1, 1) := by decide +kernel
theorem dX5_keepType_50 : decode cX5_keepType 50 = .ok (.iastore, 1) := by decide +kernel
theorem dX5_keepType_51 : decode cX5_keepType 51 = .ok (.aload_n 0, 1) := by decide +kernel
theorem dX5_keepType_52 : decode cX5_keepType 52 = .ok (.dup, 1) := by decide +kernel
theorem dX5_keepType_53 : decode cX5_keepType 53 = .ok (.getfield 103, 3) := by decide +kernel
theorem dX5_keepType_56 : decode cX5_keepType 56 = .ok (.aload_n 0, 1) := by decide +kernel
theorem dX5_keepType_57 : decode cX5_keepType 57 = .ok (.getfield 29, 3) := by decide +kernel
theorem dX5_keepType_60 : decode cX5_keepType 60 = .ok (.iload_n 1, 1) := by decide +kernel
theorem dX5_keepType_61 : decode cX5_keepType 61 = .ok (.iaload, 1) := by decide +kernel
theorem dX5_keepType_62 : decode cX5_keepType 62 = .ok (.iadd, 1) := by decide +kernel
theorem dX5_keepType_63 : decode cX5_keepType 63 = .ok (.putfield 103, 3) := by decide +kernel
theorem dX5_keepType_66 : decode cX5_keepType 66 = .ok (.aload_n 0, 1) := by decide +kernel
theorem dX5_keepType_67 : decode cX5_keepType 67 = .ok (.dup, 1) := by decide +kernel
theorem dX5_keepType_68 : decode cX5_keepType 68 = .ok (.getfield 110, 3) := by decide +kernel
theorem dX5_keepType_71 : decode cX5_keepType 71 = .ok (.iconst 1, 1) := by decide +kernel
theorem dX5_keepType_72 : decode cX5_keepType 72 = .ok (.iadd, 1) := by decide +kernel
theorem dX5_keepType_73 : decode cX5_keepType 73 = .ok (.putfield 110, 3) := by decide +kernel
theorem dX5_keepType_76 : decode cX5_keepType 76 = .ok (.aload_n 0, 1) := by decide +kernel
theorem dX5_keepType_77 : decode cX5_keepType 77 = .ok (.getfield 110, 3) := by decide +kernel
theorem dX5_keepType_80 : decode cX5_keepType 80 = .ok (.iconst 1, 1) := by decide +kernel
theorem dX5_keepType_81 : decode cX5_keepType 81 = .ok (.isub, 1) := by decide +kernel
theorem dX5_keepType_82 : decode cX5_keepType 82 = .ok (.ireturn, 1) := by decide +kernel
set_option maxRecDepth 20000 in
theorem ggX5_typeVariable_X5_outside : GoodIn wsX5_typeVariable wsX5_outside := goodIn_r _ [6] (by decide +kernel) (by decide +kernel)
set_option maxRecDepth 20000 in
theorem gX5_typeVariable_X5_outside : GoodIn wsX5_typeVariable (va_wsS RX5 88 yX5_outside wsX5_outside) := goodIn_app (goodIn_of _ (by decide +kernel)) ggX5_typeVariable_X5_outside
set_option maxRecDepth 20000 in
theorem ggX5_typeVariable_X5_node : GoodIn wsX5_typeVariable wsX5_node := goodIn_r _ [10, 11, 12, 13, 14, 15, 2, 16, 17, 18, 19, 5, 20, 40, 41, 42, 43, 44, 45, 46, 47, 48, 49, 50, 51, 52, 53, 54, 55, 56, 57, 58, 59, 60, 61, 62, 63, 64, 65, 66, 67, 68, 69] (by decide +kernel) (by decide +kernel)
set_option maxRecDepth 20000 in
theorem gX5_typeVariable_X5_node : GoodIn wsX5_typeVariable (wsV RX5 113 RX5 yX5_node wsX5_node) := goodIn_app (goodIn_of _ (by decide +kernel)) ggX5_typeVariable_X5_node
set_option maxRecDepth 20000 in
theorem ggX5_typeVariable_X5_keepType : GoodIn wsX5_typeVariable wsX5_keepType := goodIn_r _ [24, 2, 25, 16, 26, 27, 28, 29, 30, 5, 31, 17, 32, 33, 34, 35, 1, 40, 41, 42, 43, 44, 45, 46, 47, 48, 49, 50, 51, 52, 53, 54, 55, 56, 57, 58, 59, 60, 61, 62, 63, 64, 65, 66, 67, 68, 69] (by decide +kernel) (by decide +kernel)
set_option maxRecDepth 20000 in
theorem gX5_typeVariable_X5_keepType : GoodIn wsX5_typeVariable (wsV RX5 116 RX5 yX5_keepType wsX5_keepType) := goodIn_app (goodIn_of _ (by decide +kernel)) ggX5_typeVariable_X5_keepType
set_option maxRecDepth 20000 in
theorem ggX5_typeVariable_X5_cut : GoodIn wsX5_typeVariable wsX5_cut := goodIn_r _ [39, 2, 11, 12, 13, 14, 15, 18, 19, 5, 20, 40, 41, 42, 43, 44, 45, 46, 47, 48, 49, 50, 51, 52, 53, 54, 55, 56, 57, 58, 59, 60, 61, 62, 63, 64, 65, 66, 67, 68, 69] (by decide +kernel) (by decide +kernel)
set_option maxRecDepth 20000 in
theorem gX5_typeVariable_X5_cut : GoodIn wsX5_typeVariable (wsV RX5 120 RX5 yX5_cut wsX5_cut) := goodIn_app (goodIn_of _ (by decide +kernel)) ggX5_typeVariable_X5_cut
theorem dX5_typeVariable_0 : decode cX5_typeVariable 0 = .ok (.aload_n 0, 1) := by decide +kernel
theorem dX5_typeVariable_1 : decode cX5_typeVariable 1 = .ok (.iload_n 1, 1) := by decide +kernel
theorem dX5_typeVariable_2 : decode cX5_typeVariable 2 = .ok (.sipush 1000, 3) := by decide +kernel
theorem dX5_typeVariable_5 : decode cX5_typeVariable 5 = .ok (.invokestatic 88, 3) := by decide +kernel
theorem dX5_typeVariable_8 : decode cX5_typeVariable 8 = .ok (.ifCond .eq 7, 3) := by decide +kernel
theorem dX5_typeVariable_11 : decode cX5_typeVariable 11 = .ok (.iconst 1, 1) := by decide +kernel
theorem dX5_typeVariable_12 : decode cX5_typeVariable 12 = .ok (.goto 4, 3) := by decide +kernel
theorem dX5_typeVariable_15 : decode cX5_typeVariable 15 = .ok (.iconst 0, 1) := by decide +kernel
theorem dX5_typeVariable_16 : decode cX5_typeVariable 16 = .ok (.putfield 85, 3) := by decide +kernel
theorem dX5_typeVariable_19 : decode cX5_typeVariable 19 = .ok (.aload_n 0, 1) := by decide +kernel
theorem dX5_typeVariable_20 : decode cX5_typeVariable 20 = .ok (.getfield 85, 3) := by decide +kernel
theorem dX5_typeVariable_23 : decode cX5_typeVariable 23 = .ok (.ifCond .le 5, 3) := by decide +kernel
theorem dX5_typeVariable_26 : decode cX5_typeVariable 26 = .ok (.iconst 0, 1) := by decide +kernel
theorem dX5_typeVariable_27 : decode cX5_typeVariable 27 = .ok (.ireturn, 1) := by decide +kernel
theorem dX5_typeVariable_28 : decode cX5_typeVariable 28 = .ok (.aload_n 0, 1) := by decide +kernel
theorem dX5_typeVariable_29 : decode cX5_typeVariable 29 = .ok (.getfield 96, 3) := by decide +kernel
theorem dX5_typeVariable_32 : decode cX5_typeVariable 32 = .ok (.istore_n 2, 1) := by decide +kernel
theorem dX5_typeVariable_33 : decode cX5_typeVariable 33 = .ok (.aload_n 0, 1) := by decide +kernel
theorem dX5_typeVariable_34 : decode cX5_typeVariable 34 = .ok (.aload_n 0, 1) := by decide +kernel
theorem dX5_typeVariable_35 : decode cX5_typeVariable 35 = .ok (.iconst (-1), 1) := by decide +kernel
theorem dX5_typeVariable_36 : decode cX5_typeVariable 36 = .ok (.iload_n 1, 1) := by decide +kernel
theorem dX5_typeVariable_37 : decode cX5_typeVariable 37 = .ok (.isub, 1) := by decide +kernel
theorem dX5_typeVariable_38 : decode cX5_typeVariable 38 = .ok (.iconst (-1), 1) := by decide +kernel
theorem dX5_typeVariable_39 : decode cX5_typeVariable 39 = .ok (.iconst (-1), 1) := by decide +kernel
theorem dX5_typeVariable_40 : decode cX5_typeVariable 40 = .ok (.invokevirtual 113, 3) := by decide +kernel
theorem dX5_typeVariable_43 : decode cX5_typeVariable 43 = .ok (.iconst 2, 1) := by decide +kernel
theorem dX5_typeVariable_44 : decode cX5_typeVariable 44 = .ok (.invokevirtual 116, 3) := by decide +kernel
theorem dX5_typeVariable_47 : decode cX5_typeVariable 47 = .ok (.istore_n 3, 1) := by decide +kernel
theorem dX5_typeVariable_48 : decode cX5_typeVariable 48 = .ok (.aload_n 0, 1) := by decide +kernel
theorem dX5_typeVariable_49 : decode cX5_typeVariable 49 = .ok (.getfield 85, 3) := by decide +kernel
theorem dX5_typeVariable_52 : decode cX5_typeVariable 52 = .ok (.ifCond .le 8, 3) := by decide +kernel
theorem dX5_typeVariable_55 : decode cX5_typeVariable 55 = .ok (.aload_n 0, 1) := by decide +kernel
theorem dX5_typeVariable_56 : decode cX5_typeVariable 56 = .ok (.iload_n 2, 1) := by decide +kernel
theorem dX5_typeVariable_57 : decode cX5_typeVariable 57 = .ok (.invokevirtual 120, 3) := by decide +kernel
theorem dX5_typeVariable_60 : decode cX5_typeVariable 60 = .ok (.iload_n 3, 1) := by decide +kernel
theorem dX5_typeVariable_61 : decode cX5_typeVariable 61 = .ok (.ireturn, 1) := by decide +kernel
set_option maxRecDepth 20000 in
theorem ggX5_type_X5_outside : GoodIn wsX5_type wsX5_outside := goodIn_r _ [10] (by decide +kernel) (by decide +kernel)
set_option maxRecDepth 20000 in
theorem gX5_type_X5_outside : GoodIn wsX5_type (va_wsS RX5 88 yX5_outside wsX5_outside) := goodIn_app (goodIn_of _ (by decide +kernel)) ggX5_type_X5_outside
set_option maxRecDepth 20000 in
theorem ggX5_type_X5_node : GoodIn wsX5_type wsX5_node := goodIn_r _ [14, 15, 16, 17, 18, 19, 5, 20, 21, 22, 23, 9, 24, 42, 43, 44, 45, 46, 47, 48, 49, 50, 51, 52, 53, 54, 55, 56, 57, 58, 59, 60, 61, 62, 63, 64, 65, 66, 67, 68, 69, 70, 71] (by decide +kernel) (by decide +kernel)
set_option maxRecDepth 20000 in
theorem gX5_type_X5_node : GoodIn wsX5_type (wsV RX5 113 RX5 yX5_node wsX5_node) := goodIn_app (goodIn_of _ (by decide +kernel)) ggX5_type_X5_node
set_option maxRecDepth 20000 in
theorem ggX5_type_X5_keepType : GoodIn wsX5_type wsX5_keepType := goodIn_r _ [28, 5, 29, 20, 6, 3, 30, 31, 32, 9, 33, 21, 34, 35, 36, 37, 4, 42, 43, 44, 45, 46, 47, 48, 49, 50, 51, 52, 53, 54, 55, 56, 57, 58, 59, 60, 61, 62, 63, 64, 65, 66, 67, 68, 69, 70, 71] (by decide +kernel) (by decide +kernel)
set_option maxRecDepth 20000 in
theorem gX5_type_X5_keepType : GoodIn wsX5_type (wsV RX5 116 RX5 yX5_keepType wsX5_keepType) := goodIn_app (goodIn_of _ (by decide +kernel)) ggX5_type_X5_keepType
set_option maxRecDepth 20000 in
theorem ggX5_type_X5_cut : GoodIn wsX5_type wsX5_cut := goodIn_r _ [41, 5, 15, 16, 17, 18, 19, 22, 23, 9, 24, 42, 43, 44, 45, 46, 47, 48, 49, 50, 51, 52, 53, 54, 55, 56, 57, 58, 59, 60, 61, 62, 63, 64, 65, 66, 67, 68, 69, 70, 71] (by decide +kernel) (by decide +kernel)
set_option maxRecDepth 20000 in
theorem gX5_type_X5_cut : GoodIn wsX5_type (wsV RX5 120 RX5 yX5_cut wsX5_cut) := goodIn_app (goodIn_of _ (by decide +kernel)) ggX5_type_X5_cut
theorem dX5_type_0 : decode cX5_type 0 = .ok (.aload_n 0, 1) := by decide +kernel
theorem dX5_type_1 : decode cX5_type 1 = .ok (.iload_n 1, 1) := by decide +kernel
theorem dX5_type_2 : decode cX5_type 2 = .ok (.aload_n 0, 1) := by decide +kernel
theorem dX5_type_3 : decode cX5_type 3 = .ok (.getfield 7, 3) := by decide +kernel
theorem dX5_type_6 : decode cX5_type 6 = .ok (.invokestatic 88, 3) := by decide +kernel
theorem dX5_type_9 : decode cX5_type 9 = .ok (.ifCond .eq 7, 3) := by decide +kernel
theorem dX5_type_12 : decode cX5_type 12 = .ok (.iconst 1, 1) := by decide +kernel
theorem dX5_type_13 : decode cX5_type 13 = .ok (.goto 49, 3) := by decide +kernel
theorem dX5_type_16 : decode cX5_type 16 = .ok (.aload_n 0, 1) := by decide +kernel
theorem dX5_type_17 : decode cX5_type 17 = .ok (.getfield 13, 3) := by decide +kernel
theorem dX5_type_20 : decode cX5_type 20 = .ok (.iload_n 1, 1) := by decide +kernel
theorem dX5_type_21 : decode cX5_type 21 = .ok (.iaload, 1) := by decide +kernel
theorem dX5_type_22 : decode cX5_type 22 = .ok (.ifCond .le 14, 3) := by decide +kernel
theorem dX5_type_25 : decode cX5_type 25 = .ok (.iload_n 2, 1) := by decide +kernel
theorem dX5_type_26 : decode cX5_type 26 = .ok (.aload_n 0, 1) := by decide +kernel
theorem dX5_type_27 : decode cX5_type 27 = .ok (.getfield 110, 3) := by decide +kernel
theorem dX5_type_30 : decode cX5_type 30 = .ok (.invokestatic 88, 3) := by decide +kernel
theorem dX5_type_33 : decode cX5_type 33 = .ok (.ifCond .ne 24, 3) := by decide +kernel
theorem dX5_type_36 : decode cX5_type 36 = .ok (.aload_n 0, 1) := by decide +kernel
theorem dX5_type_37 : decode cX5_type 37 = .ok (.getfield 13, 3) := by decide +kernel
theorem dX5_type_40 : decode cX5_type 40 = .ok (.iload_n 1, 1) := by decide +kernel
theorem dX5_type_41 : decode cX5_type 41 = .ok (.iaload, 1) := by decide +kernel
theorem dX5_type_42 : decode cX5_type 42 = .ok (.iconst 1, 1) := by decide +kernel
theorem dX5_type_43 : decode cX5_type 43 = .ok (.if_icmp .le 18, 3) := by decide +kernel
theorem dX5_type_46 : decode cX5_type 46 = .ok (.iload_n 3, 1) := by decide +kernel
theorem dX5_type_47 : decode cX5_type 47 = .ok (.aload_n 0, 1) := by decide +kernel
theorem dX5_type_48 : decode cX5_type 48 = .ok (.getfield 110, 3) := by decide +kernel
theorem dX5_type_51 : decode cX5_type 51 = .ok (.invokestatic 88, 3) := by decide +kernel
theorem dX5_type_54 : decode cX5_type 54 = .ok (.ifCond .eq 7, 3) := by decide +kernel
theorem dX5_type_57 : decode cX5_type 57 = .ok (.iconst 2, 1) := by decide +kernel
theorem dX5_type_58 : decode cX5_type 58 = .ok (.goto 4, 3) := by decide +kernel
theorem dX5_type_61 : decode cX5_type 61 = .ok (.iconst 0, 1) := by decide +kernel
theorem dX5_type_62 : decode cX5_type 62 = .ok (.putfield 85, 3) := by decide +kernel
theorem dX5_type_65 : decode cX5_type 65 = .ok (.aload_n 0, 1) := by decide +kernel
theorem dX5_type_66 : decode cX5_type 66 = .ok (.getfield 85, 3) := by decide +kernel
theorem dX5_type_69 : decode cX5_type 69 = .ok (.ifCond .le 5, 3) := by decide +kernel
theorem dX5_type_72 : decode cX5_type 72 = .ok (.iconst 0, 1) := by decide +kernel
theorem dX5_type_73 : decode cX5_type 73 = .ok (.ireturn, 1) := by decide +kernel
theorem dX5_type_74 : decode cX5_type 74 = .ok (.aload_n 0, 1) := by decide +kernel
theorem dX5_type_75 : decode cX5_type 75 = .ok (.getfield 96, 3) := by decide +kernel
theorem dX5_type_78 : decode cX5_type 78 = .ok (.istore 4, 2) := by decide +kernel
theorem dX5_type_80 : decode cX5_type 80 = .ok (.aload_n 0, 1) := by decide +kernel
theorem dX5_type_81 : decode cX5_type 81 = .ok (.aload_n 0, 1) := by decide +kernel
theorem dX5_type_82 : decode cX5_type 82 = .ok (.iload_n 1, 1) := by decide +kernel
theorem dX5_type_83 : decode cX5_type 83 = .ok (.aload_n 0, 1) := by decide +kernel
theorem dX5_type_84 : decode cX5_type 84 = .ok (.getfield 13, 3) := by decide +kernel
theorem dX5_type_87 : decode cX5_type 87 = .ok (.iload_n 1, 1) := by decide +kernel
theorem dX5_type_88 : decode cX5_type 88 = .ok (.iaload, 1) := by decide +kernel
theorem dX5_type_89 : decode cX5_type 89 = .ok (.ifCond .le 12, 3) := by decide +kernel
theorem dX5_type_92 : decode cX5_type 92 = .ok (.aload_n 0, 1) := by decide +kernel
theorem dX5_type_93 : decode cX5_type 93 = .ok (.getfield 41, 3) := by decide +kernel
theorem dX5_type_96 : decode cX5_type 96 = .ok (.iload_n 2, 1) := by decide +kernel
theorem dX5_type_97 : decode cX5_type 97 = .ok (.iaload, 1) := by decide +kernel
theorem dX5_type_98 : decode cX5_type 98 = .ok (.goto 4, 3) := by decide +kernel
theorem dX5_type_101 : decode cX5_type 101 = .ok (.iconst (-1), 1) := by decide +kernel
theorem dX5_type_102 : decode cX5_type 102 = .ok (.aload_n 0, 1) := by decide +kernel
theorem dX5_type_103 : decode cX5_type 103 = .ok (.getfield 13, 3) := by decide +kernel
theorem dX5_type_106 : decode cX5_type 106 = .ok (.iload_n 1, 1) := by decide +kernel
theorem dX5_type_107 : decode cX5_type 107 = .ok (.iaload, 1) := by decide +kernel
theorem dX5_type_108 : decode cX5_type 108 = .ok (.iconst 1, 1) := by decide +kernel
theorem dX5_type_109 : decode cX5_type 109 = .ok (.if_icmp .le 12, 3) := by decide +kernel
theorem dX5_type_112 : decode cX5_type 112 = .ok (.aload_n 0, 1) := by decide +kernel
theorem dX5_type_113 : decode cX5_type 113 = .ok (.getfield 41, 3) := by decide +kernel
theorem dX5_type_116 : decode cX5_type 116 = .ok (.iload_n 3, 1) := by decide +kernel
theorem dX5_type_117 : decode cX5_type 117 = .ok (.iaload, 1) := by decide +kernel
theorem dX5_type_118 : decode cX5_type 118 = .ok (.goto 4, 3) := by decide +kernel
theorem dX5_type_121 : decode cX5_type 121 = .ok (.iconst (-1), 1) := by decide +kernel
theorem dX5_type_122 : decode cX5_type 122 = .ok (.invokevirtual 113, 3) := by decide +kernel
theorem dX5_type_125 : decode cX5_type 125 = .ok (.iconst 3, 1) := by decide +kernel
theorem dX5_type_126 : decode cX5_type 126 = .ok (.invokevirtual 116, 3) := by decide +kernel
theorem dX5_type_129 : decode cX5_type 129 = .ok (.istore 5, 2) := by decide +kernel
theorem dX5_type_131 : decode cX5_type 131 = .ok (.aload_n 0, 1) := by decide +kernel
theorem dX5_type_132 : decode cX5_type 132 = .ok (.getfield 85, 3) := by decide +kernel
theorem dX5_type_135 : decode cX5_type 135 = .ok (.ifCond .le 9, 3) := by decide +kernel
theorem dX5_type_138 : decode cX5_type 138 = .ok (.aload_n 0, 1) := by decide +kernel
theorem dX5_type_139 : decode cX5_type 139 = .ok (.iload 4, 2) := by decide +kernel
theorem dX5_type_141 : decode cX5_type 141 = .ok (.invokevirtual 120, 3) := by decide +kernel
theorem dX5_type_144 : decode cX5_type 144 = .ok (.iload 5, 2) := by decide +kernel
theorem dX5_type_146 : decode cX5_type 146 = .ok (.ireturn, 1) := by decide +kernel
set_option maxRecDepth 20000 in
theorem ggX5_typeSymbol_X5_outside : GoodIn wsX5_typeSymbol wsX5_outside := goodIn_r _ [11] (by decide +kernel) (by decide +kernel)
set_option maxRecDepth 20000 in
theorem gX5_typeSymbol_X5_outside : GoodIn wsX5_typeSymbol (va_wsS RX5 88 yX5_outside wsX5_outside) := goodIn_app (goodIn_of _ (by decide +kernel)) ggX5_typeSymbol_X5_outside
theorem dX5_typeSymbol_0 : decode cX5_typeSymbol 0 = .ok (.aload_n 0, 1) := by decide +kernel
theorem dX5_typeSymbol_1 : decode cX5_typeSymbol 1 = .ok (.iload_n 1, 1) := by decide +kernel
theorem dX5_typeSymbol_2 : decode cX5_typeSymbol 2 = .ok (.aload_n 0, 1) := by decide +kernel
theorem dX5_typeSymbol_3 : decode cX5_typeSymbol 3 = .ok (.getfield 110, 3) := by decide +kernel
theorem dX5_typeSymbol_6 : decode cX5_typeSymbol 6 = .ok (.invokestatic 88, 3) := by decide +kernel
theorem dX5_typeSymbol_9 : decode cX5_typeSymbol 9 = .ok (.ifCond .ne 21, 3) := by decide +kernel
theorem dX5_typeSymbol_12 : decode cX5_typeSymbol 12 = .ok (.iload_n 2, 1) := by decide +kernel
theorem dX5_typeSymbol_13 : decode cX5_typeSymbol 13 = .ok (.aload_n 0, 1) := by decide +kernel
theorem dX5_typeSymbol_14 : decode cX5_typeSymbol 14 = .ok (.getfield 29, 3) := by decide +kernel
theorem dX5_typeSymbol_17 : decode cX5_typeSymbol 17 = .ok (.aload_n 0, 1) := by decide +kernel
theorem dX5_typeSymbol_18 : decode cX5_typeSymbol 18 = .ok (.getfield 41, 3) := by decide +kernel
theorem dX5_typeSymbol_21 : decode cX5_typeSymbol 21 = .ok (.iload_n 1, 1) := by decide +kernel
theorem dX5_typeSymbol_22 : decode cX5_typeSymbol 22 = .ok (.iaload, 1) := by decide +kernel
theorem dX5_typeSymbol_23 : decode cX5_typeSymbol 23 = .ok (.iaload, 1) := by decide +kernel
theorem dX5_typeSymbol_24 : decode cX5_typeSymbol 24 = .ok (.invokestatic 88, 3) := by decide +kernel
theorem dX5_typeSymbol_27 : decode cX5_typeSymbol 27 = .ok (.ifCond .eq 7, 3) := by decide +kernel
theorem dX5_typeSymbol_30 : decode cX5_typeSymbol 30 = .ok (.iconst 1, 1) := by decide +kernel
theorem dX5_typeSymbol_31 : decode cX5_typeSymbol 31 = .ok (.goto 4, 3) := by decide +kernel
theorem dX5_typeSymbol_34 : decode cX5_typeSymbol 34 = .ok (.iconst 0, 1) := by decide +kernel
theorem dX5_typeSymbol_35 : decode cX5_typeSymbol 35 = .ok (.putfield 85, 3) := by decide +kernel
theorem dX5_typeSymbol_38 : decode cX5_typeSymbol 38 = .ok (.aload_n 0, 1) := by decide +kernel
theorem dX5_typeSymbol_39 : decode cX5_typeSymbol 39 = .ok (.getfield 85, 3) := by decide +kernel
theorem dX5_typeSymbol_42 : decode cX5_typeSymbol 42 = .ok (.ifCond .le 5, 3) := by decide +kernel
theorem dX5_typeSymbol_45 : decode cX5_typeSymbol 45 = .ok (.iconst 0, 1) := by decide +kernel
theorem dX5_typeSymbol_46 : decode cX5_typeSymbol 46 = .ok (.ireturn, 1) := by decide +kernel
theorem dX5_typeSymbol_47 : decode cX5_typeSymbol 47 = .ok (.aload_n 0, 1) := by decide +kernel
theorem dX5_typeSymbol_48 : decode cX5_typeSymbol 48 = .ok (.getfield 41, 3) := by decide +kernel
theorem dX5_typeSymbol_51 : decode cX5_typeSymbol 51 = .ok (.iload_n 1, 1) := by decide +kernel
theorem dX5_typeSymbol_52 : decode cX5_typeSymbol 52 = .ok (.iaload, 1) := by decide +kernel
theorem dX5_typeSymbol_53 : decode cX5_typeSymbol 53 = .ok (.istore_n 3, 1) := by decide +kernel
theorem dX5_typeSymbol_54 : decode cX5_typeSymbol 54 = .ok (.iload_n 2, 1) := by decide +kernel
theorem dX5_typeSymbol_55 : decode cX5_typeSymbol 55 = .ok (.istore 4, 2) := by decide +kernel
theorem dX5_typeSymbol_57 : decode cX5_typeSymbol 57 = .ok (.iload 4, 2) := by decide +kernel
theorem dX5_typeSymbol_59 : decode cX5_typeSymbol 59 = .ok (.ifCond .le 78, 3) := by decide +kernel
theorem dX5_typeSymbol_62 : decode cX5_typeSymbol 62 = .ok (.iinc 4 (-1), 3) := by decide +kernel
theorem dX5_typeSymbol_65 : decode cX5_typeSymbol 65 = .ok (.iload 4, 2) := by decide +kernel
theorem dX5_typeSymbol_67 : decode cX5_typeSymbol 67 = .ok (.aload_n 0, 1) := by decide +kernel
theorem dX5_typeSymbol_68 : decode cX5_typeSymbol 68 = .ok (.getfield 29, 3) := by decide +kernel
theorem dX5_typeSymbol_71 : decode cX5_typeSymbol 71 = .ok (.aload_n 0, 1) := by decide +kernel
theorem dX5_typeSymbol_72 : decode cX5_typeSymbol 72 = .ok (.getfield 23, 3) := by decide +kernel
theorem dX5_typeSymbol_75 : decode cX5_typeSymbol 75 = .ok (.iload_n 3, 1) := by decide +kernel
theorem dX5_typeSymbol_76 : decode cX5_typeSymbol 76 = .ok (.iaload, 1) := by decide +kernel
theorem dX5_typeSymbol_77 : decode cX5_typeSymbol 77 = .ok (.iaload, 1) := by decide +kernel
theorem dX5_typeSymbol_78 : decode cX5_typeSymbol 78 = .ok (.if_icmp .ge 7, 3) := by decide +kernel
theorem dX5_typeSymbol_81 : decode cX5_typeSymbol 81 = .ok (.iconst 1, 1) := by decide +kernel
theorem dX5_typeSymbol_82 : decode cX5_typeSymbol 82 = .ok (.goto 4, 3) := by decide +kernel
theorem dX5_typeSymbol_85 : decode cX5_typeSymbol 85 = .ok (.iconst 0, 1) := by decide +kernel
theorem dX5_typeSymbol_86 : decode cX5_typeSymbol 86 = .ok (.istore 5, 2) := by decide +kernel
theorem dX5_typeSymbol_88 : decode cX5_typeSymbol 88 = .ok (.iload 4, 2) := by decide +kernel
theorem dX5_typeSymbol_90 : decode cX5_typeSymbol 90 = .ok (.iload 5, 2) := by decide +kernel
theorem dX5_typeSymbol_92 : decode cX5_typeSymbol 92 = .ok (.ifCond .eq 7, 3) := by decide +kernel
theorem dX5_typeSymbol_95 : decode cX5_typeSymbol 95 = .ok (.iconst 0, 1) := by decide +kernel
theorem dX5_typeSymbol_96 : decode cX5_typeSymbol 96 = .ok (.goto 14, 3) := by decide +kernel
theorem dX5_typeSymbol_99 : decode cX5_typeSymbol 99 = .ok (.aload_n 0, 1) := by decide +kernel
theorem dX5_typeSymbol_100 : decode cX5_typeSymbol 100 = .ok (.getfield 29, 3) := by decide +kernel
theorem dX5_typeSymbol_103 : decode cX5_typeSymbol 103 = .ok (.aload_n 0, 1) := by decide +kernel
theorem dX5_typeSymbol_104 : decode cX5_typeSymbol 104 = .ok (.getfield 23, 3) := by decide +kernel
theorem dX5_typeSymbol_107 : decode cX5_typeSymbol 107 = .ok (.iload_n 3, 1) := by decide +kernel
theorem dX5_typeSymbol_108 : decode cX5_typeSymbol 108 = .ok (.iaload, 1) := by decide +kernel
theorem dX5_typeSymbol_109 : decode cX5_typeSymbol 109 = .ok (.iaload, 1) := by decide +kernel
theorem dX5_typeSymbol_110 : decode cX5_typeSymbol 110 = .ok (.isub, 1) := by decide +kernel
theorem dX5_typeSymbol_111 : decode cX5_typeSymbol 111 = .ok (.istore 4, 2) := by decide +kernel
theorem dX5_typeSymbol_113 : decode cX5_typeSymbol 113 = .ok (.iload 5, 2) := by decide +kernel
theorem dX5_typeSymbol_115 : decode cX5_typeSymbol 115 = .ok (.ifCond .eq 12, 3) := by decide +kernel
theorem dX5_typeSymbol_118 : decode cX5_typeSymbol 118 = .ok (.aload_n 0, 1) := by decide +kernel
theorem dX5_typeSymbol_119 : decode cX5_typeSymbol 119 = .ok (.getfield 23, 3) := by decide +kernel
theorem dX5_typeSymbol_122 : decode cX5_typeSymbol 122 = .ok (.iload_n 3, 1) := by decide +kernel
theorem dX5_typeSymbol_123 : decode cX5_typeSymbol 123 = .ok (.iaload, 1) := by decide +kernel
theorem dX5_typeSymbol_124 : decode cX5_typeSymbol 124 = .ok (.goto 9, 3) := by decide +kernel
theorem dX5_typeSymbol_127 : decode cX5_typeSymbol 127 = .ok (.aload_n 0, 1) := by decide +kernel
theorem dX5_typeSymbol_128 : decode cX5_typeSymbol 128 = .ok (.getfield 26, 3) := by decide +kernel
theorem dX5_typeSymbol_131 : decode cX5_typeSymbol 131 = .ok (.iload_n 3, 1) := by decide +kernel
theorem dX5_typeSymbol_132 : decode cX5_typeSymbol 132 = .ok (.iaload, 1) := by decide +kernel
theorem dX5_typeSymbol_133 : decode cX5_typeSymbol 133 = .ok (.istore_n 3, 1) := by decide +kernel
theorem dX5_typeSymbol_134 : decode cX5_typeSymbol 134 = .ok (.goto (-77), 3) := by decide +kernel
theorem dX5_typeSymbol_137 : decode cX5_typeSymbol 137 = .ok (.aload_n 0, 1) := by decide +kernel
theorem dX5_typeSymbol_138 : decode cX5_typeSymbol 138 = .ok (.getfield 20, 3) := by decide +kernel
theorem dX5_typeSymbol_141 : decode cX5_typeSymbol 141 = .ok (.iload_n 3, 1) := by decide +kernel
theorem dX5_typeSymbol_142 : decode cX5_typeSymbol 142 = .ok (.iaload, 1) := by decide +kernel
theorem dX5_typeSymbol_143 : decode cX5_typeSymbol 143 = .ok (.ireturn, 1) := by decide +kernel
theorem dX5_areSameTypes_0 : decode cX5_areSameTypes 0 = .ok (.iload_n 0, 1) := by decide +kernel
theorem dX5_areSameTypes_1 : decode cX5_areSameTypes 1 = .ok (.iload_n 1, 1) := by decide +kernel
theorem dX5_areSameTypes_2 : decode cX5_areSameTypes 2 = .ok (.if_icmp .ne 7, 3) := by decide +kernel
theorem dX5_areSameTypes_5 : decode cX5_areSameTypes 5 = .ok (.iconst 1, 1) := by decide +kernel
theorem dX5_areSameTypes_6 : decode cX5_areSameTypes 6 = .ok (.goto 4, 3) := by decide +kernel
theorem dX5_areSameTypes_9 : decode cX5_areSameTypes 9 = .ok (.iconst 0, 1) := by decide +kernel
theorem dX5_areSameTypes_10 : decode cX5_areSameTypes 10 = .ok (.ireturn, 1) := by decide +kernel
theorem dX5_freeTypes_0 : decode cX5_freeTypes 0 = .ok (.iconst 0, 1) := by decide +kernel
theorem dX5_freeTypes_1 : decode cX5_freeTypes 1 = .ok (.istore_n 1, 1) := by decide +kernel
theorem dX5_freeTypes_2 : decode cX5_freeTypes 2 = .ok (.iload_n 1, 1) := by decide +kernel
theorem dX5_freeTypes_3 : decode cX5_freeTypes 3 = .ok (.sipush 1000, 3) := by decide +kernel
theorem dX5_freeTypes_6 : decode cX5_freeTypes 6 = .ok (.if_icmp .ge 16, 3) := by decide +kernel
theorem dX5_freeTypes_9 : decode cX5_freeTypes 9 = .ok (.aload_n 0, 1) := by decide +kernel
theorem dX5_freeTypes_10 : decode cX5_freeTypes 10 = .ok (.getfield 70, 3) := by decide +kernel
theorem dX5_freeTypes_13 : decode cX5_freeTypes 13 = .ok (.iload_n 1, 1) := by decide +kernel
theorem dX5_freeTypes_14 : decode cX5_freeTypes 14 = .ok (.iconst (-1), 1) := by decide +kernel
theorem dX5_freeTypes_15 : decode cX5_freeTypes 15 = .ok (.iastore, 1) := by decide +kernel
theorem dX5_freeTypes_16 : decode cX5_freeTypes 16 = .ok (.iinc 1 1, 3) := by decide +kernel
theorem dX5_freeTypes_19 : decode cX5_freeTypes 19 = .ok (.goto (-17), 3) := by decide +kernel
theorem dX5_freeTypes_22 : decode cX5_freeTypes 22 = .ok (.return_, 1) := by decide +kernel
theorem dX5_fits_0 : decode cX5_fits 0 = .ok (.aload_n 0, 1) := by decide +kernel
theorem dX5_fits_1 : decode cX5_fits 1 = .ok (.getfield 61, 3) := by decide +kernel
theorem dX5_fits_4 : decode cX5_fits 4 = .ok (.iconst 0, 1) := by decide +kernel
theorem dX5_fits_5 : decode cX5_fits 5 = .ok (.iload_n 1, 1) := by decide +kernel
theorem dX5_fits_6 : decode cX5_fits 6 = .ok (.iastore, 1) := by decide +kernel
theorem dX5_fits_7 : decode cX5_fits 7 = .ok (.aload_n 0, 1) := by decide +kernel
theorem dX5_fits_8 : decode cX5_fits 8 = .ok (.getfield 64, 3) := by decide +kernel
theorem dX5_fits_11 : decode cX5_fits 11 = .ok (.iconst 0, 1) := by decide +kernel
theorem dX5_fits_12 : decode cX5_fits 12 = .ok (.iload_n 2, 1) := by decide +kernel
theorem dX5_fits_13 : decode cX5_fits 13 = .ok (.iastore, 1) := by decide +kernel
theorem dX5_fits_14 : decode cX5_fits 14 = .ok (.iconst 1, 1) := by decide +kernel
theorem dX5_fits_15 : decode cX5_fits 15 = .ok (.istore_n 3, 1) := by decide +kernel
theorem dX5_fits_16 : decode cX5_fits 16 = .ok (.iload_n 3, 1) := by decide +kernel
theorem dX5_fits_17 : decode cX5_fits 17 = .ok (.ifCond .le 179, 3) := by decide +kernel
theorem dX5_fits_20 : decode cX5_fits 20 = .ok (.iinc 3 (-1), 3) := by decide +kernel
theorem dX5_fits_23 : decode cX5_fits 23 = .ok (.aload_n 0, 1) := by decide +kernel
theorem dX5_fits_24 : decode cX5_fits 24 = .ok (.getfield 61, 3) := by decide +kernel
theorem dX5_fits_27 : decode cX5_fits 27 = .ok (.iload_n 3, 1) := by decide +kernel
theorem dX5_fits_28 : decode cX5_fits 28 = .ok (.iaload, 1) := by decide +kernel
theorem dX5_fits_29 : decode cX5_fits 29 = .ok (.istore 4, 2) := by decide +kernel
theorem dX5_fits_31 : decode cX5_fits 31 = .ok (.aload_n 0, 1) := by decide +kernel
theorem dX5_fits_32 : decode cX5_fits 32 = .ok (.getfield 64, 3) := by decide +kernel
theorem dX5_fits_35 : decode cX5_fits 35 = .ok (.iload_n 3, 1) := by decide +kernel
theorem dX5_fits_36 : decode cX5_fits 36 = .ok (.iaload, 1) := by decide +kernel
theorem dX5_fits_37 : decode cX5_fits 37 = .ok (.istore 5, 2) := by decide +kernel
theorem dX5_fits_39 : decode cX5_fits 39 = .ok (.aload_n 0, 1) := by decide +kernel
theorem dX5_fits_40 : decode cX5_fits 40 = .ok (.getfield 20, 3) := by decide +kernel
theorem dX5_fits_43 : decode cX5_fits 43 = .ok (.iload 4, 2) := by decide +kernel
theorem dX5_fits_45 : decode cX5_fits 45 = .ok (.iaload, 1) := by decide +kernel
theorem dX5_fits_46 : decode cX5_fits 46 = .ok (.ifCond .ge 48, 3) := by decide +kernel
theorem dX5_fits_49 : decode cX5_fits 49 = .ok (.iconst (-1), 1) := by decide +kernel
theorem dX5_fits_50 : decode cX5_fits 50 = .ok (.aload_n 0, 1) := by decide +kernel
theorem dX5_fits_51 : decode cX5_fits 51 = .ok (.getfield 20, 3) := by decide +kernel
theorem dX5_fits_54 : decode cX5_fits 54 = .ok (.iload 4, 2) := by decide +kernel
theorem dX5_fits_56 : decode cX5_fits 56 = .ok (.iaload, 1) := by decide +kernel
theorem dX5_fits_57 : decode cX5_fits 57 = .ok (.isub, 1) := by decide +kernel
theorem dX5_fits_58 : decode cX5_fits 58 = .ok (.istore 6, 2) := by decide +kernel
theorem dX5_fits_60 : decode cX5_fits 60 = .ok (.aload_n 0, 1) := by decide +kernel
theorem dX5_fits_61 : decode cX5_fits 61 = .ok (.getfield 70, 3) := by decide +kernel
theorem dX5_fits_64 : decode cX5_fits 64 = .ok (.iload 6, 2) := by decide +kernel
theorem dX5_fits_66 : decode cX5_fits 66 = .ok (.iaload, 1) := by decide +kernel
theorem dX5_fits_67 : decode cX5_fits 67 = .ok (.iconst (-1), 1) := by decide +kernel
theorem dX5_fits_68 : decode cX5_fits 68 = .ok (.if_icmp .ne 12, 3) := by decide +kernel
theorem dX5_fits_71 : decode cX5_fits 71 = .ok (.aload_n 0, 1) := by decide +kernel
theorem dX5_fits_72 : decode cX5_fits 72 = .ok (.getfield 70, 3) := by decide +kernel
theorem dX5_fits_75 : decode cX5_fits 75 = .ok (.iload 6, 2) := by decide +kernel
theorem dX5_fits_77 : decode cX5_fits 77 = .ok (.iload 5, 2) := by decide +kernel
theorem dX5_fits_79 : decode cX5_fits 79 = .ok (.iastore, 1) := by decide +kernel
theorem dX5_fits_80 : decode cX5_fits 80 = .ok (.aload_n 0, 1) := by decide +kernel
theorem dX5_fits_81 : decode cX5_fits 81 = .ok (.getfield 70, 3) := by decide +kernel
theorem dX5_fits_84 : decode cX5_fits 84 = .ok (.iload 6, 2) := by decide +kernel
theorem dX5_fits_86 : decode cX5_fits 86 = .ok (.iaload, 1) := by decide +kernel
theorem dX5_fits_87 : decode cX5_fits 87 = .ok (.iload 5, 2) := by decide +kernel
theorem dX5_fits_89 : decode cX5_fits 89 = .ok (.if_icmp .eq (-73), 3) := by decide +kernel
theorem dX5_fits_92 : decode cX5_fits 92 = .ok (.iconst 0, 1) := by decide +kernel
theorem dX5_fits_93 : decode cX5_fits 93 = .ok (.ireturn, 1) := by decide +kernel
theorem dX5_fits_94 : decode cX5_fits 94 = .ok (.aload_n 0, 1) := by decide +kernel
theorem dX5_fits_95 : decode cX5_fits 95 = .ok (.getfield 20, 3) := by decide +kernel
theorem dX5_fits_98 : decode cX5_fits 98 = .ok (.iload 4, 2) := by decide +kernel
theorem dX5_fits_100 : decode cX5_fits 100 = .ok (.iaload, 1) := by decide +kernel
theorem dX5_fits_101 : decode cX5_fits 101 = .ok (.aload_n 0, 1) := by decide +kernel
theorem dX5_fits_102 : decode cX5_fits 102 = .ok (.getfield 20, 3) := by decide +kernel
theorem dX5_fits_105 : decode cX5_fits 105 = .ok (.iload 5, 2) := by decide +kernel
theorem dX5_fits_107 : decode cX5_fits 107 = .ok (.iaload, 1) := by decide +kernel
theorem dX5_fits_108 : decode cX5_fits 108 = .ok (.if_icmp .eq 5, 3) := by decide +kernel
theorem dX5_fits_111 : decode cX5_fits 111 = .ok (.iconst 0, 1) := by decide +kernel
theorem dX5_fits_112 : decode cX5_fits 112 = .ok (.ireturn, 1) := by decide +kernel
theorem dX5_fits_113 : decode cX5_fits 113 = .ok (.aload_n 0, 1) := by decide +kernel
theorem dX5_fits_114 : decode cX5_fits 114 = .ok (.getfield 26, 3) := by decide +kernel
theorem dX5_fits_117 : decode cX5_fits 117 = .ok (.iload 4, 2) := by decide +kernel
theorem dX5_fits_119 : decode cX5_fits 119 = .ok (.iaload, 1) := by decide +kernel
theorem dX5_fits_120 : decode cX5_fits 120 = .ok (.iconst (-1), 1) := by decide +kernel
theorem dX5_fits_121 : decode cX5_fits 121 = .ok (.if_icmp .eq 32, 3) := by decide +kernel
theorem dX5_fits_124 : decode cX5_fits 124 = .ok (.aload_n 0, 1) := by decide +kernel
theorem dX5_fits_125 : decode cX5_fits 125 = .ok (.getfield 61, 3) := by decide +kernel
theorem dX5_fits_128 : decode cX5_fits 128 = .ok (.iload_n 3, 1) := by decide +kernel
theorem dX5_fits_129 : decode cX5_fits 129 = .ok (.aload_n 0, 1) := by decide +kernel
theorem dX5_fits_130 : decode cX5_fits 130 = .ok (.getfield 26, 3) := by decide +kernel
theorem dX5_fits_133 : decode cX5_fits 133 = .ok (.iload 4, 2) := by decide +kernel
theorem dX5_fits_135 : decode cX5_fits 135 = .ok (.iaload, 1) := by decide +kernel
theorem dX5_fits_136 : decode cX5_fits 136 = .ok (.iastore, 1) := by decide +kernel
theorem dX5_fits_137 : decode cX5_fits 137 = .ok (.aload_n 0, 1) := by decide +kernel
theorem dX5_fits_138 : decode cX5_fits 138 = .ok (.getfield 64, 3) := by decide +kernel
theorem dX5_fits_141 : decode cX5_fits 141 = .ok (.iload_n 3, 1) := by decide +kernel
theorem dX5_fits_142 : decode cX5_fits 142 = .ok (.aload_n 0, 1) := by decide +kernel
theorem dX5_fits_143 : decode cX5_fits 143 = .ok (.getfield 26, 3) := by decide +kernel
theorem dX5_fits_146 : decode cX5_fits 146 = .ok (.iload 5, 2) := by decide +kernel
theorem dX5_fits_148 : decode cX5_fits 148 = .ok (.iaload, 1) := by decide +kernel
theorem dX5_fits_149 : decode cX5_fits 149 = .ok (.iastore, 1) := by decide +kernel
theorem dX5_fits_150 : decode cX5_fits 150 = .ok (.iinc 3 1, 3) := by decide +kernel
theorem dX5_fits_153 : decode cX5_fits 153 = .ok (.aload_n 0, 1) := by decide +kernel
theorem dX5_fits_154 : decode cX5_fits 154 = .ok (.getfield 23, 3) := by decide +kernel
theorem dX5_fits_157 : decode cX5_fits 157 = .ok (.iload 4, 2) := by decide +kernel
theorem dX5_fits_159 : decode cX5_fits 159 = .ok (.iaload, 1) := by decide +kernel
theorem dX5_fits_160 : decode cX5_fits 160 = .ok (.iconst (-1), 1) := by decide +kernel
theorem dX5_fits_161 : decode cX5_fits 161 = .ok (.if_icmp .eq 32, 3) := by decide +kernel
theorem dX5_fits_164 : decode cX5_fits 164 = .ok (.aload_n 0, 1) := by decide +kernel
theorem dX5_fits_165 : decode cX5_fits 165 = .ok (.getfield 61, 3) := by decide +kernel
theorem dX5_fits_168 : decode cX5_fits 168 = .ok (.iload_n 3, 1) := by decide +kernel
theorem dX5_fits_169 : decode cX5_fits 169 = .ok (.aload_n 0, 1) := by decide +kernel
theorem dX5_fits_170 : decode cX5_fits 170 = .ok (.getfield 23, 3) := by decide +kernel
theorem dX5_fits_173 : decode cX5_fits 173 = .ok (.iload 4, 2) := by decide +kernel
theorem dX5_fits_175 : decode cX5_fits 175 = .ok (.iaload, 1) := by decide +kernel
theorem dX5_fits_176 : decode cX5_fits 176 = .ok (.iastore, 1) := by decide +kernel
theorem dX5_fits_177 : decode cX5_fits 177 = .ok (.aload_n 0, 1) := by decide +kernel
theorem dX5_fits_178 : decode cX5_fits 178 = .ok (.getfield 64, 3) := by decide +kernel
theorem dX5_fits_181 : decode cX5_fits 181 = .ok (.iload_n 3, 1) := by decide +kernel
theorem dX5_fits_182 : decode cX5_fits 182 = .ok (.aload_n 0, 1) := by decide +kernel
theorem dX5_fits_183 : decode cX5_fits 183 = .ok (.getfield 23, 3) := by decide +kernel
theorem dX5_fits_186 : decode cX5_fits 186 = .ok (.iload 5, 2) := by decide +kernel
theorem dX5_fits_188 : decode cX5_fits 188 = .ok (.iaload, 1) := by decide +kernel
theorem dX5_fits_189 : decode cX5_fits 189 = .ok (.iastore, 1) := by decide +kernel
theorem dX5_fits_190 : decode cX5_fits 190 = .ok (.iinc 3 1, 3) := by decide +kernel
theorem dX5_fits_193 : decode cX5_fits 193 = .ok (.goto (-177), 3) := by decide +kernel
theorem dX5_fits_196 : decode cX5_fits 196 = .ok (.iconst 1, 1) := by decide +kernel
theorem dX5_fits_197 : decode cX5_fits 197 = .ok (.ireturn, 1) := by decide +kernel
set_option maxRecDepth 20000 in
theorem ggX5_declare_X5_outside : GoodIn wsX5_declare wsX5_outside := goodIn_r _ [9] (by decide +kernel) (by decide +kernel)
set_option maxRecDepth 20000 in
theorem gX5_declare_X5_outside : GoodIn wsX5_declare (va_wsS RX5 88 yX5_outside wsX5_outside) := goodIn_app (goodIn_of _ (by decide +kernel)) ggX5_declare_X5_outside
theorem dX5_declare_0 : decode cX5_declare 0 = .ok (.aload_n 0, 1) := by decide +kernel
theorem dX5_declare_1 : decode cX5_declare 1 = .ok (.iload_n 1, 1) := by decide +kernel
theorem dX5_declare_2 : decode cX5_declare 2 = .ok (.aload_n 0, 1) := by decide +kernel
theorem dX5_declare_3 : decode cX5_declare 3 = .ok (.getfield 110, 3) := by decide +kernel
theorem dX5_declare_6 : decode cX5_declare 6 = .ok (.invokestatic 88, 3) := by decide +kernel
theorem dX5_declare_9 : decode cX5_declare 9 = .ok (.ifCond .eq 7, 3) := by decide +kernel
theorem dX5_declare_12 : decode cX5_declare 12 = .ok (.iconst 1, 1) := by decide +kernel
theorem dX5_declare_13 : decode cX5_declare 13 = .ok (.goto 18, 3) := by decide +kernel
theorem dX5_declare_16 : decode cX5_declare 16 = .ok (.aload_n 0, 1) := by decide +kernel
theorem dX5_declare_17 : decode cX5_declare 17 = .ok (.getfield 124, 3) := by decide +kernel
theorem dX5_declare_20 : decode cX5_declare 20 = .ok (.sipush 200, 3) := by decide +kernel
theorem dX5_declare_23 : decode cX5_declare 23 = .ok (.if_icmp .ne 7, 3) := by decide +kernel
theorem dX5_declare_26 : decode cX5_declare 26 = .ok (.iconst 2, 1) := by decide +kernel
theorem dX5_declare_27 : decode cX5_declare 27 = .ok (.goto 4, 3) := by decide +kernel
theorem dX5_declare_30 : decode cX5_declare 30 = .ok (.iconst 0, 1) := by decide +kernel
theorem dX5_declare_31 : decode cX5_declare 31 = .ok (.putfield 85, 3) := by decide +kernel
theorem dX5_declare_34 : decode cX5_declare 34 = .ok (.aload_n 0, 1) := by decide +kernel
theorem dX5_declare_35 : decode cX5_declare 35 = .ok (.getfield 85, 3) := by decide +kernel
theorem dX5_declare_38 : decode cX5_declare 38 = .ok (.ifCond .le 5, 3) := by decide +kernel
theorem dX5_declare_41 : decode cX5_declare 41 = .ok (.iconst 0, 1) := by decide +kernel
theorem dX5_declare_42 : decode cX5_declare 42 = .ok (.ireturn, 1) := by decide +kernel
theorem dX5_declare_43 : decode cX5_declare 43 = .ok (.aload_n 0, 1) := by decide +kernel
theorem dX5_declare_44 : decode cX5_declare 44 = .ok (.getfield 17, 3) := by decide +kernel
theorem dX5_declare_47 : decode cX5_declare 47 = .ok (.aload_n 0, 1) := by decide +kernel
theorem dX5_declare_48 : decode cX5_declare 48 = .ok (.getfield 124, 3) := by decide +kernel
theorem dX5_declare_51 : decode cX5_declare 51 = .ok (.aload_n 0, 1) := by decide +kernel
theorem dX5_declare_52 : decode cX5_declare 52 = .ok (.getfield 41, 3) := by decide +kernel
theorem dX5_declare_55 : decode cX5_declare 55 = .ok (.iload_n 1, 1) := by decide +kernel
theorem dX5_declare_56 : decode cX5_declare 56 = .ok (.iaload, 1) := by decide +kernel
theorem dX5_declare_57 : decode cX5_declare 57 = .ok (.iastore, 1) := by decide +kernel
theorem dX5_declare_58 : decode cX5_declare 58 = .ok (.aload_n 0, 1) := by decide +kernel
theorem dX5_declare_59 : decode cX5_declare 59 = .ok (.dup, 1) := by decide +kernel
theorem dX5_declare_60 : decode cX5_declare 60 = .ok (.getfield 124, 3) := by decide +kernel
theorem dX5_declare_63 : decode cX5_declare 63 = .ok (.iconst 1, 1) := by decide +kernel
theorem dX5_declare_64 : decode cX5_declare 64 = .ok (.iadd, 1) := by decide +kernel
theorem dX5_declare_65 : decode cX5_declare 65 = .ok (.putfield 124, 3) := by decide +kernel
theorem dX5_declare_68 : decode cX5_declare 68 = .ok (.aload_n 0, 1) := by decide +kernel
theorem dX5_declare_69 : decode cX5_declare 69 = .ok (.getfield 124, 3) := by decide +kernel
theorem dX5_declare_72 : decode cX5_declare 72 = .ok (.iconst 1, 1) := by decide +kernel
theorem dX5_declare_73 : decode cX5_declare 73 = .ok (.isub, 1) := by decide +kernel
theorem dX5_declare_74 : decode cX5_declare 74 = .ok (.ireturn, 1) := by decide +kernel
theorem dX5_endOf_0 : decode cX5_endOf 0 = .ok (.iconst 1, 1) := by decide +kernel
theorem dX5_endOf_1 : decode cX5_endOf 1 = .ok (.istore_n 2, 1) := by decide +kernel
theorem dX5_endOf_2 : decode cX5_endOf 2 = .ok (.iload_n 1, 1) := by decide +kernel
theorem dX5_endOf_3 : decode cX5_endOf 3 = .ok (.istore_n 3, 1) := by decide +kernel
theorem dX5_endOf_4 : decode cX5_endOf 4 = .ok (.iload_n 2, 1) := by decide +kernel
theorem dX5_endOf_5 : decode cX5_endOf 5 = .ok (.ifCond .le 42, 3) := by decide +kernel
theorem dX5_endOf_8 : decode cX5_endOf 8 = .ok (.iload_n 2, 1) := by decide +kernel
theorem dX5_endOf_9 : decode cX5_endOf 9 = .ok (.aload_n 0, 1) := by decide +kernel
theorem dX5_endOf_10 : decode cX5_endOf 10 = .ok (.getfield 55, 3) := by decide +kernel
theorem dX5_endOf_13 : decode cX5_endOf 13 = .ok (.iload_n 3, 1) := by decide +kernel
theorem dX5_endOf_14 : decode cX5_endOf 14 = .ok (.iaload, 1) := by decide +kernel
theorem dX5_endOf_15 : decode cX5_endOf 15 = .ok (.iconst (-1), 1) := by decide +kernel
theorem dX5_endOf_16 : decode cX5_endOf 16 = .ok (.if_icmp .ne 7, 3) := by decide +kernel
theorem dX5_endOf_19 : decode cX5_endOf 19 = .ok (.iconst 1, 1) := by decide +kernel
theorem dX5_endOf_20 : decode cX5_endOf 20 = .ok (.goto 19, 3) := by decide +kernel
theorem dX5_endOf_23 : decode cX5_endOf 23 = .ok (.aload_n 0, 1) := by decide +kernel
theorem dX5_endOf_24 : decode cX5_endOf 24 = .ok (.getfield 55, 3) := by decide +kernel
theorem dX5_endOf_27 : decode cX5_endOf 27 = .ok (.iload_n 3, 1) := by decide +kernel
theorem dX5_endOf_28 : decode cX5_endOf 28 = .ok (.iaload, 1) := by decide +kernel
theorem dX5_endOf_29 : decode cX5_endOf 29 = .ok (.bipush (-2), 2) := by decide +kernel
theorem dX5_endOf_31 : decode cX5_endOf 31 = .ok (.if_icmp .ne 7, 3) := by decide +kernel
theorem dX5_endOf_34 : decode cX5_endOf 34 = .ok (.iconst 0, 1) := by decide +kernel
theorem dX5_endOf_35 : decode cX5_endOf 35 = .ok (.goto 4, 3) := by decide +kernel
theorem dX5_endOf_38 : decode cX5_endOf 38 = .ok (.iconst (-1), 1) := by decide +kernel
theorem dX5_endOf_39 : decode cX5_endOf 39 = .ok (.iadd, 1) := by decide +kernel
theorem dX5_endOf_40 : decode cX5_endOf 40 = .ok (.istore_n 2, 1) := by decide +kernel
theorem dX5_endOf_41 : decode cX5_endOf 41 = .ok (.iinc 3 1, 3) := by decide +kernel
theorem dX5_endOf_44 : decode cX5_endOf 44 = .ok (.goto (-40), 3) := by decide +kernel
theorem dX5_endOf_47 : decode cX5_endOf 47 = .ok (.iload_n 3, 1) := by decide +kernel
theorem dX5_endOf_48 : decode cX5_endOf 48 = .ok (.ireturn, 1) := by decide +kernel
set_option maxRecDepth 20000 in
theorem ggX5_heightOf_X5_endOf : GoodIn wsX5_heightOf wsX5_endOf := goodIn_r _ [7, 2, 8, 9, 10, 11, 12, 13, 14, 15, 16, 17, 18, 19, 20, 21, 22, 23, 24, 25, 26, 27, 28, 29, 30, 31, 32, 33, 34, 35, 36, 37] (by decide +kernel) (by decide +kernel)
set_option maxRecDepth 20000 in
theorem gX5_heightOf_X5_endOf : GoodIn wsX5_heightOf (wsV RX5 127 RX5 yX5_endOf wsX5_endOf) := goodIn_app (goodIn_of _ (by decide +kernel)) ggX5_heightOf_X5_endOf
theorem dX5_heightOf_0 : decode cX5_heightOf 0 = .ok (.aload_n 0, 1) := by decide +kernel
theorem dX5_heightOf_1 : decode cX5_heightOf 1 = .ok (.iload_n 1, 1) := by decide +kernel
theorem dX5_heightOf_2 : decode cX5_heightOf 2 = .ok (.invokevirtual 127, 3) := by decide +kernel
theorem dX5_heightOf_5 : decode cX5_heightOf 5 = .ok (.istore_n 2, 1) := by decide +kernel
theorem dX5_heightOf_6 : decode cX5_heightOf 6 = .ok (.iconst 0, 1) := by decide +kernel
theorem dX5_heightOf_7 : decode cX5_heightOf 7 = .ok (.istore_n 3, 1) := by decide +kernel
theorem dX5_heightOf_8 : decode cX5_heightOf 8 = .ok (.iconst 0, 1) := by decide +kernel
theorem dX5_heightOf_9 : decode cX5_heightOf 9 = .ok (.istore 4, 2) := by decide +kernel
theorem dX5_heightOf_11 : decode cX5_heightOf 11 = .ok (.iload_n 1, 1) := by decide +kernel
theorem dX5_heightOf_12 : decode cX5_heightOf 12 = .ok (.istore 5, 2) := by decide +kernel
theorem dX5_heightOf_14 : decode cX5_heightOf 14 = .ok (.iload 5, 2) := by decide +kernel
theorem dX5_heightOf_16 : decode cX5_heightOf 16 = .ok (.iload_n 2, 1) := by decide +kernel
theorem dX5_heightOf_17 : decode cX5_heightOf 17 = .ok (.if_icmp .ge 84, 3) := by decide +kernel
theorem dX5_heightOf_20 : decode cX5_heightOf 20 = .ok (.iload_n 3, 1) := by decide +kernel
theorem dX5_heightOf_21 : decode cX5_heightOf 21 = .ok (.ifCond .le 22, 3) := by decide +kernel
theorem dX5_heightOf_24 : decode cX5_heightOf 24 = .ok (.aload_n 0, 1) := by decide +kernel
theorem dX5_heightOf_25 : decode cX5_heightOf 25 = .ok (.getfield 67, 3) := by decide +kernel
theorem dX5_heightOf_28 : decode cX5_heightOf 28 = .ok (.iload_n 3, 1) := by decide +kernel
theorem dX5_heightOf_29 : decode cX5_heightOf 29 = .ok (.iconst 1, 1) := by decide +kernel
theorem dX5_heightOf_30 : decode cX5_heightOf 30 = .ok (.isub, 1) := by decide +kernel
theorem dX5_heightOf_31 : decode cX5_heightOf 31 = .ok (.iaload, 1) := by decide +kernel
theorem dX5_heightOf_32 : decode cX5_heightOf 32 = .ok (.iload 5, 2) := by decide +kernel
theorem dX5_heightOf_34 : decode cX5_heightOf 34 = .ok (.if_icmp .gt 9, 3) := by decide +kernel
theorem dX5_heightOf_37 : decode cX5_heightOf 37 = .ok (.iinc 3 (-1), 3) := by decide +kernel
theorem dX5_heightOf_40 : decode cX5_heightOf 40 = .ok (.goto (-20), 3) := by decide +kernel
theorem dX5_heightOf_43 : decode cX5_heightOf 43 = .ok (.iload_n 3, 1) := by decide +kernel
theorem dX5_heightOf_44 : decode cX5_heightOf 44 = .ok (.iconst 1, 1) := by decide +kernel
theorem dX5_heightOf_45 : decode cX5_heightOf 45 = .ok (.iadd, 1) := by decide +kernel
theorem dX5_heightOf_46 : decode cX5_heightOf 46 = .ok (.iload 4, 2) := by decide +kernel
theorem dX5_heightOf_48 : decode cX5_heightOf 48 = .ok (.if_icmp .le 9, 3) := by decide +kernel
theorem dX5_heightOf_51 : decode cX5_heightOf 51 = .ok (.iload_n 3, 1) := by decide +kernel
theorem dX5_heightOf_52 : decode cX5_heightOf 52 = .ok (.iconst 1, 1) := by decide +kernel
theorem dX5_heightOf_53 : decode cX5_heightOf 53 = .ok (.iadd, 1) := by decide +kernel
theorem dX5_heightOf_54 : decode cX5_heightOf 54 = .ok (.goto 5, 3) := by decide +kernel
theorem dX5_heightOf_57 : decode cX5_heightOf 57 = .ok (.iload 4, 2) := by decide +kernel
theorem dX5_heightOf_59 : decode cX5_heightOf 59 = .ok (.istore 4, 2) := by decide +kernel
theorem dX5_heightOf_61 : decode cX5_heightOf 61 = .ok (.aload_n 0, 1) := by decide +kernel
theorem dX5_heightOf_62 : decode cX5_heightOf 62 = .ok (.getfield 55, 3) := by decide +kernel
theorem dX5_heightOf_65 : decode cX5_heightOf 65 = .ok (.iload 5, 2) := by decide +kernel
theorem dX5_heightOf_67 : decode cX5_heightOf 67 = .ok (.iaload, 1) := by decide +kernel
theorem dX5_heightOf_68 : decode cX5_heightOf 68 = .ok (.ifCond .ge 27, 3) := by decide +kernel
theorem dX5_heightOf_71 : decode cX5_heightOf 71 = .ok (.iload_n 3, 1) := by decide +kernel
theorem dX5_heightOf_72 : decode cX5_heightOf 72 = .ok (.bipush 121, 2) := by decide +kernel
theorem dX5_heightOf_74 : decode cX5_heightOf 74 = .ok (.if_icmp .ne 6, 3) := by decide +kernel
theorem dX5_heightOf_77 : decode cX5_heightOf 77 = .ok (.goto 18, 3) := by decide +kernel
theorem dX5_heightOf_80 : decode cX5_heightOf 80 = .ok (.aload_n 0, 1) := by decide +kernel
theorem dX5_heightOf_81 : decode cX5_heightOf 81 = .ok (.getfield 67, 3) := by decide +kernel
theorem dX5_heightOf_84 : decode cX5_heightOf 84 = .ok (.iload_n 3, 1) := by decide +kernel
theorem dX5_heightOf_85 : decode cX5_heightOf 85 = .ok (.aload_n 0, 1) := by decide +kernel
theorem dX5_heightOf_86 : decode cX5_heightOf 86 = .ok (.iload 5, 2) := by decide +kernel
theorem dX5_heightOf_88 : decode cX5_heightOf 88 = .ok (.invokevirtual 127, 3) := by decide +kernel
theorem dX5_heightOf_91 : decode cX5_heightOf 91 = .ok (.iastore, 1) := by decide +kernel
theorem dX5_heightOf_92 : decode cX5_heightOf 92 = .ok (.iinc 3 1, 3) := by decide +kernel
theorem dX5_heightOf_95 : decode cX5_heightOf 95 = .ok (.iinc 5 1, 3) := by decide +kernel
theorem dX5_heightOf_98 : decode cX5_heightOf 98 = .ok (.goto (-84), 3) := by decide +kernel
theorem dX5_heightOf_101 : decode cX5_heightOf 101 = .ok (.iload 4, 2) := by decide +kernel
theorem dX5_heightOf_103 : decode cX5_heightOf 103 = .ok (.ireturn, 1) := by decide +kernel
theorem dX5_lengthOf_0 : decode cX5_lengthOf 0 = .ok (.aload_n 0, 1) := by decide +kernel
theorem dX5_lengthOf_1 : decode cX5_lengthOf 1 = .ok (.getfield 51, 3) := by decide +kernel
theorem dX5_lengthOf_4 : decode cX5_lengthOf 4 = .ok (.iload_n 1, 1) := by decide +kernel
theorem dX5_lengthOf_5 : decode cX5_lengthOf 5 = .ok (.iconst 1, 1) := by decide +kernel
theorem dX5_lengthOf_6 : decode cX5_lengthOf 6 = .ok (.iadd, 1) := by decide +kernel
theorem dX5_lengthOf_7 : decode cX5_lengthOf 7 = .ok (.iaload, 1) := by decide +kernel
theorem dX5_lengthOf_8 : decode cX5_lengthOf 8 = .ok (.aload_n 0, 1) := by decide +kernel
theorem dX5_lengthOf_9 : decode cX5_lengthOf 9 = .ok (.getfield 51, 3) := by decide +kernel
theorem dX5_lengthOf_12 : decode cX5_lengthOf 12 = .ok (.iload_n 1, 1) := by decide +kernel
theorem dX5_lengthOf_13 : decode cX5_lengthOf 13 = .ok (.iaload, 1) := by decide +kernel
theorem dX5_lengthOf_14 : decode cX5_lengthOf 14 = .ok (.isub, 1) := by decide +kernel
theorem dX5_lengthOf_15 : decode cX5_lengthOf 15 = .ok (.ireturn, 1) := by decide +kernel
theorem dX5_topType_0 : decode cX5_topType 0 = .ok (.aload_n 0, 1) := by decide +kernel
theorem dX5_topType_1 : decode cX5_topType 1 = .ok (.getfield 58, 3) := by decide +kernel
theorem dX5_topType_4 : decode cX5_topType 4 = .ok (.aload_n 0, 1) := by decide +kernel
theorem dX5_topType_5 : decode cX5_topType 5 = .ok (.getfield 51, 3) := by decide +kernel
theorem dX5_topType_8 : decode cX5_topType 8 = .ok (.iload_n 1, 1) := by decide +kernel
theorem dX5_topType_9 : decode cX5_topType 9 = .ok (.iaload, 1) := by decide +kernel
theorem dX5_topType_10 : decode cX5_topType 10 = .ok (.iaload, 1) := by decide +kernel
theorem dX5_topType_11 : decode cX5_topType 11 = .ok (.ireturn, 1) := by decide +kernel
set_option maxRecDepth 20000 in
theorem ggX5_isTerm_X5_outside : GoodIn wsX5_isTerm wsX5_outside := goodIn_r _ [5] (by decide +kernel) (by decide +kernel)
set_option maxRecDepth 20000 in
theorem gX5_isTerm_X5_outside : GoodIn wsX5_isTerm (va_wsS RX5 88 yX5_outside wsX5_outside) := goodIn_app (goodIn_of _ (by decide +kernel)) ggX5_isTerm_X5_outside
theorem dX5_isTerm_0 : decode cX5_isTerm 0 = .ok (.iload_n 1, 1) := by decide +kernel
theorem dX5_isTerm_1 : decode cX5_isTerm 1 = .ok (.aload_n 0, 1) := by decide +kernel
theorem dX5_isTerm_2 : decode cX5_isTerm 2 = .ok (.getfield 130, 3) := by decide +kernel
theorem dX5_isTerm_5 : decode cX5_isTerm 5 = .ok (.invokestatic 88, 3) := by decide +kernel
theorem dX5_isTerm_8 : decode cX5_isTerm 8 = .ok (.ifCond .ne 7, 3) := by decide +kernel
theorem dX5_isTerm_11 : decode cX5_isTerm 11 = .ok (.iconst 1, 1) := by decide +kernel
theorem dX5_isTerm_12 : decode cX5_isTerm 12 = .ok (.goto 4, 3) := by decide +kernel
theorem dX5_isTerm_15 : decode cX5_isTerm 15 = .ok (.iconst 0, 1) := by decide +kernel
theorem dX5_isTerm_16 : decode cX5_isTerm 16 = .ok (.ireturn, 1) := by decide +kernel
set_option maxRecDepth 20000 in
theorem ggX5_isFree_X5_lengthOf : GoodIn wsX5_isFree wsX5_lengthOf := goodIn_r _ [7, 2, 8, 9, 10, 11, 12, 13, 14, 15, 16, 17, 18, 19, 20, 21, 22, 23, 24, 25, 26, 27, 28, 29, 30, 31, 32, 33, 34, 35, 36, 37] (by decide +kernel) (by decide +kernel)
set_option maxRecDepth 20000 in
theorem gX5_isFree_X5_lengthOf : GoodIn wsX5_isFree (wsV RX5 133 RX5 yX5_lengthOf wsX5_lengthOf) := goodIn_app (goodIn_of _ (by decide +kernel)) ggX5_isFree_X5_lengthOf
theorem dX5_isFree_0 : decode cX5_isFree 0 = .ok (.aload_n 0, 1) := by decide +kernel
theorem dX5_isFree_1 : decode cX5_isFree 1 = .ok (.iload_n 1, 1) := by decide +kernel
theorem dX5_isFree_2 : decode cX5_isFree 2 = .ok (.invokevirtual 133, 3) := by decide +kernel
theorem dX5_isFree_5 : decode cX5_isFree 5 = .ok (.iconst 1, 1) := by decide +kernel
theorem dX5_isFree_6 : decode cX5_isFree 6 = .ok (.if_icmp .ne 24, 3) := by decide +kernel
theorem dX5_isFree_9 : decode cX5_isFree 9 = .ok (.aload_n 0, 1) := by decide +kernel
theorem dX5_isFree_10 : decode cX5_isFree 10 = .ok (.getfield 55, 3) := by decide +kernel
theorem dX5_isFree_13 : decode cX5_isFree 13 = .ok (.aload_n 0, 1) := by decide +kernel
theorem dX5_isFree_14 : decode cX5_isFree 14 = .ok (.getfield 51, 3) := by decide +kernel
theorem dX5_isFree_17 : decode cX5_isFree 17 = .ok (.iload_n 1, 1) := by decide +kernel
theorem dX5_isFree_18 : decode cX5_isFree 18 = .ok (.iaload, 1) := by decide +kernel
theorem dX5_isFree_19 : decode cX5_isFree 19 = .ok (.iaload, 1) := by decide +kernel
theorem dX5_isFree_20 : decode cX5_isFree 20 = .ok (.iconst 4, 1) := by decide +kernel
theorem dX5_isFree_21 : decode cX5_isFree 21 = .ok (.irem, 1) := by decide +kernel
theorem dX5_isFree_22 : decode cX5_isFree 22 = .ok (.iconst 1, 1) := by decide +kernel
theorem dX5_isFree_23 : decode cX5_isFree 23 = .ok (.if_icmp .ne 7, 3) := by decide +kernel
theorem dX5_isFree_26 : decode cX5_isFree 26 = .ok (.iconst 1, 1) := by decide +kernel
theorem dX5_isFree_27 : decode cX5_isFree 27 = .ok (.goto 4, 3) := by decide +kernel
theorem dX5_isFree_30 : decode cX5_isFree 30 = .ok (.iconst 0, 1) := by decide +kernel
theorem dX5_isFree_31 : decode cX5_isFree 31 = .ok (.ireturn, 1) := by decide +kernel
set_option maxRecDepth 20000 in
theorem ggX5_keepTerm_X5_heightOf : GoodIn wsX5_keepTerm wsX5_heightOf := goodIn_r _ [7, 8, 9, 10, 11, 12, 6, 13, 19, 20, 21, 22, 23, 24, 25, 26, 27, 28, 29, 30, 31, 32, 33, 34, 35, 36, 37, 38, 39, 40, 41, 42, 43, 44, 45, 46, 47, 48] (by decide +kernel) (by decide +kernel)
set_option maxRecDepth 20000 in
theorem gX5_keepTerm_X5_heightOf : GoodIn wsX5_keepTerm (wsV RX5 136 RX5 yX5_heightOf wsX5_heightOf) := goodIn_app (goodIn_of _ (by decide +kernel)) ggX5_keepTerm_X5_heightOf
set_option maxRecDepth 20000 in
theorem ggX5_keepTerm_X5_fail : GoodIn wsX5_keepTerm wsX5_fail := goodIn_r _ [17, 18, 19, 20, 21, 22, 23, 24, 25, 26, 27, 28, 29, 30, 31, 32, 33, 34, 35, 36, 37, 38, 39, 40, 41, 42, 43, 44, 45, 46, 47, 48] (by decide +kernel) (by decide +kernel)
set_option maxRecDepth 20000 in
theorem gX5_keepTerm_X5_fail : GoodIn wsX5_keepTerm (wsV RX5 106 RX5 yX5_fail wsX5_fail) := goodIn_app (goodIn_of _ (by decide +kernel)) ggX5_keepTerm_X5_fail
theorem dX5_keepTerm_0 : decode cX5_keepTerm 0 = .ok (.aload_n 0, 1) := by decide +kernel
theorem dX5_keepTerm_1 : decode cX5_keepTerm 1 = .ok (.getfield 51, 3) := by decide +kernel
theorem dX5_keepTerm_4 : decode cX5_keepTerm 4 = .ok (.aload_n 0, 1) := by decide +kernel
theorem dX5_keepTerm_5 : decode cX5_keepTerm 5 = .ok (.getfield 130, 3) := by decide +kernel
theorem dX5_keepTerm_8 : decode cX5_keepTerm 8 = .ok (.iaload, 1) := by decide +kernel
theorem dX5_keepTerm_9 : decode cX5_keepTerm 9 = .ok (.istore_n 3, 1) := by decide +kernel
theorem dX5_keepTerm_10 : decode cX5_keepTerm 10 = .ok (.iload_n 1, 1) := by decide +kernel
theorem dX5_keepTerm_11 : decode cX5_keepTerm 11 = .ok (.iload_n 3, 1) := by decide +kernel
theorem dX5_keepTerm_12 : decode cX5_keepTerm 12 = .ok (.isub, 1) := by decide +kernel
theorem dX5_keepTerm_13 : decode cX5_keepTerm 13 = .ok (.sipush 4000, 3) := by decide +kernel
theorem dX5_keepTerm_16 : decode cX5_keepTerm 16 = .ok (.if_icmp .gt 20, 3) := by decide +kernel
theorem dX5_keepTerm_19 : decode cX5_keepTerm 19 = .ok (.iload_n 1, 1) := by decide +kernel
theorem dX5_keepTerm_20 : decode cX5_keepTerm 20 = .ok (.sipush 30000, 3) := by decide +kernel
theorem dX5_keepTerm_23 : decode cX5_keepTerm 23 = .ok (.if_icmp .gt 13, 3) := by decide +kernel
theorem dX5_keepTerm_26 : decode cX5_keepTerm 26 = .ok (.aload_n 0, 1) := by decide +kernel
theorem dX5_keepTerm_27 : decode cX5_keepTerm 27 = .ok (.iload_n 3, 1) := by decide +kernel
theorem dX5_keepTerm_28 : decode cX5_keepTerm 28 = .ok (.invokevirtual 136, 3) := by decide +kernel
theorem dX5_keepTerm_31 : decode cX5_keepTerm 31 = .ok (.bipush 120, 2) := by decide +kernel
theorem dX5_keepTerm_33 : decode cX5_keepTerm 33 = .ok (.if_icmp .le 9, 3) := by decide +kernel
theorem dX5_keepTerm_36 : decode cX5_keepTerm 36 = .ok (.aload_n 0, 1) := by decide +kernel
theorem dX5_keepTerm_37 : decode cX5_keepTerm 37 = .ok (.iload_n 2, 1) := by decide +kernel
theorem dX5_keepTerm_38 : decode cX5_keepTerm 38 = .ok (.invokevirtual 106, 3) := by decide +kernel
theorem dX5_keepTerm_41 : decode cX5_keepTerm 41 = .ok (.ireturn, 1) := by decide +kernel
theorem dX5_keepTerm_42 : decode cX5_keepTerm 42 = .ok (.aload_n 0, 1) := by decide +kernel
theorem dX5_keepTerm_43 : decode cX5_keepTerm 43 = .ok (.dup, 1) := by decide +kernel
theorem dX5_keepTerm_44 : decode cX5_keepTerm 44 = .ok (.getfield 130, 3) := by decide +kernel
theorem dX5_keepTerm_47 : decode cX5_keepTerm 47 = .ok (.iconst 1, 1) := by decide +kernel
theorem dX5_keepTerm_48 : decode cX5_keepTerm 48 = .ok (.iadd, 1) := by decide +kernel
theorem dX5_keepTerm_49 : decode cX5_keepTerm 49 = .ok (.putfield 130, 3) := by decide +kernel
theorem dX5_keepTerm_52 : decode cX5_keepTerm 52 = .ok (.aload_n 0, 1) := by decide +kernel
theorem dX5_keepTerm_53 : decode cX5_keepTerm 53 = .ok (.getfield 51, 3) := by decide +kernel
theorem dX5_keepTerm_56 : decode cX5_keepTerm 56 = .ok (.aload_n 0, 1) := by decide +kernel
theorem dX5_keepTerm_57 : decode cX5_keepTerm 57 = .ok (.getfield 130, 3) := by decide +kernel
theorem dX5_keepTerm_60 : decode cX5_keepTerm 60 = .ok (.iload_n 1, 1) := by decide +kernel
theorem dX5_keepTerm_61 : decode cX5_keepTerm 61 = .ok (.iastore, 1) := by decide +kernel
theorem dX5_keepTerm_62 : decode cX5_keepTerm 62 = .ok (.aload_n 0, 1) := by decide +kernel
theorem dX5_keepTerm_63 : decode cX5_keepTerm 63 = .ok (.getfield 130, 3) := by decide +kernel
theorem dX5_keepTerm_66 : decode cX5_keepTerm 66 = .ok (.iconst 1, 1) := by decide +kernel
theorem dX5_keepTerm_67 : decode cX5_keepTerm 67 = .ok (.isub, 1) := by decide +kernel
theorem dX5_keepTerm_68 : decode cX5_keepTerm 68 = .ok (.ireturn, 1) := by decide +kernel
theorem dX5_write_0 : decode cX5_write 0 = .ok (.iload_n 1, 1) := by decide +kernel
theorem dX5_write_1 : decode cX5_write 1 = .ok (.aload_n 0, 1) := by decide +kernel
theorem dX5_write_2 : decode cX5_write 2 = .ok (.getfield 51, 3) := by decide +kernel
theorem dX5_write_5 : decode cX5_write 5 = .ok (.aload_n 0, 1) := by decide +kernel
theorem dX5_write_6 : decode cX5_write 6 = .ok (.getfield 130, 3) := by decide +kernel
theorem dX5_write_9 : decode cX5_write 9 = .ok (.iaload, 1) := by decide +kernel
theorem dX5_write_10 : decode cX5_write 10 = .ok (.isub, 1) := by decide +kernel
theorem dX5_write_11 : decode cX5_write 11 = .ok (.sipush 4000, 3) := by decide +kernel
theorem dX5_write_14 : decode cX5_write 14 = .ok (.if_icmp .le 5, 3) := by decide +kernel
theorem dX5_write_17 : decode cX5_write 17 = .ok (.iload_n 1, 1) := by decide +kernel
theorem dX5_write_18 : decode cX5_write 18 = .ok (.ireturn, 1) := by decide +kernel
theorem dX5_write_19 : decode cX5_write 19 = .ok (.aload_n 0, 1) := by decide +kernel
theorem dX5_write_20 : decode cX5_write 20 = .ok (.getfield 55, 3) := by decide +kernel
theorem dX5_write_23 : decode cX5_write 23 = .ok (.iload_n 1, 1) := by decide +kernel
theorem dX5_write_24 : decode cX5_write 24 = .ok (.iload_n 2, 1) := by decide +kernel
theorem dX5_write_25 : decode cX5_write 25 = .ok (.iastore, 1) := by decide +kernel
theorem dX5_write_26 : decode cX5_write 26 = .ok (.aload_n 0, 1) := by decide +kernel
theorem dX5_write_27 : decode cX5_write 27 = .ok (.getfield 58, 3) := by decide +kernel
theorem dX5_write_30 : decode cX5_write 30 = .ok (.iload_n 1, 1) := by decide +kernel
theorem dX5_write_31 : decode cX5_write 31 = .ok (.iload_n 3, 1) := by decide +kernel
theorem dX5_write_32 : decode cX5_write 32 = .ok (.iastore, 1) := by decide +kernel
theorem dX5_write_33 : decode cX5_write 33 = .ok (.iload_n 1, 1) := by decide +kernel
theorem dX5_write_34 : decode cX5_write 34 = .ok (.iconst 1, 1) := by decide +kernel
theorem dX5_write_35 : decode cX5_write 35 = .ok (.iadd, 1) := by decide +kernel
theorem dX5_write_36 : decode cX5_write 36 = .ok (.ireturn, 1) := by decide +kernel
set_option maxRecDepth 20000 in
theorem ggX5_copy_X5_write : GoodIn wsX5_copy wsX5_write := goodIn_r _ [7, 8, 9, 1, 2, 10, 11, 12, 13, 14, 15, 16, 17, 18, 19, 20, 21, 22, 23, 24, 25, 26, 27, 28, 29, 30, 31, 32, 33, 34, 35, 36, 37, 38, 39] (by decide +kernel) (by decide +kernel)
set_option maxRecDepth 20000 in
theorem gX5_copy_X5_write : GoodIn wsX5_copy (wsV RX5 139 RX5 yX5_write wsX5_write) := goodIn_app (goodIn_of _ (by decide +kernel)) ggX5_copy_X5_write
theorem dX5_copy_0 : decode cX5_copy 0 = .ok (.iload_n 1, 1) := by decide +kernel
theorem dX5_copy_1 : decode cX5_copy 1 = .ok (.istore 4, 2) := by decide +kernel
theorem dX5_copy_3 : decode cX5_copy 3 = .ok (.iload_n 2, 1) := by decide +kernel
theorem dX5_copy_4 : decode cX5_copy 4 = .ok (.istore 5, 2) := by decide +kernel
theorem dX5_copy_6 : decode cX5_copy 6 = .ok (.iload 5, 2) := by decide +kernel
theorem dX5_copy_8 : decode cX5_copy 8 = .ok (.iload_n 3, 1) := by decide +kernel
theorem dX5_copy_9 : decode cX5_copy 9 = .ok (.if_icmp .ge 31, 3) := by decide +kernel
theorem dX5_copy_12 : decode cX5_copy 12 = .ok (.aload_n 0, 1) := by decide +kernel
theorem dX5_copy_13 : decode cX5_copy 13 = .ok (.iload 4, 2) := by decide +kernel
theorem dX5_copy_15 : decode cX5_copy 15 = .ok (.aload_n 0, 1) := by decide +kernel
theorem dX5_copy_16 : decode cX5_copy 16 = .ok (.getfield 55, 3) := by decide +kernel
theorem dX5_copy_19 : decode cX5_copy 19 = .ok (.iload 5, 2) := by decide +kernel
theorem dX5_copy_21 : decode cX5_copy 21 = .ok (.iaload, 1) := by decide +kernel
theorem dX5_copy_22 : decode cX5_copy 22 = .ok (.aload_n 0, 1) := by decide +kernel
theorem dX5_copy_23 : decode cX5_copy 23 = .ok (.getfield 58, 3) := by decide +kernel
theorem dX5_copy_26 : decode cX5_copy 26 = .ok (.iload 5, 2) := by decide +kernel
theorem dX5_copy_28 : decode cX5_copy 28 = .ok (.iaload, 1) := by decide +kernel
theorem dX5_copy_29 : decode cX5_copy 29 = .ok (.invokevirtual 139, 3) := by decide +kernel
theorem dX5_copy_32 : decode cX5_copy 32 = .ok (.istore 4, 2) := by decide +kernel
theorem dX5_copy_34 : decode cX5_copy 34 = .ok (.iinc 5 1, 3) := by decide +kernel
theorem dX5_copy_37 : decode cX5_copy 37 = .ok (.goto (-31), 3) := by decide +kernel
theorem dX5_copy_40 : decode cX5_copy 40 = .ok (.iload 4, 2) := by decide +kernel
theorem dX5_copy_42 : decode cX5_copy 42 = .ok (.ireturn, 1) := by decide +kernel
theorem dX5_isLong_0 : decode cX5_isLong 0 = .ok (.iload_n 1, 1) := by decide +kernel
