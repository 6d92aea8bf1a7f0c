theorem dX1_keep_88 : decode cX1_keep 88 = .ok (.iconst 1, 1) := by decide +kernel
theorem dX1_keep_89 : decode cX1_keep 89 = .ok (.isub, 1) := by decide +kernel
theorem dX1_keep_90 : decode cX1_keep 90 = .ok (.ireturn, 1) := by decide +kernel
set_option maxRecDepth 20000 in
theorem ggX1_heightOf_X3_begin : GoodIn wsX1_heightOf wsX3_begin := goodIn_r _ [10, 11, 12, 13, 14, 50, 51, 52, 53, 54, 55] (by decide +kernel) (by decide +kernel)
set_option maxRecDepth 20000 in
theorem gX1_heightOf_X3_begin : GoodIn wsX1_heightOf (wsV RX1 73 RX3 yX3_begin wsX3_begin) := goodIn_app (goodIn_of _ (by decide +kernel)) ggX1_heightOf_X3_begin
set_option maxRecDepth 20000 in
theorem ggX1_heightOf_X3_depth : GoodIn wsX1_heightOf wsX3_depth := goodIn_r _ [18, 12, 50, 51, 52, 53, 54, 55] (by decide +kernel) (by decide +kernel)
set_option maxRecDepth 20000 in
theorem gX1_heightOf_X3_depth : GoodIn wsX1_heightOf (wsV RX1 76 RX3 yX3_depth wsX3_depth) := goodIn_app (goodIn_of _ (by decide +kernel)) ggX1_heightOf_X3_depth
set_option maxRecDepth 20000 in
theorem ggX1_heightOf_X1_code : GoodIn wsX1_heightOf wsX1_code := goodIn_r _ [23, 24, 25, 26, 27, 42, 43, 44, 45, 46, 47, 48, 49] (by decide +kernel) (by decide +kernel)
set_option maxRecDepth 20000 in
theorem gX1_heightOf_X1_code : GoodIn wsX1_heightOf (wsV RX1 46 RX1 yX1_code wsX1_code) := goodIn_app (goodIn_of _ (by decide +kernel)) ggX1_heightOf_X1_code
set_option maxRecDepth 20000 in
theorem ggX1_heightOf_X3_pass : GoodIn wsX1_heightOf wsX3_pass := goodIn_r _ [31, 12, 13, 32, 33, 34, 9, 35, 11, 36, 37, 38, 39, 40, 41, 14, 25, 26, 27, 50, 51, 52, 53, 54, 55] (by decide +kernel) (by decide +kernel)
set_option maxRecDepth 20000 in
theorem gX1_heightOf_X3_pass : GoodIn wsX1_heightOf (wsV RX1 85 RX3 yX3_pass wsX3_pass) := goodIn_app (goodIn_of _ (by decide +kernel)) ggX1_heightOf_X3_pass
theorem dX1_heightOf_0 : decode cX1_heightOf 0 = .ok (.iconst 0, 1) := by decide +kernel
theorem dX1_heightOf_1 : decode cX1_heightOf 1 = .ok (.istore_n 3, 1) := by decide +kernel
theorem dX1_heightOf_2 : decode cX1_heightOf 2 = .ok (.aload_n 0, 1) := by decide +kernel
theorem dX1_heightOf_3 : decode cX1_heightOf 3 = .ok (.getfield 27, 3) := by decide +kernel
theorem dX1_heightOf_6 : decode cX1_heightOf 6 = .ok (.invokevirtual 73, 3) := by decide +kernel
theorem dX1_heightOf_9 : decode cX1_heightOf 9 = .ok (.iload_n 1, 1) := by decide +kernel
theorem dX1_heightOf_10 : decode cX1_heightOf 10 = .ok (.istore 4, 2) := by decide +kernel
theorem dX1_heightOf_12 : decode cX1_heightOf 12 = .ok (.iload 4, 2) := by decide +kernel
theorem dX1_heightOf_14 : decode cX1_heightOf 14 = .ok (.iload_n 2, 1) := by decide +kernel
theorem dX1_heightOf_15 : decode cX1_heightOf 15 = .ok (.if_icmp .ge 40, 3) := by decide +kernel
theorem dX1_heightOf_18 : decode cX1_heightOf 18 = .ok (.iload_n 3, 1) := by decide +kernel
theorem dX1_heightOf_19 : decode cX1_heightOf 19 = .ok (.bipush 120, 2) := by decide +kernel
theorem dX1_heightOf_21 : decode cX1_heightOf 21 = .ok (.if_icmp .gt 34, 3) := by decide +kernel
theorem dX1_heightOf_24 : decode cX1_heightOf 24 = .ok (.iload_n 3, 1) := by decide +kernel
theorem dX1_heightOf_25 : decode cX1_heightOf 25 = .ok (.aload_n 0, 1) := by decide +kernel
theorem dX1_heightOf_26 : decode cX1_heightOf 26 = .ok (.getfield 27, 3) := by decide +kernel
theorem dX1_heightOf_29 : decode cX1_heightOf 29 = .ok (.invokevirtual 76, 3) := by decide +kernel
theorem dX1_heightOf_32 : decode cX1_heightOf 32 = .ok (.invokestatic 80, 3) := by decide +kernel
theorem dX1_heightOf_35 : decode cX1_heightOf 35 = .ok (.istore_n 3, 1) := by decide +kernel
theorem dX1_heightOf_36 : decode cX1_heightOf 36 = .ok (.aload_n 0, 1) := by decide +kernel
theorem dX1_heightOf_37 : decode cX1_heightOf 37 = .ok (.getfield 27, 3) := by decide +kernel
theorem dX1_heightOf_40 : decode cX1_heightOf 40 = .ok (.aload_n 0, 1) := by decide +kernel
theorem dX1_heightOf_41 : decode cX1_heightOf 41 = .ok (.iload 4, 2) := by decide +kernel
theorem dX1_heightOf_43 : decode cX1_heightOf 43 = .ok (.invokevirtual 46, 3) := by decide +kernel
theorem dX1_heightOf_46 : decode cX1_heightOf 46 = .ok (.invokevirtual 85, 3) := by decide +kernel
theorem dX1_heightOf_49 : decode cX1_heightOf 49 = .ok (.iinc 4 1, 3) := by decide +kernel
theorem dX1_heightOf_52 : decode cX1_heightOf 52 = .ok (.goto (-40), 3) := by decide +kernel
theorem dX1_heightOf_55 : decode cX1_heightOf 55 = .ok (.iload_n 3, 1) := by decide +kernel
theorem dX1_heightOf_56 : decode cX1_heightOf 56 = .ok (.ireturn, 1) := by decide +kernel
set_option maxRecDepth 20000 in
theorem ggX1_isVariable_X1_code : GoodIn wsX1_isVariable wsX1_code := goodIn_r _ [5, 6, 7, 8, 9, 28, 29, 30, 31, 32, 33, 34, 35] (by decide +kernel) (by decide +kernel)
set_option maxRecDepth 20000 in
theorem gX1_isVariable_X1_code : GoodIn wsX1_isVariable (wsV RX1 46 RX1 yX1_code wsX1_code) := goodIn_app (goodIn_of _ (by decide +kernel)) ggX1_isVariable_X1_code
set_option maxRecDepth 20000 in
theorem ggX1_isVariable_X1_root : GoodIn wsX1_isVariable wsX1_root := goodIn_r _ [13, 14, 15, 16, 4, 17, 18, 7, 8, 9, 1, 2, 3, 5, 6, 28, 29, 30, 31, 32, 33, 34, 35] (by decide +kernel) (by decide +kernel)
set_option maxRecDepth 20000 in
theorem gX1_isVariable_X1_root : GoodIn wsX1_isVariable (wsV RX1 89 RX1 yX1_root wsX1_root) := goodIn_app (goodIn_of _ (by decide +kernel)) ggX1_isVariable_X1_root
set_option maxRecDepth 20000 in
theorem ggX1_isVariable_X1_symbolType : GoodIn wsX1_isVariable wsX1_symbolType := goodIn_r _ [22, 23, 7, 8, 9, 28, 29, 30, 31, 32, 33, 34, 35] (by decide +kernel) (by decide +kernel)
set_option maxRecDepth 20000 in
theorem gX1_isVariable_X1_symbolType : GoodIn wsX1_isVariable (wsV RX1 49 RX1 yX1_symbolType wsX1_symbolType) := goodIn_app (goodIn_of _ (by decide +kernel)) ggX1_isVariable_X1_symbolType
set_option maxRecDepth 20000 in
theorem ggX1_isVariable_X1_rootType : GoodIn wsX1_isVariable wsX1_rootType := goodIn_r _ [27, 14, 15, 16, 4, 17, 18, 7, 8, 9, 19, 20, 21, 22, 23, 28, 29, 30, 31, 32, 33, 34, 35] (by decide +kernel) (by decide +kernel)
set_option maxRecDepth 20000 in
theorem gX1_isVariable_X1_rootType : GoodIn wsX1_isVariable (wsV RX1 92 RX1 yX1_rootType wsX1_rootType) := goodIn_app (goodIn_of _ (by decide +kernel)) ggX1_isVariable_X1_rootType
theorem dX1_isVariable_0 : decode cX1_isVariable 0 = .ok (.aload_n 0, 1) := by decide +kernel
theorem dX1_isVariable_1 : decode cX1_isVariable 1 = .ok (.iload_n 1, 1) := by decide +kernel
theorem dX1_isVariable_2 : decode cX1_isVariable 2 = .ok (.invokevirtual 46, 3) := by decide +kernel
theorem dX1_isVariable_5 : decode cX1_isVariable 5 = .ok (.aload_n 0, 1) := by decide +kernel
theorem dX1_isVariable_6 : decode cX1_isVariable 6 = .ok (.iload_n 2, 1) := by decide +kernel
theorem dX1_isVariable_7 : decode cX1_isVariable 7 = .ok (.invokevirtual 89, 3) := by decide +kernel
theorem dX1_isVariable_10 : decode cX1_isVariable 10 = .ok (.if_icmp .ne 20, 3) := by decide +kernel
theorem dX1_isVariable_13 : decode cX1_isVariable 13 = .ok (.aload_n 0, 1) := by decide +kernel
theorem dX1_isVariable_14 : decode cX1_isVariable 14 = .ok (.iload_n 1, 1) := by decide +kernel
theorem dX1_isVariable_15 : decode cX1_isVariable 15 = .ok (.invokevirtual 49, 3) := by decide +kernel
theorem dX1_isVariable_18 : decode cX1_isVariable 18 = .ok (.aload_n 0, 1) := by decide +kernel
theorem dX1_isVariable_19 : decode cX1_isVariable 19 = .ok (.iload_n 2, 1) := by decide +kernel
theorem dX1_isVariable_20 : decode cX1_isVariable 20 = .ok (.invokevirtual 92, 3) := by decide +kernel
theorem dX1_isVariable_23 : decode cX1_isVariable 23 = .ok (.if_icmp .ne 7, 3) := by decide +kernel
theorem dX1_isVariable_26 : decode cX1_isVariable 26 = .ok (.iconst 1, 1) := by decide +kernel
theorem dX1_isVariable_27 : decode cX1_isVariable 27 = .ok (.goto 4, 3) := by decide +kernel
theorem dX1_isVariable_30 : decode cX1_isVariable 30 = .ok (.iconst 0, 1) := by decide +kernel
theorem dX1_isVariable_31 : decode cX1_isVariable 31 = .ok (.ireturn, 1) := by decide +kernel
set_option maxRecDepth 20000 in
theorem ggX1_addBinding_X3_begin : GoodIn wsX1_addBinding wsX3_begin := goodIn_r _ [6, 7, 8, 9, 10, 85, 86, 87, 88, 89, 90] (by decide +kernel) (by decide +kernel)
set_option maxRecDepth 20000 in
theorem gX1_addBinding_X3_begin : GoodIn wsX1_addBinding (wsV RX1 73 RX3 yX3_begin wsX3_begin) := goodIn_app (goodIn_of _ (by decide +kernel)) ggX1_addBinding_X3_begin
set_option maxRecDepth 20000 in
theorem ggX1_addBinding_X1_start : GoodIn wsX1_addBinding wsX1_start := goodIn_r _ [15, 16, 17, 18, 19, 77, 78, 79, 80, 81, 82, 83, 84] (by decide +kernel) (by decide +kernel)
set_option maxRecDepth 20000 in
theorem gX1_addBinding_X1_start : GoodIn wsX1_addBinding (wsV RX1 43 RX1 yX1_start wsX1_start) := goodIn_app (goodIn_of _ (by decide +kernel)) ggX1_addBinding_X1_start
set_option maxRecDepth 20000 in
theorem ggX1_addBinding_X1_end : GoodIn wsX1_addBinding wsX1_end := goodIn_r _ [23, 16, 17, 18, 19, 77, 78, 79, 80, 81, 82, 83, 84] (by decide +kernel) (by decide +kernel)
set_option maxRecDepth 20000 in
theorem gX1_addBinding_X1_end : GoodIn wsX1_addBinding (wsV RX1 39 RX1 yX1_end wsX1_end) := goodIn_app (goodIn_of _ (by decide +kernel)) ggX1_addBinding_X1_end
set_option maxRecDepth 20000 in
theorem ggX1_addBinding_X1_isVariable : GoodIn wsX1_addBinding wsX1_isVariable := goodIn_r _ [27, 28, 29, 30, 14, 31, 32, 17, 18, 19, 33, 34, 35, 36, 11, 12, 13, 15, 16, 37, 38, 39, 40, 41, 42, 43, 44, 45, 77, 78, 79, 80, 81, 82, 83, 84] (by decide +kernel) (by decide +kernel)
set_option maxRecDepth 20000 in
theorem gX1_addBinding_X1_isVariable : GoodIn wsX1_addBinding (wsV RX1 95 RX1 yX1_isVariable wsX1_isVariable) := goodIn_app (goodIn_of _ (by decide +kernel)) ggX1_addBinding_X1_isVariable
set_option maxRecDepth 20000 in
theorem ggX1_addBinding_X3_around : GoodIn wsX1_addBinding wsX3_around := goodIn_r _ [49, 9, 85, 86, 87, 88, 89, 90] (by decide +kernel) (by decide +kernel)
set_option maxRecDepth 20000 in
theorem gX1_addBinding_X3_around : GoodIn wsX1_addBinding (wsV RX1 99 RX3 yX3_around wsX3_around) := goodIn_app (goodIn_of _ (by decide +kernel)) ggX1_addBinding_X3_around
set_option maxRecDepth 20000 in
theorem ggX1_addBinding_X4_codeOf : GoodIn wsX1_addBinding wsX4_codeOf := goodIn_r _ [51] (by decide +kernel) (by decide +kernel)
set_option maxRecDepth 20000 in
theorem gX1_addBinding_X4_codeOf_n102 : GoodIn wsX1_addBinding (wsX4_codeOf) := ggX1_addBinding_X4_codeOf
set_option maxRecDepth 20000 in
theorem ggX1_addBinding_X1_code : GoodIn wsX1_addBinding wsX1_code := goodIn_r _ [31, 32, 17, 18, 19, 77, 78, 79, 80, 81, 82, 83, 84] (by decide +kernel) (by decide +kernel)
set_option maxRecDepth 20000 in
theorem gX1_addBinding_X1_code : GoodIn wsX1_addBinding (wsV RX1 46 RX1 yX1_code wsX1_code) := goodIn_app (goodIn_of _ (by decide +kernel)) ggX1_addBinding_X1_code
set_option maxRecDepth 20000 in
theorem ggX1_addBinding_X1_symbolType : GoodIn wsX1_addBinding wsX1_symbolType := goodIn_r _ [40, 41, 17, 18, 19, 77, 78, 79, 80, 81, 82, 83, 84] (by decide +kernel) (by decide +kernel)
set_option maxRecDepth 20000 in
theorem gX1_addBinding_X1_symbolType : GoodIn wsX1_addBinding (wsV RX1 49 RX1 yX1_symbolType wsX1_symbolType) := goodIn_app (goodIn_of _ (by decide +kernel)) ggX1_addBinding_X1_symbolType
set_option maxRecDepth 20000 in
theorem ggX1_addBinding_X1_add : GoodIn wsX1_addBinding wsX1_add := goodIn_r _ [55, 56, 32, 57, 41, 58, 59, 60, 14, 61, 62, 11, 12, 13, 15, 16, 17, 18, 19, 77, 78, 79, 80, 81, 82, 83, 84] (by decide +kernel) (by decide +kernel)
set_option maxRecDepth 20000 in
theorem gX1_addBinding_X1_add : GoodIn wsX1_addBinding (wsV RX1 105 RX1 yX1_add wsX1_add) := goodIn_app (goodIn_of _ (by decide +kernel)) ggX1_addBinding_X1_add
set_option maxRecDepth 20000 in
theorem ggX1_addBinding_X3_pass : GoodIn wsX1_addBinding wsX3_pass := goodIn_r _ [66, 8, 9, 67, 68, 69, 5, 70, 7, 71, 72, 73, 74, 75, 76, 10, 17, 18, 19, 85, 86, 87, 88, 89, 90] (by decide +kernel) (by decide +kernel)
set_option maxRecDepth 20000 in
theorem gX1_addBinding_X3_pass : GoodIn wsX1_addBinding (wsV RX1 85 RX3 yX3_pass wsX3_pass) := goodIn_app (goodIn_of _ (by decide +kernel)) ggX1_addBinding_X3_pass
theorem dX1_addBinding_0 : decode cX1_addBinding 0 = .ok (.aload_n 0, 1) := by decide +kernel
theorem dX1_addBinding_1 : decode cX1_addBinding 1 = .ok (.getfield 27, 3) := by decide +kernel
theorem dX1_addBinding_4 : decode cX1_addBinding 4 = .ok (.invokevirtual 73, 3) := by decide +kernel
theorem dX1_addBinding_7 : decode cX1_addBinding 7 = .ok (.aload_n 0, 1) := by decide +kernel
theorem dX1_addBinding_8 : decode cX1_addBinding 8 = .ok (.iload_n 2, 1) := by decide +kernel
theorem dX1_addBinding_9 : decode cX1_addBinding 9 = .ok (.invokevirtual 43, 3) := by decide +kernel
theorem dX1_addBinding_12 : decode cX1_addBinding 12 = .ok (.istore_n 3, 1) := by decide +kernel
theorem dX1_addBinding_13 : decode cX1_addBinding 13 = .ok (.iload_n 3, 1) := by decide +kernel
theorem dX1_addBinding_14 : decode cX1_addBinding 14 = .ok (.aload_n 0, 1) := by decide +kernel
theorem dX1_addBinding_15 : decode cX1_addBinding 15 = .ok (.iload_n 2, 1) := by decide +kernel
theorem dX1_addBinding_16 : decode cX1_addBinding 16 = .ok (.invokevirtual 39, 3) := by decide +kernel
theorem dX1_addBinding_19 : decode cX1_addBinding 19 = .ok (.if_icmp .ge 59, 3) := by decide +kernel
theorem dX1_addBinding_22 : decode cX1_addBinding 22 = .ok (.aload_n 0, 1) := by decide +kernel
theorem dX1_addBinding_23 : decode cX1_addBinding 23 = .ok (.iload_n 3, 1) := by decide +kernel
theorem dX1_addBinding_24 : decode cX1_addBinding 24 = .ok (.iload_n 1, 1) := by decide +kernel
theorem dX1_addBinding_25 : decode cX1_addBinding 25 = .ok (.invokevirtual 95, 3) := by decide +kernel
theorem dX1_addBinding_28 : decode cX1_addBinding 28 = .ok (.ifCond .eq 17, 3) := by decide +kernel
theorem dX1_addBinding_31 : decode cX1_addBinding 31 = .ok (.iconst 0, 1) := by decide +kernel
theorem dX1_addBinding_32 : decode cX1_addBinding 32 = .ok (.aload_n 0, 1) := by decide +kernel
theorem dX1_addBinding_33 : decode cX1_addBinding 33 = .ok (.getfield 27, 3) := by decide +kernel
theorem dX1_addBinding_36 : decode cX1_addBinding 36 = .ok (.invokevirtual 99, 3) := by decide +kernel
theorem dX1_addBinding_39 : decode cX1_addBinding 39 = .ok (.invokestatic 102, 3) := by decide +kernel
theorem dX1_addBinding_42 : decode cX1_addBinding 42 = .ok (.goto 8, 3) := by decide +kernel
theorem dX1_addBinding_45 : decode cX1_addBinding 45 = .ok (.aload_n 0, 1) := by decide +kernel
theorem dX1_addBinding_46 : decode cX1_addBinding 46 = .ok (.iload_n 3, 1) := by decide +kernel
theorem dX1_addBinding_47 : decode cX1_addBinding 47 = .ok (.invokevirtual 46, 3) := by decide +kernel
theorem dX1_addBinding_50 : decode cX1_addBinding 50 = .ok (.istore 4, 2) := by decide +kernel
theorem dX1_addBinding_52 : decode cX1_addBinding 52 = .ok (.aload_n 0, 1) := by decide +kernel
theorem dX1_addBinding_53 : decode cX1_addBinding 53 = .ok (.iload 4, 2) := by decide +kernel
theorem dX1_addBinding_55 : decode cX1_addBinding 55 = .ok (.aload_n 0, 1) := by decide +kernel
theorem dX1_addBinding_56 : decode cX1_addBinding 56 = .ok (.iload_n 3, 1) := by decide +kernel
theorem dX1_addBinding_57 : decode cX1_addBinding 57 = .ok (.invokevirtual 49, 3) := by decide +kernel
theorem dX1_addBinding_60 : decode cX1_addBinding 60 = .ok (.invokevirtual 105, 3) := by decide +kernel
theorem dX1_addBinding_63 : decode cX1_addBinding 63 = .ok (.aload_n 0, 1) := by decide +kernel
theorem dX1_addBinding_64 : decode cX1_addBinding 64 = .ok (.getfield 27, 3) := by decide +kernel
theorem dX1_addBinding_67 : decode cX1_addBinding 67 = .ok (.iload 4, 2) := by decide +kernel
theorem dX1_addBinding_69 : decode cX1_addBinding 69 = .ok (.invokevirtual 85, 3) := by decide +kernel
theorem dX1_addBinding_72 : decode cX1_addBinding 72 = .ok (.iinc 3 1, 3) := by decide +kernel
theorem dX1_addBinding_75 : decode cX1_addBinding 75 = .ok (.goto (-62), 3) := by decide +kernel
theorem dX1_addBinding_78 : decode cX1_addBinding 78 = .ok (.return_, 1) := by decide +kernel
set_option maxRecDepth 20000 in
theorem ggX1_addOpened_X3_begin : GoodIn wsX1_addOpened wsX3_begin := goodIn_r _ [6, 7, 8, 9, 10, 85, 86, 87, 88, 89, 90] (by decide +kernel) (by decide +kernel)
set_option maxRecDepth 20000 in
theorem gX1_addOpened_X3_begin : GoodIn wsX1_addOpened (wsV RX1 73 RX3 yX3_begin wsX3_begin) := goodIn_app (goodIn_of _ (by decide +kernel)) ggX1_addOpened_X3_begin
set_option maxRecDepth 20000 in
theorem ggX1_addOpened_X1_start : GoodIn wsX1_addOpened wsX1_start := goodIn_r _ [15, 16, 17, 18, 19, 77, 78, 79, 80, 81, 82, 83, 84] (by decide +kernel) (by decide +kernel)
set_option maxRecDepth 20000 in
theorem gX1_addOpened_X1_start : GoodIn wsX1_addOpened (wsV RX1 43 RX1 yX1_start wsX1_start) := goodIn_app (goodIn_of _ (by decide +kernel)) ggX1_addOpened_X1_start
set_option maxRecDepth 20000 in
theorem ggX1_addOpened_X1_end : GoodIn wsX1_addOpened wsX1_end := goodIn_r _ [23, 16, 17, 18, 19, 77, 78, 79, 80, 81, 82, 83, 84] (by decide +kernel) (by decide +kernel)
set_option maxRecDepth 20000 in
theorem gX1_addOpened_X1_end : GoodIn wsX1_addOpened (wsV RX1 39 RX1 yX1_end wsX1_end) := goodIn_app (goodIn_of _ (by decide +kernel)) ggX1_addOpened_X1_end
set_option maxRecDepth 20000 in
theorem ggX1_addOpened_X1_code : GoodIn wsX1_addOpened wsX1_code := goodIn_r _ [27, 28, 17, 18, 19, 77, 78, 79, 80, 81, 82, 83, 84] (by decide +kernel) (by decide +kernel)
set_option maxRecDepth 20000 in
theorem gX1_addOpened_X1_code : GoodIn wsX1_addOpened (wsV RX1 46 RX1 yX1_code wsX1_code) := goodIn_app (goodIn_of _ (by decide +kernel)) ggX1_addOpened_X1_code
set_option maxRecDepth 20000 in
theorem ggX1_addOpened_X3_around : GoodIn wsX1_addOpened wsX3_around := goodIn_r _ [32, 9, 85, 86, 87, 88, 89, 90] (by decide +kernel) (by decide +kernel)
set_option maxRecDepth 20000 in
theorem gX1_addOpened_X3_around : GoodIn wsX1_addOpened (wsV RX1 99 RX3 yX3_around wsX3_around) := goodIn_app (goodIn_of _ (by decide +kernel)) ggX1_addOpened_X3_around
set_option maxRecDepth 20000 in
theorem ggX1_addOpened_X4_codeOf : GoodIn wsX1_addOpened wsX4_codeOf := goodIn_r _ [34] (by decide +kernel) (by decide +kernel)
set_option maxRecDepth 20000 in
theorem gX1_addOpened_X4_codeOf_n102 : GoodIn wsX1_addOpened (wsX4_codeOf) := ggX1_addOpened_X4_codeOf
set_option maxRecDepth 20000 in
theorem ggX1_addOpened_X1_addOrCopy : GoodIn wsX1_addOpened wsX1_addOrCopy := goodIn_r _ [38, 11, 12, 13, 14, 15, 16, 17, 18, 19, 20, 21, 22, 23, 39, 40, 41, 42, 43, 44, 28, 45, 46, 47, 48, 49, 50, 51, 52, 53, 54, 24, 25, 26, 27, 55, 56, 57, 58, 59, 60, 61, 62, 77, 78, 79, 80, 81, 82, 83, 84] (by decide +kernel) (by decide +kernel)
set_option maxRecDepth 20000 in
theorem gX1_addOpened_X1_addOrCopy : GoodIn wsX1_addOpened (wsV RX1 109 RX1 yX1_addOrCopy wsX1_addOrCopy) := goodIn_app (goodIn_of _ (by decide +kernel)) ggX1_addOpened_X1_addOrCopy
set_option maxRecDepth 20000 in
theorem ggX1_addOpened_X3_pass : GoodIn wsX1_addOpened wsX3_pass := goodIn_r _ [66, 8, 9, 67, 68, 69, 5, 70, 7, 71, 72, 73, 74, 75, 76, 10, 17, 18, 19, 85, 86, 87, 88, 89, 90] (by decide +kernel) (by decide +kernel)
set_option maxRecDepth 20000 in
theorem gX1_addOpened_X3_pass : GoodIn wsX1_addOpened (wsV RX1 85 RX3 yX3_pass wsX3_pass) := goodIn_app (goodIn_of _ (by decide +kernel)) ggX1_addOpened_X3_pass
theorem dX1_addOpened_0 : decode cX1_addOpened 0 = .ok (.aload_n 0, 1) := by decide +kernel
theorem dX1_addOpened_1 : decode cX1_addOpened 1 = .ok (.getfield 27, 3) := by decide +kernel
theorem dX1_addOpened_4 : decode cX1_addOpened 4 = .ok (.invokevirtual 73, 3) := by decide +kernel
theorem dX1_addOpened_7 : decode cX1_addOpened 7 = .ok (.aload_n 0, 1) := by decide +kernel
theorem dX1_addOpened_8 : decode cX1_addOpened 8 = .ok (.iload_n 1, 1) := by decide +kernel
theorem dX1_addOpened_9 : decode cX1_addOpened 9 = .ok (.invokevirtual 43, 3) := by decide +kernel
theorem dX1_addOpened_12 : decode cX1_addOpened 12 = .ok (.iconst 1, 1) := by decide +kernel
theorem dX1_addOpened_13 : decode cX1_addOpened 13 = .ok (.iadd, 1) := by decide +kernel
theorem dX1_addOpened_14 : decode cX1_addOpened 14 = .ok (.istore_n 3, 1) := by decide +kernel
theorem dX1_addOpened_15 : decode cX1_addOpened 15 = .ok (.iload_n 3, 1) := by decide +kernel
theorem dX1_addOpened_16 : decode cX1_addOpened 16 = .ok (.aload_n 0, 1) := by decide +kernel
theorem dX1_addOpened_17 : decode cX1_addOpened 17 = .ok (.iload_n 1, 1) := by decide +kernel
theorem dX1_addOpened_18 : decode cX1_addOpened 18 = .ok (.invokevirtual 39, 3) := by decide +kernel
theorem dX1_addOpened_21 : decode cX1_addOpened 21 = .ok (.if_icmp .ge 51, 3) := by decide +kernel
theorem dX1_addOpened_24 : decode cX1_addOpened 24 = .ok (.aload_n 0, 1) := by decide +kernel
theorem dX1_addOpened_25 : decode cX1_addOpened 25 = .ok (.iload_n 3, 1) := by decide +kernel
theorem dX1_addOpened_26 : decode cX1_addOpened 26 = .ok (.aload_n 0, 1) := by decide +kernel
theorem dX1_addOpened_27 : decode cX1_addOpened 27 = .ok (.iload_n 3, 1) := by decide +kernel
theorem dX1_addOpened_28 : decode cX1_addOpened 28 = .ok (.invokevirtual 46, 3) := by decide +kernel
theorem dX1_addOpened_31 : decode cX1_addOpened 31 = .ok (.iconst 0, 1) := by decide +kernel
theorem dX1_addOpened_32 : decode cX1_addOpened 32 = .ok (.aload_n 0, 1) := by decide +kernel
theorem dX1_addOpened_33 : decode cX1_addOpened 33 = .ok (.getfield 27, 3) := by decide +kernel
theorem dX1_addOpened_36 : decode cX1_addOpened 36 = .ok (.invokevirtual 99, 3) := by decide +kernel
theorem dX1_addOpened_39 : decode cX1_addOpened 39 = .ok (.invokestatic 102, 3) := by decide +kernel
theorem dX1_addOpened_42 : decode cX1_addOpened 42 = .ok (.if_icmp .ne 7, 3) := by decide +kernel
theorem dX1_addOpened_45 : decode cX1_addOpened 45 = .ok (.iconst 1, 1) := by decide +kernel
theorem dX1_addOpened_46 : decode cX1_addOpened 46 = .ok (.goto 4, 3) := by decide +kernel
theorem dX1_addOpened_49 : decode cX1_addOpened 49 = .ok (.iconst 0, 1) := by decide +kernel
theorem dX1_addOpened_50 : decode cX1_addOpened 50 = .ok (.iload_n 2, 1) := by decide +kernel
theorem dX1_addOpened_51 : decode cX1_addOpened 51 = .ok (.invokevirtual 109, 3) := by decide +kernel
theorem dX1_addOpened_54 : decode cX1_addOpened 54 = .ok (.aload_n 0, 1) := by decide +kernel
theorem dX1_addOpened_55 : decode cX1_addOpened 55 = .ok (.getfield 27, 3) := by decide +kernel
theorem dX1_addOpened_58 : decode cX1_addOpened 58 = .ok (.aload_n 0, 1) := by decide +kernel
theorem dX1_addOpened_59 : decode cX1_addOpened 59 = .ok (.iload_n 3, 1) := by decide +kernel
theorem dX1_addOpened_60 : decode cX1_addOpened 60 = .ok (.invokevirtual 46, 3) := by decide +kernel
theorem dX1_addOpened_63 : decode cX1_addOpened 63 = .ok (.invokevirtual 85, 3) := by decide +kernel
theorem dX1_addOpened_66 : decode cX1_addOpened 66 = .ok (.iinc 3 1, 3) := by decide +kernel
theorem dX1_addOpened_69 : decode cX1_addOpened 69 = .ok (.goto (-54), 3) := by decide +kernel
theorem dX1_addOpened_72 : decode cX1_addOpened 72 = .ok (.return_, 1) := by decide +kernel
set_option maxRecDepth 20000 in
theorem ggX1_addReplaced_X1_start : GoodIn wsX1_addReplaced wsX1_start := goodIn_r _ [5, 6, 7, 8, 9, 59, 60, 61, 62, 63, 64, 65, 66] (by decide +kernel) (by decide +kernel)
set_option maxRecDepth 20000 in
theorem gX1_addReplaced_X1_start : GoodIn wsX1_addReplaced (wsV RX1 43 RX1 yX1_start wsX1_start) := goodIn_app (goodIn_of _ (by decide +kernel)) ggX1_addReplaced_X1_start
set_option maxRecDepth 20000 in
theorem ggX1_addReplaced_X1_end : GoodIn wsX1_addReplaced wsX1_end := goodIn_r _ [13, 6, 7, 8, 9, 59, 60, 61, 62, 63, 64, 65, 66] (by decide +kernel) (by decide +kernel)
set_option maxRecDepth 20000 in
theorem gX1_addReplaced_X1_end : GoodIn wsX1_addReplaced (wsV RX1 39 RX1 yX1_end wsX1_end) := goodIn_app (goodIn_of _ (by decide +kernel)) ggX1_addReplaced_X1_end
set_option maxRecDepth 20000 in
theorem ggX1_addReplaced_X1_isVariable : GoodIn wsX1_addReplaced wsX1_isVariable := goodIn_r _ [17, 18, 19, 20, 4, 21, 22, 7, 8, 9, 23, 24, 25, 26, 1, 2, 3, 5, 6, 27, 28, 29, 30, 31, 32, 33, 34, 35, 59, 60, 61, 62, 63, 64, 65, 66] (by decide +kernel) (by decide +kernel)
set_option maxRecDepth 20000 in
theorem gX1_addReplaced_X1_isVariable : GoodIn wsX1_addReplaced (wsV RX1 95 RX1 yX1_isVariable wsX1_isVariable) := goodIn_app (goodIn_of _ (by decide +kernel)) ggX1_addReplaced_X1_isVariable
set_option maxRecDepth 20000 in
theorem ggX1_addReplaced_X1_addOrCopy : GoodIn wsX1_addReplaced wsX1_addOrCopy := goodIn_r _ [39, 1, 2, 3, 4, 5, 6, 7, 8, 9, 10, 11, 12, 13, 40, 41, 42, 43, 44, 45, 22, 46, 47, 48, 49, 31, 50, 51, 52, 53, 54, 18, 19, 20, 21, 27, 28, 29, 30, 55, 56, 57, 58, 59, 60, 61, 62, 63, 64, 65, 66] (by decide +kernel) (by decide +kernel)
set_option maxRecDepth 20000 in
theorem gX1_addReplaced_X1_addOrCopy : GoodIn wsX1_addReplaced (wsV RX1 109 RX1 yX1_addOrCopy wsX1_addOrCopy) := goodIn_app (goodIn_of _ (by decide +kernel)) ggX1_addReplaced_X1_addOrCopy
theorem dX1_addReplaced_0 : decode cX1_addReplaced 0 = .ok (.aload_n 0, 1) := by decide +kernel
theorem dX1_addReplaced_1 : decode cX1_addReplaced 1 = .ok (.iload_n 1, 1) := by decide +kernel
theorem dX1_addReplaced_2 : decode cX1_addReplaced 2 = .ok (.invokevirtual 43, 3) := by decide +kernel
theorem dX1_addReplaced_5 : decode cX1_addReplaced 5 = .ok (.istore 4, 2) := by decide +kernel
theorem dX1_addReplaced_7 : decode cX1_addReplaced 7 = .ok (.iload 4, 2) := by decide +kernel
theorem dX1_addReplaced_9 : decode cX1_addReplaced 9 = .ok (.aload_n 0, 1) := by decide +kernel
theorem dX1_addReplaced_10 : decode cX1_addReplaced 10 = .ok (.iload_n 1, 1) := by decide +kernel
theorem dX1_addReplaced_11 : decode cX1_addReplaced 11 = .ok (.invokevirtual 39, 3) := by decide +kernel
theorem dX1_addReplaced_14 : decode cX1_addReplaced 14 = .ok (.if_icmp .ge 23, 3) := by decide +kernel
theorem dX1_addReplaced_17 : decode cX1_addReplaced 17 = .ok (.aload_n 0, 1) := by decide +kernel
theorem dX1_addReplaced_18 : decode cX1_addReplaced 18 = .ok (.iload 4, 2) := by decide +kernel
theorem dX1_addReplaced_20 : decode cX1_addReplaced 20 = .ok (.aload_n 0, 1) := by decide +kernel
theorem dX1_addReplaced_21 : decode cX1_addReplaced 21 = .ok (.iload 4, 2) := by decide +kernel
theorem dX1_addReplaced_23 : decode cX1_addReplaced 23 = .ok (.iload_n 2, 1) := by decide +kernel
theorem dX1_addReplaced_24 : decode cX1_addReplaced 24 = .ok (.invokevirtual 95, 3) := by decide +kernel
theorem dX1_addReplaced_27 : decode cX1_addReplaced 27 = .ok (.iload_n 3, 1) := by decide +kernel
theorem dX1_addReplaced_28 : decode cX1_addReplaced 28 = .ok (.invokevirtual 109, 3) := by decide +kernel
theorem dX1_addReplaced_31 : decode cX1_addReplaced 31 = .ok (.iinc 4 1, 3) := by decide +kernel
theorem dX1_addReplaced_34 : decode cX1_addReplaced 34 = .ok (.goto (-27), 3) := by decide +kernel
theorem dX1_addReplaced_37 : decode cX1_addReplaced 37 = .ok (.return_, 1) := by decide +kernel
set_option maxRecDepth 20000 in
theorem ggX1_addOrCopy_X1_start : GoodIn wsX1_addOrCopy wsX1_start := goodIn_r _ [5, 6, 7, 8, 9, 43, 44, 45, 46, 47, 48, 49, 50] (by decide +kernel) (by decide +kernel)
set_option maxRecDepth 20000 in
theorem gX1_addOrCopy_X1_start : GoodIn wsX1_addOrCopy (wsV RX1 43 RX1 yX1_start wsX1_start) := goodIn_app (goodIn_of _ (by decide +kernel)) ggX1_addOrCopy_X1_start
set_option maxRecDepth 20000 in
theorem ggX1_addOrCopy_X1_end : GoodIn wsX1_addOrCopy wsX1_end := goodIn_r _ [13, 6, 7, 8, 9, 43, 44, 45, 46, 47, 48, 49, 50] (by decide +kernel) (by decide +kernel)
set_option maxRecDepth 20000 in
theorem gX1_addOrCopy_X1_end : GoodIn wsX1_addOrCopy (wsV RX1 39 RX1 yX1_end wsX1_end) := goodIn_app (goodIn_of _ (by decide +kernel)) ggX1_addOrCopy_X1_end
set_option maxRecDepth 20000 in
theorem ggX1_addOrCopy_X1_copy : GoodIn wsX1_addOrCopy wsX1_copy := goodIn_r _ [17, 18, 19, 20, 21, 22, 23, 24, 25, 26, 27, 28, 4, 29, 30, 1, 2, 3, 5, 6, 7, 8, 9, 43, 44, 45, 46, 47, 48, 49, 50] (by decide +kernel) (by decide +kernel)
set_option maxRecDepth 20000 in
theorem gX1_addOrCopy_X1_copy : GoodIn wsX1_addOrCopy (wsV RX1 113 RX1 yX1_copy wsX1_copy) := goodIn_app (goodIn_of _ (by decide +kernel)) ggX1_addOrCopy_X1_copy
set_option maxRecDepth 20000 in
theorem ggX1_addOrCopy_X1_code : GoodIn wsX1_addOrCopy wsX1_code := goodIn_r _ [34, 20, 7, 8, 9, 43, 44, 45, 46, 47, 48, 49, 50] (by decide +kernel) (by decide +kernel)
set_option maxRecDepth 20000 in
theorem gX1_addOrCopy_X1_code : GoodIn wsX1_addOrCopy (wsV RX1 46 RX1 yX1_code wsX1_code) := goodIn_app (goodIn_of _ (by decide +kernel)) ggX1_addOrCopy_X1_code
set_option maxRecDepth 20000 in
theorem ggX1_addOrCopy_X1_symbolType : GoodIn wsX1_addOrCopy wsX1_symbolType := goodIn_r _ [38, 25, 7, 8, 9, 43, 44, 45, 46, 47, 48, 49, 50] (by decide +kernel) (by decide +kernel)
set_option maxRecDepth 20000 in
theorem gX1_addOrCopy_X1_symbolType : GoodIn wsX1_addOrCopy (wsV RX1 49 RX1 yX1_symbolType wsX1_symbolType) := goodIn_app (goodIn_of _ (by decide +kernel)) ggX1_addOrCopy_X1_symbolType
set_option maxRecDepth 20000 in
theorem ggX1_addOrCopy_X1_add : GoodIn wsX1_addOrCopy wsX1_add := goodIn_r _ [42, 18, 20, 19, 25, 26, 27, 28, 4, 29, 30, 1, 2, 3, 5, 6, 7, 8, 9, 43, 44, 45, 46, 47, 48, 49, 50] (by decide +kernel) (by decide +kernel)
set_option maxRecDepth 20000 in
theorem gX1_addOrCopy_X1_add : GoodIn wsX1_addOrCopy (wsV RX1 105 RX1 yX1_add wsX1_add) := goodIn_app (goodIn_of _ (by decide +kernel)) ggX1_addOrCopy_X1_add
theorem dX1_addOrCopy_0 : decode cX1_addOrCopy 0 = .ok (.iload_n 2, 1) := by decide +kernel
theorem dX1_addOrCopy_1 : decode cX1_addOrCopy 1 = .ok (.ifCond .eq 20, 3) := by decide +kernel
theorem dX1_addOrCopy_4 : decode cX1_addOrCopy 4 = .ok (.aload_n 0, 1) := by decide +kernel
theorem dX1_addOrCopy_5 : decode cX1_addOrCopy 5 = .ok (.aload_n 0, 1) := by decide +kernel
theorem dX1_addOrCopy_6 : decode cX1_addOrCopy 6 = .ok (.iload_n 3, 1) := by decide +kernel
theorem dX1_addOrCopy_7 : decode cX1_addOrCopy 7 = .ok (.invokevirtual 43, 3) := by decide +kernel
theorem dX1_addOrCopy_10 : decode cX1_addOrCopy 10 = .ok (.aload_n 0, 1) := by decide +kernel
theorem dX1_addOrCopy_11 : decode cX1_addOrCopy 11 = .ok (.iload_n 3, 1) := by decide +kernel
theorem dX1_addOrCopy_12 : decode cX1_addOrCopy 12 = .ok (.invokevirtual 39, 3) := by decide +kernel
theorem dX1_addOrCopy_15 : decode cX1_addOrCopy 15 = .ok (.invokevirtual 113, 3) := by decide +kernel
theorem dX1_addOrCopy_18 : decode cX1_addOrCopy 18 = .ok (.goto 17, 3) := by decide +kernel
theorem dX1_addOrCopy_21 : decode cX1_addOrCopy 21 = .ok (.aload_n 0, 1) := by decide +kernel
theorem dX1_addOrCopy_22 : decode cX1_addOrCopy 22 = .ok (.aload_n 0, 1) := by decide +kernel
theorem dX1_addOrCopy_23 : decode cX1_addOrCopy 23 = .ok (.iload_n 1, 1) := by decide +kernel
theorem dX1_addOrCopy_24 : decode cX1_addOrCopy 24 = .ok (.invokevirtual 46, 3) := by decide +kernel
theorem dX1_addOrCopy_27 : decode cX1_addOrCopy 27 = .ok (.aload_n 0, 1) := by decide +kernel
theorem dX1_addOrCopy_28 : decode cX1_addOrCopy 28 = .ok (.iload_n 1, 1) := by decide +kernel
theorem dX1_addOrCopy_29 : decode cX1_addOrCopy 29 = .ok (.invokevirtual 49, 3) := by decide +kernel
theorem dX1_addOrCopy_32 : decode cX1_addOrCopy 32 = .ok (.invokevirtual 105, 3) := by decide +kernel
theorem dX1_addOrCopy_35 : decode cX1_addOrCopy 35 = .ok (.return_, 1) := by decide +kernel
set_option maxRecDepth 20000 in
theorem ggX1_addRetyped_X1_start : GoodIn wsX1_addRetyped wsX1_start := goodIn_r _ [5, 6, 7, 8, 9, 102, 103, 104, 105, 106, 107, 108, 109] (by decide +kernel) (by decide +kernel)
set_option maxRecDepth 20000 in
theorem gX1_addRetyped_X1_start : GoodIn wsX1_addRetyped (wsV RX1 43 RX1 yX1_start wsX1_start) := goodIn_app (goodIn_of _ (by decide +kernel)) ggX1_addRetyped_X1_start
set_option maxRecDepth 20000 in
theorem ggX1_addRetyped_X1_end : GoodIn wsX1_addRetyped wsX1_end := goodIn_r _ [13, 6, 7, 8, 9, 102, 103, 104, 105, 106, 107, 108, 109] (by decide +kernel) (by decide +kernel)
set_option maxRecDepth 20000 in
theorem gX1_addRetyped_X1_end : GoodIn wsX1_addRetyped (wsV RX1 39 RX1 yX1_end wsX1_end) := goodIn_app (goodIn_of _ (by decide +kernel)) ggX1_addRetyped_X1_end
set_option maxRecDepth 20000 in
theorem ggX1_addRetyped_X1_symbolType : GoodIn wsX1_addRetyped wsX1_symbolType := goodIn_r _ [17, 18, 7, 8, 9, 102, 103, 104, 105, 106, 107, 108, 109] (by decide +kernel) (by decide +kernel)
set_option maxRecDepth 20000 in
theorem gX1_addRetyped_X1_symbolType : GoodIn wsX1_addRetyped (wsV RX1 49 RX1 yX1_symbolType wsX1_symbolType) := goodIn_app (goodIn_of _ (by decide +kernel)) ggX1_addRetyped_X1_symbolType
set_option maxRecDepth 20000 in
theorem ggX1_addRetyped_X2_image : GoodIn wsX1_addRetyped wsX2_image := goodIn_r _ [23, 24, 25, 26, 22, 27, 28, 29, 30, 31, 32, 33, 34, 7, 8, 9, 35, 36, 37, 38, 39, 40, 41, 42, 43, 44, 45, 46, 47, 48, 49, 50, 51, 52, 53, 54, 55, 56, 57, 58, 59, 60, 61, 62, 63, 64, 65, 66, 67, 68, 69, 70, 71, 72, 73, 74, 75, 76, 77, 78, 79, 80, 81, 82, 83, 84, 85, 110, 111, 112, 113, 114, 115, 116, 117, 118, 119, 120, 121, 122, 123] (by decide +kernel) (by decide +kernel)
set_option maxRecDepth 20000 in
theorem gX1_addRetyped_X2_image : GoodIn wsX1_addRetyped (wsV RX1 116 RX2 yX2_image wsX2_image) := goodIn_app (goodIn_of _ (by decide +kernel)) ggX1_addRetyped_X2_image
set_option maxRecDepth 20000 in
theorem ggX1_addRetyped_X1_code : GoodIn wsX1_addRetyped wsX1_code := goodIn_r _ [89, 90, 7, 8, 9, 102, 103, 104, 105, 106, 107, 108, 109] (by decide +kernel) (by decide +kernel)
set_option maxRecDepth 20000 in
theorem gX1_addRetyped_X1_code : GoodIn wsX1_addRetyped (wsV RX1 46 RX1 yX1_code wsX1_code) := goodIn_app (goodIn_of _ (by decide +kernel)) ggX1_addRetyped_X1_code
set_option maxRecDepth 20000 in
theorem ggX1_addRetyped_X1_add : GoodIn wsX1_addRetyped wsX1_add := goodIn_r _ [94, 95, 90, 96, 18, 97, 98, 99, 4, 100, 101, 1, 2, 3, 5, 6, 7, 8, 9, 102, 103, 104, 105, 106, 107, 108, 109] (by decide +kernel) (by decide +kernel)
set_option maxRecDepth 20000 in
theorem gX1_addRetyped_X1_add : GoodIn wsX1_addRetyped (wsV RX1 105 RX1 yX1_add wsX1_add) := goodIn_app (goodIn_of _ (by decide +kernel)) ggX1_addRetyped_X1_add
theorem dX1_addRetyped_0 : decode cX1_addRetyped 0 = .ok (.aload_n 0, 1) := by decide +kernel
theorem dX1_addRetyped_1 : decode cX1_addRetyped 1 = .ok (.iload_n 1, 1) := by decide +kernel
theorem dX1_addRetyped_2 : decode cX1_addRetyped 2 = .ok (.invokevirtual 43, 3) := by decide +kernel
theorem dX1_addRetyped_5 : decode cX1_addRetyped 5 = .ok (.istore_n 3, 1) := by decide +kernel
theorem dX1_addRetyped_6 : decode cX1_addRetyped 6 = .ok (.iload_n 3, 1) := by decide +kernel
theorem dX1_addRetyped_7 : decode cX1_addRetyped 7 = .ok (.aload_n 0, 1) := by decide +kernel
theorem dX1_addRetyped_8 : decode cX1_addRetyped 8 = .ok (.iload_n 1, 1) := by decide +kernel
theorem dX1_addRetyped_9 : decode cX1_addRetyped 9 = .ok (.invokevirtual 39, 3) := by decide +kernel
theorem dX1_addRetyped_12 : decode cX1_addRetyped 12 = .ok (.if_icmp .ge 39, 3) := by decide +kernel
theorem dX1_addRetyped_15 : decode cX1_addRetyped 15 = .ok (.aload_n 2, 1) := by decide +kernel
theorem dX1_addRetyped_16 : decode cX1_addRetyped 16 = .ok (.aload_n 0, 1) := by decide +kernel
theorem dX1_addRetyped_17 : decode cX1_addRetyped 17 = .ok (.iload_n 3, 1) := by decide +kernel
theorem dX1_addRetyped_18 : decode cX1_addRetyped 18 = .ok (.invokevirtual 49, 3) := by decide +kernel
theorem dX1_addRetyped_21 : decode cX1_addRetyped 21 = .ok (.invokevirtual 116, 3) := by decide +kernel
theorem dX1_addRetyped_24 : decode cX1_addRetyped 24 = .ok (.istore 4, 2) := by decide +kernel
theorem dX1_addRetyped_26 : decode cX1_addRetyped 26 = .ok (.iload 4, 2) := by decide +kernel
theorem dX1_addRetyped_28 : decode cX1_addRetyped 28 = .ok (.iconst (-1), 1) := by decide +kernel
theorem dX1_addRetyped_29 : decode cX1_addRetyped 29 = .ok (.if_icmp .ne 5, 3) := by decide +kernel
theorem dX1_addRetyped_32 : decode cX1_addRetyped 32 = .ok (.iconst 0, 1) := by decide +kernel
theorem dX1_addRetyped_33 : decode cX1_addRetyped 33 = .ok (.ireturn, 1) := by decide +kernel
theorem dX1_addRetyped_34 : decode cX1_addRetyped 34 = .ok (.aload_n 0, 1) := by decide +kernel
theorem dX1_addRetyped_35 : decode cX1_addRetyped 35 = .ok (.aload_n 0, 1) := by decide +kernel
theorem dX1_addRetyped_36 : decode cX1_addRetyped 36 = .ok (.iload_n 3, 1) := by decide +kernel
theorem dX1_addRetyped_37 : decode cX1_addRetyped 37 = .ok (.invokevirtual 46, 3) := by decide +kernel
theorem dX1_addRetyped_40 : decode cX1_addRetyped 40 = .ok (.iload 4, 2) := by decide +kernel
theorem dX1_addRetyped_42 : decode cX1_addRetyped 42 = .ok (.invokevirtual 105, 3) := by decide +kernel
theorem dX1_addRetyped_45 : decode cX1_addRetyped 45 = .ok (.iinc 3 1, 3) := by decide +kernel
theorem dX1_addRetyped_48 : decode cX1_addRetyped 48 = .ok (.goto (-42), 3) := by decide +kernel
theorem dX1_addRetyped_51 : decode cX1_addRetyped 51 = .ok (.iconst 1, 1) := by decide +kernel
theorem dX1_addRetyped_52 : decode cX1_addRetyped 52 = .ok (.ireturn, 1) := by decide +kernel
set_option maxRecDepth 20000 in
theorem ggX1_holds_X1_start : GoodIn wsX1_holds wsX1_start := goodIn_r _ [5, 6, 7, 8, 9, 36, 37, 38, 39, 40, 41, 42, 43] (by decide +kernel) (by decide +kernel)
set_option maxRecDepth 20000 in
theorem gX1_holds_X1_start : GoodIn wsX1_holds (wsV RX1 43 RX1 yX1_start wsX1_start) := goodIn_app (goodIn_of _ (by decide +kernel)) ggX1_holds_X1_start
set_option maxRecDepth 20000 in
theorem ggX1_holds_X1_end : GoodIn wsX1_holds wsX1_end := goodIn_r _ [13, 6, 7, 8, 9, 36, 37, 38, 39, 40, 41, 42, 43] (by decide +kernel) (by decide +kernel)
set_option maxRecDepth 20000 in
theorem gX1_holds_X1_end : GoodIn wsX1_holds (wsV RX1 39 RX1 yX1_end wsX1_end) := goodIn_app (goodIn_of _ (by decide +kernel)) ggX1_holds_X1_end
set_option maxRecDepth 20000 in
theorem ggX1_holds_X1_isVariable : GoodIn wsX1_holds wsX1_isVariable := goodIn_r _ [17, 18, 19, 20, 4, 21, 22, 7, 8, 9, 23, 24, 25, 26, 1, 2, 3, 5, 6, 27, 28, 29, 30, 31, 32, 33, 34, 35, 36, 37, 38, 39, 40, 41, 42, 43] (by decide +kernel) (by decide +kernel)
set_option maxRecDepth 20000 in
theorem gX1_holds_X1_isVariable : GoodIn wsX1_holds (wsV RX1 95 RX1 yX1_isVariable wsX1_isVariable) := goodIn_app (goodIn_of _ (by decide +kernel)) ggX1_holds_X1_isVariable
theorem dX1_holds_0 : decode cX1_holds 0 = .ok (.aload_n 0, 1) := by decide +kernel
theorem dX1_holds_1 : decode cX1_holds 1 = .ok (.iload_n 1, 1) := by decide +kernel
theorem dX1_holds_2 : decode cX1_holds 2 = .ok (.invokevirtual 43, 3) := by decide +kernel
theorem dX1_holds_5 : decode cX1_holds 5 = .ok (.istore_n 3, 1) := by decide +kernel
theorem dX1_holds_6 : decode cX1_holds 6 = .ok (.iload_n 3, 1) := by decide +kernel
theorem dX1_holds_7 : decode cX1_holds 7 = .ok (.aload_n 0, 1) := by decide +kernel
theorem dX1_holds_8 : decode cX1_holds 8 = .ok (.iload_n 1, 1) := by decide +kernel
theorem dX1_holds_9 : decode cX1_holds 9 = .ok (.invokevirtual 39, 3) := by decide +kernel
theorem dX1_holds_12 : decode cX1_holds 12 = .ok (.if_icmp .ge 20, 3) := by decide +kernel
theorem dX1_holds_15 : decode cX1_holds 15 = .ok (.aload_n 0, 1) := by decide +kernel
theorem dX1_holds_16 : decode cX1_holds 16 = .ok (.iload_n 3, 1) := by decide +kernel
theorem dX1_holds_17 : decode cX1_holds 17 = .ok (.iload_n 2, 1) := by decide +kernel
theorem dX1_holds_18 : decode cX1_holds 18 = .ok (.invokevirtual 95, 3) := by decide +kernel
theorem dX1_holds_21 : decode cX1_holds 21 = .ok (.ifCond .eq 5, 3) := by decide +kernel
theorem dX1_holds_24 : decode cX1_holds 24 = .ok (.iconst 1, 1) := by decide +kernel
theorem dX1_holds_25 : decode cX1_holds 25 = .ok (.ireturn, 1) := by decide +kernel
theorem dX1_holds_26 : decode cX1_holds 26 = .ok (.iinc 3 1, 3) := by decide +kernel
theorem dX1_holds_29 : decode cX1_holds 29 = .ok (.goto (-23), 3) := by decide +kernel
theorem dX1_holds_32 : decode cX1_holds 32 = .ok (.iconst 0, 1) := by decide +kernel
theorem dX1_holds_33 : decode cX1_holds 33 = .ok (.ireturn, 1) := by decide +kernel
set_option maxRecDepth 20000 in
theorem ggX1_alike_X1_code : GoodIn wsX1_alike wsX1_code := goodIn_r _ [5, 6, 7, 8, 9, 15, 16, 17, 18, 19, 20, 21, 22] (by decide +kernel) (by decide +kernel)
set_option maxRecDepth 20000 in
theorem gX1_alike_X1_code : GoodIn wsX1_alike (wsV RX1 46 RX1 yX1_code wsX1_code) := goodIn_app (goodIn_of _ (by decide +kernel)) ggX1_alike_X1_code
set_option maxRecDepth 20000 in
theorem ggX1_alike_X1_symbolType : GoodIn wsX1_alike wsX1_symbolType := goodIn_r _ [13, 14, 7, 8, 9, 15, 16, 17, 18, 19, 20, 21, 22] (by decide +kernel) (by decide +kernel)
set_option maxRecDepth 20000 in
theorem gX1_alike_X1_symbolType : GoodIn wsX1_alike (wsV RX1 49 RX1 yX1_symbolType wsX1_symbolType) := goodIn_app (goodIn_of _ (by decide +kernel)) ggX1_alike_X1_symbolType
theorem dX1_alike_0 : decode cX1_alike 0 = .ok (.iload_n 2, 1) := by decide +kernel
theorem dX1_alike_1 : decode cX1_alike 1 = .ok (.iload_n 1, 1) := by decide +kernel
theorem dX1_alike_2 : decode cX1_alike 2 = .ok (.isub, 1) := by decide +kernel
theorem dX1_alike_3 : decode cX1_alike 3 = .ok (.iload 4, 2) := by decide +kernel
theorem dX1_alike_5 : decode cX1_alike 5 = .ok (.iload_n 3, 1) := by decide +kernel
theorem dX1_alike_6 : decode cX1_alike 6 = .ok (.isub, 1) := by decide +kernel
theorem dX1_alike_7 : decode cX1_alike 7 = .ok (.if_icmp .eq 5, 3) := by decide +kernel
theorem dX1_alike_10 : decode cX1_alike 10 = .ok (.iconst 0, 1) := by decide +kernel
theorem dX1_alike_11 : decode cX1_alike 11 = .ok (.ireturn, 1) := by decide +kernel
theorem dX1_alike_12 : decode cX1_alike 12 = .ok (.iconst 0, 1) := by decide +kernel
theorem dX1_alike_13 : decode cX1_alike 13 = .ok (.istore 5, 2) := by decide +kernel
theorem dX1_alike_15 : decode cX1_alike 15 = .ok (.iload 5, 2) := by decide +kernel
theorem dX1_alike_17 : decode cX1_alike 17 = .ok (.iload_n 2, 1) := by decide +kernel
theorem dX1_alike_18 : decode cX1_alike 18 = .ok (.iload_n 1, 1) := by decide +kernel
theorem dX1_alike_19 : decode cX1_alike 19 = .ok (.isub, 1) := by decide +kernel
theorem dX1_alike_20 : decode cX1_alike 20 = .ok (.if_icmp .ge 49, 3) := by decide +kernel
theorem dX1_alike_23 : decode cX1_alike 23 = .ok (.aload_n 0, 1) := by decide +kernel
theorem dX1_alike_24 : decode cX1_alike 24 = .ok (.iload_n 1, 1) := by decide +kernel
theorem dX1_alike_25 : decode cX1_alike 25 = .ok (.iload 5, 2) := by decide +kernel
theorem dX1_alike_27 : decode cX1_alike 27 = .ok (.iadd, 1) := by decide +kernel
theorem dX1_alike_28 : decode cX1_alike 28 = .ok (.invokevirtual 46, 3) := by decide +kernel
theorem dX1_alike_31 : decode cX1_alike 31 = .ok (.aload_n 0, 1) := by decide +kernel
theorem dX1_alike_32 : decode cX1_alike 32 = .ok (.iload_n 3, 1) := by decide +kernel
theorem dX1_alike_33 : decode cX1_alike 33 = .ok (.iload 5, 2) := by decide +kernel
theorem dX1_alike_35 : decode cX1_alike 35 = .ok (.iadd, 1) := by decide +kernel
theorem dX1_alike_36 : decode cX1_alike 36 = .ok (.invokevirtual 46, 3) := by decide +kernel
theorem dX1_alike_39 : decode cX1_alike 39 = .ok (.if_icmp .ne 22, 3) := by decide +kernel
theorem dX1_alike_42 : decode cX1_alike 42 = .ok (.aload_n 0, 1) := by decide +kernel
theorem dX1_alike_43 : decode cX1_alike 43 = .ok (.iload_n 1, 1) := by decide +kernel
theorem dX1_alike_44 : decode cX1_alike 44 = .ok (.iload 5, 2) := by decide +kernel
theorem dX1_alike_46 : decode cX1_alike 46 = .ok (.iadd, 1) := by decide +kernel
theorem dX1_alike_47 : decode cX1_alike 47 = .ok (.invokevirtual 49, 3) := by decide +kernel
theorem dX1_alike_50 : decode cX1_alike 50 = .ok (.aload_n 0, 1) := by decide +kernel
theorem dX1_alike_51 : decode cX1_alike 51 = .ok (.iload_n 3, 1) := by decide +kernel
theorem dX1_alike_52 : decode cX1_alike 52 = .ok (.iload 5, 2) := by decide +kernel
theorem dX1_alike_54 : decode cX1_alike 54 = .ok (.iadd, 1) := by decide +kernel
theorem dX1_alike_55 : decode cX1_alike 55 = .ok (.invokevirtual 49, 3) := by decide +kernel
theorem dX1_alike_58 : decode cX1_alike 58 = .ok (.if_icmp .eq 5, 3) := by decide +kernel
theorem dX1_alike_61 : decode cX1_alike 61 = .ok (.iconst 0, 1) := by decide +kernel
theorem dX1_alike_62 : decode cX1_alike 62 = .ok (.ireturn, 1) := by decide +kernel
theorem dX1_alike_63 : decode cX1_alike 63 = .ok (.iinc 5 1, 3) := by decide +kernel
theorem dX1_alike_66 : decode cX1_alike 66 = .ok (.goto (-51), 3) := by decide +kernel
theorem dX1_alike_69 : decode cX1_alike 69 = .ok (.iconst 1, 1) := by decide +kernel
theorem dX1_alike_70 : decode cX1_alike 70 = .ok (.ireturn, 1) := by decide +kernel
set_option maxRecDepth 20000 in
theorem ggX1_endOfClosed_X3_begin : GoodIn wsX1_endOfClosed wsX3_begin := goodIn_r _ [7, 8, 9, 10, 11, 60, 61, 62, 63, 64, 65] (by decide +kernel) (by decide +kernel)
set_option maxRecDepth 20000 in
theorem gX1_endOfClosed_X3_begin : GoodIn wsX1_endOfClosed (wsV RX1 73 RX3 yX3_begin wsX3_begin) := goodIn_app (goodIn_of _ (by decide +kernel)) ggX1_endOfClosed_X3_begin
set_option maxRecDepth 20000 in
theorem ggX1_endOfClosed_X1_start : GoodIn wsX1_endOfClosed wsX1_start := goodIn_r _ [16, 17, 18, 19, 20, 52, 53, 54, 55, 56, 57, 58, 59] (by decide +kernel) (by decide +kernel)
set_option maxRecDepth 20000 in
theorem gX1_endOfClosed_X1_start : GoodIn wsX1_endOfClosed (wsV RX1 43 RX1 yX1_start wsX1_start) := goodIn_app (goodIn_of _ (by decide +kernel)) ggX1_endOfClosed_X1_start
set_option maxRecDepth 20000 in
theorem ggX1_endOfClosed_X1_code : GoodIn wsX1_endOfClosed wsX1_code := goodIn_r _ [24, 25, 18, 19, 20, 52, 53, 54, 55, 56, 57, 58, 59] (by decide +kernel) (by decide +kernel)
set_option maxRecDepth 20000 in
theorem gX1_endOfClosed_X1_code : GoodIn wsX1_endOfClosed (wsV RX1 46 RX1 yX1_code wsX1_code) := goodIn_app (goodIn_of _ (by decide +kernel)) ggX1_endOfClosed_X1_code
set_option maxRecDepth 20000 in
theorem ggX1_endOfClosed_X4_isOf : GoodIn wsX1_endOfClosed wsX4_isOf := goodIn_r _ [27] (by decide +kernel) (by decide +kernel)
set_option maxRecDepth 20000 in
theorem gX1_endOfClosed_X4_isOf_n121 : GoodIn wsX1_endOfClosed (wsX4_isOf) := ggX1_endOfClosed_X4_isOf
set_option maxRecDepth 20000 in
theorem ggX1_endOfClosed_X4_numberOf : GoodIn wsX1_endOfClosed wsX4_numberOf := goodIn_r _ [29] (by decide +kernel) (by decide +kernel)
set_option maxRecDepth 20000 in
theorem gX1_endOfClosed_X4_numberOf_n124 : GoodIn wsX1_endOfClosed (wsX4_numberOf) := ggX1_endOfClosed_X4_numberOf
set_option maxRecDepth 20000 in
theorem ggX1_endOfClosed_X3_around : GoodIn wsX1_endOfClosed wsX3_around := goodIn_r _ [33, 10, 60, 61, 62, 63, 64, 65] (by decide +kernel) (by decide +kernel)
set_option maxRecDepth 20000 in
theorem gX1_endOfClosed_X3_around : GoodIn wsX1_endOfClosed (wsV RX1 99 RX3 yX3_around wsX3_around) := goodIn_app (goodIn_of _ (by decide +kernel)) ggX1_endOfClosed_X3_around
set_option maxRecDepth 20000 in
theorem ggX1_endOfClosed_X3_pass : GoodIn wsX1_endOfClosed wsX3_pass := goodIn_r _ [37, 9, 10, 38, 39, 40, 6, 41, 8, 42, 43, 44, 45, 46, 47, 11, 18, 19, 20, 60, 61, 62, 63, 64, 65] (by decide +kernel) (by decide +kernel)
set_option maxRecDepth 20000 in
theorem gX1_endOfClosed_X3_pass : GoodIn wsX1_endOfClosed (wsV RX1 85 RX3 yX3_pass wsX3_pass) := goodIn_app (goodIn_of _ (by decide +kernel)) ggX1_endOfClosed_X3_pass
set_option maxRecDepth 20000 in
theorem ggX1_endOfClosed_X3_over : GoodIn wsX1_endOfClosed wsX3_over := goodIn_r _ [51, 11, 60, 61, 62, 63, 64, 65] (by decide +kernel) (by decide +kernel)
set_option maxRecDepth 20000 in
theorem gX1_endOfClosed_X3_over : GoodIn wsX1_endOfClosed (wsV RX1 127 RX3 yX3_over wsX3_over) := goodIn_app (goodIn_of _ (by decide +kernel)) ggX1_endOfClosed_X3_over
theorem dX1_endOfClosed_0 : decode cX1_endOfClosed 0 = .ok (.aload_n 0, 1) := by decide +kernel
theorem dX1_endOfClosed_1 : decode cX1_endOfClosed 1 = .ok (.getfield 27, 3) := by decide +kernel
theorem dX1_endOfClosed_4 : decode cX1_endOfClosed 4 = .ok (.invokevirtual 73, 3) := by decide +kernel
theorem dX1_endOfClosed_7 : decode cX1_endOfClosed 7 = .ok (.iload_n 1, 1) := by decide +kernel
theorem dX1_endOfClosed_8 : decode cX1_endOfClosed 8 = .ok (.istore_n 2, 1) := by decide +kernel
theorem dX1_endOfClosed_9 : decode cX1_endOfClosed 9 = .ok (.iload_n 2, 1) := by decide +kernel
theorem dX1_endOfClosed_10 : decode cX1_endOfClosed 10 = .ok (.aload_n 0, 1) := by decide +kernel
theorem dX1_endOfClosed_11 : decode cX1_endOfClosed 11 = .ok (.aload_n 0, 1) := by decide +kernel
theorem dX1_endOfClosed_12 : decode cX1_endOfClosed 12 = .ok (.getfield 31, 3) := by decide +kernel
theorem dX1_endOfClosed_15 : decode cX1_endOfClosed 15 = .ok (.invokevirtual 43, 3) := by decide +kernel
theorem dX1_endOfClosed_18 : decode cX1_endOfClosed 18 = .ok (.if_icmp .ge 61, 3) := by decide +kernel
theorem dX1_endOfClosed_21 : decode cX1_endOfClosed 21 = .ok (.aload_n 0, 1) := by decide +kernel
theorem dX1_endOfClosed_22 : decode cX1_endOfClosed 22 = .ok (.iload_n 2, 1) := by decide +kernel
theorem dX1_endOfClosed_23 : decode cX1_endOfClosed 23 = .ok (.invokevirtual 46, 3) := by decide +kernel
theorem dX1_endOfClosed_26 : decode cX1_endOfClosed 26 = .ok (.istore_n 3, 1) := by decide +kernel
theorem dX1_endOfClosed_27 : decode cX1_endOfClosed 27 = .ok (.iconst 0, 1) := by decide +kernel
theorem dX1_endOfClosed_28 : decode cX1_endOfClosed 28 = .ok (.iload_n 3, 1) := by decide +kernel
theorem dX1_endOfClosed_29 : decode cX1_endOfClosed 29 = .ok (.invokestatic 121, 3) := by decide +kernel
theorem dX1_endOfClosed_32 : decode cX1_endOfClosed 32 = .ok (.ifCond .eq 19, 3) := by decide +kernel
theorem dX1_endOfClosed_35 : decode cX1_endOfClosed 35 = .ok (.iload_n 3, 1) := by decide +kernel
theorem dX1_endOfClosed_36 : decode cX1_endOfClosed 36 = .ok (.invokestatic 124, 3) := by decide +kernel
theorem dX1_endOfClosed_39 : decode cX1_endOfClosed 39 = .ok (.aload_n 0, 1) := by decide +kernel
theorem dX1_endOfClosed_40 : decode cX1_endOfClosed 40 = .ok (.getfield 27, 3) := by decide +kernel
theorem dX1_endOfClosed_43 : decode cX1_endOfClosed 43 = .ok (.invokevirtual 99, 3) := by decide +kernel
theorem dX1_endOfClosed_46 : decode cX1_endOfClosed 46 = .ok (.if_icmp .lt 5, 3) := by decide +kernel
theorem dX1_endOfClosed_49 : decode cX1_endOfClosed 49 = .ok (.iconst (-1), 1) := by decide +kernel
theorem dX1_endOfClosed_50 : decode cX1_endOfClosed 50 = .ok (.ireturn, 1) := by decide +kernel
theorem dX1_endOfClosed_51 : decode cX1_endOfClosed 51 = .ok (.aload_n 0, 1) := by decide +kernel
theorem dX1_endOfClosed_52 : decode cX1_endOfClosed 52 = .ok (.getfield 27, 3) := by decide +kernel
theorem dX1_endOfClosed_55 : decode cX1_endOfClosed 55 = .ok (.iload_n 3, 1) := by decide +kernel
theorem dX1_endOfClosed_56 : decode cX1_endOfClosed 56 = .ok (.invokevirtual 85, 3) := by decide +kernel
theorem dX1_endOfClosed_59 : decode cX1_endOfClosed 59 = .ok (.aload_n 0, 1) := by decide +kernel
theorem dX1_endOfClosed_60 : decode cX1_endOfClosed 60 = .ok (.getfield 27, 3) := by decide +kernel
theorem dX1_endOfClosed_63 : decode cX1_endOfClosed 63 = .ok (.invokevirtual 127, 3) := by decide +kernel
theorem dX1_endOfClosed_66 : decode cX1_endOfClosed 66 = .ok (.ifCond .eq 7, 3) := by decide +kernel
theorem dX1_endOfClosed_69 : decode cX1_endOfClosed 69 = .ok (.iload_n 2, 1) := by decide +kernel
theorem dX1_endOfClosed_70 : decode cX1_endOfClosed 70 = .ok (.iconst 1, 1) := by decide +kernel
theorem dX1_endOfClosed_71 : decode cX1_endOfClosed 71 = .ok (.iadd, 1) := by decide +kernel
theorem dX1_endOfClosed_72 : decode cX1_endOfClosed 72 = .ok (.ireturn, 1) := by decide +kernel
theorem dX1_endOfClosed_73 : decode cX1_endOfClosed 73 = .ok (.iinc 2 1, 3) := by decide +kernel
theorem dX1_endOfClosed_76 : decode cX1_endOfClosed 76 = .ok (.goto (-67), 3) := by decide +kernel
theorem dX1_endOfClosed_79 : decode cX1_endOfClosed 79 = .ok (.iconst (-1), 1) := by decide +kernel
theorem dX1_endOfClosed_80 : decode cX1_endOfClosed 80 = .ok (.ireturn, 1) := by decide +kernel
set_option maxRecDepth 20000 in
theorem ggX2_init_J7_fill_53178 : GoodIn wsX2_init wsJ7_fill_53178 := goodIn_r _ [18] (by decide +kernel) (by decide +kernel)
set_option maxRecDepth 20000 in
theorem gX2_init_J7_fill_53178 : GoodIn wsX2_init (va_wsS RX2 42 yJ7_fill_53178 wsJ7_fill_53178) := goodIn_app (goodIn_of _ (by decide +kernel)) ggX2_init_J7_fill_53178
theorem dX2_init_0 : decode cX2_init 0 = .ok (.aload_n 0, 1) := by decide +kernel
theorem dX2_init_1 : decode cX2_init 1 = .ok (.invokespecial 3, 3) := by decide +kernel
theorem dX2_init_4 : decode cX2_init 4 = .ok (.aload_n 0, 1) := by decide +kernel
theorem dX2_init_5 : decode cX2_init 5 = .ok (.sipush 8000, 3) := by decide +kernel
theorem dX2_init_8 : decode cX2_init 8 = .ok (.newarray .int, 2) := by decide +kernel
theorem dX2_init_10 : decode cX2_init 10 = .ok (.putfield 9, 3) := by decide +kernel
theorem dX2_init_13 : decode cX2_init 13 = .ok (.aload_n 0, 1) := by decide +kernel
theorem dX2_init_14 : decode cX2_init 14 = .ok (.sipush 8000, 3) := by decide +kernel
theorem dX2_init_17 : decode cX2_init 17 = .ok (.newarray .int, 2) := by decide +kernel
theorem dX2_init_19 : decode cX2_init 19 = .ok (.putfield 15, 3) := by decide +kernel
theorem dX2_init_22 : decode cX2_init 22 = .ok (.aload_n 0, 1) := by decide +kernel
theorem dX2_init_23 : decode cX2_init 23 = .ok (.sipush 8000, 3) := by decide +kernel
theorem dX2_init_26 : decode cX2_init 26 = .ok (.newarray .int, 2) := by decide +kernel
theorem dX2_init_28 : decode cX2_init 28 = .ok (.putfield 18, 3) := by decide +kernel
theorem dX2_init_31 : decode cX2_init 31 = .ok (.aload_n 0, 1) := by decide +kernel
theorem dX2_init_32 : decode cX2_init 32 = .ok (.sipush 8000, 3) := by decide +kernel
theorem dX2_init_35 : decode cX2_init 35 = .ok (.newarray .int, 2) := by decide +kernel
theorem dX2_init_37 : decode cX2_init 37 = .ok (.putfield 21, 3) := by decide +kernel
theorem dX2_init_40 : decode cX2_init 40 = .ok (.aload_n 0, 1) := by decide +kernel
theorem dX2_init_41 : decode cX2_init 41 = .ok (.sipush 8000, 3) := by decide +kernel
theorem dX2_init_44 : decode cX2_init 44 = .ok (.newarray .int, 2) := by decide +kernel
theorem dX2_init_46 : decode cX2_init 46 = .ok (.putfield 24, 3) := by decide +kernel
theorem dX2_init_49 : decode cX2_init 49 = .ok (.aload_n 0, 1) := by decide +kernel
theorem dX2_init_50 : decode cX2_init 50 = .ok (.sipush 8000, 3) := by decide +kernel
theorem dX2_init_53 : decode cX2_init 53 = .ok (.newarray .int, 2) := by decide +kernel
theorem dX2_init_55 : decode cX2_init 55 = .ok (.putfield 27, 3) := by decide +kernel
theorem dX2_init_58 : decode cX2_init 58 = .ok (.aload_n 0, 1) := by decide +kernel
theorem dX2_init_59 : decode cX2_init 59 = .ok (.sipush 4096, 3) := by decide +kernel
theorem dX2_init_62 : decode cX2_init 62 = .ok (.newarray .int, 2) := by decide +kernel
theorem dX2_init_64 : decode cX2_init 64 = .ok (.putfield 30, 3) := by decide +kernel
theorem dX2_init_67 : decode cX2_init 67 = .ok (.aload_n 0, 1) := by decide +kernel
theorem dX2_init_68 : decode cX2_init 68 = .ok (.sipush 8000, 3) := by decide +kernel
theorem dX2_init_71 : decode cX2_init 71 = .ok (.newarray .int, 2) := by decide +kernel
theorem dX2_init_73 : decode cX2_init 73 = .ok (.putfield 33, 3) := by decide +kernel
theorem dX2_init_76 : decode cX2_init 76 = .ok (.aload_n 0, 1) := by decide +kernel
theorem dX2_init_77 : decode cX2_init 77 = .ok (.sipush 8000, 3) := by decide +kernel
theorem dX2_init_80 : decode cX2_init 80 = .ok (.newarray .int, 2) := by decide +kernel
theorem dX2_init_82 : decode cX2_init 82 = .ok (.putfield 36, 3) := by decide +kernel
theorem dX2_init_85 : decode cX2_init 85 = .ok (.aload_n 0, 1) := by decide +kernel
theorem dX2_init_86 : decode cX2_init 86 = .ok (.sipush 512, 3) := by decide +kernel
theorem dX2_init_89 : decode cX2_init 89 = .ok (.newarray .int, 2) := by decide +kernel
theorem dX2_init_91 : decode cX2_init 91 = .ok (.putfield 39, 3) := by decide +kernel
theorem dX2_init_94 : decode cX2_init 94 = .ok (.aload_n 0, 1) := by decide +kernel
theorem dX2_init_95 : decode cX2_init 95 = .ok (.getfield 30, 3) := by decide +kernel
theorem dX2_init_98 : decode cX2_init 98 = .ok (.iconst (-1), 1) := by decide +kernel
theorem dX2_init_99 : decode cX2_init 99 = .ok (.invokestatic 42, 3) := by decide +kernel
theorem dX2_init_102 : decode cX2_init 102 = .ok (.return_, 1) := by decide +kernel
theorem dX2_count_0 : decode cX2_count 0 = .ok (.aload_n 0, 1) := by decide +kernel
theorem dX2_count_1 : decode cX2_count 1 = .ok (.getfield 48, 3) := by decide +kernel
theorem dX2_count_4 : decode cX2_count 4 = .ok (.ireturn, 1) := by decide +kernel
set_option maxRecDepth 20000 in
theorem ggX2_head_X4_read : GoodIn wsX2_head wsX4_read := goodIn_r _ [4] (by decide +kernel) (by decide +kernel)
set_option maxRecDepth 20000 in
theorem gX2_head_X4_read_n52 : GoodIn wsX2_head (wsX4_read) := ggX2_head_X4_read
theorem dX2_head_0 : decode cX2_head 0 = .ok (.aload_n 0, 1) := by decide +kernel
theorem dX2_head_1 : decode cX2_head 1 = .ok (.getfield 9, 3) := by decide +kernel
theorem dX2_head_4 : decode cX2_head 4 = .ok (.iload_n 1, 1) := by decide +kernel
theorem dX2_head_5 : decode cX2_head 5 = .ok (.invokestatic 52, 3) := by decide +kernel
theorem dX2_head_8 : decode cX2_head 8 = .ok (.ireturn, 1) := by decide +kernel
set_option maxRecDepth 20000 in
theorem ggX2_first_X4_read : GoodIn wsX2_first wsX4_read := goodIn_r _ [4] (by decide +kernel) (by decide +kernel)
set_option maxRecDepth 20000 in
theorem gX2_first_X4_read_n52 : GoodIn wsX2_first (wsX4_read) := ggX2_first_X4_read
theorem dX2_first_0 : decode cX2_first 0 = .ok (.aload_n 0, 1) := by decide +kernel
theorem dX2_first_1 : decode cX2_first 1 = .ok (.getfield 15, 3) := by decide +kernel
theorem dX2_first_4 : decode cX2_first 4 = .ok (.iload_n 1, 1) := by decide +kernel
theorem dX2_first_5 : decode cX2_first 5 = .ok (.invokestatic 52, 3) := by decide +kernel
theorem dX2_first_8 : decode cX2_first 8 = .ok (.ireturn, 1) := by decide +kernel
set_option maxRecDepth 20000 in
theorem ggX2_second_X4_read : GoodIn wsX2_second wsX4_read := goodIn_r _ [4] (by decide +kernel) (by decide +kernel)
set_option maxRecDepth 20000 in
theorem gX2_second_X4_read_n52 : GoodIn wsX2_second (wsX4_read) := ggX2_second_X4_read
theorem dX2_second_0 : decode cX2_second 0 = .ok (.aload_n 0, 1) := by decide +kernel
theorem dX2_second_1 : decode cX2_second 1 = .ok (.getfield 18, 3) := by decide +kernel
theorem dX2_second_4 : decode cX2_second 4 = .ok (.iload_n 1, 1) := by decide +kernel
theorem dX2_second_5 : decode cX2_second 5 = .ok (.invokestatic 52, 3) := by decide +kernel
theorem dX2_second_8 : decode cX2_second 8 = .ok (.ireturn, 1) := by decide +kernel
set_option maxRecDepth 20000 in
theorem ggX2_symbols_X4_read : GoodIn wsX2_symbols wsX4_read := goodIn_r _ [4] (by decide +kernel) (by decide +kernel)
set_option maxRecDepth 20000 in
theorem gX2_symbols_X4_read_n52 : GoodIn wsX2_symbols (wsX4_read) := ggX2_symbols_X4_read
theorem dX2_symbols_0 : decode cX2_symbols 0 = .ok (.iload_n 1, 1) := by decide +kernel
theorem dX2_symbols_1 : decode cX2_symbols 1 = .ok (.iconst (-1), 1) := by decide +kernel
theorem dX2_symbols_2 : decode cX2_symbols 2 = .ok (.if_icmp .ne 7, 3) := by decide +kernel
theorem dX2_symbols_5 : decode cX2_symbols 5 = .ok (.iconst 0, 1) := by decide +kernel
theorem dX2_symbols_6 : decode cX2_symbols 6 = .ok (.goto 11, 3) := by decide +kernel
theorem dX2_symbols_9 : decode cX2_symbols 9 = .ok (.aload_n 0, 1) := by decide +kernel
theorem dX2_symbols_10 : decode cX2_symbols 10 = .ok (.getfield 21, 3) := by decide +kernel
theorem dX2_symbols_13 : decode cX2_symbols 13 = .ok (.iload_n 1, 1) := by decide +kernel
theorem dX2_symbols_14 : decode cX2_symbols 14 = .ok (.invokestatic 52, 3) := by decide +kernel
theorem dX2_symbols_17 : decode cX2_symbols 17 = .ok (.ireturn, 1) := by decide +kernel
set_option maxRecDepth 20000 in
theorem ggX2_height_X4_read : GoodIn wsX2_height wsX4_read := goodIn_r _ [4] (by decide +kernel) (by decide +kernel)
set_option maxRecDepth 20000 in
theorem gX2_height_X4_read_n52 : GoodIn wsX2_height (wsX4_read) := ggX2_height_X4_read
theorem dX2_height_0 : decode cX2_height 0 = .ok (.iload_n 1, 1) := by decide +kernel
theorem dX2_height_1 : decode cX2_height 1 = .ok (.iconst (-1), 1) := by decide +kernel
theorem dX2_height_2 : decode cX2_height 2 = .ok (.if_icmp .ne 7, 3) := by decide +kernel
theorem dX2_height_5 : decode cX2_height 5 = .ok (.iconst 0, 1) := by decide +kernel
theorem dX2_height_6 : decode cX2_height 6 = .ok (.goto 11, 3) := by decide +kernel
theorem dX2_height_9 : decode cX2_height 9 = .ok (.aload_n 0, 1) := by decide +kernel
theorem dX2_height_10 : decode cX2_height 10 = .ok (.getfield 24, 3) := by decide +kernel
theorem dX2_height_13 : decode cX2_height 13 = .ok (.iload_n 1, 1) := by decide +kernel
theorem dX2_height_14 : decode cX2_height 14 = .ok (.invokestatic 52, 3) := by decide +kernel
theorem dX2_height_17 : decode cX2_height 17 = .ok (.ireturn, 1) := by decide +kernel
set_option maxRecDepth 20000 in
theorem ggX2_behind_X4_read : GoodIn wsX2_behind wsX4_read := goodIn_r _ [5] (by decide +kernel) (by decide +kernel)
set_option maxRecDepth 20000 in
theorem gX2_behind_X4_read_n52 : GoodIn wsX2_behind (wsX4_read) := ggX2_behind_X4_read
theorem dX2_behind_0 : decode cX2_behind 0 = .ok (.iload_n 1, 1) := by decide +kernel
theorem dX2_behind_1 : decode cX2_behind 1 = .ok (.ifCond .lt 22, 3) := by decide +kernel
theorem dX2_behind_4 : decode cX2_behind 4 = .ok (.iload_n 1, 1) := by decide +kernel
theorem dX2_behind_5 : decode cX2_behind 5 = .ok (.aload_n 0, 1) := by decide +kernel
theorem dX2_behind_6 : decode cX2_behind 6 = .ok (.getfield 56, 3) := by decide +kernel
theorem dX2_behind_9 : decode cX2_behind 9 = .ok (.if_icmp .ge 14, 3) := by decide +kernel
theorem dX2_behind_12 : decode cX2_behind 12 = .ok (.aload_n 0, 1) := by decide +kernel
theorem dX2_behind_13 : decode cX2_behind 13 = .ok (.getfield 39, 3) := by decide +kernel
theorem dX2_behind_16 : decode cX2_behind 16 = .ok (.iload_n 1, 1) := by decide +kernel
theorem dX2_behind_17 : decode cX2_behind 17 = .ok (.invokestatic 52, 3) := by decide +kernel
theorem dX2_behind_20 : decode cX2_behind 20 = .ok (.goto 4, 3) := by decide +kernel
theorem dX2_behind_23 : decode cX2_behind 23 = .ok (.iconst (-1), 1) := by decide +kernel
theorem dX2_behind_24 : decode cX2_behind 24 = .ok (.ireturn, 1) := by decide +kernel
set_option maxRecDepth 20000 in
theorem ggX2_keep_X2_symbols : GoodIn wsX2_keep wsX2_symbols := goodIn_r _ [8, 9, 10, 11, 12, 13, 14, 15, 16, 17, 18, 19, 20, 21, 22, 23, 24, 25, 26] (by decide +kernel) (by decide +kernel)
set_option maxRecDepth 20000 in
theorem gX2_keep_X2_symbols : GoodIn wsX2_keep (wsV RX2 62 RX2 yX2_symbols wsX2_symbols) := goodIn_app (goodIn_of _ (by decide +kernel)) ggX2_keep_X2_symbols
theorem dX2_keep_0 : decode cX2_keep 0 = .ok (.iload_n 1, 1) := by decide +kernel
theorem dX2_keep_1 : decode cX2_keep 1 = .ok (.iconst (-1), 1) := by decide +kernel
theorem dX2_keep_2 : decode cX2_keep 2 = .ok (.if_icmp .eq 20, 3) := by decide +kernel
theorem dX2_keep_5 : decode cX2_keep 5 = .ok (.aload_n 0, 1) := by decide +kernel
theorem dX2_keep_6 : decode cX2_keep 6 = .ok (.getfield 56, 3) := by decide +kernel
theorem dX2_keep_9 : decode cX2_keep 9 = .ok (.ifCond .lt 13, 3) := by decide +kernel
theorem dX2_keep_12 : decode cX2_keep 12 = .ok (.aload_n 0, 1) := by decide +kernel
theorem dX2_keep_13 : decode cX2_keep 13 = .ok (.getfield 56, 3) := by decide +kernel
theorem dX2_keep_16 : decode cX2_keep 16 = .ok (.sipush 512, 3) := by decide +kernel
theorem dX2_keep_19 : decode cX2_keep 19 = .ok (.if_icmp .lt 5, 3) := by decide +kernel
theorem dX2_keep_22 : decode cX2_keep 22 = .ok (.iconst (-1), 1) := by decide +kernel
theorem dX2_keep_23 : decode cX2_keep 23 = .ok (.ireturn, 1) := by decide +kernel
theorem dX2_keep_24 : decode cX2_keep 24 = .ok (.aload_n 0, 1) := by decide +kernel
theorem dX2_keep_25 : decode cX2_keep 25 = .ok (.getfield 59, 3) := by decide +kernel
theorem dX2_keep_28 : decode cX2_keep 28 = .ok (.aload_n 0, 1) := by decide +kernel
theorem dX2_keep_29 : decode cX2_keep 29 = .ok (.iload_n 1, 1) := by decide +kernel
theorem dX2_keep_30 : decode cX2_keep 30 = .ok (.invokevirtual 62, 3) := by decide +kernel
theorem dX2_keep_33 : decode cX2_keep 33 = .ok (.iadd, 1) := by decide +kernel
theorem dX2_keep_34 : decode cX2_keep 34 = .ok (.sipush 6000, 3) := by decide +kernel
theorem dX2_keep_37 : decode cX2_keep 37 = .ok (.if_icmp .le 5, 3) := by decide +kernel
theorem dX2_keep_40 : decode cX2_keep 40 = .ok (.iconst (-1), 1) := by decide +kernel
theorem dX2_keep_41 : decode cX2_keep 41 = .ok (.ireturn, 1) := by decide +kernel
theorem dX2_keep_42 : decode cX2_keep 42 = .ok (.aload_n 0, 1) := by decide +kernel
theorem dX2_keep_43 : decode cX2_keep 43 = .ok (.getfield 39, 3) := by decide +kernel
theorem dX2_keep_46 : decode cX2_keep 46 = .ok (.aload_n 0, 1) := by decide +kernel
theorem dX2_keep_47 : decode cX2_keep 47 = .ok (.getfield 56, 3) := by decide +kernel
theorem dX2_keep_50 : decode cX2_keep 50 = .ok (.iload_n 1, 1) := by decide +kernel
theorem dX2_keep_51 : decode cX2_keep 51 = .ok (.iastore, 1) := by decide +kernel
theorem dX2_keep_52 : decode cX2_keep 52 = .ok (.aload_n 0, 1) := by decide +kernel
theorem dX2_keep_53 : decode cX2_keep 53 = .ok (.dup, 1) := by decide +kernel
theorem dX2_keep_54 : decode cX2_keep 54 = .ok (.getfield 56, 3) := by decide +kernel
theorem dX2_keep_57 : decode cX2_keep 57 = .ok (.iconst 1, 1) := by decide +kernel
theorem dX2_keep_58 : decode cX2_keep 58 = .ok (.iadd, 1) := by decide +kernel
theorem dX2_keep_59 : decode cX2_keep 59 = .ok (.putfield 56, 3) := by decide +kernel
theorem dX2_keep_62 : decode cX2_keep 62 = .ok (.aload_n 0, 1) := by decide +kernel
theorem dX2_keep_63 : decode cX2_keep 63 = .ok (.dup, 1) := by decide +kernel
theorem dX2_keep_64 : decode cX2_keep 64 = .ok (.getfield 59, 3) := by decide +kernel
theorem dX2_keep_67 : decode cX2_keep 67 = .ok (.aload_n 0, 1) := by decide +kernel
theorem dX2_keep_68 : decode cX2_keep 68 = .ok (.iload_n 1, 1) := by decide +kernel
theorem dX2_keep_69 : decode cX2_keep 69 = .ok (.invokevirtual 62, 3) := by decide +kernel
theorem dX2_keep_72 : decode cX2_keep 72 = .ok (.iadd, 1) := by decide +kernel
theorem dX2_keep_73 : decode cX2_keep 73 = .ok (.putfield 59, 3) := by decide +kernel
theorem dX2_keep_76 : decode cX2_keep 76 = .ok (.aload_n 0, 1) := by decide +kernel
theorem dX2_keep_77 : decode cX2_keep 77 = .ok (.getfield 56, 3) := by decide +kernel
theorem dX2_keep_80 : decode cX2_keep 80 = .ok (.iconst 1, 1) := by decide +kernel
theorem dX2_keep_81 : decode cX2_keep 81 = .ok (.isub, 1) := by decide +kernel
theorem dX2_keep_82 : decode cX2_keep 82 = .ok (.ireturn, 1) := by decide +kernel
set_option maxRecDepth 20000 in
theorem ggX2_headAt_X2_first : GoodIn wsX2_headAt wsX2_first := goodIn_r _ [5, 6, 7, 8, 9, 25, 26, 27, 28, 29, 30, 31, 32, 33, 34, 35, 36, 37, 38] (by decide +kernel) (by decide +kernel)
set_option maxRecDepth 20000 in
theorem gX2_headAt_X2_first : GoodIn wsX2_headAt (wsV RX2 65 RX2 yX2_first wsX2_first) := goodIn_app (goodIn_of _ (by decide +kernel)) ggX2_headAt_X2_first
set_option maxRecDepth 20000 in
theorem ggX2_headAt_X2_symbols : GoodIn wsX2_headAt wsX2_symbols := goodIn_r _ [13, 14, 7, 8, 9, 25, 26, 27, 28, 29, 30, 31, 32, 33, 34, 35, 36, 37, 38] (by decide +kernel) (by decide +kernel)
set_option maxRecDepth 20000 in
theorem gX2_headAt_X2_symbols : GoodIn wsX2_headAt (wsV RX2 62 RX2 yX2_symbols wsX2_symbols) := goodIn_app (goodIn_of _ (by decide +kernel)) ggX2_headAt_X2_symbols
set_option maxRecDepth 20000 in
theorem ggX2_headAt_X2_second : GoodIn wsX2_headAt wsX2_second := goodIn_r _ [18, 19, 7, 8, 9, 25, 26, 27, 28, 29, 30, 31, 32, 33, 34, 35, 36, 37, 38] (by decide +kernel) (by decide +kernel)
set_option maxRecDepth 20000 in
theorem gX2_headAt_X2_second : GoodIn wsX2_headAt (wsV RX2 68 RX2 yX2_second wsX2_second) := goodIn_app (goodIn_of _ (by decide +kernel)) ggX2_headAt_X2_second
set_option maxRecDepth 20000 in
theorem ggX2_headAt_X2_head : GoodIn wsX2_headAt wsX2_head := goodIn_r _ [23, 24, 7, 8, 9, 25, 26, 27, 28, 29, 30, 31, 32, 33, 34, 35, 36, 37, 38] (by decide +kernel) (by decide +kernel)
set_option maxRecDepth 20000 in
theorem gX2_headAt_X2_head : GoodIn wsX2_headAt (wsV RX2 71 RX2 yX2_head wsX2_head) := goodIn_app (goodIn_of _ (by decide +kernel)) ggX2_headAt_X2_head
theorem dX2_headAt_0 : decode cX2_headAt 0 = .ok (.iload_n 1, 1) := by decide +kernel
theorem dX2_headAt_1 : decode cX2_headAt 1 = .ok (.istore_n 3, 1) := by decide +kernel
theorem dX2_headAt_2 : decode cX2_headAt 2 = .ok (.iload_n 2, 1) := by decide +kernel
theorem dX2_headAt_3 : decode cX2_headAt 3 = .ok (.istore 4, 2) := by decide +kernel
theorem dX2_headAt_5 : decode cX2_headAt 5 = .ok (.iconst 0, 1) := by decide +kernel
theorem dX2_headAt_6 : decode cX2_headAt 6 = .ok (.istore 5, 2) := by decide +kernel
theorem dX2_headAt_8 : decode cX2_headAt 8 = .ok (.iload 5, 2) := by decide +kernel
theorem dX2_headAt_10 : decode cX2_headAt 10 = .ok (.bipush 24, 2) := by decide +kernel
theorem dX2_headAt_12 : decode cX2_headAt 12 = .ok (.if_icmp .ge 79, 3) := by decide +kernel
theorem dX2_headAt_15 : decode cX2_headAt 15 = .ok (.iload 4, 2) := by decide +kernel
theorem dX2_headAt_17 : decode cX2_headAt 17 = .ok (.ifCond .le 74, 3) := by decide +kernel
theorem dX2_headAt_20 : decode cX2_headAt 20 = .ok (.aload_n 0, 1) := by decide +kernel
theorem dX2_headAt_21 : decode cX2_headAt 21 = .ok (.aload_n 0, 1) := by decide +kernel
theorem dX2_headAt_22 : decode cX2_headAt 22 = .ok (.iload_n 3, 1) := by decide +kernel
theorem dX2_headAt_23 : decode cX2_headAt 23 = .ok (.invokevirtual 65, 3) := by decide +kernel
theorem dX2_headAt_26 : decode cX2_headAt 26 = .ok (.invokevirtual 62, 3) := by decide +kernel
theorem dX2_headAt_29 : decode cX2_headAt 29 = .ok (.istore 6, 2) := by decide +kernel
theorem dX2_headAt_31 : decode cX2_headAt 31 = .ok (.iload 4, 2) := by decide +kernel
theorem dX2_headAt_33 : decode cX2_headAt 33 = .ok (.iload 6, 2) := by decide +kernel
theorem dX2_headAt_35 : decode cX2_headAt 35 = .ok (.if_icmp .gt 7, 3) := by decide +kernel
theorem dX2_headAt_38 : decode cX2_headAt 38 = .ok (.iconst 1, 1) := by decide +kernel
theorem dX2_headAt_39 : decode cX2_headAt 39 = .ok (.goto 4, 3) := by decide +kernel
theorem dX2_headAt_42 : decode cX2_headAt 42 = .ok (.iconst 0, 1) := by decide +kernel
theorem dX2_headAt_43 : decode cX2_headAt 43 = .ok (.istore 7, 2) := by decide +kernel
theorem dX2_headAt_45 : decode cX2_headAt 45 = .ok (.iload 7, 2) := by decide +kernel
theorem dX2_headAt_47 : decode cX2_headAt 47 = .ok (.ifCond .eq 10, 3) := by decide +kernel
theorem dX2_headAt_50 : decode cX2_headAt 50 = .ok (.iload 4, 2) := by decide +kernel
theorem dX2_headAt_52 : decode cX2_headAt 52 = .ok (.iconst 1, 1) := by decide +kernel
theorem dX2_headAt_53 : decode cX2_headAt 53 = .ok (.isub, 1) := by decide +kernel
theorem dX2_headAt_54 : decode cX2_headAt 54 = .ok (.goto 10, 3) := by decide +kernel
theorem dX2_headAt_57 : decode cX2_headAt 57 = .ok (.iload 4, 2) := by decide +kernel
theorem dX2_headAt_59 : decode cX2_headAt 59 = .ok (.iconst 1, 1) := by decide +kernel
theorem dX2_headAt_60 : decode cX2_headAt 60 = .ok (.isub, 1) := by decide +kernel
theorem dX2_headAt_61 : decode cX2_headAt 61 = .ok (.iload 6, 2) := by decide +kernel
theorem dX2_headAt_63 : decode cX2_headAt 63 = .ok (.isub, 1) := by decide +kernel
theorem dX2_headAt_64 : decode cX2_headAt 64 = .ok (.istore 4, 2) := by decide +kernel
theorem dX2_headAt_66 : decode cX2_headAt 66 = .ok (.iload 7, 2) := by decide +kernel
theorem dX2_headAt_68 : decode cX2_headAt 68 = .ok (.ifCond .eq 11, 3) := by decide +kernel
theorem dX2_headAt_71 : decode cX2_headAt 71 = .ok (.aload_n 0, 1) := by decide +kernel
theorem dX2_headAt_72 : decode cX2_headAt 72 = .ok (.iload_n 3, 1) := by decide +kernel
theorem dX2_headAt_73 : decode cX2_headAt 73 = .ok (.invokevirtual 65, 3) := by decide +kernel
theorem dX2_headAt_76 : decode cX2_headAt 76 = .ok (.goto 8, 3) := by decide +kernel
theorem dX2_headAt_79 : decode cX2_headAt 79 = .ok (.aload_n 0, 1) := by decide +kernel
theorem dX2_headAt_80 : decode cX2_headAt 80 = .ok (.iload_n 3, 1) := by decide +kernel
theorem dX2_headAt_81 : decode cX2_headAt 81 = .ok (.invokevirtual 68, 3) := by decide +kernel
theorem dX2_headAt_84 : decode cX2_headAt 84 = .ok (.istore_n 3, 1) := by decide +kernel
theorem dX2_headAt_85 : decode cX2_headAt 85 = .ok (.iinc 5 1, 3) := by decide +kernel
theorem dX2_headAt_88 : decode cX2_headAt 88 = .ok (.goto (-80), 3) := by decide +kernel
theorem dX2_headAt_91 : decode cX2_headAt 91 = .ok (.aload_n 0, 1) := by decide +kernel
theorem dX2_headAt_92 : decode cX2_headAt 92 = .ok (.iload_n 3, 1) := by decide +kernel
theorem dX2_headAt_93 : decode cX2_headAt 93 = .ok (.invokevirtual 71, 3) := by decide +kernel
theorem dX2_headAt_96 : decode cX2_headAt 96 = .ok (.ireturn, 1) := by decide +kernel
set_option maxRecDepth 20000 in
theorem ggX2_find_X2_bucketOf : GoodIn wsX2_find wsX2_bucketOf := goodIn_r _ [10] (by decide +kernel) (by decide +kernel)
set_option maxRecDepth 20000 in
theorem gX2_find_X2_bucketOf : GoodIn wsX2_find (va_wsS RX2 74 yX2_bucketOf wsX2_bucketOf) := goodIn_app (goodIn_of _ (by decide +kernel)) ggX2_find_X2_bucketOf
set_option maxRecDepth 20000 in
theorem ggX2_find_X4_read : GoodIn wsX2_find wsX4_read := goodIn_r _ [13] (by decide +kernel) (by decide +kernel)
set_option maxRecDepth 20000 in
theorem gX2_find_X4_read_n52 : GoodIn wsX2_find (wsX4_read) := ggX2_find_X4_read
theorem dX2_find_0 : decode cX2_find 0 = .ok (.aload_n 0, 1) := by decide +kernel
theorem dX2_find_1 : decode cX2_find 1 = .ok (.getfield 30, 3) := by decide +kernel
theorem dX2_find_4 : decode cX2_find 4 = .ok (.iload_n 1, 1) := by decide +kernel
theorem dX2_find_5 : decode cX2_find 5 = .ok (.iload_n 2, 1) := by decide +kernel
theorem dX2_find_6 : decode cX2_find 6 = .ok (.iload_n 3, 1) := by decide +kernel
theorem dX2_find_7 : decode cX2_find 7 = .ok (.invokestatic 74, 3) := by decide +kernel
theorem dX2_find_10 : decode cX2_find 10 = .ok (.invokestatic 52, 3) := by decide +kernel
theorem dX2_find_13 : decode cX2_find 13 = .ok (.istore 4, 2) := by decide +kernel
theorem dX2_find_15 : decode cX2_find 15 = .ok (.aload_n 0, 1) := by decide +kernel
theorem dX2_find_16 : decode cX2_find 16 = .ok (.getfield 48, 3) := by decide +kernel
theorem dX2_find_19 : decode cX2_find 19 = .ok (.istore 5, 2) := by decide +kernel
theorem dX2_find_21 : decode cX2_find 21 = .ok (.iload 5, 2) := by decide +kernel
theorem dX2_find_23 : decode cX2_find 23 = .ok (.ifCond .le 68, 3) := by decide +kernel
theorem dX2_find_26 : decode cX2_find 26 = .ok (.iload 4, 2) := by decide +kernel
theorem dX2_find_28 : decode cX2_find 28 = .ok (.iconst (-1), 1) := by decide +kernel
theorem dX2_find_29 : decode cX2_find 29 = .ok (.if_icmp .eq 62, 3) := by decide +kernel
theorem dX2_find_32 : decode cX2_find 32 = .ok (.aload_n 0, 1) := by decide +kernel
theorem dX2_find_33 : decode cX2_find 33 = .ok (.getfield 9, 3) := by decide +kernel
theorem dX2_find_36 : decode cX2_find 36 = .ok (.iload 4, 2) := by decide +kernel
theorem dX2_find_38 : decode cX2_find 38 = .ok (.invokestatic 52, 3) := by decide +kernel
theorem dX2_find_41 : decode cX2_find 41 = .ok (.iload_n 1, 1) := by decide +kernel
theorem dX2_find_42 : decode cX2_find 42 = .ok (.if_icmp .ne 32, 3) := by decide +kernel
theorem dX2_find_45 : decode cX2_find 45 = .ok (.aload_n 0, 1) := by decide +kernel
theorem dX2_find_46 : decode cX2_find 46 = .ok (.getfield 15, 3) := by decide +kernel
theorem dX2_find_49 : decode cX2_find 49 = .ok (.iload 4, 2) := by decide +kernel
theorem dX2_find_51 : decode cX2_find 51 = .ok (.invokestatic 52, 3) := by decide +kernel
theorem dX2_find_54 : decode cX2_find 54 = .ok (.iload_n 2, 1) := by decide +kernel
theorem dX2_find_55 : decode cX2_find 55 = .ok (.if_icmp .ne 19, 3) := by decide +kernel
theorem dX2_find_58 : decode cX2_find 58 = .ok (.aload_n 0, 1) := by decide +kernel
theorem dX2_find_59 : decode cX2_find 59 = .ok (.getfield 18, 3) := by decide +kernel
theorem dX2_find_62 : decode cX2_find 62 = .ok (.iload 4, 2) := by decide +kernel
theorem dX2_find_64 : decode cX2_find 64 = .ok (.invokestatic 52, 3) := by decide +kernel
theorem dX2_find_67 : decode cX2_find 67 = .ok (.iload_n 3, 1) := by decide +kernel
theorem dX2_find_68 : decode cX2_find 68 = .ok (.if_icmp .ne 6, 3) := by decide +kernel
theorem dX2_find_71 : decode cX2_find 71 = .ok (.iload 4, 2) := by decide +kernel
theorem dX2_find_73 : decode cX2_find 73 = .ok (.ireturn, 1) := by decide +kernel
theorem dX2_find_74 : decode cX2_find 74 = .ok (.aload_n 0, 1) := by decide +kernel
theorem dX2_find_75 : decode cX2_find 75 = .ok (.getfield 27, 3) := by decide +kernel
theorem dX2_find_78 : decode cX2_find 78 = .ok (.iload 4, 2) := by decide +kernel
theorem dX2_find_80 : decode cX2_find 80 = .ok (.invokestatic 52, 3) := by decide +kernel
theorem dX2_find_83 : decode cX2_find 83 = .ok (.istore 4, 2) := by decide +kernel
theorem dX2_find_85 : decode cX2_find 85 = .ok (.iinc 5 (-1), 3) := by decide +kernel
theorem dX2_find_88 : decode cX2_find 88 = .ok (.goto (-67), 3) := by decide +kernel
theorem dX2_find_91 : decode cX2_find 91 = .ok (.iconst (-1), 1) := by decide +kernel
theorem dX2_find_92 : decode cX2_find 92 = .ok (.ireturn, 1) := by decide +kernel
set_option maxRecDepth 20000 in
theorem ggX2_made_X2_symbols : GoodIn wsX2_made wsX2_symbols := goodIn_r _ [17, 9, 18, 19, 20, 32, 33, 34, 35, 36, 37, 38, 39, 40, 41, 42, 43, 44, 45] (by decide +kernel) (by decide +kernel)
set_option maxRecDepth 20000 in
theorem gX2_made_X2_symbols : GoodIn wsX2_made (wsV RX2 62 RX2 yX2_symbols wsX2_symbols) := goodIn_app (goodIn_of _ (by decide +kernel)) ggX2_made_X2_symbols
set_option maxRecDepth 20000 in
theorem ggX2_made_X2_height : GoodIn wsX2_made wsX2_height := goodIn_r _ [24, 10, 18, 19, 20, 32, 33, 34, 35, 36, 37, 38, 39, 40, 41, 42, 43, 44, 45] (by decide +kernel) (by decide +kernel)
set_option maxRecDepth 20000 in
theorem gX2_made_X2_height : GoodIn wsX2_made (wsV RX2 78 RX2 yX2_height wsX2_height) := goodIn_app (goodIn_of _ (by decide +kernel)) ggX2_made_X2_height
set_option maxRecDepth 20000 in
theorem ggX2_made_X2_find : GoodIn wsX2_made wsX2_find := goodIn_r _ [28, 12, 5, 6, 7, 8, 11, 29, 30, 16, 31, 18, 19, 20, 32, 33, 34, 35, 36, 37, 38, 39, 40, 41, 42, 43, 44, 45] (by decide +kernel) (by decide +kernel)
set_option maxRecDepth 20000 in
theorem gX2_made_X2_find : GoodIn wsX2_made (wsV RX2 87 RX2 yX2_find wsX2_find) := goodIn_app (goodIn_of _ (by decide +kernel)) ggX2_made_X2_find
set_option maxRecDepth 20000 in
theorem ggX2_made_X2_bucketOf : GoodIn wsX2_made wsX2_bucketOf := goodIn_r _ [31] (by decide +kernel) (by decide +kernel)
set_option maxRecDepth 20000 in
theorem gX2_made_X2_bucketOf : GoodIn wsX2_made (va_wsS RX2 74 yX2_bucketOf wsX2_bucketOf) := goodIn_app (goodIn_of _ (by decide +kernel)) ggX2_made_X2_bucketOf
theorem dX2_made_0 : decode cX2_made 0 = .ok (.iconst 1, 1) := by decide +kernel
theorem dX2_made_1 : decode cX2_made 1 = .ok (.aload_n 0, 1) := by decide +kernel
theorem dX2_made_2 : decode cX2_made 2 = .ok (.iload_n 2, 1) := by decide +kernel
theorem dX2_made_3 : decode cX2_made 3 = .ok (.invokevirtual 62, 3) := by decide +kernel
theorem dX2_made_6 : decode cX2_made 6 = .ok (.iadd, 1) := by decide +kernel
theorem dX2_made_7 : decode cX2_made 7 = .ok (.aload_n 0, 1) := by decide +kernel
theorem dX2_made_8 : decode cX2_made 8 = .ok (.iload_n 3, 1) := by decide +kernel
theorem dX2_made_9 : decode cX2_made 9 = .ok (.invokevirtual 62, 3) := by decide +kernel
theorem dX2_made_12 : decode cX2_made 12 = .ok (.iadd, 1) := by decide +kernel
theorem dX2_made_13 : decode cX2_made 13 = .ok (.istore 4, 2) := by decide +kernel
theorem dX2_made_15 : decode cX2_made 15 = .ok (.iconst 1, 1) := by decide +kernel
theorem dX2_made_16 : decode cX2_made 16 = .ok (.aload_n 0, 1) := by decide +kernel
theorem dX2_made_17 : decode cX2_made 17 = .ok (.iload_n 2, 1) := by decide +kernel
theorem dX2_made_18 : decode cX2_made 18 = .ok (.invokevirtual 78, 3) := by decide +kernel
theorem dX2_made_21 : decode cX2_made 21 = .ok (.aload_n 0, 1) := by decide +kernel
theorem dX2_made_22 : decode cX2_made 22 = .ok (.iload_n 3, 1) := by decide +kernel
theorem dX2_made_23 : decode cX2_made 23 = .ok (.invokevirtual 78, 3) := by decide +kernel
theorem dX2_made_26 : decode cX2_made 26 = .ok (.invokestatic 81, 3) := by decide +kernel
theorem dX2_made_29 : decode cX2_made 29 = .ok (.iadd, 1) := by decide +kernel
theorem dX2_made_30 : decode cX2_made 30 = .ok (.istore 5, 2) := by decide +kernel
theorem dX2_made_32 : decode cX2_made 32 = .ok (.iload 4, 2) := by decide +kernel
theorem dX2_made_34 : decode cX2_made 34 = .ok (.sipush 200, 3) := by decide +kernel
theorem dX2_made_37 : decode cX2_made 37 = .ok (.if_icmp .gt 10, 3) := by decide +kernel
theorem dX2_made_40 : decode cX2_made 40 = .ok (.iload 5, 2) := by decide +kernel
theorem dX2_made_42 : decode cX2_made 42 = .ok (.bipush 24, 2) := by decide +kernel
theorem dX2_made_44 : decode cX2_made 44 = .ok (.if_icmp .le 5, 3) := by decide +kernel
theorem dX2_made_47 : decode cX2_made 47 = .ok (.iconst (-1), 1) := by decide +kernel
theorem dX2_made_48 : decode cX2_made 48 = .ok (.ireturn, 1) := by decide +kernel
theorem dX2_made_49 : decode cX2_made 49 = .ok (.aload_n 0, 1) := by decide +kernel
theorem dX2_made_50 : decode cX2_made 50 = .ok (.iload_n 1, 1) := by decide +kernel
theorem dX2_made_51 : decode cX2_made 51 = .ok (.iload_n 2, 1) := by decide +kernel
theorem dX2_made_52 : decode cX2_made 52 = .ok (.iload_n 3, 1) := by decide +kernel
theorem dX2_made_53 : decode cX2_made 53 = .ok (.invokevirtual 87, 3) := by decide +kernel
theorem dX2_made_56 : decode cX2_made 56 = .ok (.istore 6, 2) := by decide +kernel
theorem dX2_made_58 : decode cX2_made 58 = .ok (.iload 6, 2) := by decide +kernel
theorem dX2_made_60 : decode cX2_made 60 = .ok (.iconst (-1), 1) := by decide +kernel
theorem dX2_made_61 : decode cX2_made 61 = .ok (.if_icmp .ne 20, 3) := by decide +kernel
theorem dX2_made_64 : decode cX2_made 64 = .ok (.aload_n 0, 1) := by decide +kernel
theorem dX2_made_65 : decode cX2_made 65 = .ok (.getfield 48, 3) := by decide +kernel
theorem dX2_made_68 : decode cX2_made 68 = .ok (.ifCond .lt 13, 3) := by decide +kernel
theorem dX2_made_71 : decode cX2_made 71 = .ok (.aload_n 0, 1) := by decide +kernel
theorem dX2_made_72 : decode cX2_made 72 = .ok (.getfield 48, 3) := by decide +kernel
theorem dX2_made_75 : decode cX2_made 75 = .ok (.sipush 8000, 3) := by decide +kernel
theorem dX2_made_78 : decode cX2_made 78 = .ok (.if_icmp .lt 6, 3) := by decide +kernel
theorem dX2_made_81 : decode cX2_made 81 = .ok (.iload 6, 2) := by decide +kernel
theorem dX2_made_83 : decode cX2_made 83 = .ok (.ireturn, 1) := by decide +kernel
theorem dX2_made_84 : decode cX2_made 84 = .ok (.aload_n 0, 1) := by decide +kernel
theorem dX2_made_85 : decode cX2_made 85 = .ok (.getfield 9, 3) := by decide +kernel
theorem dX2_made_88 : decode cX2_made 88 = .ok (.aload_n 0, 1) := by decide +kernel
theorem dX2_made_89 : decode cX2_made 89 = .ok (.getfield 48, 3) := by decide +kernel
theorem dX2_made_92 : decode cX2_made 92 = .ok (.iload_n 1, 1) := by decide +kernel
theorem dX2_made_93 : decode cX2_made 93 = .ok (.iastore, 1) := by decide +kernel
theorem dX2_made_94 : decode cX2_made 94 = .ok (.aload_n 0, 1) := by decide +kernel
theorem dX2_made_95 : decode cX2_made 95 = .ok (.getfield 15, 3) := by decide +kernel
theorem dX2_made_98 : decode cX2_made 98 = .ok (.aload_n 0, 1) := by decide +kernel
theorem dX2_made_99 : decode cX2_made 99 = .ok (.getfield 48, 3) := by decide +kernel
theorem dX2_made_102 : decode cX2_made 102 = .ok (.iload_n 2, 1) := by decide +kernel
theorem dX2_made_103 : decode cX2_made 103 = .ok (.iastore, 1) := by decide +kernel
theorem dX2_made_104 : decode cX2_made 104 = .ok (.aload_n 0, 1) := by decide +kernel
theorem dX2_made_105 : decode cX2_made 105 = .ok (.getfield 18, 3) := by decide +kernel
theorem dX2_made_108 : decode cX2_made 108 = .ok (.aload_n 0, 1) := by decide +kernel
theorem dX2_made_109 : decode cX2_made 109 = .ok (.getfield 48, 3) := by decide +kernel
theorem dX2_made_112 : decode cX2_made 112 = .ok (.iload_n 3, 1) := by decide +kernel
theorem dX2_made_113 : decode cX2_made 113 = .ok (.iastore, 1) := by decide +kernel
theorem dX2_made_114 : decode cX2_made 114 = .ok (.aload_n 0, 1) := by decide +kernel
theorem dX2_made_115 : decode cX2_made 115 = .ok (.getfield 21, 3) := by decide +kernel
theorem dX2_made_118 : decode cX2_made 118 = .ok (.aload_n 0, 1) := by decide +kernel
theorem dX2_made_119 : decode cX2_made 119 = .ok (.getfield 48, 3) := by decide +kernel
theorem dX2_made_122 : decode cX2_made 122 = .ok (.iload 4, 2) := by decide +kernel
theorem dX2_made_124 : decode cX2_made 124 = .ok (.iastore, 1) := by decide +kernel
theorem dX2_made_125 : decode cX2_made 125 = .ok (.aload_n 0, 1) := by decide +kernel
theorem dX2_made_126 : decode cX2_made 126 = .ok (.getfield 24, 3) := by decide +kernel
theorem dX2_made_129 : decode cX2_made 129 = .ok (.aload_n 0, 1) := by decide +kernel
theorem dX2_made_130 : decode cX2_made 130 = .ok (.getfield 48, 3) := by decide +kernel
theorem dX2_made_133 : decode cX2_made 133 = .ok (.iload 5, 2) := by decide +kernel
theorem dX2_made_135 : decode cX2_made 135 = .ok (.iastore, 1) := by decide +kernel
theorem dX2_made_136 : decode cX2_made 136 = .ok (.iload_n 1, 1) := by decide +kernel
theorem dX2_made_137 : decode cX2_made 137 = .ok (.iload_n 2, 1) := by decide +kernel
theorem dX2_made_138 : decode cX2_made 138 = .ok (.iload_n 3, 1) := by decide +kernel
theorem dX2_made_139 : decode cX2_made 139 = .ok (.invokestatic 74, 3) := by decide +kernel
theorem dX2_made_142 : decode cX2_made 142 = .ok (.istore 7, 2) := by decide +kernel
theorem dX2_made_144 : decode cX2_made 144 = .ok (.aload_n 0, 1) := by decide +kernel
theorem dX2_made_145 : decode cX2_made 145 = .ok (.getfield 27, 3) := by decide +kernel
theorem dX2_made_148 : decode cX2_made 148 = .ok (.aload_n 0, 1) := by decide +kernel
theorem dX2_made_149 : decode cX2_made 149 = .ok (.getfield 48, 3) := by decide +kernel
theorem dX2_made_152 : decode cX2_made 152 = .ok (.aload_n 0, 1) := by decide +kernel
theorem dX2_made_153 : decode cX2_made 153 = .ok (.getfield 30, 3) := by decide +kernel
theorem dX2_made_156 : decode cX2_made 156 = .ok (.iload 7, 2) := by decide +kernel
theorem dX2_made_158 : decode cX2_made 158 = .ok (.iaload, 1) := by decide +kernel
theorem dX2_made_159 : decode cX2_made 159 = .ok (.iastore, 1) := by decide +kernel
theorem dX2_made_160 : decode cX2_made 160 = .ok (.aload_n 0, 1) := by decide +kernel
theorem dX2_made_161 : decode cX2_made 161 = .ok (.getfield 30, 3) := by decide +kernel
theorem dX2_made_164 : decode cX2_made 164 = .ok (.iload 7, 2) := by decide +kernel
theorem dX2_made_166 : decode cX2_made 166 = .ok (.aload_n 0, 1) := by decide +kernel
theorem dX2_made_167 : decode cX2_made 167 = .ok (.getfield 48, 3) := by decide +kernel
theorem dX2_made_170 : decode cX2_made 170 = .ok (.iastore, 1) := by decide +kernel
theorem dX2_made_171 : decode cX2_made 171 = .ok (.aload_n 0, 1) := by decide +kernel
theorem dX2_made_172 : decode cX2_made 172 = .ok (.dup, 1) := by decide +kernel
theorem dX2_made_173 : decode cX2_made 173 = .ok (.getfield 48, 3) := by decide +kernel
theorem dX2_made_176 : decode cX2_made 176 = .ok (.iconst 1, 1) := by decide +kernel
theorem dX2_made_177 : decode cX2_made 177 = .ok (.iadd, 1) := by decide +kernel
theorem dX2_made_178 : decode cX2_made 178 = .ok (.putfield 48, 3) := by decide +kernel
theorem dX2_made_181 : decode cX2_made 181 = .ok (.aload_n 0, 1) := by decide +kernel
theorem dX2_made_182 : decode cX2_made 182 = .ok (.getfield 48, 3) := by decide +kernel
theorem dX2_made_185 : decode cX2_made 185 = .ok (.iconst 1, 1) := by decide +kernel
theorem dX2_made_186 : decode cX2_made 186 = .ok (.isub, 1) := by decide +kernel
theorem dX2_made_187 : decode cX2_made 187 = .ok (.ireturn, 1) := by decide +kernel
set_option maxRecDepth 20000 in
theorem ggX2_forgetFrom_X2_bucketOf : GoodIn wsX2_forgetFrom wsX2_bucketOf := goodIn_r _ [14] (by decide +kernel) (by decide +kernel)
set_option maxRecDepth 20000 in
theorem gX2_forgetFrom_X2_bucketOf : GoodIn wsX2_forgetFrom (va_wsS RX2 74 yX2_bucketOf wsX2_bucketOf) := goodIn_app (goodIn_of _ (by decide +kernel)) ggX2_forgetFrom_X2_bucketOf
theorem dX2_forgetFrom_0 : decode cX2_forgetFrom 0 = .ok (.aload_n 0, 1) := by decide +kernel
theorem dX2_forgetFrom_1 : decode cX2_forgetFrom 1 = .ok (.getfield 48, 3) := by decide +kernel
theorem dX2_forgetFrom_4 : decode cX2_forgetFrom 4 = .ok (.sipush 8000, 3) := by decide +kernel
theorem dX2_forgetFrom_7 : decode cX2_forgetFrom 7 = .ok (.invokestatic 90, 3) := by decide +kernel
theorem dX2_forgetFrom_10 : decode cX2_forgetFrom 10 = .ok (.iconst 1, 1) := by decide +kernel
theorem dX2_forgetFrom_11 : decode cX2_forgetFrom 11 = .ok (.isub, 1) := by decide +kernel
theorem dX2_forgetFrom_12 : decode cX2_forgetFrom 12 = .ok (.istore_n 2, 1) := by decide +kernel
theorem dX2_forgetFrom_13 : decode cX2_forgetFrom 13 = .ok (.iload_n 2, 1) := by decide +kernel
theorem dX2_forgetFrom_14 : decode cX2_forgetFrom 14 = .ok (.istore_n 3, 1) := by decide +kernel
theorem dX2_forgetFrom_15 : decode cX2_forgetFrom 15 = .ok (.iload_n 3, 1) := by decide +kernel
theorem dX2_forgetFrom_16 : decode cX2_forgetFrom 16 = .ok (.iload_n 1, 1) := by decide +kernel
theorem dX2_forgetFrom_17 : decode cX2_forgetFrom 17 = .ok (.if_icmp .lt 50, 3) := by decide +kernel
theorem dX2_forgetFrom_20 : decode cX2_forgetFrom 20 = .ok (.iload_n 3, 1) := by decide +kernel
theorem dX2_forgetFrom_21 : decode cX2_forgetFrom 21 = .ok (.ifCond .lt 46, 3) := by decide +kernel
theorem dX2_forgetFrom_24 : decode cX2_forgetFrom 24 = .ok (.aload_n 0, 1) := by decide +kernel
theorem dX2_forgetFrom_25 : decode cX2_forgetFrom 25 = .ok (.getfield 30, 3) := by decide +kernel
theorem dX2_forgetFrom_28 : decode cX2_forgetFrom 28 = .ok (.aload_n 0, 1) := by decide +kernel
theorem dX2_forgetFrom_29 : decode cX2_forgetFrom 29 = .ok (.getfield 9, 3) := by decide +kernel
theorem dX2_forgetFrom_32 : decode cX2_forgetFrom 32 = .ok (.iload_n 3, 1) := by decide +kernel
theorem dX2_forgetFrom_33 : decode cX2_forgetFrom 33 = .ok (.iaload, 1) := by decide +kernel
theorem dX2_forgetFrom_34 : decode cX2_forgetFrom 34 = .ok (.aload_n 0, 1) := by decide +kernel
theorem dX2_forgetFrom_35 : decode cX2_forgetFrom 35 = .ok (.getfield 15, 3) := by decide +kernel
theorem dX2_forgetFrom_38 : decode cX2_forgetFrom 38 = .ok (.iload_n 3, 1) := by decide +kernel
theorem dX2_forgetFrom_39 : decode cX2_forgetFrom 39 = .ok (.iaload, 1) := by decide +kernel
theorem dX2_forgetFrom_40 : decode cX2_forgetFrom 40 = .ok (.aload_n 0, 1) := by decide +kernel
theorem dX2_forgetFrom_41 : decode cX2_forgetFrom 41 = .ok (.getfield 18, 3) := by decide +kernel
theorem dX2_forgetFrom_44 : decode cX2_forgetFrom 44 = .ok (.iload_n 3, 1) := by decide +kernel
theorem dX2_forgetFrom_45 : decode cX2_forgetFrom 45 = .ok (.iaload, 1) := by decide +kernel
theorem dX2_forgetFrom_46 : decode cX2_forgetFrom 46 = .ok (.invokestatic 74, 3) := by decide +kernel
theorem dX2_forgetFrom_49 : decode cX2_forgetFrom 49 = .ok (.aload_n 0, 1) := by decide +kernel
theorem dX2_forgetFrom_50 : decode cX2_forgetFrom 50 = .ok (.getfield 27, 3) := by decide +kernel
theorem dX2_forgetFrom_53 : decode cX2_forgetFrom 53 = .ok (.iload_n 3, 1) := by decide +kernel
theorem dX2_forgetFrom_54 : decode cX2_forgetFrom 54 = .ok (.iaload, 1) := by decide +kernel
theorem dX2_forgetFrom_55 : decode cX2_forgetFrom 55 = .ok (.iastore, 1) := by decide +kernel
theorem dX2_forgetFrom_56 : decode cX2_forgetFrom 56 = .ok (.aload_n 0, 1) := by decide +kernel
theorem dX2_forgetFrom_57 : decode cX2_forgetFrom 57 = .ok (.iload_n 3, 1) := by decide +kernel
theorem dX2_forgetFrom_58 : decode cX2_forgetFrom 58 = .ok (.putfield 48, 3) := by decide +kernel
theorem dX2_forgetFrom_61 : decode cX2_forgetFrom 61 = .ok (.iinc 3 (-1), 3) := by decide +kernel
theorem dX2_forgetFrom_64 : decode cX2_forgetFrom 64 = .ok (.goto (-49), 3) := by decide +kernel
theorem dX2_forgetFrom_67 : decode cX2_forgetFrom 67 = .ok (.return_, 1) := by decide +kernel
theorem dX2_bucketOf_0 : decode cX2_bucketOf 0 = .ok (.iload_n 0, 1) := by decide +kernel
theorem dX2_bucketOf_1 : decode cX2_bucketOf 1 = .ok (.bipush 31, 2) := by decide +kernel
theorem dX2_bucketOf_3 : decode cX2_bucketOf 3 = .ok (.imul, 1) := by decide +kernel
theorem dX2_bucketOf_4 : decode cX2_bucketOf 4 = .ok (.iload_n 1, 1) := by decide +kernel
theorem dX2_bucketOf_5 : decode cX2_bucketOf 5 = .ok (.iadd, 1) := by decide +kernel
theorem dX2_bucketOf_6 : decode cX2_bucketOf 6 = .ok (.sipush 8191, 3) := by decide +kernel
theorem dX2_bucketOf_9 : decode cX2_bucketOf 9 = .ok (.imul, 1) := by decide +kernel
theorem dX2_bucketOf_10 : decode cX2_bucketOf 10 = .ok (.iload_n 2, 1) := by decide +kernel
theorem dX2_bucketOf_11 : decode cX2_bucketOf 11 = .ok (.iadd, 1) := by decide +kernel
theorem dX2_bucketOf_12 : decode cX2_bucketOf 12 = .ok (.istore_n 3, 1) := by decide +kernel
theorem dX2_bucketOf_13 : decode cX2_bucketOf 13 = .ok (.iload_n 3, 1) := by decide +kernel
theorem dX2_bucketOf_14 : decode cX2_bucketOf 14 = .ok (.iload_n 3, 1) := by decide +kernel
theorem dX2_bucketOf_15 : decode cX2_bucketOf 15 = .ok (.bipush 12, 2) := by decide +kernel
theorem dX2_bucketOf_17 : decode cX2_bucketOf 17 = .ok (.iushr, 1) := by decide +kernel
theorem dX2_bucketOf_18 : decode cX2_bucketOf 18 = .ok (.ixor, 1) := by decide +kernel
theorem dX2_bucketOf_19 : decode cX2_bucketOf 19 = .ok (.sipush 4095, 3) := by decide +kernel
theorem dX2_bucketOf_22 : decode cX2_bucketOf 22 = .ok (.iand, 1) := by decide +kernel
theorem dX2_bucketOf_23 : decode cX2_bucketOf 23 = .ok (.ireturn, 1) := by decide +kernel
theorem dX2_beginImages_0 : decode cX2_beginImages 0 = .ok (.aload_n 0, 1) := by decide +kernel
theorem dX2_beginImages_1 : decode cX2_beginImages 1 = .ok (.dup, 1) := by decide +kernel
theorem dX2_beginImages_2 : decode cX2_beginImages 2 = .ok (.getfield 93, 3) := by decide +kernel
theorem dX2_beginImages_5 : decode cX2_beginImages 5 = .ok (.iconst 1, 1) := by decide +kernel
theorem dX2_beginImages_6 : decode cX2_beginImages 6 = .ok (.iadd, 1) := by decide +kernel
theorem dX2_beginImages_7 : decode cX2_beginImages 7 = .ok (.putfield 93, 3) := by decide +kernel
theorem dX2_beginImages_10 : decode cX2_beginImages 10 = .ok (.return_, 1) := by decide +kernel
theorem dX2_setImage_0 : decode cX2_setImage 0 = .ok (.iload_n 1, 1) := by decide +kernel
theorem dX2_setImage_1 : decode cX2_setImage 1 = .ok (.ifCond .lt 27, 3) := by decide +kernel
theorem dX2_setImage_4 : decode cX2_setImage 4 = .ok (.iload_n 1, 1) := by decide +kernel
theorem dX2_setImage_5 : decode cX2_setImage 5 = .ok (.sipush 8000, 3) := by decide +kernel
theorem dX2_setImage_8 : decode cX2_setImage 8 = .ok (.if_icmp .ge 20, 3) := by decide +kernel
theorem dX2_setImage_11 : decode cX2_setImage 11 = .ok (.aload_n 0, 1) := by decide +kernel
theorem dX2_setImage_12 : decode cX2_setImage 12 = .ok (.getfield 33, 3) := by decide +kernel
theorem dX2_setImage_15 : decode cX2_setImage 15 = .ok (.iload_n 1, 1) := by decide +kernel
theorem dX2_setImage_16 : decode cX2_setImage 16 = .ok (.iload_n 2, 1) := by decide +kernel
theorem dX2_setImage_17 : decode cX2_setImage 17 = .ok (.iastore, 1) := by decide +kernel
theorem dX2_setImage_18 : decode cX2_setImage 18 = .ok (.aload_n 0, 1) := by decide +kernel
theorem dX2_setImage_19 : decode cX2_setImage 19 = .ok (.getfield 36, 3) := by decide +kernel
theorem dX2_setImage_22 : decode cX2_setImage 22 = .ok (.iload_n 1, 1) := by decide +kernel
theorem dX2_setImage_23 : decode cX2_setImage 23 = .ok (.aload_n 0, 1) := by decide +kernel
theorem dX2_setImage_24 : decode cX2_setImage 24 = .ok (.getfield 93, 3) := by decide +kernel
theorem dX2_setImage_27 : decode cX2_setImage 27 = .ok (.iastore, 1) := by decide +kernel
theorem dX2_setImage_28 : decode cX2_setImage 28 = .ok (.return_, 1) := by decide +kernel
set_option maxRecDepth 20000 in
theorem ggX2_hasImage_X4_read : GoodIn wsX2_hasImage wsX4_read := goodIn_r _ [5] (by decide +kernel) (by decide +kernel)
set_option maxRecDepth 20000 in
theorem gX2_hasImage_X4_read_n52 : GoodIn wsX2_hasImage (wsX4_read) := ggX2_hasImage_X4_read
theorem dX2_hasImage_0 : decode cX2_hasImage 0 = .ok (.aload_n 0, 1) := by decide +kernel
theorem dX2_hasImage_1 : decode cX2_hasImage 1 = .ok (.getfield 36, 3) := by decide +kernel
theorem dX2_hasImage_4 : decode cX2_hasImage 4 = .ok (.iload_n 1, 1) := by decide +kernel
theorem dX2_hasImage_5 : decode cX2_hasImage 5 = .ok (.invokestatic 52, 3) := by decide +kernel
theorem dX2_hasImage_8 : decode cX2_hasImage 8 = .ok (.aload_n 0, 1) := by decide +kernel
theorem dX2_hasImage_9 : decode cX2_hasImage 9 = .ok (.getfield 93, 3) := by decide +kernel
theorem dX2_hasImage_12 : decode cX2_hasImage 12 = .ok (.if_icmp .ne 7, 3) := by decide +kernel
theorem dX2_hasImage_15 : decode cX2_hasImage 15 = .ok (.iconst 1, 1) := by decide +kernel
theorem dX2_hasImage_16 : decode cX2_hasImage 16 = .ok (.goto 4, 3) := by decide +kernel
theorem dX2_hasImage_19 : decode cX2_hasImage 19 = .ok (.iconst 0, 1) := by decide +kernel
theorem dX2_hasImage_20 : decode cX2_hasImage 20 = .ok (.ireturn, 1) := by decide +kernel
set_option maxRecDepth 20000 in
theorem ggX2_fits_X2_fitsWithin : GoodIn wsX2_fits wsX2_fitsWithin := goodIn_r _ [5, 6, 7, 8, 9, 4, 10, 11, 12, 13, 14, 15, 16, 17, 18, 19, 20, 21, 22, 23, 24, 25, 1, 2, 3, 26, 27, 28, 29, 30, 31, 32, 33, 34, 35, 36, 37, 38, 39, 40, 41, 42, 43, 44, 45, 46, 47, 48] (by decide +kernel) (by decide +kernel)
set_option maxRecDepth 20000 in
theorem gX2_fits_X2_fitsWithin : GoodIn wsX2_fits (wsV RX2 96 RX2 yX2_fitsWithin wsX2_fitsWithin) := goodIn_app (goodIn_of _ (by decide +kernel)) ggX2_fits_X2_fitsWithin
theorem dX2_fits_0 : decode cX2_fits 0 = .ok (.aload_n 0, 1) := by decide +kernel
theorem dX2_fits_1 : decode cX2_fits 1 = .ok (.iload_n 1, 1) := by decide +kernel
theorem dX2_fits_2 : decode cX2_fits 2 = .ok (.iload_n 2, 1) := by decide +kernel
theorem dX2_fits_3 : decode cX2_fits 3 = .ok (.bipush 24, 2) := by decide +kernel
theorem dX2_fits_5 : decode cX2_fits 5 = .ok (.invokevirtual 96, 3) := by decide +kernel
theorem dX2_fits_8 : decode cX2_fits 8 = .ok (.ireturn, 1) := by decide +kernel
set_option maxRecDepth 20000 in
theorem ggX2_fitsWithin_X2_hasImage : GoodIn wsX2_fitsWithin wsX2_hasImage := goodIn_r _ [6, 7, 8, 9, 10, 11, 34, 35, 36, 37, 38, 39, 40, 41, 42, 43, 44, 45, 46, 47] (by decide +kernel) (by decide +kernel)
set_option maxRecDepth 20000 in
theorem gX2_fitsWithin_X2_hasImage : GoodIn wsX2_fitsWithin (wsV RX2 100 RX2 yX2_hasImage wsX2_hasImage) := goodIn_app (goodIn_of _ (by decide +kernel)) ggX2_fitsWithin_X2_hasImage
set_option maxRecDepth 20000 in
theorem ggX2_fitsWithin_X4_read : GoodIn wsX2_fitsWithin wsX4_read := goodIn_r _ [11] (by decide +kernel) (by decide +kernel)
set_option maxRecDepth 20000 in
theorem gX2_fitsWithin_X4_read_n52 : GoodIn wsX2_fitsWithin (wsX4_read) := ggX2_fitsWithin_X4_read
set_option maxRecDepth 20000 in
theorem ggX2_fitsWithin_X2_head : GoodIn wsX2_fitsWithin wsX2_head := goodIn_r _ [15, 16, 9, 10, 11, 34, 35, 36, 37, 38, 39, 40, 41, 42, 43, 44, 45, 46, 47] (by decide +kernel) (by decide +kernel)
set_option maxRecDepth 20000 in
theorem gX2_fitsWithin_X2_head : GoodIn wsX2_fitsWithin (wsV RX2 71 RX2 yX2_head wsX2_head) := goodIn_app (goodIn_of _ (by decide +kernel)) ggX2_fitsWithin_X2_head
set_option maxRecDepth 20000 in
theorem ggX2_fitsWithin_X2_first : GoodIn wsX2_fitsWithin wsX2_first := goodIn_r _ [20, 21, 9, 10, 11, 34, 35, 36, 37, 38, 39, 40, 41, 42, 43, 44, 45, 46, 47] (by decide +kernel) (by decide +kernel)
set_option maxRecDepth 20000 in
theorem gX2_fitsWithin_X2_first : GoodIn wsX2_fitsWithin (wsV RX2 65 RX2 yX2_first wsX2_first) := goodIn_app (goodIn_of _ (by decide +kernel)) ggX2_fitsWithin_X2_first
set_option maxRecDepth 20000 in
theorem ggX2_fitsWithin_X2_fitsWithin : GoodIn wsX2_fitsWithin wsX2_fitsWithin := goodIn_r _ [0, 1, 2, 3, 4, 5, 6, 7, 8, 9, 10, 11, 12, 13, 14, 15, 16, 17, 18, 19, 20, 21, 22, 23, 24, 25, 26, 27, 28, 29, 30, 31, 32, 33, 34, 35, 36, 37, 38, 39, 40, 41, 42, 43, 44, 45, 46, 47] (by decide +kernel) (by decide +kernel)
set_option maxRecDepth 20000 in
theorem gX2_fitsWithin_X2_fitsWithin : GoodIn wsX2_fitsWithin (wsV RX2 96 RX2 yX2_fitsWithin wsX2_fitsWithin) := goodIn_app (goodIn_of _ (by decide +kernel)) ggX2_fitsWithin_X2_fitsWithin
set_option maxRecDepth 20000 in
theorem ggX2_fitsWithin_X2_second : GoodIn wsX2_fitsWithin wsX2_second := goodIn_r _ [28, 29, 9, 10, 11, 34, 35, 36, 37, 38, 39, 40, 41, 42, 43, 44, 45, 46, 47] (by decide +kernel) (by decide +kernel)
set_option maxRecDepth 20000 in
theorem gX2_fitsWithin_X2_second : GoodIn wsX2_fitsWithin (wsV RX2 68 RX2 yX2_second wsX2_second) := goodIn_app (goodIn_of _ (by decide +kernel)) ggX2_fitsWithin_X2_second
set_option maxRecDepth 20000 in
theorem ggX2_fitsWithin_X2_setImage : GoodIn wsX2_fitsWithin wsX2_setImage := goodIn_r _ [33, 1, 7, 8, 34, 35, 36, 37, 38, 39, 40, 41, 42, 43, 44, 45, 46, 47] (by decide +kernel) (by decide +kernel)
set_option maxRecDepth 20000 in
theorem gX2_fitsWithin_X2_setImage : GoodIn wsX2_fitsWithin (wsV RX2 104 RX2 yX2_setImage wsX2_setImage) := goodIn_app (goodIn_of _ (by decide +kernel)) ggX2_fitsWithin_X2_setImage
theorem dX2_fitsWithin_0 : decode cX2_fitsWithin 0 = .ok (.iload_n 1, 1) := by decide +kernel
theorem dX2_fitsWithin_1 : decode cX2_fitsWithin 1 = .ok (.iconst (-1), 1) := by decide +kernel
theorem dX2_fitsWithin_2 : decode cX2_fitsWithin 2 = .ok (.if_icmp .eq 8, 3) := by decide +kernel
theorem dX2_fitsWithin_5 : decode cX2_fitsWithin 5 = .ok (.iload_n 2, 1) := by decide +kernel
theorem dX2_fitsWithin_6 : decode cX2_fitsWithin 6 = .ok (.iconst (-1), 1) := by decide +kernel
theorem dX2_fitsWithin_7 : decode cX2_fitsWithin 7 = .ok (.if_icmp .ne 14, 3) := by decide +kernel
theorem dX2_fitsWithin_10 : decode cX2_fitsWithin 10 = .ok (.iload_n 1, 1) := by decide +kernel
theorem dX2_fitsWithin_11 : decode cX2_fitsWithin 11 = .ok (.iload_n 2, 1) := by decide +kernel
theorem dX2_fitsWithin_12 : decode cX2_fitsWithin 12 = .ok (.if_icmp .ne 7, 3) := by decide +kernel
theorem dX2_fitsWithin_15 : decode cX2_fitsWithin 15 = .ok (.iconst 1, 1) := by decide +kernel
theorem dX2_fitsWithin_16 : decode cX2_fitsWithin 16 = .ok (.goto 4, 3) := by decide +kernel
theorem dX2_fitsWithin_19 : decode cX2_fitsWithin 19 = .ok (.iconst 0, 1) := by decide +kernel
theorem dX2_fitsWithin_20 : decode cX2_fitsWithin 20 = .ok (.ireturn, 1) := by decide +kernel
theorem dX2_fitsWithin_21 : decode cX2_fitsWithin 21 = .ok (.iload_n 3, 1) := by decide +kernel
theorem dX2_fitsWithin_22 : decode cX2_fitsWithin 22 = .ok (.ifCond .gt 5, 3) := by decide +kernel
theorem dX2_fitsWithin_25 : decode cX2_fitsWithin 25 = .ok (.iconst 0, 1) := by decide +kernel
theorem dX2_fitsWithin_26 : decode cX2_fitsWithin 26 = .ok (.ireturn, 1) := by decide +kernel
theorem dX2_fitsWithin_27 : decode cX2_fitsWithin 27 = .ok (.aload_n 0, 1) := by decide +kernel
theorem dX2_fitsWithin_28 : decode cX2_fitsWithin 28 = .ok (.iload_n 1, 1) := by decide +kernel
theorem dX2_fitsWithin_29 : decode cX2_fitsWithin 29 = .ok (.invokevirtual 100, 3) := by decide +kernel
theorem dX2_fitsWithin_32 : decode cX2_fitsWithin 32 = .ok (.ifCond .eq 21, 3) := by decide +kernel
theorem dX2_fitsWithin_35 : decode cX2_fitsWithin 35 = .ok (.aload_n 0, 1) := by decide +kernel
theorem dX2_fitsWithin_36 : decode cX2_fitsWithin 36 = .ok (.getfield 33, 3) := by decide +kernel
theorem dX2_fitsWithin_39 : decode cX2_fitsWithin 39 = .ok (.iload_n 1, 1) := by decide +kernel
theorem dX2_fitsWithin_40 : decode cX2_fitsWithin 40 = .ok (.invokestatic 52, 3) := by decide +kernel
theorem dX2_fitsWithin_43 : decode cX2_fitsWithin 43 = .ok (.iload_n 2, 1) := by decide +kernel
theorem dX2_fitsWithin_44 : decode cX2_fitsWithin 44 = .ok (.if_icmp .ne 7, 3) := by decide +kernel
theorem dX2_fitsWithin_47 : decode cX2_fitsWithin 47 = .ok (.iconst 1, 1) := by decide +kernel
theorem dX2_fitsWithin_48 : decode cX2_fitsWithin 48 = .ok (.goto 4, 3) := by decide +kernel
theorem dX2_fitsWithin_51 : decode cX2_fitsWithin 51 = .ok (.iconst 0, 1) := by decide +kernel
theorem dX2_fitsWithin_52 : decode cX2_fitsWithin 52 = .ok (.ireturn, 1) := by decide +kernel
theorem dX2_fitsWithin_53 : decode cX2_fitsWithin 53 = .ok (.aload_n 0, 1) := by decide +kernel
theorem dX2_fitsWithin_54 : decode cX2_fitsWithin 54 = .ok (.iload_n 1, 1) := by decide +kernel
theorem dX2_fitsWithin_55 : decode cX2_fitsWithin 55 = .ok (.invokevirtual 71, 3) := by decide +kernel
theorem dX2_fitsWithin_58 : decode cX2_fitsWithin 58 = .ok (.ifCond .lt 56, 3) := by decide +kernel
theorem dX2_fitsWithin_61 : decode cX2_fitsWithin 61 = .ok (.aload_n 0, 1) := by decide +kernel
theorem dX2_fitsWithin_62 : decode cX2_fitsWithin 62 = .ok (.iload_n 1, 1) := by decide +kernel
theorem dX2_fitsWithin_63 : decode cX2_fitsWithin 63 = .ok (.invokevirtual 71, 3) := by decide +kernel
theorem dX2_fitsWithin_66 : decode cX2_fitsWithin 66 = .ok (.aload_n 0, 1) := by decide +kernel
theorem dX2_fitsWithin_67 : decode cX2_fitsWithin 67 = .ok (.iload_n 2, 1) := by decide +kernel
theorem dX2_fitsWithin_68 : decode cX2_fitsWithin 68 = .ok (.invokevirtual 71, 3) := by decide +kernel
theorem dX2_fitsWithin_71 : decode cX2_fitsWithin 71 = .ok (.if_icmp .ne 47, 3) := by decide +kernel
theorem dX2_fitsWithin_74 : decode cX2_fitsWithin 74 = .ok (.aload_n 0, 1) := by decide +kernel
theorem dX2_fitsWithin_75 : decode cX2_fitsWithin 75 = .ok (.aload_n 0, 1) := by decide +kernel
theorem dX2_fitsWithin_76 : decode cX2_fitsWithin 76 = .ok (.iload_n 1, 1) := by decide +kernel
theorem dX2_fitsWithin_77 : decode cX2_fitsWithin 77 = .ok (.invokevirtual 65, 3) := by decide +kernel
theorem dX2_fitsWithin_80 : decode cX2_fitsWithin 80 = .ok (.aload_n 0, 1) := by decide +kernel
theorem dX2_fitsWithin_81 : decode cX2_fitsWithin 81 = .ok (.iload_n 2, 1) := by decide +kernel
theorem dX2_fitsWithin_82 : decode cX2_fitsWithin 82 = .ok (.invokevirtual 65, 3) := by decide +kernel
theorem dX2_fitsWithin_85 : decode cX2_fitsWithin 85 = .ok (.iload_n 3, 1) := by decide +kernel
theorem dX2_fitsWithin_86 : decode cX2_fitsWithin 86 = .ok (.iconst 1, 1) := by decide +kernel
theorem dX2_fitsWithin_87 : decode cX2_fitsWithin 87 = .ok (.isub, 1) := by decide +kernel
theorem dX2_fitsWithin_88 : decode cX2_fitsWithin 88 = .ok (.invokevirtual 96, 3) := by decide +kernel
theorem dX2_fitsWithin_91 : decode cX2_fitsWithin 91 = .ok (.ifCond .eq 27, 3) := by decide +kernel
theorem dX2_fitsWithin_94 : decode cX2_fitsWithin 94 = .ok (.aload_n 0, 1) := by decide +kernel
theorem dX2_fitsWithin_95 : decode cX2_fitsWithin 95 = .ok (.aload_n 0, 1) := by decide +kernel
theorem dX2_fitsWithin_96 : decode cX2_fitsWithin 96 = .ok (.iload_n 1, 1) := by decide +kernel
theorem dX2_fitsWithin_97 : decode cX2_fitsWithin 97 = .ok (.invokevirtual 68, 3) := by decide +kernel
theorem dX2_fitsWithin_100 : decode cX2_fitsWithin 100 = .ok (.aload_n 0, 1) := by decide +kernel
theorem dX2_fitsWithin_101 : decode cX2_fitsWithin 101 = .ok (.iload_n 2, 1) := by decide +kernel
theorem dX2_fitsWithin_102 : decode cX2_fitsWithin 102 = .ok (.invokevirtual 68, 3) := by decide +kernel
theorem dX2_fitsWithin_105 : decode cX2_fitsWithin 105 = .ok (.iload_n 3, 1) := by decide +kernel
theorem dX2_fitsWithin_106 : decode cX2_fitsWithin 106 = .ok (.iconst 1, 1) := by decide +kernel
theorem dX2_fitsWithin_107 : decode cX2_fitsWithin 107 = .ok (.isub, 1) := by decide +kernel
theorem dX2_fitsWithin_108 : decode cX2_fitsWithin 108 = .ok (.invokevirtual 96, 3) := by decide +kernel
theorem dX2_fitsWithin_111 : decode cX2_fitsWithin 111 = .ok (.ifCond .eq 7, 3) := by decide +kernel
theorem dX2_fitsWithin_114 : decode cX2_fitsWithin 114 = .ok (.iconst 1, 1) := by decide +kernel
theorem dX2_fitsWithin_115 : decode cX2_fitsWithin 115 = .ok (.goto 4, 3) := by decide +kernel
theorem dX2_fitsWithin_118 : decode cX2_fitsWithin 118 = .ok (.iconst 0, 1) := by decide +kernel
theorem dX2_fitsWithin_119 : decode cX2_fitsWithin 119 = .ok (.istore 4, 2) := by decide +kernel
theorem dX2_fitsWithin_121 : decode cX2_fitsWithin 121 = .ok (.iload 4, 2) := by decide +kernel
theorem dX2_fitsWithin_123 : decode cX2_fitsWithin 123 = .ok (.ifCond .eq 9, 3) := by decide +kernel
theorem dX2_fitsWithin_126 : decode cX2_fitsWithin 126 = .ok (.aload_n 0, 1) := by decide +kernel
theorem dX2_fitsWithin_127 : decode cX2_fitsWithin 127 = .ok (.iload_n 1, 1) := by decide +kernel
theorem dX2_fitsWithin_128 : decode cX2_fitsWithin 128 = .ok (.iload_n 2, 1) := by decide +kernel
theorem dX2_fitsWithin_129 : decode cX2_fitsWithin 129 = .ok (.invokevirtual 104, 3) := by decide +kernel
theorem dX2_fitsWithin_132 : decode cX2_fitsWithin 132 = .ok (.iload 4, 2) := by decide +kernel
theorem dX2_fitsWithin_134 : decode cX2_fitsWithin 134 = .ok (.ireturn, 1) := by decide +kernel
set_option maxRecDepth 20000 in
theorem ggX2_image_X2_imageWithin : GoodIn wsX2_image wsX2_imageWithin := goodIn_r _ [5, 6, 7, 8, 9, 4, 10, 11, 12, 13, 14, 15, 16, 17, 18, 19, 20, 21, 22, 23, 24, 25, 26, 27, 28, 1, 2, 3, 29, 30, 31, 32, 33, 34, 35, 36, 37, 38, 39, 40, 41, 42, 43, 44, 45, 46, 47, 48, 49, 50, 51, 52, 53, 54, 55, 56, 57, 58, 59, 60, 61, 62, 63, 64, 65, 66, 67, 68, 69, 70, 71, 72, 73, 74, 75, 76, 77, 78, 79, 80] (by decide +kernel) (by decide +kernel)
set_option maxRecDepth 20000 in
theorem gX2_image_X2_imageWithin : GoodIn wsX2_image (wsV RX2 108 RX2 yX2_imageWithin wsX2_imageWithin) := goodIn_app (goodIn_of _ (by decide +kernel)) ggX2_image_X2_imageWithin
theorem dX2_image_0 : decode cX2_image 0 = .ok (.aload_n 0, 1) := by decide +kernel
theorem dX2_image_1 : decode cX2_image 1 = .ok (.iload_n 1, 1) := by decide +kernel
theorem dX2_image_2 : decode cX2_image 2 = .ok (.bipush 24, 2) := by decide +kernel
theorem dX2_image_4 : decode cX2_image 4 = .ok (.invokevirtual 108, 3) := by decide +kernel
theorem dX2_image_7 : decode cX2_image 7 = .ok (.ireturn, 1) := by decide +kernel
set_option maxRecDepth 20000 in
theorem ggX2_imageWithin_X2_hasImage : GoodIn wsX2_imageWithin wsX2_hasImage := goodIn_r _ [6, 7, 8, 9, 10, 11, 66, 67, 68, 69, 70, 71, 72, 73, 74, 75, 76, 77, 78, 79] (by decide +kernel) (by decide +kernel)
set_option maxRecDepth 20000 in
theorem gX2_imageWithin_X2_hasImage : GoodIn wsX2_imageWithin (wsV RX2 100 RX2 yX2_hasImage wsX2_hasImage) := goodIn_app (goodIn_of _ (by decide +kernel)) ggX2_imageWithin_X2_hasImage
set_option maxRecDepth 20000 in
theorem ggX2_imageWithin_X2_first : GoodIn wsX2_imageWithin wsX2_first := goodIn_r _ [15, 16, 9, 10, 11, 66, 67, 68, 69, 70, 71, 72, 73, 74, 75, 76, 77, 78, 79] (by decide +kernel) (by decide +kernel)
set_option maxRecDepth 20000 in
theorem gX2_imageWithin_X2_first : GoodIn wsX2_imageWithin (wsV RX2 65 RX2 yX2_first wsX2_first) := goodIn_app (goodIn_of _ (by decide +kernel)) ggX2_imageWithin_X2_first
set_option maxRecDepth 20000 in
theorem ggX2_imageWithin_X2_rebuilt : GoodIn wsX2_imageWithin wsX2_rebuilt := goodIn_r _ [24, 12, 13, 14, 5, 15, 16, 9, 10, 11, 25, 26, 27, 28, 29, 30, 31, 32, 33, 34, 35, 36, 37, 38, 39, 40, 41, 42, 43, 44, 45, 46, 47, 48, 49, 50, 51, 52, 53, 54, 55, 56, 57, 58, 59, 60, 61, 62, 63, 64, 65, 0, 1, 2, 3, 4, 6, 7, 8, 17, 18, 19, 20, 21, 22, 23, 66, 67, 68, 69, 70, 71, 72, 73, 74, 75, 76, 77, 78, 79] (by decide +kernel) (by decide +kernel)
set_option maxRecDepth 20000 in
theorem gX2_imageWithin_X2_rebuilt : GoodIn wsX2_imageWithin (wsV RX2 111 RX2 yX2_rebuilt wsX2_rebuilt) := goodIn_app (goodIn_of _ (by decide +kernel)) ggX2_imageWithin_X2_rebuilt
set_option maxRecDepth 20000 in
theorem ggX2_imageWithin_X2_setImage : GoodIn wsX2_imageWithin wsX2_setImage := goodIn_r _ [23, 1, 7, 8, 66, 67, 68, 69, 70, 71, 72, 73, 74, 75, 76, 77, 78, 79] (by decide +kernel) (by decide +kernel)
set_option maxRecDepth 20000 in
theorem gX2_imageWithin_X2_setImage : GoodIn wsX2_imageWithin (wsV RX2 104 RX2 yX2_setImage wsX2_setImage) := goodIn_app (goodIn_of _ (by decide +kernel)) ggX2_imageWithin_X2_setImage
set_option maxRecDepth 20000 in
theorem ggX2_imageWithin_X4_read : GoodIn wsX2_imageWithin wsX4_read := goodIn_r _ [11] (by decide +kernel) (by decide +kernel)
set_option maxRecDepth 20000 in
theorem gX2_imageWithin_X4_read_n52 : GoodIn wsX2_imageWithin (wsX4_read) := ggX2_imageWithin_X4_read
theorem dX2_imageWithin_0 : decode cX2_imageWithin 0 = .ok (.iload_n 1, 1) := by decide +kernel
theorem dX2_imageWithin_1 : decode cX2_imageWithin 1 = .ok (.iconst (-1), 1) := by decide +kernel
theorem dX2_imageWithin_2 : decode cX2_imageWithin 2 = .ok (.if_icmp .eq 7, 3) := by decide +kernel
theorem dX2_imageWithin_5 : decode cX2_imageWithin 5 = .ok (.iload_n 2, 1) := by decide +kernel
theorem dX2_imageWithin_6 : decode cX2_imageWithin 6 = .ok (.ifCond .gt 5, 3) := by decide +kernel
theorem dX2_imageWithin_9 : decode cX2_imageWithin 9 = .ok (.iconst (-1), 1) := by decide +kernel
theorem dX2_imageWithin_10 : decode cX2_imageWithin 10 = .ok (.ireturn, 1) := by decide +kernel
theorem dX2_imageWithin_11 : decode cX2_imageWithin 11 = .ok (.aload_n 0, 1) := by decide +kernel
theorem dX2_imageWithin_12 : decode cX2_imageWithin 12 = .ok (.iload_n 1, 1) := by decide +kernel
theorem dX2_imageWithin_13 : decode cX2_imageWithin 13 = .ok (.invokevirtual 100, 3) := by decide +kernel
theorem dX2_imageWithin_16 : decode cX2_imageWithin 16 = .ok (.ifCond .ne 29, 3) := by decide +kernel
theorem dX2_imageWithin_19 : decode cX2_imageWithin 19 = .ok (.aload_n 0, 1) := by decide +kernel
theorem dX2_imageWithin_20 : decode cX2_imageWithin 20 = .ok (.iload_n 1, 1) := by decide +kernel
theorem dX2_imageWithin_21 : decode cX2_imageWithin 21 = .ok (.aload_n 0, 1) := by decide +kernel
theorem dX2_imageWithin_22 : decode cX2_imageWithin 22 = .ok (.iload_n 1, 1) := by decide +kernel
theorem dX2_imageWithin_23 : decode cX2_imageWithin 23 = .ok (.invokevirtual 65, 3) := by decide +kernel
theorem dX2_imageWithin_26 : decode cX2_imageWithin 26 = .ok (.iconst (-1), 1) := by decide +kernel
theorem dX2_imageWithin_27 : decode cX2_imageWithin 27 = .ok (.if_icmp .ne 7, 3) := by decide +kernel
theorem dX2_imageWithin_30 : decode cX2_imageWithin 30 = .ok (.iload_n 1, 1) := by decide +kernel
theorem dX2_imageWithin_31 : decode cX2_imageWithin 31 = .ok (.goto 11, 3) := by decide +kernel
theorem dX2_imageWithin_34 : decode cX2_imageWithin 34 = .ok (.aload_n 0, 1) := by decide +kernel
theorem dX2_imageWithin_35 : decode cX2_imageWithin 35 = .ok (.iload_n 1, 1) := by decide +kernel
theorem dX2_imageWithin_36 : decode cX2_imageWithin 36 = .ok (.iload_n 2, 1) := by decide +kernel
theorem dX2_imageWithin_37 : decode cX2_imageWithin 37 = .ok (.iconst 1, 1) := by decide +kernel
theorem dX2_imageWithin_38 : decode cX2_imageWithin 38 = .ok (.isub, 1) := by decide +kernel
theorem dX2_imageWithin_39 : decode cX2_imageWithin 39 = .ok (.invokevirtual 111, 3) := by decide +kernel
theorem dX2_imageWithin_42 : decode cX2_imageWithin 42 = .ok (.invokevirtual 104, 3) := by decide +kernel
theorem dX2_imageWithin_45 : decode cX2_imageWithin 45 = .ok (.aload_n 0, 1) := by decide +kernel
theorem dX2_imageWithin_46 : decode cX2_imageWithin 46 = .ok (.getfield 33, 3) := by decide +kernel
theorem dX2_imageWithin_49 : decode cX2_imageWithin 49 = .ok (.iload_n 1, 1) := by decide +kernel
theorem dX2_imageWithin_50 : decode cX2_imageWithin 50 = .ok (.invokestatic 52, 3) := by decide +kernel
theorem dX2_imageWithin_53 : decode cX2_imageWithin 53 = .ok (.ireturn, 1) := by decide +kernel
set_option maxRecDepth 20000 in
theorem ggX2_rebuilt_X2_first : GoodIn wsX2_rebuilt wsX2_first := goodIn_r _ [5, 6, 7, 8, 9, 66, 67, 68, 69, 70, 71, 72, 73, 74, 75, 76, 77, 78, 79] (by decide +kernel) (by decide +kernel)
set_option maxRecDepth 20000 in
theorem gX2_rebuilt_X2_first : GoodIn wsX2_rebuilt (wsV RX2 65 RX2 yX2_first wsX2_first) := goodIn_app (goodIn_of _ (by decide +kernel)) ggX2_rebuilt_X2_first
set_option maxRecDepth 20000 in
theorem ggX2_rebuilt_X2_imageWithin : GoodIn wsX2_rebuilt wsX2_imageWithin := goodIn_r _ [51, 52, 53, 54, 55, 4, 56, 57, 58, 7, 8, 9, 1, 2, 3, 5, 6, 59, 60, 61, 62, 63, 64, 65, 0, 10, 11, 12, 13, 14, 15, 16, 17, 18, 19, 20, 21, 22, 23, 24, 25, 26, 27, 28, 29, 30, 31, 32, 33, 34, 35, 36, 37, 38, 39, 40, 41, 42, 43, 44, 45, 46, 47, 48, 49, 50, 66, 67, 68, 69, 70, 71, 72, 73, 74, 75, 76, 77, 78, 79] (by decide +kernel) (by decide +kernel)
set_option maxRecDepth 20000 in
theorem gX2_rebuilt_X2_imageWithin : GoodIn wsX2_rebuilt (wsV RX2 108 RX2 yX2_imageWithin wsX2_imageWithin) := goodIn_app (goodIn_of _ (by decide +kernel)) ggX2_rebuilt_X2_imageWithin
set_option maxRecDepth 20000 in
theorem ggX2_rebuilt_X2_second : GoodIn wsX2_rebuilt wsX2_second := goodIn_r _ [16, 17, 7, 8, 9, 66, 67, 68, 69, 70, 71, 72, 73, 74, 75, 76, 77, 78, 79] (by decide +kernel) (by decide +kernel)
set_option maxRecDepth 20000 in
theorem gX2_rebuilt_X2_second : GoodIn wsX2_rebuilt (wsV RX2 68 RX2 yX2_second wsX2_second) := goodIn_app (goodIn_of _ (by decide +kernel)) ggX2_rebuilt_X2_second
set_option maxRecDepth 20000 in
theorem ggX2_rebuilt_X2_head : GoodIn wsX2_rebuilt wsX2_head := goodIn_r _ [21, 22, 7, 8, 9, 66, 67, 68, 69, 70, 71, 72, 73, 74, 75, 76, 77, 78, 79] (by decide +kernel) (by decide +kernel)
set_option maxRecDepth 20000 in
theorem gX2_rebuilt_X2_head : GoodIn wsX2_rebuilt (wsV RX2 71 RX2 yX2_head wsX2_head) := goodIn_app (goodIn_of _ (by decide +kernel)) ggX2_rebuilt_X2_head
set_option maxRecDepth 20000 in
theorem ggX2_rebuilt_X2_made : GoodIn wsX2_rebuilt wsX2_made := goodIn_r _ [26, 27, 28, 29, 30, 31, 22, 6, 17, 32, 33, 34, 35, 36, 37, 38, 4, 39, 7, 8, 9, 40, 41, 42, 43, 44, 45, 46, 47, 48, 49, 50, 66, 67, 68, 69, 70, 71, 72, 73, 74, 75, 76, 77, 78, 79] (by decide +kernel) (by decide +kernel)
set_option maxRecDepth 20000 in
theorem gX2_rebuilt_X2_made : GoodIn wsX2_rebuilt (wsV RX2 114 RX2 yX2_made wsX2_made) := goodIn_app (goodIn_of _ (by decide +kernel)) ggX2_rebuilt_X2_made
theorem dX2_rebuilt_0 : decode cX2_rebuilt 0 = .ok (.aload_n 0, 1) := by decide +kernel
theorem dX2_rebuilt_1 : decode cX2_rebuilt 1 = .ok (.aload_n 0, 1) := by decide +kernel
theorem dX2_rebuilt_2 : decode cX2_rebuilt 2 = .ok (.iload_n 1, 1) := by decide +kernel
theorem dX2_rebuilt_3 : decode cX2_rebuilt 3 = .ok (.invokevirtual 65, 3) := by decide +kernel
theorem dX2_rebuilt_6 : decode cX2_rebuilt 6 = .ok (.iload_n 2, 1) := by decide +kernel
theorem dX2_rebuilt_7 : decode cX2_rebuilt 7 = .ok (.invokevirtual 108, 3) := by decide +kernel
theorem dX2_rebuilt_10 : decode cX2_rebuilt 10 = .ok (.istore_n 3, 1) := by decide +kernel
theorem dX2_rebuilt_11 : decode cX2_rebuilt 11 = .ok (.aload_n 0, 1) := by decide +kernel
theorem dX2_rebuilt_12 : decode cX2_rebuilt 12 = .ok (.aload_n 0, 1) := by decide +kernel
theorem dX2_rebuilt_13 : decode cX2_rebuilt 13 = .ok (.iload_n 1, 1) := by decide +kernel
theorem dX2_rebuilt_14 : decode cX2_rebuilt 14 = .ok (.invokevirtual 68, 3) := by decide +kernel
theorem dX2_rebuilt_17 : decode cX2_rebuilt 17 = .ok (.iload_n 2, 1) := by decide +kernel
theorem dX2_rebuilt_18 : decode cX2_rebuilt 18 = .ok (.invokevirtual 108, 3) := by decide +kernel
theorem dX2_rebuilt_21 : decode cX2_rebuilt 21 = .ok (.istore 4, 2) := by decide +kernel
theorem dX2_rebuilt_23 : decode cX2_rebuilt 23 = .ok (.iload 4, 2) := by decide +kernel
theorem dX2_rebuilt_25 : decode cX2_rebuilt 25 = .ok (.iconst (-1), 1) := by decide +kernel
theorem dX2_rebuilt_26 : decode cX2_rebuilt 26 = .ok (.if_icmp .ne 16, 3) := by decide +kernel
theorem dX2_rebuilt_29 : decode cX2_rebuilt 29 = .ok (.aload_n 0, 1) := by decide +kernel
theorem dX2_rebuilt_30 : decode cX2_rebuilt 30 = .ok (.iload_n 1, 1) := by decide +kernel
theorem dX2_rebuilt_31 : decode cX2_rebuilt 31 = .ok (.invokevirtual 68, 3) := by decide +kernel
theorem dX2_rebuilt_34 : decode cX2_rebuilt 34 = .ok (.iconst (-1), 1) := by decide +kernel
theorem dX2_rebuilt_35 : decode cX2_rebuilt 35 = .ok (.if_icmp .eq 7, 3) := by decide +kernel
theorem dX2_rebuilt_38 : decode cX2_rebuilt 38 = .ok (.iconst 1, 1) := by decide +kernel
theorem dX2_rebuilt_39 : decode cX2_rebuilt 39 = .ok (.goto 4, 3) := by decide +kernel
theorem dX2_rebuilt_42 : decode cX2_rebuilt 42 = .ok (.iconst 0, 1) := by decide +kernel
theorem dX2_rebuilt_43 : decode cX2_rebuilt 43 = .ok (.istore 5, 2) := by decide +kernel
theorem dX2_rebuilt_45 : decode cX2_rebuilt 45 = .ok (.iload_n 3, 1) := by decide +kernel
theorem dX2_rebuilt_46 : decode cX2_rebuilt 46 = .ok (.iconst (-1), 1) := by decide +kernel
theorem dX2_rebuilt_47 : decode cX2_rebuilt 47 = .ok (.if_icmp .eq 8, 3) := by decide +kernel
theorem dX2_rebuilt_50 : decode cX2_rebuilt 50 = .ok (.iload 5, 2) := by decide +kernel
theorem dX2_rebuilt_52 : decode cX2_rebuilt 52 = .ok (.ifCond .eq 7, 3) := by decide +kernel
theorem dX2_rebuilt_55 : decode cX2_rebuilt 55 = .ok (.iconst (-1), 1) := by decide +kernel
theorem dX2_rebuilt_56 : decode cX2_rebuilt 56 = .ok (.goto 15, 3) := by decide +kernel
theorem dX2_rebuilt_59 : decode cX2_rebuilt 59 = .ok (.aload_n 0, 1) := by decide +kernel
theorem dX2_rebuilt_60 : decode cX2_rebuilt 60 = .ok (.aload_n 0, 1) := by decide +kernel
theorem dX2_rebuilt_61 : decode cX2_rebuilt 61 = .ok (.iload_n 1, 1) := by decide +kernel
theorem dX2_rebuilt_62 : decode cX2_rebuilt 62 = .ok (.invokevirtual 71, 3) := by decide +kernel
theorem dX2_rebuilt_65 : decode cX2_rebuilt 65 = .ok (.iload_n 3, 1) := by decide +kernel
theorem dX2_rebuilt_66 : decode cX2_rebuilt 66 = .ok (.iload 4, 2) := by decide +kernel
theorem dX2_rebuilt_68 : decode cX2_rebuilt 68 = .ok (.invokevirtual 114, 3) := by decide +kernel
theorem dX2_rebuilt_71 : decode cX2_rebuilt 71 = .ok (.ireturn, 1) := by decide +kernel
theorem dX3_init_0 : decode cX3_init 0 = .ok (.aload_n 0, 1) := by decide +kernel
theorem dX3_init_1 : decode cX3_init 1 = .ok (.invokespecial 3, 3) := by decide +kernel
theorem dX3_init_4 : decode cX3_init 4 = .ok (.aload_n 0, 1) := by decide +kernel
theorem dX3_init_5 : decode cX3_init 5 = .ok (.bipush 121, 2) := by decide +kernel
theorem dX3_init_7 : decode cX3_init 7 = .ok (.newarray .int, 2) := by decide +kernel
theorem dX3_init_9 : decode cX3_init 9 = .ok (.putfield 9, 3) := by decide +kernel
theorem dX3_init_12 : decode cX3_init 12 = .ok (.aload_n 0, 1) := by decide +kernel
theorem dX3_init_13 : decode cX3_init 13 = .ok (.bipush 121, 2) := by decide +kernel
theorem dX3_init_15 : decode cX3_init 15 = .ok (.newarray .int, 2) := by decide +kernel
theorem dX3_init_17 : decode cX3_init 17 = .ok (.putfield 15, 3) := by decide +kernel
theorem dX3_init_20 : decode cX3_init 20 = .ok (.return_, 1) := by decide +kernel
theorem dX3_begin_0 : decode cX3_begin 0 = .ok (.aload_n 0, 1) := by decide +kernel
theorem dX3_begin_1 : decode cX3_begin 1 = .ok (.iconst 0, 1) := by decide +kernel
theorem dX3_begin_2 : decode cX3_begin 2 = .ok (.putfield 18, 3) := by decide +kernel
theorem dX3_begin_5 : decode cX3_begin 5 = .ok (.aload_n 0, 1) := by decide +kernel
theorem dX3_begin_6 : decode cX3_begin 6 = .ok (.iconst 1, 1) := by decide +kernel
theorem dX3_begin_7 : decode cX3_begin 7 = .ok (.putfield 22, 3) := by decide +kernel
theorem dX3_begin_10 : decode cX3_begin 10 = .ok (.aload_n 0, 1) := by decide +kernel
theorem dX3_begin_11 : decode cX3_begin 11 = .ok (.iconst 0, 1) := by decide +kernel
theorem dX3_begin_12 : decode cX3_begin 12 = .ok (.putfield 25, 3) := by decide +kernel
theorem dX3_begin_15 : decode cX3_begin 15 = .ok (.aload_n 0, 1) := by decide +kernel
theorem dX3_begin_16 : decode cX3_begin 16 = .ok (.iconst 0, 1) := by decide +kernel
theorem dX3_begin_17 : decode cX3_begin 17 = .ok (.putfield 28, 3) := by decide +kernel
theorem dX3_begin_20 : decode cX3_begin 20 = .ok (.return_, 1) := by decide +kernel
theorem dX3_depth_0 : decode cX3_depth 0 = .ok (.aload_n 0, 1) := by decide +kernel
theorem dX3_depth_1 : decode cX3_depth 1 = .ok (.getfield 22, 3) := by decide +kernel
theorem dX3_depth_4 : decode cX3_depth 4 = .ok (.ireturn, 1) := by decide +kernel
theorem dX3_around_0 : decode cX3_around 0 = .ok (.aload_n 0, 1) := by decide +kernel
theorem dX3_around_1 : decode cX3_around 1 = .ok (.getfield 25, 3) := by decide +kernel
theorem dX3_around_4 : decode cX3_around 4 = .ok (.ireturn, 1) := by decide +kernel
theorem dX3_over_0 : decode cX3_over 0 = .ok (.aload_n 0, 1) := by decide +kernel
theorem dX3_over_1 : decode cX3_over 1 = .ok (.getfield 28, 3) := by decide +kernel
theorem dX3_over_4 : decode cX3_over 4 = .ok (.ireturn, 1) := by decide +kernel
set_option maxRecDepth 20000 in
theorem ggX3_pass_X3_putOff : GoodIn wsX3_pass wsX3_putOff := goodIn_r _ [7, 8, 9, 1, 10, 2, 19, 20, 21, 22, 23, 24] (by decide +kernel) (by decide +kernel)
set_option maxRecDepth 20000 in
theorem gX3_pass_X3_putOff : GoodIn wsX3_pass (wsV RX3 32 RX3 yX3_putOff wsX3_putOff) := goodIn_app (goodIn_of _ (by decide +kernel)) ggX3_pass_X3_putOff
set_option maxRecDepth 20000 in
theorem ggX3_pass_X3_takeUp : GoodIn wsX3_pass wsX3_takeUp := goodIn_r _ [14, 8, 15, 9, 1, 10, 2, 16, 17, 18, 19, 20, 21, 22, 23, 24] (by decide +kernel) (by decide +kernel)
set_option maxRecDepth 20000 in
theorem gX3_pass_X3_takeUp : GoodIn wsX3_pass (wsV RX3 35 RX3 yX3_takeUp wsX3_takeUp) := goodIn_app (goodIn_of _ (by decide +kernel)) ggX3_pass_X3_takeUp
theorem dX3_pass_0 : decode cX3_pass 0 = .ok (.iload_n 1, 1) := by decide +kernel
theorem dX3_pass_1 : decode cX3_pass 1 = .ok (.iconst (-1), 1) := by decide +kernel
theorem dX3_pass_2 : decode cX3_pass 2 = .ok (.if_icmp .ne 20, 3) := by decide +kernel
theorem dX3_pass_5 : decode cX3_pass 5 = .ok (.aload_n 0, 1) := by decide +kernel
theorem dX3_pass_6 : decode cX3_pass 6 = .ok (.dup, 1) := by decide +kernel
theorem dX3_pass_7 : decode cX3_pass 7 = .ok (.getfield 22, 3) := by decide +kernel
theorem dX3_pass_10 : decode cX3_pass 10 = .ok (.iconst 1, 1) := by decide +kernel
theorem dX3_pass_11 : decode cX3_pass 11 = .ok (.iadd, 1) := by decide +kernel
theorem dX3_pass_12 : decode cX3_pass 12 = .ok (.putfield 22, 3) := by decide +kernel
theorem dX3_pass_15 : decode cX3_pass 15 = .ok (.aload_n 0, 1) := by decide +kernel
theorem dX3_pass_16 : decode cX3_pass 16 = .ok (.invokevirtual 32, 3) := by decide +kernel
theorem dX3_pass_19 : decode cX3_pass 19 = .ok (.goto 36, 3) := by decide +kernel
theorem dX3_pass_22 : decode cX3_pass 22 = .ok (.iload_n 1, 1) := by decide +kernel
theorem dX3_pass_23 : decode cX3_pass 23 = .ok (.bipush (-2), 2) := by decide +kernel
theorem dX3_pass_25 : decode cX3_pass 25 = .ok (.if_icmp .ne 26, 3) := by decide +kernel
theorem dX3_pass_28 : decode cX3_pass 28 = .ok (.aload_n 0, 1) := by decide +kernel
theorem dX3_pass_29 : decode cX3_pass 29 = .ok (.dup, 1) := by decide +kernel
theorem dX3_pass_30 : decode cX3_pass 30 = .ok (.getfield 22, 3) := by decide +kernel
theorem dX3_pass_33 : decode cX3_pass 33 = .ok (.iconst 1, 1) := by decide +kernel
theorem dX3_pass_34 : decode cX3_pass 34 = .ok (.iadd, 1) := by decide +kernel
theorem dX3_pass_35 : decode cX3_pass 35 = .ok (.putfield 22, 3) := by decide +kernel
theorem dX3_pass_38 : decode cX3_pass 38 = .ok (.aload_n 0, 1) := by decide +kernel
theorem dX3_pass_39 : decode cX3_pass 39 = .ok (.dup, 1) := by decide +kernel
theorem dX3_pass_40 : decode cX3_pass 40 = .ok (.getfield 25, 3) := by decide +kernel
theorem dX3_pass_43 : decode cX3_pass 43 = .ok (.iconst 1, 1) := by decide +kernel
theorem dX3_pass_44 : decode cX3_pass 44 = .ok (.iadd, 1) := by decide +kernel
theorem dX3_pass_45 : decode cX3_pass 45 = .ok (.putfield 25, 3) := by decide +kernel
theorem dX3_pass_48 : decode cX3_pass 48 = .ok (.goto 7, 3) := by decide +kernel
theorem dX3_pass_51 : decode cX3_pass 51 = .ok (.aload_n 0, 1) := by decide +kernel
theorem dX3_pass_52 : decode cX3_pass 52 = .ok (.invokevirtual 35, 3) := by decide +kernel
theorem dX3_pass_55 : decode cX3_pass 55 = .ok (.return_, 1) := by decide +kernel
theorem dX3_putOff_0 : decode cX3_putOff 0 = .ok (.aload_n 0, 1) := by decide +kernel
theorem dX3_putOff_1 : decode cX3_putOff 1 = .ok (.getfield 18, 3) := by decide +kernel
theorem dX3_putOff_4 : decode cX3_putOff 4 = .ok (.ifCond .lt 51, 3) := by decide +kernel
theorem dX3_putOff_7 : decode cX3_putOff 7 = .ok (.aload_n 0, 1) := by decide +kernel
theorem dX3_putOff_8 : decode cX3_putOff 8 = .ok (.getfield 18, 3) := by decide +kernel
theorem dX3_putOff_11 : decode cX3_putOff 11 = .ok (.aload_n 0, 1) := by decide +kernel
theorem dX3_putOff_12 : decode cX3_putOff 12 = .ok (.getfield 9, 3) := by decide +kernel
theorem dX3_putOff_15 : decode cX3_putOff 15 = .ok (.arraylength, 1) := by decide +kernel
theorem dX3_putOff_16 : decode cX3_putOff 16 = .ok (.if_icmp .ge 39, 3) := by decide +kernel
theorem dX3_putOff_19 : decode cX3_putOff 19 = .ok (.aload_n 0, 1) := by decide +kernel
theorem dX3_putOff_20 : decode cX3_putOff 20 = .ok (.getfield 9, 3) := by decide +kernel
theorem dX3_putOff_23 : decode cX3_putOff 23 = .ok (.aload_n 0, 1) := by decide +kernel
theorem dX3_putOff_24 : decode cX3_putOff 24 = .ok (.getfield 18, 3) := by decide +kernel
theorem dX3_putOff_27 : decode cX3_putOff 27 = .ok (.aload_n 0, 1) := by decide +kernel
theorem dX3_putOff_28 : decode cX3_putOff 28 = .ok (.getfield 22, 3) := by decide +kernel
theorem dX3_putOff_31 : decode cX3_putOff 31 = .ok (.iastore, 1) := by decide +kernel
theorem dX3_putOff_32 : decode cX3_putOff 32 = .ok (.aload_n 0, 1) := by decide +kernel
theorem dX3_putOff_33 : decode cX3_putOff 33 = .ok (.getfield 15, 3) := by decide +kernel
theorem dX3_putOff_36 : decode cX3_putOff 36 = .ok (.aload_n 0, 1) := by decide +kernel
theorem dX3_putOff_37 : decode cX3_putOff 37 = .ok (.getfield 18, 3) := by decide +kernel
theorem dX3_putOff_40 : decode cX3_putOff 40 = .ok (.aload_n 0, 1) := by decide +kernel
theorem dX3_putOff_41 : decode cX3_putOff 41 = .ok (.getfield 25, 3) := by decide +kernel
theorem dX3_putOff_44 : decode cX3_putOff 44 = .ok (.iastore, 1) := by decide +kernel
theorem dX3_putOff_45 : decode cX3_putOff 45 = .ok (.aload_n 0, 1) := by decide +kernel
theorem dX3_putOff_46 : decode cX3_putOff 46 = .ok (.dup, 1) := by decide +kernel
theorem dX3_putOff_47 : decode cX3_putOff 47 = .ok (.getfield 18, 3) := by decide +kernel
theorem dX3_putOff_50 : decode cX3_putOff 50 = .ok (.iconst 1, 1) := by decide +kernel
theorem dX3_putOff_51 : decode cX3_putOff 51 = .ok (.iadd, 1) := by decide +kernel
theorem dX3_putOff_52 : decode cX3_putOff 52 = .ok (.putfield 18, 3) := by decide +kernel
theorem dX3_putOff_55 : decode cX3_putOff 55 = .ok (.return_, 1) := by decide +kernel
set_option maxRecDepth 20000 in
theorem ggX3_takeUp_X4_read : GoodIn wsX3_takeUp wsX4_read := goodIn_r _ [9] (by decide +kernel) (by decide +kernel)
set_option maxRecDepth 20000 in
theorem gX3_takeUp_X4_read_n38 : GoodIn wsX3_takeUp (wsX4_read) := ggX3_takeUp_X4_read
theorem dX3_takeUp_0 : decode cX3_takeUp 0 = .ok (.aload_n 0, 1) := by decide +kernel
theorem dX3_takeUp_1 : decode cX3_takeUp 1 = .ok (.getfield 18, 3) := by decide +kernel
theorem dX3_takeUp_4 : decode cX3_takeUp 4 = .ok (.ifCond .gt 9, 3) := by decide +kernel
theorem dX3_takeUp_7 : decode cX3_takeUp 7 = .ok (.aload_n 0, 1) := by decide +kernel
theorem dX3_takeUp_8 : decode cX3_takeUp 8 = .ok (.iconst 1, 1) := by decide +kernel
theorem dX3_takeUp_9 : decode cX3_takeUp 9 = .ok (.putfield 28, 3) := by decide +kernel
theorem dX3_takeUp_12 : decode cX3_takeUp 12 = .ok (.return_, 1) := by decide +kernel
theorem dX3_takeUp_13 : decode cX3_takeUp 13 = .ok (.aload_n 0, 1) := by decide +kernel
