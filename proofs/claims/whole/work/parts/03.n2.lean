theorem dX3_takeUp_14 : decode cX3_takeUp 14 = .ok (.dup, 1) := by decide +kernel
theorem dX3_takeUp_15 : decode cX3_takeUp 15 = .ok (.getfield 18, 3) := by decide +kernel
theorem dX3_takeUp_18 : decode cX3_takeUp 18 = .ok (.iconst 1, 1) := by decide +kernel
theorem dX3_takeUp_19 : decode cX3_takeUp 19 = .ok (.isub, 1) := by decide +kernel
theorem dX3_takeUp_20 : decode cX3_takeUp 20 = .ok (.putfield 18, 3) := by decide +kernel
theorem dX3_takeUp_23 : decode cX3_takeUp 23 = .ok (.aload_n 0, 1) := by decide +kernel
theorem dX3_takeUp_24 : decode cX3_takeUp 24 = .ok (.aload_n 0, 1) := by decide +kernel
theorem dX3_takeUp_25 : decode cX3_takeUp 25 = .ok (.getfield 9, 3) := by decide +kernel
theorem dX3_takeUp_28 : decode cX3_takeUp 28 = .ok (.aload_n 0, 1) := by decide +kernel
theorem dX3_takeUp_29 : decode cX3_takeUp 29 = .ok (.getfield 18, 3) := by decide +kernel
theorem dX3_takeUp_32 : decode cX3_takeUp 32 = .ok (.invokestatic 38, 3) := by decide +kernel
theorem dX3_takeUp_35 : decode cX3_takeUp 35 = .ok (.putfield 22, 3) := by decide +kernel
theorem dX3_takeUp_38 : decode cX3_takeUp 38 = .ok (.aload_n 0, 1) := by decide +kernel
theorem dX3_takeUp_39 : decode cX3_takeUp 39 = .ok (.aload_n 0, 1) := by decide +kernel
theorem dX3_takeUp_40 : decode cX3_takeUp 40 = .ok (.getfield 15, 3) := by decide +kernel
theorem dX3_takeUp_43 : decode cX3_takeUp 43 = .ok (.aload_n 0, 1) := by decide +kernel
theorem dX3_takeUp_44 : decode cX3_takeUp 44 = .ok (.getfield 18, 3) := by decide +kernel
theorem dX3_takeUp_47 : decode cX3_takeUp 47 = .ok (.invokestatic 38, 3) := by decide +kernel
theorem dX3_takeUp_50 : decode cX3_takeUp 50 = .ok (.putfield 25, 3) := by decide +kernel
theorem dX3_takeUp_53 : decode cX3_takeUp 53 = .ok (.return_, 1) := by decide +kernel
set_option maxRecDepth 20000 in
theorem ggX4_init_X2_init : GoodIn wsX4_init wsX2_init := goodIn_r _ [23, 24, 2, 3, 16, 25, 26, 27, 28, 29, 30, 31, 32, 33, 34, 35, 36, 37, 38, 66, 67, 68, 69, 70, 71, 72, 73, 74, 75, 76, 77, 78, 79] (by decide +kernel) (by decide +kernel)
set_option maxRecDepth 20000 in
theorem gX4_init_X2_init : GoodIn wsX4_init (wsX2_init) := ggX4_init_X2_init
set_option maxRecDepth 20000 in
theorem ggX4_init_X1_init : GoodIn wsX4_init wsX1_init := goodIn_r _ [40, 41, 2, 3, 16, 42, 43, 44, 45, 46, 47, 48, 49, 50, 51, 52, 53, 54, 87, 88, 89, 90, 91, 92, 93, 94, 102, 103, 104, 105, 106, 107] (by decide +kernel) (by decide +kernel)
set_option maxRecDepth 20000 in
theorem gX4_init_X1_init_n18 : GoodIn wsX4_init (wsX1_init) := ggX4_init_X1_init
set_option maxRecDepth 20000 in
theorem ggX4_init_X0_init : GoodIn wsX4_init wsX0_init := goodIn_r _ [57, 58, 2, 3, 16, 59, 60, 61, 62, 63, 64, 65, 36, 37, 38, 95, 96, 97, 98, 99, 100, 101] (by decide +kernel) (by decide +kernel)
set_option maxRecDepth 20000 in
theorem gX4_init_X0_init : GoodIn wsX4_init (wsX0_init) := ggX4_init_X0_init
theorem dX4_init_0 : decode cX4_init 0 = .ok (.aload_n 0, 1) := by decide +kernel
theorem dX4_init_1 : decode cX4_init 1 = .ok (.invokespecial 1, 3) := by decide +kernel
theorem dX4_init_4 : decode cX4_init 4 = .ok (.aload_n 0, 1) := by decide +kernel
theorem dX4_init_5 : decode cX4_init 5 = .ok (.new 7, 3) := by decide +kernel
theorem dX4_init_8 : decode cX4_init 8 = .ok (.dup, 1) := by decide +kernel
theorem dX4_init_9 : decode cX4_init 9 = .ok (.invokespecial 9, 3) := by decide +kernel
theorem dX4_init_12 : decode cX4_init 12 = .ok (.putfield 10, 3) := by decide +kernel
theorem dX4_init_15 : decode cX4_init 15 = .ok (.aload_n 0, 1) := by decide +kernel
theorem dX4_init_16 : decode cX4_init 16 = .ok (.new 16, 3) := by decide +kernel
theorem dX4_init_19 : decode cX4_init 19 = .ok (.dup, 1) := by decide +kernel
theorem dX4_init_20 : decode cX4_init 20 = .ok (.invokespecial 18, 3) := by decide +kernel
theorem dX4_init_23 : decode cX4_init 23 = .ok (.putfield 19, 3) := by decide +kernel
theorem dX4_init_26 : decode cX4_init 26 = .ok (.aload_n 0, 1) := by decide +kernel
theorem dX4_init_27 : decode cX4_init 27 = .ok (.new 23, 3) := by decide +kernel
theorem dX4_init_30 : decode cX4_init 30 = .ok (.dup, 1) := by decide +kernel
theorem dX4_init_31 : decode cX4_init 31 = .ok (.invokespecial 25, 3) := by decide +kernel
theorem dX4_init_34 : decode cX4_init 34 = .ok (.putfield 26, 3) := by decide +kernel
theorem dX4_init_37 : decode cX4_init 37 = .ok (.aload_n 0, 1) := by decide +kernel
theorem dX4_init_38 : decode cX4_init 38 = .ok (.bipush 40, 2) := by decide +kernel
theorem dX4_init_40 : decode cX4_init 40 = .ok (.newarray .int, 2) := by decide +kernel
theorem dX4_init_42 : decode cX4_init 42 = .ok (.putfield 30, 3) := by decide +kernel
theorem dX4_init_45 : decode cX4_init 45 = .ok (.aload_n 0, 1) := by decide +kernel
theorem dX4_init_46 : decode cX4_init 46 = .ok (.sipush 200, 3) := by decide +kernel
theorem dX4_init_49 : decode cX4_init 49 = .ok (.newarray .int, 2) := by decide +kernel
theorem dX4_init_51 : decode cX4_init 51 = .ok (.putfield 34, 3) := by decide +kernel
theorem dX4_init_54 : decode cX4_init 54 = .ok (.aload_n 0, 1) := by decide +kernel
theorem dX4_init_55 : decode cX4_init 55 = .ok (.getfield 30, 3) := by decide +kernel
theorem dX4_init_58 : decode cX4_init 58 = .ok (.iconst 2, 1) := by decide +kernel
theorem dX4_init_59 : decode cX4_init 59 = .ok (.iconst 2, 1) := by decide +kernel
theorem dX4_init_60 : decode cX4_init 60 = .ok (.iastore, 1) := by decide +kernel
theorem dX4_init_61 : decode cX4_init 61 = .ok (.aload_n 0, 1) := by decide +kernel
theorem dX4_init_62 : decode cX4_init 62 = .ok (.iconst 3, 1) := by decide +kernel
theorem dX4_init_63 : decode cX4_init 63 = .ok (.putfield 37, 3) := by decide +kernel
theorem dX4_init_66 : decode cX4_init 66 = .ok (.aload_n 0, 1) := by decide +kernel
theorem dX4_init_67 : decode cX4_init 67 = .ok (.iconst 0, 1) := by decide +kernel
theorem dX4_init_68 : decode cX4_init 68 = .ok (.putfield 41, 3) := by decide +kernel
theorem dX4_init_71 : decode cX4_init 71 = .ok (.return_, 1) := by decide +kernel
theorem dX4_constructor_0 : decode cX4_constructor 0 = .ok (.iload_n 1, 1) := by decide +kernel
theorem dX4_constructor_1 : decode cX4_constructor 1 = .ok (.ifCond .lt 8, 3) := by decide +kernel
theorem dX4_constructor_4 : decode cX4_constructor 4 = .ok (.iload_n 1, 1) := by decide +kernel
theorem dX4_constructor_5 : decode cX4_constructor 5 = .ok (.iconst 2, 1) := by decide +kernel
theorem dX4_constructor_6 : decode cX4_constructor 6 = .ok (.if_icmp .le 13, 3) := by decide +kernel
theorem dX4_constructor_9 : decode cX4_constructor 9 = .ok (.new 44, 3) := by decide +kernel
theorem dX4_constructor_12 : decode cX4_constructor 12 = .ok (.dup, 1) := by decide +kernel
theorem dX4_constructor_13 : decode cX4_constructor 13 = .ok (.ldc 46, 2) := by decide +kernel
theorem dX4_constructor_15 : decode cX4_constructor 15 = .ok (.invokespecial 48, 3) := by decide +kernel
theorem dX4_constructor_18 : decode cX4_constructor 18 = .ok (.athrow, 1) := by decide +kernel
theorem dX4_constructor_19 : decode cX4_constructor 19 = .ok (.aload_n 0, 1) := by decide +kernel
theorem dX4_constructor_20 : decode cX4_constructor 20 = .ok (.getfield 37, 3) := by decide +kernel
theorem dX4_constructor_23 : decode cX4_constructor 23 = .ok (.ifCond .lt 12, 3) := by decide +kernel
theorem dX4_constructor_26 : decode cX4_constructor 26 = .ok (.aload_n 0, 1) := by decide +kernel
theorem dX4_constructor_27 : decode cX4_constructor 27 = .ok (.getfield 37, 3) := by decide +kernel
theorem dX4_constructor_30 : decode cX4_constructor 30 = .ok (.bipush 40, 2) := by decide +kernel
theorem dX4_constructor_32 : decode cX4_constructor 32 = .ok (.if_icmp .lt 13, 3) := by decide +kernel
theorem dX4_constructor_35 : decode cX4_constructor 35 = .ok (.new 51, 3) := by decide +kernel
theorem dX4_constructor_38 : decode cX4_constructor 38 = .ok (.dup, 1) := by decide +kernel
theorem dX4_constructor_39 : decode cX4_constructor 39 = .ok (.ldc 53, 2) := by decide +kernel
theorem dX4_constructor_41 : decode cX4_constructor 41 = .ok (.invokespecial 55, 3) := by decide +kernel
theorem dX4_constructor_44 : decode cX4_constructor 44 = .ok (.athrow, 1) := by decide +kernel
theorem dX4_constructor_45 : decode cX4_constructor 45 = .ok (.aload_n 0, 1) := by decide +kernel
theorem dX4_constructor_46 : decode cX4_constructor 46 = .ok (.getfield 30, 3) := by decide +kernel
theorem dX4_constructor_49 : decode cX4_constructor 49 = .ok (.aload_n 0, 1) := by decide +kernel
theorem dX4_constructor_50 : decode cX4_constructor 50 = .ok (.getfield 37, 3) := by decide +kernel
theorem dX4_constructor_53 : decode cX4_constructor 53 = .ok (.iload_n 1, 1) := by decide +kernel
theorem dX4_constructor_54 : decode cX4_constructor 54 = .ok (.iastore, 1) := by decide +kernel
theorem dX4_constructor_55 : decode cX4_constructor 55 = .ok (.aload_n 0, 1) := by decide +kernel
theorem dX4_constructor_56 : decode cX4_constructor 56 = .ok (.dup, 1) := by decide +kernel
theorem dX4_constructor_57 : decode cX4_constructor 57 = .ok (.getfield 37, 3) := by decide +kernel
theorem dX4_constructor_60 : decode cX4_constructor 60 = .ok (.iconst 1, 1) := by decide +kernel
theorem dX4_constructor_61 : decode cX4_constructor 61 = .ok (.iadd, 1) := by decide +kernel
theorem dX4_constructor_62 : decode cX4_constructor 62 = .ok (.putfield 37, 3) := by decide +kernel
theorem dX4_constructor_65 : decode cX4_constructor 65 = .ok (.aload_n 0, 1) := by decide +kernel
theorem dX4_constructor_66 : decode cX4_constructor 66 = .ok (.getfield 37, 3) := by decide +kernel
theorem dX4_constructor_69 : decode cX4_constructor 69 = .ok (.iconst 1, 1) := by decide +kernel
theorem dX4_constructor_70 : decode cX4_constructor 70 = .ok (.isub, 1) := by decide +kernel
theorem dX4_constructor_71 : decode cX4_constructor 71 = .ok (.ireturn, 1) := by decide +kernel
set_option maxRecDepth 20000 in
theorem ggX4_typeVariable_X4_requireNumber : GoodIn wsX4_typeVariable wsX4_requireNumber := goodIn_ca (goodIn_r _ [5, 6, 7] (by decide +kernel) (by decide +kernel)) (goodIn_sub (fun _ h => List.mem_cons_of_mem _ (List.mem_append_left _ (List.mem_append_right _ h))) (by decide +kernel))
set_option maxRecDepth 20000 in
theorem gX4_typeVariable_X4_requireNumber : GoodIn wsX4_typeVariable (va_wsS RX4 56 yX4_requireNumber wsX4_requireNumber) := goodIn_app (goodIn_of _ (by decide +kernel)) ggX4_typeVariable_X4_requireNumber
set_option maxRecDepth 20000 in
theorem ggX4_typeVariable_X2_count : GoodIn wsX4_typeVariable wsX2_count := goodIn_r _ [12, 13, 76, 77, 78, 79, 80, 81, 82, 83, 84, 85, 86, 87, 88, 89] (by decide +kernel) (by decide +kernel)
set_option maxRecDepth 20000 in
theorem gX4_typeVariable_X2_count : GoodIn wsX4_typeVariable (wsV RX4 60 RX2 yX2_count wsX2_count) := goodIn_app (goodIn_of _ (by decide +kernel)) ggX4_typeVariable_X2_count
set_option maxRecDepth 20000 in
theorem ggX4_typeVariable_X4_headOfVariable : GoodIn wsX4_typeVariable wsX4_headOfVariable := goodIn_r _ [16] (by decide +kernel) (by decide +kernel)
set_option maxRecDepth 20000 in
theorem gX4_typeVariable_X4_headOfVariable : GoodIn wsX4_typeVariable (va_wsS RX4 64 yX4_headOfVariable wsX4_headOfVariable) := goodIn_app (goodIn_of _ (by decide +kernel)) ggX4_typeVariable_X4_headOfVariable
set_option maxRecDepth 20000 in
theorem ggX4_typeVariable_X2_made : GoodIn wsX4_typeVariable wsX2_made := goodIn_r _ [20, 21, 22, 23, 24, 13, 25, 26, 27, 28, 29, 30, 31, 32, 33, 34, 11, 35, 36, 4, 37, 38, 39, 40, 41, 42, 43, 44, 45, 46, 47, 48, 76, 77, 78, 79, 80, 81, 82, 83, 84, 85, 86, 87, 88, 89] (by decide +kernel) (by decide +kernel)
set_option maxRecDepth 20000 in
theorem gX4_typeVariable_X2_made : GoodIn wsX4_typeVariable (wsV RX4 68 RX2 yX2_made wsX2_made) := goodIn_app (goodIn_of _ (by decide +kernel)) ggX4_typeVariable_X2_made
set_option maxRecDepth 20000 in
theorem ggX4_typeVariable_X2_keep : GoodIn wsX4_typeVariable wsX2_keep := goodIn_r _ [52, 53, 54, 55, 32, 33, 34, 11, 35, 28, 36, 4, 37, 76, 77, 78, 79, 80, 81, 82, 83, 84, 85, 86, 87, 88, 89] (by decide +kernel) (by decide +kernel)
set_option maxRecDepth 20000 in
theorem gX4_typeVariable_X2_keep : GoodIn wsX4_typeVariable (wsV RX4 72 RX2 yX2_keep wsX2_keep) := goodIn_app (goodIn_of _ (by decide +kernel)) ggX4_typeVariable_X2_keep
set_option maxRecDepth 20000 in
theorem ggX4_typeVariable_X4_settled : GoodIn wsX4_typeVariable wsX4_settled := goodIn_ca (goodIn_r _ [59, 60, 61, 1, 62, 63, 64, 11, 65, 13, 66, 67, 23, 68, 31, 25, 26, 27, 30, 46, 47, 48, 69, 70, 71, 72, 73, 74, 75, 76, 77, 78, 79, 80, 81, 82, 83, 84, 85, 86, 87, 88, 89] (by decide +kernel) (by decide +kernel)) (goodIn_sub (fun _ h => List.mem_cons_of_mem _ (List.mem_append_right _ h)) (by decide +kernel))
set_option maxRecDepth 20000 in
theorem gX4_typeVariable_X4_settled : GoodIn wsX4_typeVariable (wsV RX4 75 RX4 yX4_settled wsX4_settled) := goodIn_app (goodIn_of _ (by decide +kernel)) ggX4_typeVariable_X4_settled
theorem dX4_typeVariable_0 : decode cX4_typeVariable 0 = .ok (.iload_n 1, 1) := by decide +kernel
theorem dX4_typeVariable_1 : decode cX4_typeVariable 1 = .ok (.invokestatic 56, 3) := by decide +kernel
theorem dX4_typeVariable_4 : decode cX4_typeVariable 4 = .ok (.aload_n 0, 1) := by decide +kernel
theorem dX4_typeVariable_5 : decode cX4_typeVariable 5 = .ok (.getfield 10, 3) := by decide +kernel
theorem dX4_typeVariable_8 : decode cX4_typeVariable 8 = .ok (.invokevirtual 60, 3) := by decide +kernel
theorem dX4_typeVariable_11 : decode cX4_typeVariable 11 = .ok (.istore_n 2, 1) := by decide +kernel
theorem dX4_typeVariable_12 : decode cX4_typeVariable 12 = .ok (.aload_n 0, 1) := by decide +kernel
theorem dX4_typeVariable_13 : decode cX4_typeVariable 13 = .ok (.aload_n 0, 1) := by decide +kernel
theorem dX4_typeVariable_14 : decode cX4_typeVariable 14 = .ok (.getfield 10, 3) := by decide +kernel
theorem dX4_typeVariable_17 : decode cX4_typeVariable 17 = .ok (.aload_n 0, 1) := by decide +kernel
theorem dX4_typeVariable_18 : decode cX4_typeVariable 18 = .ok (.getfield 10, 3) := by decide +kernel
theorem dX4_typeVariable_21 : decode cX4_typeVariable 21 = .ok (.iload_n 1, 1) := by decide +kernel
theorem dX4_typeVariable_22 : decode cX4_typeVariable 22 = .ok (.invokestatic 64, 3) := by decide +kernel
theorem dX4_typeVariable_25 : decode cX4_typeVariable 25 = .ok (.iconst (-1), 1) := by decide +kernel
theorem dX4_typeVariable_26 : decode cX4_typeVariable 26 = .ok (.iconst (-1), 1) := by decide +kernel
theorem dX4_typeVariable_27 : decode cX4_typeVariable 27 = .ok (.invokevirtual 68, 3) := by decide +kernel
theorem dX4_typeVariable_30 : decode cX4_typeVariable 30 = .ok (.invokevirtual 72, 3) := by decide +kernel
theorem dX4_typeVariable_33 : decode cX4_typeVariable 33 = .ok (.iload_n 2, 1) := by decide +kernel
theorem dX4_typeVariable_34 : decode cX4_typeVariable 34 = .ok (.invokevirtual 75, 3) := by decide +kernel
theorem dX4_typeVariable_37 : decode cX4_typeVariable 37 = .ok (.ireturn, 1) := by decide +kernel
set_option maxRecDepth 20000 in
theorem ggX4_type_X4_read : GoodIn wsX4_type wsX4_read := goodIn_r _ [9] (by decide +kernel) (by decide +kernel)
set_option maxRecDepth 20000 in
theorem gX4_type_X4_read : GoodIn wsX4_type (va_wsS RX4 81 yX4_read wsX4_read) := goodIn_app (goodIn_of _ (by decide +kernel)) ggX4_type_X4_read
set_option maxRecDepth 20000 in
theorem ggX4_type_X4_typeBehind : GoodIn wsX4_type wsX4_typeBehind := goodIn_ca (goodIn_r _ [13, 14, 15, 5, 16, 17, 18, 19, 20, 21, 22, 7, 8, 9, 76, 77, 78, 79, 80, 81, 82, 83, 84, 85, 86, 87, 88, 89, 90, 91, 92, 93, 94, 95, 96] (by decide +kernel) (by decide +kernel)) (goodIn_sub (fun _ h => List.mem_cons_of_mem _ (List.mem_append_left _ (List.mem_append_right _ h))) (by decide +kernel))
set_option maxRecDepth 20000 in
theorem gX4_type_X4_typeBehind : GoodIn wsX4_type (wsV RX4 85 RX4 yX4_typeBehind wsX4_typeBehind) := goodIn_app (goodIn_of _ (by decide +kernel)) ggX4_type_X4_typeBehind
set_option maxRecDepth 20000 in
theorem ggX4_type_X2_count : GoodIn wsX4_type wsX2_count := goodIn_r _ [26, 27, 83, 84, 85, 86, 87, 88, 89, 90, 91, 92, 93, 94, 95, 96] (by decide +kernel) (by decide +kernel)
set_option maxRecDepth 20000 in
theorem gX4_type_X2_count : GoodIn wsX4_type (wsV RX4 60 RX2 yX2_count wsX2_count) := goodIn_app (goodIn_of _ (by decide +kernel)) ggX4_type_X2_count
set_option maxRecDepth 20000 in
theorem ggX4_type_X2_made : GoodIn wsX4_type wsX2_made := goodIn_r _ [31, 32, 33, 34, 35, 27, 36, 37, 38, 39, 40, 41, 42, 43, 44, 45, 19, 46, 7, 8, 9, 47, 48, 49, 50, 51, 52, 53, 54, 55, 56, 57, 83, 84, 85, 86, 87, 88, 89, 90, 91, 92, 93, 94, 95, 96] (by decide +kernel) (by decide +kernel)
set_option maxRecDepth 20000 in
theorem gX4_type_X2_made : GoodIn wsX4_type (wsV RX4 68 RX2 yX2_made wsX2_made) := goodIn_app (goodIn_of _ (by decide +kernel)) ggX4_type_X2_made
set_option maxRecDepth 20000 in
theorem ggX4_type_X2_keep : GoodIn wsX4_type wsX2_keep := goodIn_r _ [61, 21, 62, 22, 43, 44, 45, 19, 46, 39, 7, 8, 9, 83, 84, 85, 86, 87, 88, 89, 90, 91, 92, 93, 94, 95, 96] (by decide +kernel) (by decide +kernel)
set_option maxRecDepth 20000 in
theorem gX4_type_X2_keep : GoodIn wsX4_type (wsV RX4 72 RX2 yX2_keep wsX2_keep) := goodIn_app (goodIn_of _ (by decide +kernel)) ggX4_type_X2_keep
set_option maxRecDepth 20000 in
theorem ggX4_type_X4_settled : GoodIn wsX4_type wsX4_settled := goodIn_ca (goodIn_r _ [66, 67, 68, 5, 69, 70, 71, 19, 72, 27, 73, 74, 34, 75, 42, 36, 37, 38, 41, 55, 56, 57, 76, 77, 78, 79, 80, 81, 82, 83, 84, 85, 86, 87, 88, 89, 90, 91, 92, 93, 94, 95, 96] (by decide +kernel) (by decide +kernel)) (goodIn_sub (fun _ h => List.mem_cons_of_mem _ (List.mem_append_right _ h)) (by decide +kernel))
set_option maxRecDepth 20000 in
theorem gX4_type_X4_settled : GoodIn wsX4_type (wsV RX4 75 RX4 yX4_settled wsX4_settled) := goodIn_app (goodIn_of _ (by decide +kernel)) ggX4_type_X4_settled
theorem dX4_type_0 : decode cX4_type 0 = .ok (.iload_n 1, 1) := by decide +kernel
theorem dX4_type_1 : decode cX4_type 1 = .ok (.ifCond .lt 11, 3) := by decide +kernel
theorem dX4_type_4 : decode cX4_type 4 = .ok (.iload_n 1, 1) := by decide +kernel
theorem dX4_type_5 : decode cX4_type 5 = .ok (.aload_n 0, 1) := by decide +kernel
theorem dX4_type_6 : decode cX4_type 6 = .ok (.getfield 37, 3) := by decide +kernel
theorem dX4_type_9 : decode cX4_type 9 = .ok (.if_icmp .lt 13, 3) := by decide +kernel
theorem dX4_type_12 : decode cX4_type 12 = .ok (.new 44, 3) := by decide +kernel
theorem dX4_type_15 : decode cX4_type 15 = .ok (.dup, 1) := by decide +kernel
theorem dX4_type_16 : decode cX4_type 16 = .ok (.ldc 79, 2) := by decide +kernel
theorem dX4_type_18 : decode cX4_type 18 = .ok (.invokespecial 48, 3) := by decide +kernel
theorem dX4_type_21 : decode cX4_type 21 = .ok (.athrow, 1) := by decide +kernel
theorem dX4_type_22 : decode cX4_type 22 = .ok (.aload_n 0, 1) := by decide +kernel
theorem dX4_type_23 : decode cX4_type 23 = .ok (.getfield 30, 3) := by decide +kernel
theorem dX4_type_26 : decode cX4_type 26 = .ok (.iload_n 1, 1) := by decide +kernel
theorem dX4_type_27 : decode cX4_type 27 = .ok (.invokestatic 81, 3) := by decide +kernel
theorem dX4_type_30 : decode cX4_type 30 = .ok (.istore 4, 2) := by decide +kernel
theorem dX4_type_32 : decode cX4_type 32 = .ok (.iload 4, 2) := by decide +kernel
theorem dX4_type_34 : decode cX4_type 34 = .ok (.iconst 1, 1) := by decide +kernel
theorem dX4_type_35 : decode cX4_type 35 = .ok (.if_icmp .lt 11, 3) := by decide +kernel
theorem dX4_type_38 : decode cX4_type 38 = .ok (.aload_n 0, 1) := by decide +kernel
theorem dX4_type_39 : decode cX4_type 39 = .ok (.iload_n 2, 1) := by decide +kernel
theorem dX4_type_40 : decode cX4_type 40 = .ok (.invokevirtual 85, 3) := by decide +kernel
theorem dX4_type_43 : decode cX4_type 43 = .ok (.goto 4, 3) := by decide +kernel
theorem dX4_type_46 : decode cX4_type 46 = .ok (.iconst (-1), 1) := by decide +kernel
theorem dX4_type_47 : decode cX4_type 47 = .ok (.istore 5, 2) := by decide +kernel
theorem dX4_type_49 : decode cX4_type 49 = .ok (.iload 4, 2) := by decide +kernel
theorem dX4_type_51 : decode cX4_type 51 = .ok (.iconst 2, 1) := by decide +kernel
theorem dX4_type_52 : decode cX4_type 52 = .ok (.if_icmp .lt 11, 3) := by decide +kernel
theorem dX4_type_55 : decode cX4_type 55 = .ok (.aload_n 0, 1) := by decide +kernel
theorem dX4_type_56 : decode cX4_type 56 = .ok (.iload_n 3, 1) := by decide +kernel
theorem dX4_type_57 : decode cX4_type 57 = .ok (.invokevirtual 85, 3) := by decide +kernel
theorem dX4_type_60 : decode cX4_type 60 = .ok (.goto 4, 3) := by decide +kernel
theorem dX4_type_63 : decode cX4_type 63 = .ok (.iconst (-1), 1) := by decide +kernel
theorem dX4_type_64 : decode cX4_type 64 = .ok (.istore 6, 2) := by decide +kernel
theorem dX4_type_66 : decode cX4_type 66 = .ok (.aload_n 0, 1) := by decide +kernel
theorem dX4_type_67 : decode cX4_type 67 = .ok (.getfield 10, 3) := by decide +kernel
theorem dX4_type_70 : decode cX4_type 70 = .ok (.invokevirtual 60, 3) := by decide +kernel
theorem dX4_type_73 : decode cX4_type 73 = .ok (.istore 7, 2) := by decide +kernel
theorem dX4_type_75 : decode cX4_type 75 = .ok (.aload_n 0, 1) := by decide +kernel
theorem dX4_type_76 : decode cX4_type 76 = .ok (.aload_n 0, 1) := by decide +kernel
theorem dX4_type_77 : decode cX4_type 77 = .ok (.getfield 10, 3) := by decide +kernel
theorem dX4_type_80 : decode cX4_type 80 = .ok (.aload_n 0, 1) := by decide +kernel
theorem dX4_type_81 : decode cX4_type 81 = .ok (.getfield 10, 3) := by decide +kernel
theorem dX4_type_84 : decode cX4_type 84 = .ok (.iload_n 1, 1) := by decide +kernel
theorem dX4_type_85 : decode cX4_type 85 = .ok (.iload 5, 2) := by decide +kernel
theorem dX4_type_87 : decode cX4_type 87 = .ok (.iload 6, 2) := by decide +kernel
theorem dX4_type_89 : decode cX4_type 89 = .ok (.invokevirtual 68, 3) := by decide +kernel
theorem dX4_type_92 : decode cX4_type 92 = .ok (.invokevirtual 72, 3) := by decide +kernel
theorem dX4_type_95 : decode cX4_type 95 = .ok (.iload 7, 2) := by decide +kernel
theorem dX4_type_97 : decode cX4_type 97 = .ok (.invokevirtual 75, 3) := by decide +kernel
theorem dX4_type_100 : decode cX4_type 100 = .ok (.ireturn, 1) := by decide +kernel
set_option maxRecDepth 20000 in
theorem ggX4_typeSymbol_X4_typeBehind : GoodIn wsX4_typeSymbol wsX4_typeBehind := goodIn_ca (goodIn_r _ [8, 1, 2, 3, 9, 10, 11, 12, 13, 14, 15, 16, 7, 17, 43, 44, 45, 46, 47, 48, 49, 50, 51, 52, 53, 54, 55, 56, 57, 58, 59, 60, 61, 62, 63] (by decide +kernel) (by decide +kernel)) (goodIn_sub (fun _ h => List.mem_cons_of_mem _ (List.mem_append_right _ h)) (by decide +kernel))
set_option maxRecDepth 20000 in
theorem gX4_typeSymbol_X4_typeBehind : GoodIn wsX4_typeSymbol (wsV RX4 85 RX4 yX4_typeBehind wsX4_typeBehind) := goodIn_app (goodIn_of _ (by decide +kernel)) ggX4_typeSymbol_X4_typeBehind
set_option maxRecDepth 20000 in
theorem ggX4_typeSymbol_X2_symbols : GoodIn wsX4_typeSymbol wsX2_symbols := goodIn_r _ [21, 22, 16, 7, 17, 50, 51, 52, 53, 54, 55, 56, 57, 58, 59, 60, 61, 62, 63] (by decide +kernel) (by decide +kernel)
set_option maxRecDepth 20000 in
theorem gX4_typeSymbol_X2_symbols : GoodIn wsX4_typeSymbol (wsV RX4 88 RX2 yX2_symbols wsX2_symbols) := goodIn_app (goodIn_of _ (by decide +kernel)) ggX4_typeSymbol_X2_symbols
set_option maxRecDepth 20000 in
theorem ggX4_typeSymbol_X2_headAt : GoodIn wsX4_typeSymbol wsX2_headAt := goodIn_r _ [26, 27, 28, 29, 12, 30, 31, 16, 7, 17, 32, 19, 20, 21, 22, 33, 34, 35, 36, 37, 38, 39, 40, 41, 42, 50, 51, 52, 53, 54, 55, 56, 57, 58, 59, 60, 61, 62, 63] (by decide +kernel) (by decide +kernel)
set_option maxRecDepth 20000 in
theorem gX4_typeSymbol_X2_headAt : GoodIn wsX4_typeSymbol (wsV RX4 96 RX2 yX2_headAt wsX2_headAt) := goodIn_app (goodIn_of _ (by decide +kernel)) ggX4_typeSymbol_X2_headAt
theorem dX4_typeSymbol_0 : decode cX4_typeSymbol 0 = .ok (.aload_n 0, 1) := by decide +kernel
theorem dX4_typeSymbol_1 : decode cX4_typeSymbol 1 = .ok (.iload_n 1, 1) := by decide +kernel
theorem dX4_typeSymbol_2 : decode cX4_typeSymbol 2 = .ok (.invokevirtual 85, 3) := by decide +kernel
theorem dX4_typeSymbol_5 : decode cX4_typeSymbol 5 = .ok (.istore_n 3, 1) := by decide +kernel
theorem dX4_typeSymbol_6 : decode cX4_typeSymbol 6 = .ok (.iload_n 2, 1) := by decide +kernel
theorem dX4_typeSymbol_7 : decode cX4_typeSymbol 7 = .ok (.ifCond .lt 15, 3) := by decide +kernel
theorem dX4_typeSymbol_10 : decode cX4_typeSymbol 10 = .ok (.iload_n 2, 1) := by decide +kernel
theorem dX4_typeSymbol_11 : decode cX4_typeSymbol 11 = .ok (.aload_n 0, 1) := by decide +kernel
theorem dX4_typeSymbol_12 : decode cX4_typeSymbol 12 = .ok (.getfield 10, 3) := by decide +kernel
theorem dX4_typeSymbol_15 : decode cX4_typeSymbol 15 = .ok (.iload_n 3, 1) := by decide +kernel
theorem dX4_typeSymbol_16 : decode cX4_typeSymbol 16 = .ok (.invokevirtual 88, 3) := by decide +kernel
theorem dX4_typeSymbol_19 : decode cX4_typeSymbol 19 = .ok (.if_icmp .lt 13, 3) := by decide +kernel
theorem dX4_typeSymbol_22 : decode cX4_typeSymbol 22 = .ok (.new 91, 3) := by decide +kernel
theorem dX4_typeSymbol_25 : decode cX4_typeSymbol 25 = .ok (.dup, 1) := by decide +kernel
theorem dX4_typeSymbol_26 : decode cX4_typeSymbol 26 = .ok (.ldc 93, 2) := by decide +kernel
theorem dX4_typeSymbol_28 : decode cX4_typeSymbol 28 = .ok (.invokespecial 95, 3) := by decide +kernel
theorem dX4_typeSymbol_31 : decode cX4_typeSymbol 31 = .ok (.athrow, 1) := by decide +kernel
theorem dX4_typeSymbol_32 : decode cX4_typeSymbol 32 = .ok (.aload_n 0, 1) := by decide +kernel
theorem dX4_typeSymbol_33 : decode cX4_typeSymbol 33 = .ok (.getfield 10, 3) := by decide +kernel
theorem dX4_typeSymbol_36 : decode cX4_typeSymbol 36 = .ok (.iload_n 3, 1) := by decide +kernel
theorem dX4_typeSymbol_37 : decode cX4_typeSymbol 37 = .ok (.iload_n 2, 1) := by decide +kernel
theorem dX4_typeSymbol_38 : decode cX4_typeSymbol 38 = .ok (.invokevirtual 96, 3) := by decide +kernel
theorem dX4_typeSymbol_41 : decode cX4_typeSymbol 41 = .ok (.ireturn, 1) := by decide +kernel
set_option maxRecDepth 20000 in
theorem ggX4_declare_X4_typeBehind : GoodIn wsX4_declare wsX4_typeBehind := goodIn_ca (goodIn_r _ [9, 10, 11, 12, 13, 14, 15, 16, 17, 18, 19, 20, 8, 21, 22, 23, 24, 25, 26, 27, 28, 29, 30, 31, 32, 33, 34, 35, 36, 37, 38, 39, 40, 41, 42] (by decide +kernel) (by decide +kernel)) (goodIn_sub (fun _ h => List.mem_cons_of_mem _ (List.mem_append_right _ h)) (by decide +kernel))
set_option maxRecDepth 20000 in
theorem gX4_declare_X4_typeBehind : GoodIn wsX4_declare (wsV RX4 85 RX4 yX4_typeBehind wsX4_typeBehind) := goodIn_app (goodIn_of _ (by decide +kernel)) ggX4_declare_X4_typeBehind
theorem dX4_declare_0 : decode cX4_declare 0 = .ok (.aload_n 0, 1) := by decide +kernel
theorem dX4_declare_1 : decode cX4_declare 1 = .ok (.iload_n 1, 1) := by decide +kernel
theorem dX4_declare_2 : decode cX4_declare 2 = .ok (.invokevirtual 85, 3) := by decide +kernel
theorem dX4_declare_5 : decode cX4_declare 5 = .ok (.istore_n 2, 1) := by decide +kernel
theorem dX4_declare_6 : decode cX4_declare 6 = .ok (.aload_n 0, 1) := by decide +kernel
theorem dX4_declare_7 : decode cX4_declare 7 = .ok (.getfield 41, 3) := by decide +kernel
theorem dX4_declare_10 : decode cX4_declare 10 = .ok (.ifCond .lt 13, 3) := by decide +kernel
theorem dX4_declare_13 : decode cX4_declare 13 = .ok (.aload_n 0, 1) := by decide +kernel
theorem dX4_declare_14 : decode cX4_declare 14 = .ok (.getfield 41, 3) := by decide +kernel
theorem dX4_declare_17 : decode cX4_declare 17 = .ok (.sipush 200, 3) := by decide +kernel
theorem dX4_declare_20 : decode cX4_declare 20 = .ok (.if_icmp .lt 13, 3) := by decide +kernel
theorem dX4_declare_23 : decode cX4_declare 23 = .ok (.new 51, 3) := by decide +kernel
theorem dX4_declare_26 : decode cX4_declare 26 = .ok (.dup, 1) := by decide +kernel
theorem dX4_declare_27 : decode cX4_declare 27 = .ok (.ldc 99, 2) := by decide +kernel
theorem dX4_declare_29 : decode cX4_declare 29 = .ok (.invokespecial 55, 3) := by decide +kernel
theorem dX4_declare_32 : decode cX4_declare 32 = .ok (.athrow, 1) := by decide +kernel
theorem dX4_declare_33 : decode cX4_declare 33 = .ok (.aload_n 0, 1) := by decide +kernel
theorem dX4_declare_34 : decode cX4_declare 34 = .ok (.getfield 34, 3) := by decide +kernel
theorem dX4_declare_37 : decode cX4_declare 37 = .ok (.aload_n 0, 1) := by decide +kernel
theorem dX4_declare_38 : decode cX4_declare 38 = .ok (.getfield 41, 3) := by decide +kernel
theorem dX4_declare_41 : decode cX4_declare 41 = .ok (.iload_n 2, 1) := by decide +kernel
theorem dX4_declare_42 : decode cX4_declare 42 = .ok (.iastore, 1) := by decide +kernel
theorem dX4_declare_43 : decode cX4_declare 43 = .ok (.aload_n 0, 1) := by decide +kernel
theorem dX4_declare_44 : decode cX4_declare 44 = .ok (.dup, 1) := by decide +kernel
theorem dX4_declare_45 : decode cX4_declare 45 = .ok (.getfield 41, 3) := by decide +kernel
theorem dX4_declare_48 : decode cX4_declare 48 = .ok (.iconst 1, 1) := by decide +kernel
theorem dX4_declare_49 : decode cX4_declare 49 = .ok (.iadd, 1) := by decide +kernel
theorem dX4_declare_50 : decode cX4_declare 50 = .ok (.putfield 41, 3) := by decide +kernel
theorem dX4_declare_53 : decode cX4_declare 53 = .ok (.aload_n 0, 1) := by decide +kernel
theorem dX4_declare_54 : decode cX4_declare 54 = .ok (.getfield 41, 3) := by decide +kernel
theorem dX4_declare_57 : decode cX4_declare 57 = .ok (.iconst 1, 1) := by decide +kernel
theorem dX4_declare_58 : decode cX4_declare 58 = .ok (.isub, 1) := by decide +kernel
theorem dX4_declare_59 : decode cX4_declare 59 = .ok (.ireturn, 1) := by decide +kernel
set_option maxRecDepth 20000 in
theorem ggX4_free_X4_typeBehind : GoodIn wsX4_free wsX4_typeBehind := goodIn_ca (goodIn_r _ [5, 6, 7, 8, 9, 10, 11, 12, 13, 14, 15, 16, 4, 17, 125, 126, 127, 128, 129, 130, 131, 132, 133, 134, 135, 136, 137, 138, 139, 140, 141, 142, 143, 144, 145] (by decide +kernel) (by decide +kernel)) (goodIn_sub (fun _ h => List.mem_cons_of_mem _ (List.mem_append_left _ (List.mem_append_left _ (List.mem_append_right _ h)))) (by decide +kernel))
set_option maxRecDepth 20000 in
theorem gX4_free_X4_typeBehind : GoodIn wsX4_free (wsV RX4 85 RX4 yX4_typeBehind wsX4_typeBehind) := goodIn_app (goodIn_of _ (by decide +kernel)) ggX4_free_X4_typeBehind
set_option maxRecDepth 20000 in
theorem ggX4_free_X4_requireNumber : GoodIn wsX4_free wsX4_requireNumber := goodIn_ca (goodIn_r _ [20, 21, 22] (by decide +kernel) (by decide +kernel)) (goodIn_sub (fun _ h => List.mem_cons_of_mem _ (List.mem_append_left _ (List.mem_append_right _ h))) (by decide +kernel))
set_option maxRecDepth 20000 in
theorem gX4_free_X4_requireNumber : GoodIn wsX4_free (va_wsS RX4 56 yX4_requireNumber wsX4_requireNumber) := goodIn_app (goodIn_of _ (by decide +kernel)) ggX4_free_X4_requireNumber
set_option maxRecDepth 20000 in
theorem ggX4_free_X4_codeOf : GoodIn wsX4_free wsX4_codeOf := goodIn_r _ [25] (by decide +kernel) (by decide +kernel)
set_option maxRecDepth 20000 in
theorem gX4_free_X4_codeOf : GoodIn wsX4_free (va_wsS RX4 101 yX4_codeOf wsX4_codeOf) := goodIn_app (goodIn_of _ (by decide +kernel)) ggX4_free_X4_codeOf
set_option maxRecDepth 20000 in
theorem ggX4_free_X4_leaf : GoodIn wsX4_free wsX4_leaf := goodIn_ca (goodIn_r _ [29, 30, 8, 31, 32, 33, 34, 35, 36, 37, 38, 39, 40, 41, 42, 43, 16, 4, 17, 44, 45, 46, 47, 48, 49, 50, 51, 52, 53, 54, 55, 56, 57, 58, 59, 60, 61, 62, 63, 64, 65, 66, 67, 68, 69, 70, 71, 72, 73, 74, 75, 76, 77, 78, 79, 80, 81, 82, 83, 84, 85, 86, 87, 88, 89, 90, 91, 92, 93, 94, 95, 96, 97, 98, 99, 100, 101, 12, 102, 103, 104, 105, 106, 107, 108, 109, 110, 111, 112, 113, 114, 115, 116, 117, 118, 119, 120, 121, 122, 123, 124, 125, 126, 127, 128, 129, 130, 131, 146, 147, 148, 149, 150, 151, 152, 153, 154, 155, 156, 157, 158, 159, 132, 133, 134, 135, 136, 137, 138, 139, 140, 141, 142, 143, 144, 145] (by decide +kernel) (by decide +kernel)) (goodIn_sub (fun _ h => List.mem_cons_of_mem _ (List.mem_append_right _ h)) (by decide +kernel))
set_option maxRecDepth 20000 in
theorem gX4_free_X4_leaf : GoodIn wsX4_free (wsV RX4 104 RX4 yX4_leaf wsX4_leaf) := goodIn_app (goodIn_of _ (by decide +kernel)) ggX4_free_X4_leaf
theorem dX4_free_0 : decode cX4_free 0 = .ok (.aload_n 0, 1) := by decide +kernel
theorem dX4_free_1 : decode cX4_free 1 = .ok (.iload_n 2, 1) := by decide +kernel
theorem dX4_free_2 : decode cX4_free 2 = .ok (.invokevirtual 85, 3) := by decide +kernel
theorem dX4_free_5 : decode cX4_free 5 = .ok (.istore_n 3, 1) := by decide +kernel
theorem dX4_free_6 : decode cX4_free 6 = .ok (.iload_n 1, 1) := by decide +kernel
theorem dX4_free_7 : decode cX4_free 7 = .ok (.invokestatic 56, 3) := by decide +kernel
theorem dX4_free_10 : decode cX4_free 10 = .ok (.aload_n 0, 1) := by decide +kernel
theorem dX4_free_11 : decode cX4_free 11 = .ok (.iconst 1, 1) := by decide +kernel
theorem dX4_free_12 : decode cX4_free 12 = .ok (.iload_n 1, 1) := by decide +kernel
theorem dX4_free_13 : decode cX4_free 13 = .ok (.invokestatic 101, 3) := by decide +kernel
theorem dX4_free_16 : decode cX4_free 16 = .ok (.iload_n 3, 1) := by decide +kernel
theorem dX4_free_17 : decode cX4_free 17 = .ok (.invokevirtual 104, 3) := by decide +kernel
theorem dX4_free_20 : decode cX4_free 20 = .ok (.ireturn, 1) := by decide +kernel
set_option maxRecDepth 20000 in
theorem ggX4_constant_X4_typeBehind : GoodIn wsX4_constant wsX4_typeBehind := goodIn_ca (goodIn_r _ [10, 11, 12, 4, 13, 14, 15, 16, 17, 18, 19, 20, 9, 21, 160, 161, 162, 163, 164, 165, 166, 167, 168, 169, 170, 171, 172, 173, 174, 175, 176, 177, 178, 179, 180] (by decide +kernel) (by decide +kernel)) (goodIn_sub (fun _ h => List.mem_cons_of_mem _ (List.mem_append_left _ (List.mem_append_right _ h))) (by decide +kernel))
set_option maxRecDepth 20000 in
theorem gX4_constant_X4_typeBehind : GoodIn wsX4_constant (wsV RX4 85 RX4 yX4_typeBehind wsX4_typeBehind) := goodIn_app (goodIn_of _ (by decide +kernel)) ggX4_constant_X4_typeBehind
set_option maxRecDepth 20000 in
theorem ggX4_constant_X2_beginImages : GoodIn wsX4_constant wsX2_beginImages := goodIn_r _ [25, 26, 167, 168, 169, 170, 171, 172, 173, 174, 175, 176, 177, 178, 179, 180] (by decide +kernel) (by decide +kernel)
set_option maxRecDepth 20000 in
theorem gX4_constant_X2_beginImages : GoodIn wsX4_constant (wsV RX4 109 RX2 yX2_beginImages wsX2_beginImages) := goodIn_app (goodIn_of _ (by decide +kernel)) ggX4_constant_X2_beginImages
set_option maxRecDepth 20000 in
theorem ggX4_constant_X4_read : GoodIn wsX4_constant wsX4_read := goodIn_r _ [21] (by decide +kernel) (by decide +kernel)
set_option maxRecDepth 20000 in
theorem gX4_constant_X4_read : GoodIn wsX4_constant (va_wsS RX4 81 yX4_read wsX4_read) := goodIn_app (goodIn_of _ (by decide +kernel)) ggX4_constant_X4_read
set_option maxRecDepth 20000 in
theorem ggX4_constant_X2_fits : GoodIn wsX4_constant wsX2_fits := goodIn_r _ [31, 32, 33, 34, 16, 35, 36, 37, 38, 39, 40, 41, 26, 20, 9, 21, 42, 43, 44, 45, 46, 47, 48, 49, 50, 51, 52, 53, 54, 55, 56, 57, 58, 59, 60, 167, 168, 169, 170, 171, 172, 173, 174, 175, 176, 177, 178, 179, 180] (by decide +kernel) (by decide +kernel)
set_option maxRecDepth 20000 in
theorem gX4_constant_X2_fits : GoodIn wsX4_constant (wsV RX4 112 RX2 yX2_fits wsX2_fits) := goodIn_app (goodIn_of _ (by decide +kernel)) ggX4_constant_X2_fits
set_option maxRecDepth 20000 in
theorem ggX4_constant_X4_codeOf : GoodIn wsX4_constant wsX4_codeOf := goodIn_r _ [63] (by decide +kernel) (by decide +kernel)
set_option maxRecDepth 20000 in
theorem gX4_constant_X4_codeOf : GoodIn wsX4_constant (va_wsS RX4 101 yX4_codeOf wsX4_codeOf) := goodIn_app (goodIn_of _ (by decide +kernel)) ggX4_constant_X4_codeOf
set_option maxRecDepth 20000 in
theorem ggX4_constant_X4_leaf : GoodIn wsX4_constant wsX4_leaf := goodIn_ca (goodIn_r _ [67, 68, 4, 69, 70, 71, 72, 73, 74, 75, 76, 77, 78, 79, 80, 81, 20, 9, 21, 82, 83, 84, 85, 86, 87, 88, 89, 90, 91, 92, 93, 94, 95, 96, 97, 98, 99, 100, 101, 102, 103, 104, 105, 106, 107, 108, 109, 110, 111, 112, 113, 114, 115, 116, 117, 118, 119, 120, 121, 122, 123, 124, 125, 126, 127, 128, 129, 130, 131, 132, 133, 134, 135, 136, 137, 138, 139, 16, 140, 141, 142, 143, 144, 145, 146, 147, 148, 149, 150, 151, 152, 153, 154, 155, 46, 51, 56, 156, 157, 158, 159, 160, 161, 162, 163, 164, 165, 166, 181, 182, 183, 184, 185, 186, 187, 188, 189, 190, 191, 192, 193, 194, 167, 168, 169, 170, 171, 172, 173, 174, 175, 176, 177, 178, 179, 180] (by decide +kernel) (by decide +kernel)) (goodIn_sub (fun _ h => List.mem_cons_of_mem _ (List.mem_append_right _ h)) (by decide +kernel))
set_option maxRecDepth 20000 in
theorem gX4_constant_X4_leaf : GoodIn wsX4_constant (wsV RX4 104 RX4 yX4_leaf wsX4_leaf) := goodIn_app (goodIn_of _ (by decide +kernel)) ggX4_constant_X4_leaf
theorem dX4_constant_0 : decode cX4_constant 0 = .ok (.aload_n 0, 1) := by decide +kernel
theorem dX4_constant_1 : decode cX4_constant 1 = .ok (.iload_n 2, 1) := by decide +kernel
theorem dX4_constant_2 : decode cX4_constant 2 = .ok (.invokevirtual 85, 3) := by decide +kernel
theorem dX4_constant_5 : decode cX4_constant 5 = .ok (.istore_n 3, 1) := by decide +kernel
theorem dX4_constant_6 : decode cX4_constant 6 = .ok (.iload_n 1, 1) := by decide +kernel
theorem dX4_constant_7 : decode cX4_constant 7 = .ok (.ifCond .lt 11, 3) := by decide +kernel
theorem dX4_constant_10 : decode cX4_constant 10 = .ok (.iload_n 1, 1) := by decide +kernel
theorem dX4_constant_11 : decode cX4_constant 11 = .ok (.aload_n 0, 1) := by decide +kernel
theorem dX4_constant_12 : decode cX4_constant 12 = .ok (.getfield 41, 3) := by decide +kernel
theorem dX4_constant_15 : decode cX4_constant 15 = .ok (.if_icmp .lt 13, 3) := by decide +kernel
theorem dX4_constant_18 : decode cX4_constant 18 = .ok (.new 44, 3) := by decide +kernel
theorem dX4_constant_21 : decode cX4_constant 21 = .ok (.dup, 1) := by decide +kernel
theorem dX4_constant_22 : decode cX4_constant 22 = .ok (.ldc 107, 2) := by decide +kernel
theorem dX4_constant_24 : decode cX4_constant 24 = .ok (.invokespecial 48, 3) := by decide +kernel
theorem dX4_constant_27 : decode cX4_constant 27 = .ok (.athrow, 1) := by decide +kernel
theorem dX4_constant_28 : decode cX4_constant 28 = .ok (.aload_n 0, 1) := by decide +kernel
theorem dX4_constant_29 : decode cX4_constant 29 = .ok (.getfield 10, 3) := by decide +kernel
theorem dX4_constant_32 : decode cX4_constant 32 = .ok (.invokevirtual 109, 3) := by decide +kernel
theorem dX4_constant_35 : decode cX4_constant 35 = .ok (.aload_n 0, 1) := by decide +kernel
theorem dX4_constant_36 : decode cX4_constant 36 = .ok (.getfield 10, 3) := by decide +kernel
theorem dX4_constant_39 : decode cX4_constant 39 = .ok (.aload_n 0, 1) := by decide +kernel
theorem dX4_constant_40 : decode cX4_constant 40 = .ok (.getfield 34, 3) := by decide +kernel
theorem dX4_constant_43 : decode cX4_constant 43 = .ok (.iload_n 1, 1) := by decide +kernel
theorem dX4_constant_44 : decode cX4_constant 44 = .ok (.invokestatic 81, 3) := by decide +kernel
theorem dX4_constant_47 : decode cX4_constant 47 = .ok (.iload_n 3, 1) := by decide +kernel
theorem dX4_constant_48 : decode cX4_constant 48 = .ok (.invokevirtual 112, 3) := by decide +kernel
theorem dX4_constant_51 : decode cX4_constant 51 = .ok (.ifCond .ne 13, 3) := by decide +kernel
theorem dX4_constant_54 : decode cX4_constant 54 = .ok (.new 44, 3) := by decide +kernel
theorem dX4_constant_57 : decode cX4_constant 57 = .ok (.dup, 1) := by decide +kernel
theorem dX4_constant_58 : decode cX4_constant 58 = .ok (.ldc 116, 2) := by decide +kernel
theorem dX4_constant_60 : decode cX4_constant 60 = .ok (.invokespecial 48, 3) := by decide +kernel
theorem dX4_constant_63 : decode cX4_constant 63 = .ok (.athrow, 1) := by decide +kernel
theorem dX4_constant_64 : decode cX4_constant 64 = .ok (.aload_n 0, 1) := by decide +kernel
theorem dX4_constant_65 : decode cX4_constant 65 = .ok (.iconst 2, 1) := by decide +kernel
theorem dX4_constant_66 : decode cX4_constant 66 = .ok (.iload_n 1, 1) := by decide +kernel
theorem dX4_constant_67 : decode cX4_constant 67 = .ok (.invokestatic 101, 3) := by decide +kernel
theorem dX4_constant_70 : decode cX4_constant 70 = .ok (.iload_n 3, 1) := by decide +kernel
theorem dX4_constant_71 : decode cX4_constant 71 = .ok (.invokevirtual 104, 3) := by decide +kernel
theorem dX4_constant_74 : decode cX4_constant 74 = .ok (.ireturn, 1) := by decide +kernel
set_option maxRecDepth 20000 in
theorem ggX4_apply_X4_requireTerm : GoodIn wsX4_apply wsX4_requireTerm := goodIn_ca (goodIn_r _ [9, 10, 11, 3, 12, 13, 14, 15, 16, 17, 146, 147, 148, 149, 150, 151, 152, 153, 154, 155, 156, 157, 158, 159, 160] (by decide +kernel) (by decide +kernel)) (goodIn_sub (fun _ h => List.mem_cons_of_mem _ (List.mem_append_left _ (List.mem_append_right _ h))) (by decide +kernel))
set_option maxRecDepth 20000 in
theorem gX4_apply_X4_requireTerm : GoodIn wsX4_apply (wsV RX4 118 RX4 yX4_requireTerm wsX4_requireTerm) := goodIn_app (goodIn_of _ (by decide +kernel)) ggX4_apply_X4_requireTerm
set_option maxRecDepth 20000 in
theorem ggX4_apply_X1_rootType : GoodIn wsX4_apply wsX1_rootType := goodIn_r _ [21, 22, 23, 24, 15, 25, 26, 27, 8, 28, 29, 30, 31, 32, 33, 153, 154, 155, 156, 157, 158, 159, 160] (by decide +kernel) (by decide +kernel)
set_option maxRecDepth 20000 in
theorem gX4_apply_X1_rootType : GoodIn wsX4_apply (wsV RX4 121 RX1 yX1_rootType wsX1_rootType) := goodIn_app (goodIn_of _ (by decide +kernel)) ggX4_apply_X1_rootType
set_option maxRecDepth 20000 in
theorem ggX4_apply_X2_head : GoodIn wsX4_apply wsX2_head := goodIn_r _ [38, 39, 27, 8, 28, 161, 162, 163, 164, 165, 166, 167, 168, 169, 170, 171, 172, 173, 174] (by decide +kernel) (by decide +kernel)
set_option maxRecDepth 20000 in
theorem gX4_apply_X2_head : GoodIn wsX4_apply (wsV RX4 124 RX2 yX2_head wsX2_head) := goodIn_app (goodIn_of _ (by decide +kernel)) ggX4_apply_X2_head
set_option maxRecDepth 20000 in
theorem ggX4_apply_X2_first : GoodIn wsX4_apply wsX2_first := goodIn_r _ [43, 44, 27, 8, 28, 161, 162, 163, 164, 165, 166, 167, 168, 169, 170, 171, 172, 173, 174] (by decide +kernel) (by decide +kernel)
set_option maxRecDepth 20000 in
theorem gX4_apply_X2_first : GoodIn wsX4_apply (wsV RX4 127 RX2 yX2_first wsX2_first) := goodIn_app (goodIn_of _ (by decide +kernel)) ggX4_apply_X2_first
set_option maxRecDepth 20000 in
theorem ggX4_apply_X1_begin : GoodIn wsX4_apply wsX1_begin := goodIn_r _ [48, 17, 49, 50, 22, 23, 24, 15, 25, 26, 27, 8, 28, 153, 154, 155, 156, 157, 158, 159, 160] (by decide +kernel) (by decide +kernel)
set_option maxRecDepth 20000 in
theorem gX4_apply_X1_begin : GoodIn wsX4_apply (wsV RX4 132 RX1 yX1_begin wsX1_begin) := goodIn_app (goodIn_of _ (by decide +kernel)) ggX4_apply_X1_begin
set_option maxRecDepth 20000 in
theorem ggX4_apply_X2_second : GoodIn wsX4_apply wsX2_second := goodIn_r _ [54, 55, 27, 8, 28, 161, 162, 163, 164, 165, 166, 167, 168, 169, 170, 171, 172, 173, 174] (by decide +kernel) (by decide +kernel)
set_option maxRecDepth 20000 in
theorem gX4_apply_X2_second : GoodIn wsX4_apply (wsV RX4 135 RX2 yX2_second wsX2_second) := goodIn_app (goodIn_of _ (by decide +kernel)) ggX4_apply_X2_second
set_option maxRecDepth 20000 in
theorem ggX4_apply_X1_add : GoodIn wsX4_apply wsX1_add := goodIn_r _ [59, 50, 60, 49, 33, 61, 62, 63, 15, 64, 17, 22, 23, 24, 25, 26, 27, 8, 28, 153, 154, 155, 156, 157, 158, 159, 160] (by decide +kernel) (by decide +kernel)
set_option maxRecDepth 20000 in
theorem gX4_apply_X1_add : GoodIn wsX4_apply (wsV RX4 138 RX1 yX1_add wsX1_add) := goodIn_app (goodIn_of _ (by decide +kernel)) ggX4_apply_X1_add
set_option maxRecDepth 20000 in
theorem ggX4_apply_X1_start : GoodIn wsX4_apply wsX1_start := goodIn_r _ [25, 26, 27, 8, 28, 153, 154, 155, 156, 157, 158, 159, 160] (by decide +kernel) (by decide +kernel)
set_option maxRecDepth 20000 in
theorem gX4_apply_X1_start : GoodIn wsX4_apply (wsV RX4 142 RX1 yX1_start wsX1_start) := goodIn_app (goodIn_of _ (by decide +kernel)) ggX4_apply_X1_start
set_option maxRecDepth 20000 in
theorem ggX4_apply_X1_end : GoodIn wsX4_apply wsX1_end := goodIn_r _ [69, 26, 27, 8, 28, 153, 154, 155, 156, 157, 158, 159, 160] (by decide +kernel) (by decide +kernel)
set_option maxRecDepth 20000 in
theorem gX4_apply_X1_end : GoodIn wsX4_apply (wsV RX4 145 RX1 yX1_end wsX1_end) := goodIn_app (goodIn_of _ (by decide +kernel)) ggX4_apply_X1_end
set_option maxRecDepth 20000 in
theorem ggX4_apply_X1_copy : GoodIn wsX4_apply wsX1_copy := goodIn_r _ [73, 50, 49, 60, 74, 75, 76, 77, 33, 61, 62, 63, 15, 64, 17, 22, 23, 24, 25, 26, 27, 8, 28, 153, 154, 155, 156, 157, 158, 159, 160] (by decide +kernel) (by decide +kernel)
set_option maxRecDepth 20000 in
theorem gX4_apply_X1_copy : GoodIn wsX4_apply (wsV RX4 148 RX1 yX1_copy wsX1_copy) := goodIn_app (goodIn_of _ (by decide +kernel)) ggX4_apply_X1_copy
set_option maxRecDepth 20000 in
theorem ggX4_apply_X1_keep : GoodIn wsX4_apply wsX1_keep := goodIn_r _ [81, 50, 17, 49, 82, 26, 22, 23, 24, 15, 25, 27, 8, 28, 83, 84, 85, 86, 87, 88, 89, 90, 91, 92, 93, 94, 95, 96, 97, 98, 99, 100, 101, 102, 103, 104, 105, 106, 107, 108, 60, 109, 110, 111, 112, 113, 114, 115, 116, 117, 118, 119, 120, 121, 122, 153, 154, 155, 156, 157, 158, 159, 160, 175, 176, 177, 178, 179, 180] (by decide +kernel) (by decide +kernel)
set_option maxRecDepth 20000 in
theorem gX4_apply_X1_keep : GoodIn wsX4_apply (wsV RX4 151 RX1 yX1_keep wsX1_keep) := goodIn_app (goodIn_of _ (by decide +kernel)) ggX4_apply_X1_keep
set_option maxRecDepth 20000 in
theorem ggX4_apply_X2_count : GoodIn wsX4_apply wsX2_count := goodIn_r _ [126, 127, 161, 162, 163, 164, 165, 166, 167, 168, 169, 170, 171, 172, 173, 174] (by decide +kernel) (by decide +kernel)
set_option maxRecDepth 20000 in
theorem gX4_apply_X2_count : GoodIn wsX4_apply (wsV RX4 60 RX2 yX2_count wsX2_count) := goodIn_app (goodIn_of _ (by decide +kernel)) ggX4_apply_X2_count
set_option maxRecDepth 20000 in
theorem ggX4_apply_X4_settled : GoodIn wsX4_apply wsX4_settled := goodIn_ca (goodIn_r _ [131, 132, 133, 4, 134, 135, 136, 37, 137, 127, 138, 139, 90, 140, 141, 39, 44, 55, 142, 143, 144, 145, 146, 147, 148, 149, 150, 151, 152, 161, 162, 163, 164, 165, 166, 167, 168, 169, 170, 171, 172, 173, 174] (by decide +kernel) (by decide +kernel)) (goodIn_sub (fun _ h => List.mem_cons_of_mem _ (List.mem_append_right _ h)) (by decide +kernel))
set_option maxRecDepth 20000 in
theorem gX4_apply_X4_settled : GoodIn wsX4_apply (wsV RX4 75 RX4 yX4_settled wsX4_settled) := goodIn_app (goodIn_of _ (by decide +kernel)) ggX4_apply_X4_settled
theorem dX4_apply_0 : decode cX4_apply 0 = .ok (.aload_n 0, 1) := by decide +kernel
theorem dX4_apply_1 : decode cX4_apply 1 = .ok (.iload_n 1, 1) := by decide +kernel
theorem dX4_apply_2 : decode cX4_apply 2 = .ok (.invokevirtual 118, 3) := by decide +kernel
theorem dX4_apply_5 : decode cX4_apply 5 = .ok (.aload_n 0, 1) := by decide +kernel
theorem dX4_apply_6 : decode cX4_apply 6 = .ok (.iload_n 2, 1) := by decide +kernel
theorem dX4_apply_7 : decode cX4_apply 7 = .ok (.invokevirtual 118, 3) := by decide +kernel
theorem dX4_apply_10 : decode cX4_apply 10 = .ok (.aload_n 0, 1) := by decide +kernel
theorem dX4_apply_11 : decode cX4_apply 11 = .ok (.getfield 19, 3) := by decide +kernel
theorem dX4_apply_14 : decode cX4_apply 14 = .ok (.iload_n 1, 1) := by decide +kernel
theorem dX4_apply_15 : decode cX4_apply 15 = .ok (.invokevirtual 121, 3) := by decide +kernel
theorem dX4_apply_18 : decode cX4_apply 18 = .ok (.istore_n 3, 1) := by decide +kernel
theorem dX4_apply_19 : decode cX4_apply 19 = .ok (.aload_n 0, 1) := by decide +kernel
theorem dX4_apply_20 : decode cX4_apply 20 = .ok (.getfield 10, 3) := by decide +kernel
theorem dX4_apply_23 : decode cX4_apply 23 = .ok (.iload_n 3, 1) := by decide +kernel
theorem dX4_apply_24 : decode cX4_apply 24 = .ok (.invokevirtual 124, 3) := by decide +kernel
theorem dX4_apply_27 : decode cX4_apply 27 = .ok (.iconst 2, 1) := by decide +kernel
theorem dX4_apply_28 : decode cX4_apply 28 = .ok (.if_icmp .ne 22, 3) := by decide +kernel
theorem dX4_apply_31 : decode cX4_apply 31 = .ok (.aload_n 0, 1) := by decide +kernel
theorem dX4_apply_32 : decode cX4_apply 32 = .ok (.getfield 10, 3) := by decide +kernel
theorem dX4_apply_35 : decode cX4_apply 35 = .ok (.iload_n 3, 1) := by decide +kernel
theorem dX4_apply_36 : decode cX4_apply 36 = .ok (.invokevirtual 127, 3) := by decide +kernel
theorem dX4_apply_39 : decode cX4_apply 39 = .ok (.aload_n 0, 1) := by decide +kernel
theorem dX4_apply_40 : decode cX4_apply 40 = .ok (.getfield 19, 3) := by decide +kernel
theorem dX4_apply_43 : decode cX4_apply 43 = .ok (.iload_n 2, 1) := by decide +kernel
theorem dX4_apply_44 : decode cX4_apply 44 = .ok (.invokevirtual 121, 3) := by decide +kernel
theorem dX4_apply_47 : decode cX4_apply 47 = .ok (.if_icmp .eq 13, 3) := by decide +kernel
theorem dX4_apply_50 : decode cX4_apply 50 = .ok (.new 44, 3) := by decide +kernel
theorem dX4_apply_53 : decode cX4_apply 53 = .ok (.dup, 1) := by decide +kernel
theorem dX4_apply_54 : decode cX4_apply 54 = .ok (.ldc 130, 2) := by decide +kernel
theorem dX4_apply_56 : decode cX4_apply 56 = .ok (.invokespecial 48, 3) := by decide +kernel
theorem dX4_apply_59 : decode cX4_apply 59 = .ok (.athrow, 1) := by decide +kernel
theorem dX4_apply_60 : decode cX4_apply 60 = .ok (.aload_n 0, 1) := by decide +kernel
theorem dX4_apply_61 : decode cX4_apply 61 = .ok (.getfield 19, 3) := by decide +kernel
theorem dX4_apply_64 : decode cX4_apply 64 = .ok (.invokevirtual 132, 3) := by decide +kernel
theorem dX4_apply_67 : decode cX4_apply 67 = .ok (.aload_n 0, 1) := by decide +kernel
theorem dX4_apply_68 : decode cX4_apply 68 = .ok (.getfield 19, 3) := by decide +kernel
theorem dX4_apply_71 : decode cX4_apply 71 = .ok (.iconst (-1), 1) := by decide +kernel
theorem dX4_apply_72 : decode cX4_apply 72 = .ok (.aload_n 0, 1) := by decide +kernel
theorem dX4_apply_73 : decode cX4_apply 73 = .ok (.getfield 10, 3) := by decide +kernel
theorem dX4_apply_76 : decode cX4_apply 76 = .ok (.iload_n 3, 1) := by decide +kernel
theorem dX4_apply_77 : decode cX4_apply 77 = .ok (.invokevirtual 135, 3) := by decide +kernel
theorem dX4_apply_80 : decode cX4_apply 80 = .ok (.invokevirtual 138, 3) := by decide +kernel
theorem dX4_apply_83 : decode cX4_apply 83 = .ok (.aload_n 0, 1) := by decide +kernel
theorem dX4_apply_84 : decode cX4_apply 84 = .ok (.getfield 19, 3) := by decide +kernel
theorem dX4_apply_87 : decode cX4_apply 87 = .ok (.aload_n 0, 1) := by decide +kernel
theorem dX4_apply_88 : decode cX4_apply 88 = .ok (.getfield 19, 3) := by decide +kernel
theorem dX4_apply_91 : decode cX4_apply 91 = .ok (.iload_n 1, 1) := by decide +kernel
theorem dX4_apply_92 : decode cX4_apply 92 = .ok (.invokevirtual 142, 3) := by decide +kernel
theorem dX4_apply_95 : decode cX4_apply 95 = .ok (.aload_n 0, 1) := by decide +kernel
theorem dX4_apply_96 : decode cX4_apply 96 = .ok (.getfield 19, 3) := by decide +kernel
theorem dX4_apply_99 : decode cX4_apply 99 = .ok (.iload_n 1, 1) := by decide +kernel
theorem dX4_apply_100 : decode cX4_apply 100 = .ok (.invokevirtual 145, 3) := by decide +kernel
theorem dX4_apply_103 : decode cX4_apply 103 = .ok (.invokevirtual 148, 3) := by decide +kernel
theorem dX4_apply_106 : decode cX4_apply 106 = .ok (.aload_n 0, 1) := by decide +kernel
theorem dX4_apply_107 : decode cX4_apply 107 = .ok (.getfield 19, 3) := by decide +kernel
theorem dX4_apply_110 : decode cX4_apply 110 = .ok (.aload_n 0, 1) := by decide +kernel
theorem dX4_apply_111 : decode cX4_apply 111 = .ok (.getfield 19, 3) := by decide +kernel
theorem dX4_apply_114 : decode cX4_apply 114 = .ok (.iload_n 2, 1) := by decide +kernel
theorem dX4_apply_115 : decode cX4_apply 115 = .ok (.invokevirtual 142, 3) := by decide +kernel
theorem dX4_apply_118 : decode cX4_apply 118 = .ok (.aload_n 0, 1) := by decide +kernel
theorem dX4_apply_119 : decode cX4_apply 119 = .ok (.getfield 19, 3) := by decide +kernel
theorem dX4_apply_122 : decode cX4_apply 122 = .ok (.iload_n 2, 1) := by decide +kernel
theorem dX4_apply_123 : decode cX4_apply 123 = .ok (.invokevirtual 145, 3) := by decide +kernel
theorem dX4_apply_126 : decode cX4_apply 126 = .ok (.invokevirtual 148, 3) := by decide +kernel
theorem dX4_apply_129 : decode cX4_apply 129 = .ok (.aload_n 0, 1) := by decide +kernel
theorem dX4_apply_130 : decode cX4_apply 130 = .ok (.aload_n 0, 1) := by decide +kernel
theorem dX4_apply_131 : decode cX4_apply 131 = .ok (.getfield 19, 3) := by decide +kernel
theorem dX4_apply_134 : decode cX4_apply 134 = .ok (.invokevirtual 151, 3) := by decide +kernel
theorem dX4_apply_137 : decode cX4_apply 137 = .ok (.aload_n 0, 1) := by decide +kernel
theorem dX4_apply_138 : decode cX4_apply 138 = .ok (.getfield 10, 3) := by decide +kernel
theorem dX4_apply_141 : decode cX4_apply 141 = .ok (.invokevirtual 60, 3) := by decide +kernel
theorem dX4_apply_144 : decode cX4_apply 144 = .ok (.invokevirtual 75, 3) := by decide +kernel
theorem dX4_apply_147 : decode cX4_apply 147 = .ok (.ireturn, 1) := by decide +kernel
set_option maxRecDepth 20000 in
theorem ggX4_abstraction_X4_requireTerm : GoodIn wsX4_abstraction wsX4_requireTerm := goodIn_ca (goodIn_r _ [7, 8, 9, 2, 10, 11, 12, 13, 14, 15, 172, 173, 174, 175, 176, 177, 178, 179, 180, 181, 182, 183, 184, 185, 186] (by decide +kernel) (by decide +kernel)) (goodIn_sub (fun _ h => List.mem_cons_of_mem _ (List.mem_append_left _ (List.mem_append_left _ (List.mem_append_right _ h)))) (by decide +kernel))
set_option maxRecDepth 20000 in
theorem gX4_abstraction_X4_requireTerm : GoodIn wsX4_abstraction (wsV RX4 118 RX4 yX4_requireTerm wsX4_requireTerm) := goodIn_app (goodIn_of _ (by decide +kernel)) ggX4_abstraction_X4_requireTerm
set_option maxRecDepth 20000 in
theorem ggX4_abstraction_X4_requireFree : GoodIn wsX4_abstraction wsX4_requireFree := goodIn_ca (goodIn_r _ [19, 20, 21, 2, 22, 23, 24, 13, 25, 26, 27, 28, 29, 30, 31, 6, 32, 33, 34, 35, 36, 37, 38, 39, 40, 172, 173, 174, 175, 176, 177, 178, 179, 180, 181, 182, 183, 184, 185, 186] (by decide +kernel) (by decide +kernel)) (goodIn_sub (fun _ h => List.mem_cons_of_mem _ (List.mem_append_left _ (List.mem_append_right _ h))) (by decide +kernel))
set_option maxRecDepth 20000 in
theorem gX4_abstraction_X4_requireFree : GoodIn wsX4_abstraction (wsV RX4 153 RX4 yX4_requireFree wsX4_requireFree) := goodIn_app (goodIn_of _ (by decide +kernel)) ggX4_abstraction_X4_requireFree
set_option maxRecDepth 20000 in
theorem ggX4_abstraction_X2_count : GoodIn wsX4_abstraction wsX2_count := goodIn_r _ [45, 46, 187, 188, 189, 190, 191, 192, 193, 194, 195, 196, 197, 198, 199, 200] (by decide +kernel) (by decide +kernel)
set_option maxRecDepth 20000 in
theorem gX4_abstraction_X2_count : GoodIn wsX4_abstraction (wsV RX4 60 RX2 yX2_count wsX2_count) := goodIn_app (goodIn_of _ (by decide +kernel)) ggX4_abstraction_X2_count
set_option maxRecDepth 20000 in
theorem ggX4_abstraction_X1_rootType : GoodIn wsX4_abstraction wsX1_rootType := goodIn_r _ [50, 26, 27, 28, 13, 29, 30, 31, 6, 32, 51, 52, 53, 54, 55, 179, 180, 181, 182, 183, 184, 185, 186] (by decide +kernel) (by decide +kernel)
set_option maxRecDepth 20000 in
theorem gX4_abstraction_X1_rootType : GoodIn wsX4_abstraction (wsV RX4 121 RX1 yX1_rootType wsX1_rootType) := goodIn_app (goodIn_of _ (by decide +kernel)) ggX4_abstraction_X1_rootType
set_option maxRecDepth 20000 in
theorem ggX4_abstraction_X2_made : GoodIn wsX4_abstraction wsX2_made := goodIn_r _ [59, 60, 61, 62, 63, 46, 64, 65, 66, 67, 68, 69, 70, 71, 72, 73, 44, 74, 31, 6, 32, 75, 76, 77, 78, 79, 80, 81, 82, 83, 84, 85, 187, 188, 189, 190, 191, 192, 193, 194, 195, 196, 197, 198, 199, 200] (by decide +kernel) (by decide +kernel)
set_option maxRecDepth 20000 in
theorem gX4_abstraction_X2_made : GoodIn wsX4_abstraction (wsV RX4 68 RX2 yX2_made wsX2_made) := goodIn_app (goodIn_of _ (by decide +kernel)) ggX4_abstraction_X2_made
set_option maxRecDepth 20000 in
theorem ggX4_abstraction_X1_begin : GoodIn wsX4_abstraction wsX1_begin := goodIn_r _ [89, 15, 90, 91, 26, 27, 28, 13, 29, 30, 31, 6, 32, 179, 180, 181, 182, 183, 184, 185, 186] (by decide +kernel) (by decide +kernel)
set_option maxRecDepth 20000 in
theorem gX4_abstraction_X1_begin : GoodIn wsX4_abstraction (wsV RX4 132 RX1 yX1_begin wsX1_begin) := goodIn_app (goodIn_of _ (by decide +kernel)) ggX4_abstraction_X1_begin
set_option maxRecDepth 20000 in
theorem ggX4_abstraction_X1_add : GoodIn wsX4_abstraction wsX1_add := goodIn_r _ [95, 91, 37, 90, 55, 96, 97, 98, 13, 99, 15, 26, 27, 28, 29, 30, 31, 6, 32, 179, 180, 181, 182, 183, 184, 185, 186] (by decide +kernel) (by decide +kernel)
set_option maxRecDepth 20000 in
theorem gX4_abstraction_X1_add : GoodIn wsX4_abstraction (wsV RX4 138 RX1 yX1_add wsX1_add) := goodIn_app (goodIn_of _ (by decide +kernel)) ggX4_abstraction_X1_add
set_option maxRecDepth 20000 in
theorem ggX4_abstraction_X1_addBinding : GoodIn wsX4_abstraction wsX1_addBinding := goodIn_r _ [103, 104, 105, 106, 107, 108, 109, 110, 111, 112, 113, 26, 27, 28, 13, 29, 30, 31, 6, 32, 114, 115, 116, 117, 118, 119, 120, 121, 33, 34, 35, 36, 37, 122, 23, 24, 25, 51, 52, 53, 54, 55, 123, 48, 49, 50, 124, 125, 126, 127, 128, 129, 130, 93, 94, 95, 91, 90, 96, 97, 98, 99, 15, 131, 132, 133, 134, 135, 136, 137, 138, 139, 140, 141, 142, 143, 144, 179, 180, 181, 182, 183, 184, 185, 186, 201, 202, 203, 204, 205, 206] (by decide +kernel) (by decide +kernel)
set_option maxRecDepth 20000 in
theorem gX4_abstraction_X1_addBinding : GoodIn wsX4_abstraction (wsV RX4 156 RX1 yX1_addBinding wsX1_addBinding) := goodIn_app (goodIn_of _ (by decide +kernel)) ggX4_abstraction_X1_addBinding
set_option maxRecDepth 20000 in
theorem ggX4_abstraction_X1_keep : GoodIn wsX4_abstraction wsX1_keep := goodIn_r _ [148, 91, 15, 90, 149, 30, 26, 27, 28, 13, 29, 31, 6, 32, 150, 151, 152, 153, 104, 154, 61, 62, 63, 105, 106, 107, 108, 109, 110, 111, 112, 113, 155, 156, 157, 158, 33, 34, 35, 36, 37, 131, 132, 133, 134, 135, 136, 137, 138, 139, 140, 141, 142, 143, 144, 179, 180, 181, 182, 183, 184, 185, 186, 201, 202, 203, 204, 205, 206] (by decide +kernel) (by decide +kernel)
set_option maxRecDepth 20000 in
theorem gX4_abstraction_X1_keep : GoodIn wsX4_abstraction (wsV RX4 151 RX1 yX1_keep wsX1_keep) := goodIn_app (goodIn_of _ (by decide +kernel)) ggX4_abstraction_X1_keep
set_option maxRecDepth 20000 in
theorem ggX4_abstraction_X4_settled : GoodIn wsX4_abstraction wsX4_settled := goodIn_ca (goodIn_r _ [162, 163, 164, 1, 165, 166, 167, 44, 168, 46, 169, 170, 62, 171, 70, 64, 65, 66, 69, 83, 84, 85, 172, 173, 174, 175, 176, 177, 178, 187, 188, 189, 190, 191, 192, 193, 194, 195, 196, 197, 198, 199, 200] (by decide +kernel) (by decide +kernel)) (goodIn_sub (fun _ h => List.mem_cons_of_mem _ (List.mem_append_right _ h)) (by decide +kernel))
set_option maxRecDepth 20000 in
theorem gX4_abstraction_X4_settled : GoodIn wsX4_abstraction (wsV RX4 75 RX4 yX4_settled wsX4_settled) := goodIn_app (goodIn_of _ (by decide +kernel)) ggX4_abstraction_X4_settled
theorem dX4_abstraction_0 : decode cX4_abstraction 0 = .ok (.aload_n 0, 1) := by decide +kernel
theorem dX4_abstraction_1 : decode cX4_abstraction 1 = .ok (.iload_n 1, 1) := by decide +kernel
theorem dX4_abstraction_2 : decode cX4_abstraction 2 = .ok (.invokevirtual 118, 3) := by decide +kernel
theorem dX4_abstraction_5 : decode cX4_abstraction 5 = .ok (.aload_n 0, 1) := by decide +kernel
theorem dX4_abstraction_6 : decode cX4_abstraction 6 = .ok (.iload_n 2, 1) := by decide +kernel
theorem dX4_abstraction_7 : decode cX4_abstraction 7 = .ok (.invokevirtual 118, 3) := by decide +kernel
theorem dX4_abstraction_10 : decode cX4_abstraction 10 = .ok (.aload_n 0, 1) := by decide +kernel
theorem dX4_abstraction_11 : decode cX4_abstraction 11 = .ok (.iload_n 1, 1) := by decide +kernel
theorem dX4_abstraction_12 : decode cX4_abstraction 12 = .ok (.invokevirtual 153, 3) := by decide +kernel
theorem dX4_abstraction_15 : decode cX4_abstraction 15 = .ok (.aload_n 0, 1) := by decide +kernel
theorem dX4_abstraction_16 : decode cX4_abstraction 16 = .ok (.getfield 10, 3) := by decide +kernel
theorem dX4_abstraction_19 : decode cX4_abstraction 19 = .ok (.invokevirtual 60, 3) := by decide +kernel
theorem dX4_abstraction_22 : decode cX4_abstraction 22 = .ok (.istore_n 3, 1) := by decide +kernel
theorem dX4_abstraction_23 : decode cX4_abstraction 23 = .ok (.aload_n 0, 1) := by decide +kernel
theorem dX4_abstraction_24 : decode cX4_abstraction 24 = .ok (.getfield 10, 3) := by decide +kernel
theorem dX4_abstraction_27 : decode cX4_abstraction 27 = .ok (.iconst 2, 1) := by decide +kernel
theorem dX4_abstraction_28 : decode cX4_abstraction 28 = .ok (.aload_n 0, 1) := by decide +kernel
theorem dX4_abstraction_29 : decode cX4_abstraction 29 = .ok (.getfield 19, 3) := by decide +kernel
theorem dX4_abstraction_32 : decode cX4_abstraction 32 = .ok (.iload_n 1, 1) := by decide +kernel
theorem dX4_abstraction_33 : decode cX4_abstraction 33 = .ok (.invokevirtual 121, 3) := by decide +kernel
theorem dX4_abstraction_36 : decode cX4_abstraction 36 = .ok (.aload_n 0, 1) := by decide +kernel
theorem dX4_abstraction_37 : decode cX4_abstraction 37 = .ok (.getfield 19, 3) := by decide +kernel
theorem dX4_abstraction_40 : decode cX4_abstraction 40 = .ok (.iload_n 2, 1) := by decide +kernel
theorem dX4_abstraction_41 : decode cX4_abstraction 41 = .ok (.invokevirtual 121, 3) := by decide +kernel
theorem dX4_abstraction_44 : decode cX4_abstraction 44 = .ok (.invokevirtual 68, 3) := by decide +kernel
theorem dX4_abstraction_47 : decode cX4_abstraction 47 = .ok (.istore 4, 2) := by decide +kernel
theorem dX4_abstraction_49 : decode cX4_abstraction 49 = .ok (.aload_n 0, 1) := by decide +kernel
theorem dX4_abstraction_50 : decode cX4_abstraction 50 = .ok (.getfield 19, 3) := by decide +kernel
theorem dX4_abstraction_53 : decode cX4_abstraction 53 = .ok (.invokevirtual 132, 3) := by decide +kernel
theorem dX4_abstraction_56 : decode cX4_abstraction 56 = .ok (.aload_n 0, 1) := by decide +kernel
theorem dX4_abstraction_57 : decode cX4_abstraction 57 = .ok (.getfield 19, 3) := by decide +kernel
theorem dX4_abstraction_60 : decode cX4_abstraction 60 = .ok (.bipush (-2), 2) := by decide +kernel
theorem dX4_abstraction_62 : decode cX4_abstraction 62 = .ok (.iload 4, 2) := by decide +kernel
theorem dX4_abstraction_64 : decode cX4_abstraction 64 = .ok (.invokevirtual 138, 3) := by decide +kernel
theorem dX4_abstraction_67 : decode cX4_abstraction 67 = .ok (.aload_n 0, 1) := by decide +kernel
theorem dX4_abstraction_68 : decode cX4_abstraction 68 = .ok (.getfield 19, 3) := by decide +kernel
theorem dX4_abstraction_71 : decode cX4_abstraction 71 = .ok (.iload_n 1, 1) := by decide +kernel
theorem dX4_abstraction_72 : decode cX4_abstraction 72 = .ok (.iload_n 2, 1) := by decide +kernel
theorem dX4_abstraction_73 : decode cX4_abstraction 73 = .ok (.invokevirtual 156, 3) := by decide +kernel
theorem dX4_abstraction_76 : decode cX4_abstraction 76 = .ok (.aload_n 0, 1) := by decide +kernel
theorem dX4_abstraction_77 : decode cX4_abstraction 77 = .ok (.iload 4, 2) := by decide +kernel
theorem dX4_abstraction_79 : decode cX4_abstraction 79 = .ok (.iconst (-1), 1) := by decide +kernel
theorem dX4_abstraction_80 : decode cX4_abstraction 80 = .ok (.if_icmp .ne 7, 3) := by decide +kernel
theorem dX4_abstraction_83 : decode cX4_abstraction 83 = .ok (.iconst (-1), 1) := by decide +kernel
theorem dX4_abstraction_84 : decode cX4_abstraction 84 = .ok (.goto 10, 3) := by decide +kernel
theorem dX4_abstraction_87 : decode cX4_abstraction 87 = .ok (.aload_n 0, 1) := by decide +kernel
theorem dX4_abstraction_88 : decode cX4_abstraction 88 = .ok (.getfield 19, 3) := by decide +kernel
theorem dX4_abstraction_91 : decode cX4_abstraction 91 = .ok (.invokevirtual 151, 3) := by decide +kernel
theorem dX4_abstraction_94 : decode cX4_abstraction 94 = .ok (.iload_n 3, 1) := by decide +kernel
theorem dX4_abstraction_95 : decode cX4_abstraction 95 = .ok (.invokevirtual 75, 3) := by decide +kernel
theorem dX4_abstraction_98 : decode cX4_abstraction 98 = .ok (.ireturn, 1) := by decide +kernel
set_option maxRecDepth 20000 in
theorem ggX4_part_X4_requireTerm : GoodIn wsX4_part wsX4_requireTerm := goodIn_ca (goodIn_r _ [9, 10, 11, 3, 12, 13, 14, 15, 16, 17, 142, 143, 144, 145, 146, 147, 148, 149, 150, 151, 152, 153, 154, 155, 156] (by decide +kernel) (by decide +kernel)) (goodIn_sub (fun _ h => List.mem_cons_of_mem _ (List.mem_append_left _ (List.mem_append_right _ h))) (by decide +kernel))
set_option maxRecDepth 20000 in
theorem gX4_part_X4_requireTerm : GoodIn wsX4_part (wsV RX4 118 RX4 yX4_requireTerm wsX4_requireTerm) := goodIn_app (goodIn_of _ (by decide +kernel)) ggX4_part_X4_requireTerm
set_option maxRecDepth 20000 in
theorem ggX4_part_X1_root : GoodIn wsX4_part wsX1_root := goodIn_r _ [21, 22, 23, 24, 15, 25, 26, 27, 8, 28, 29, 30, 31, 32, 33, 149, 150, 151, 152, 153, 154, 155, 156] (by decide +kernel) (by decide +kernel)
set_option maxRecDepth 20000 in
theorem gX4_part_X1_root : GoodIn wsX4_part (wsV RX4 159 RX1 yX1_root wsX1_root) := goodIn_app (goodIn_of _ (by decide +kernel)) ggX4_part_X1_root
set_option maxRecDepth 20000 in
theorem ggX4_part_X1_start : GoodIn wsX4_part wsX1_start := goodIn_r _ [25, 26, 27, 8, 28, 149, 150, 151, 152, 153, 154, 155, 156] (by decide +kernel) (by decide +kernel)
set_option maxRecDepth 20000 in
theorem gX4_part_X1_start : GoodIn wsX4_part (wsV RX4 142 RX1 yX1_start wsX1_start) := goodIn_app (goodIn_of _ (by decide +kernel)) ggX4_part_X1_start
set_option maxRecDepth 20000 in
theorem ggX4_part_X1_endOfClosed : GoodIn wsX4_part wsX1_endOfClosed := goodIn_r _ [38, 39, 17, 40, 41, 42, 43, 44, 45, 46, 47, 48, 22, 23, 24, 15, 25, 26, 27, 8, 28, 29, 30, 31, 32, 33, 49, 50, 51, 52, 53, 54, 55, 56, 57, 58, 59, 60, 61, 62, 63, 64, 65, 66, 67, 68, 69, 70, 71, 72, 73, 74, 149, 150, 151, 152, 153, 154, 155, 156, 157, 158, 159, 160, 161, 162] (by decide +kernel) (by decide +kernel)
set_option maxRecDepth 20000 in
theorem gX4_part_X1_endOfClosed : GoodIn wsX4_part (wsV RX4 166 RX1 yX1_endOfClosed wsX1_endOfClosed) := goodIn_app (goodIn_of _ (by decide +kernel)) ggX4_part_X1_endOfClosed
set_option maxRecDepth 20000 in
theorem ggX4_part_X1_begin : GoodIn wsX4_part wsX1_begin := goodIn_r _ [78, 17, 79, 80, 22, 23, 24, 15, 25, 26, 27, 8, 28, 149, 150, 151, 152, 153, 154, 155, 156] (by decide +kernel) (by decide +kernel)
set_option maxRecDepth 20000 in
theorem gX4_part_X1_begin : GoodIn wsX4_part (wsV RX4 132 RX1 yX1_begin wsX1_begin) := goodIn_app (goodIn_of _ (by decide +kernel)) ggX4_part_X1_begin
set_option maxRecDepth 20000 in
theorem ggX4_part_X1_end : GoodIn wsX4_part wsX1_end := goodIn_r _ [84, 26, 27, 8, 28, 149, 150, 151, 152, 153, 154, 155, 156] (by decide +kernel) (by decide +kernel)
set_option maxRecDepth 20000 in
theorem gX4_part_X1_end : GoodIn wsX4_part (wsV RX4 145 RX1 yX1_end wsX1_end) := goodIn_app (goodIn_of _ (by decide +kernel)) ggX4_part_X1_end
set_option maxRecDepth 20000 in
theorem ggX4_part_X1_copy : GoodIn wsX4_part wsX1_copy := goodIn_r _ [88, 80, 79, 33, 89, 90, 91, 92, 93, 94, 95, 96, 15, 97, 17, 22, 23, 24, 25, 26, 27, 8, 28, 149, 150, 151, 152, 153, 154, 155, 156] (by decide +kernel) (by decide +kernel)
set_option maxRecDepth 20000 in
theorem gX4_part_X1_copy : GoodIn wsX4_part (wsV RX4 148 RX1 yX1_copy wsX1_copy) := goodIn_app (goodIn_of _ (by decide +kernel)) ggX4_part_X1_copy
set_option maxRecDepth 20000 in
theorem ggX4_part_X1_keep : GoodIn wsX4_part wsX1_keep := goodIn_r _ [101, 80, 17, 79, 102, 26, 22, 23, 24, 15, 25, 27, 8, 28, 103, 104, 105, 106, 39, 107, 108, 109, 110, 40, 41, 42, 43, 44, 45, 46, 47, 48, 111, 112, 113, 114, 29, 30, 31, 32, 33, 57, 58, 59, 60, 61, 62, 63, 64, 65, 66, 67, 68, 69, 70, 149, 150, 151, 152, 153, 154, 155, 156, 157, 158, 159, 160, 161, 162] (by decide +kernel) (by decide +kernel)
set_option maxRecDepth 20000 in
theorem gX4_part_X1_keep : GoodIn wsX4_part (wsV RX4 151 RX1 yX1_keep wsX1_keep) := goodIn_app (goodIn_of _ (by decide +kernel)) ggX4_part_X1_keep
set_option maxRecDepth 20000 in
theorem ggX4_part_X2_count : GoodIn wsX4_part wsX2_count := goodIn_r _ [119, 120, 163, 164, 165, 166, 167, 168, 169, 170, 171, 172, 173, 174, 175, 176] (by decide +kernel) (by decide +kernel)
set_option maxRecDepth 20000 in
theorem gX4_part_X2_count : GoodIn wsX4_part (wsV RX4 60 RX2 yX2_count wsX2_count) := goodIn_app (goodIn_of _ (by decide +kernel)) ggX4_part_X2_count
set_option maxRecDepth 20000 in
theorem ggX4_part_X4_settled : GoodIn wsX4_part wsX4_settled := goodIn_ca (goodIn_r _ [124, 125, 126, 4, 127, 128, 129, 118, 130, 120, 131, 132, 109, 133, 134, 135, 136, 137, 138, 139, 140, 141, 142, 143, 144, 145, 146, 147, 148, 163, 164, 165, 166, 167, 168, 169, 170, 171, 172, 173, 174, 175, 176] (by decide +kernel) (by decide +kernel)) (goodIn_sub (fun _ h => List.mem_cons_of_mem _ (List.mem_append_right _ h)) (by decide +kernel))
set_option maxRecDepth 20000 in
theorem gX4_part_X4_settled : GoodIn wsX4_part (wsV RX4 75 RX4 yX4_settled wsX4_settled) := goodIn_app (goodIn_of _ (by decide +kernel)) ggX4_part_X4_settled
theorem dX4_part_0 : decode cX4_part 0 = .ok (.aload_n 0, 1) := by decide +kernel
theorem dX4_part_1 : decode cX4_part 1 = .ok (.iload_n 1, 1) := by decide +kernel
theorem dX4_part_2 : decode cX4_part 2 = .ok (.invokevirtual 118, 3) := by decide +kernel
theorem dX4_part_5 : decode cX4_part 5 = .ok (.aload_n 0, 1) := by decide +kernel
theorem dX4_part_6 : decode cX4_part 6 = .ok (.getfield 19, 3) := by decide +kernel
theorem dX4_part_9 : decode cX4_part 9 = .ok (.iload_n 1, 1) := by decide +kernel
theorem dX4_part_10 : decode cX4_part 10 = .ok (.invokevirtual 159, 3) := by decide +kernel
theorem dX4_part_13 : decode cX4_part 13 = .ok (.iconst (-1), 1) := by decide +kernel
theorem dX4_part_14 : decode cX4_part 14 = .ok (.if_icmp .eq 13, 3) := by decide +kernel
theorem dX4_part_17 : decode cX4_part 17 = .ok (.new 44, 3) := by decide +kernel
theorem dX4_part_20 : decode cX4_part 20 = .ok (.dup, 1) := by decide +kernel
theorem dX4_part_21 : decode cX4_part 21 = .ok (.ldc 162, 2) := by decide +kernel
theorem dX4_part_23 : decode cX4_part 23 = .ok (.invokespecial 48, 3) := by decide +kernel
theorem dX4_part_26 : decode cX4_part 26 = .ok (.athrow, 1) := by decide +kernel
theorem dX4_part_27 : decode cX4_part 27 = .ok (.iload_n 2, 1) := by decide +kernel
theorem dX4_part_28 : decode cX4_part 28 = .ok (.ifCond .eq 18, 3) := by decide +kernel
theorem dX4_part_31 : decode cX4_part 31 = .ok (.iload_n 2, 1) := by decide +kernel
theorem dX4_part_32 : decode cX4_part 32 = .ok (.iconst 1, 1) := by decide +kernel
theorem dX4_part_33 : decode cX4_part 33 = .ok (.if_icmp .eq 13, 3) := by decide +kernel
theorem dX4_part_36 : decode cX4_part 36 = .ok (.new 44, 3) := by decide +kernel
theorem dX4_part_39 : decode cX4_part 39 = .ok (.dup, 1) := by decide +kernel
theorem dX4_part_40 : decode cX4_part 40 = .ok (.ldc 164, 2) := by decide +kernel
theorem dX4_part_42 : decode cX4_part 42 = .ok (.invokespecial 48, 3) := by decide +kernel
theorem dX4_part_45 : decode cX4_part 45 = .ok (.athrow, 1) := by decide +kernel
theorem dX4_part_46 : decode cX4_part 46 = .ok (.aload_n 0, 1) := by decide +kernel
theorem dX4_part_47 : decode cX4_part 47 = .ok (.getfield 19, 3) := by decide +kernel
theorem dX4_part_50 : decode cX4_part 50 = .ok (.iload_n 1, 1) := by decide +kernel
theorem dX4_part_51 : decode cX4_part 51 = .ok (.invokevirtual 142, 3) := by decide +kernel
theorem dX4_part_54 : decode cX4_part 54 = .ok (.iconst 1, 1) := by decide +kernel
theorem dX4_part_55 : decode cX4_part 55 = .ok (.iadd, 1) := by decide +kernel
theorem dX4_part_56 : decode cX4_part 56 = .ok (.istore_n 3, 1) := by decide +kernel
theorem dX4_part_57 : decode cX4_part 57 = .ok (.aload_n 0, 1) := by decide +kernel
theorem dX4_part_58 : decode cX4_part 58 = .ok (.getfield 19, 3) := by decide +kernel
theorem dX4_part_61 : decode cX4_part 61 = .ok (.iload_n 3, 1) := by decide +kernel
theorem dX4_part_62 : decode cX4_part 62 = .ok (.invokevirtual 166, 3) := by decide +kernel
theorem dX4_part_65 : decode cX4_part 65 = .ok (.istore 4, 2) := by decide +kernel
theorem dX4_part_67 : decode cX4_part 67 = .ok (.aload_n 0, 1) := by decide +kernel
theorem dX4_part_68 : decode cX4_part 68 = .ok (.getfield 19, 3) := by decide +kernel
theorem dX4_part_71 : decode cX4_part 71 = .ok (.invokevirtual 132, 3) := by decide +kernel
theorem dX4_part_74 : decode cX4_part 74 = .ok (.aload_n 0, 1) := by decide +kernel
theorem dX4_part_75 : decode cX4_part 75 = .ok (.getfield 19, 3) := by decide +kernel
theorem dX4_part_78 : decode cX4_part 78 = .ok (.iload_n 2, 1) := by decide +kernel
theorem dX4_part_79 : decode cX4_part 79 = .ok (.ifCond .ne 7, 3) := by decide +kernel
theorem dX4_part_82 : decode cX4_part 82 = .ok (.iload_n 3, 1) := by decide +kernel
theorem dX4_part_83 : decode cX4_part 83 = .ok (.goto 5, 3) := by decide +kernel
theorem dX4_part_86 : decode cX4_part 86 = .ok (.iload 4, 2) := by decide +kernel
theorem dX4_part_88 : decode cX4_part 88 = .ok (.iload_n 2, 1) := by decide +kernel
theorem dX4_part_89 : decode cX4_part 89 = .ok (.ifCond .ne 8, 3) := by decide +kernel
theorem dX4_part_92 : decode cX4_part 92 = .ok (.iload 4, 2) := by decide +kernel
theorem dX4_part_94 : decode cX4_part 94 = .ok (.goto 11, 3) := by decide +kernel
theorem dX4_part_97 : decode cX4_part 97 = .ok (.aload_n 0, 1) := by decide +kernel
theorem dX4_part_98 : decode cX4_part 98 = .ok (.getfield 19, 3) := by decide +kernel
theorem dX4_part_101 : decode cX4_part 101 = .ok (.iload_n 1, 1) := by decide +kernel
theorem dX4_part_102 : decode cX4_part 102 = .ok (.invokevirtual 145, 3) := by decide +kernel
theorem dX4_part_105 : decode cX4_part 105 = .ok (.invokevirtual 148, 3) := by decide +kernel
theorem dX4_part_108 : decode cX4_part 108 = .ok (.aload_n 0, 1) := by decide +kernel
theorem dX4_part_109 : decode cX4_part 109 = .ok (.aload_n 0, 1) := by decide +kernel
theorem dX4_part_110 : decode cX4_part 110 = .ok (.getfield 19, 3) := by decide +kernel
theorem dX4_part_113 : decode cX4_part 113 = .ok (.invokevirtual 151, 3) := by decide +kernel
theorem dX4_part_116 : decode cX4_part 116 = .ok (.aload_n 0, 1) := by decide +kernel
theorem dX4_part_117 : decode cX4_part 117 = .ok (.getfield 10, 3) := by decide +kernel
theorem dX4_part_120 : decode cX4_part 120 = .ok (.invokevirtual 60, 3) := by decide +kernel
theorem dX4_part_123 : decode cX4_part 123 = .ok (.invokevirtual 75, 3) := by decide +kernel
theorem dX4_part_126 : decode cX4_part 126 = .ok (.ireturn, 1) := by decide +kernel
set_option maxRecDepth 20000 in
theorem ggX4_open_X4_requireTerm : GoodIn wsX4_open wsX4_requireTerm := goodIn_ca (goodIn_r _ [9, 10, 11, 3, 12, 13, 14, 15, 16, 17, 155, 156, 157, 158, 159, 160, 161, 162, 163, 164, 165, 166, 167, 168, 169] (by decide +kernel) (by decide +kernel)) (goodIn_sub (fun _ h => List.mem_cons_of_mem _ (List.mem_append_left _ (List.mem_append_right _ h))) (by decide +kernel))
set_option maxRecDepth 20000 in
theorem gX4_open_X4_requireTerm : GoodIn wsX4_open (wsV RX4 118 RX4 yX4_requireTerm wsX4_requireTerm) := goodIn_app (goodIn_of _ (by decide +kernel)) ggX4_open_X4_requireTerm
set_option maxRecDepth 20000 in
theorem ggX4_open_X1_root : GoodIn wsX4_open wsX1_root := goodIn_r _ [21, 22, 23, 24, 15, 25, 26, 27, 8, 28, 29, 30, 31, 32, 33, 162, 163, 164, 165, 166, 167, 168, 169] (by decide +kernel) (by decide +kernel)
set_option maxRecDepth 20000 in
theorem gX4_open_X1_root : GoodIn wsX4_open (wsV RX4 159 RX1 yX1_root wsX1_root) := goodIn_app (goodIn_of _ (by decide +kernel)) ggX4_open_X1_root
set_option maxRecDepth 20000 in
theorem ggX4_open_X1_rootType : GoodIn wsX4_open wsX1_rootType := goodIn_r _ [37, 22, 23, 24, 15, 25, 26, 27, 8, 28, 38, 39, 40, 41, 42, 162, 163, 164, 165, 166, 167, 168, 169] (by decide +kernel) (by decide +kernel)
set_option maxRecDepth 20000 in
theorem gX4_open_X1_rootType : GoodIn wsX4_open (wsV RX4 121 RX1 yX1_rootType wsX1_rootType) := goodIn_app (goodIn_of _ (by decide +kernel)) ggX4_open_X1_rootType
set_option maxRecDepth 20000 in
theorem ggX4_open_X2_first : GoodIn wsX4_open wsX2_first := goodIn_r _ [47, 48, 27, 8, 28, 170, 171, 172, 173, 174, 175, 176, 177, 178, 179, 180, 181, 182, 183] (by decide +kernel) (by decide +kernel)
set_option maxRecDepth 20000 in
theorem gX4_open_X2_first : GoodIn wsX4_open (wsV RX4 127 RX2 yX2_first wsX2_first) := goodIn_app (goodIn_of _ (by decide +kernel)) ggX4_open_X2_first
set_option maxRecDepth 20000 in
theorem ggX4_open_X1_begin : GoodIn wsX4_open wsX1_begin := goodIn_r _ [52, 17, 53, 54, 22, 23, 24, 15, 25, 26, 27, 8, 28, 162, 163, 164, 165, 166, 167, 168, 169] (by decide +kernel) (by decide +kernel)
set_option maxRecDepth 20000 in
theorem gX4_open_X1_begin : GoodIn wsX4_open (wsV RX4 132 RX1 yX1_begin wsX1_begin) := goodIn_app (goodIn_of _ (by decide +kernel)) ggX4_open_X1_begin
set_option maxRecDepth 20000 in
theorem ggX4_open_X1_addOpened : GoodIn wsX4_open wsX1_addOpened := goodIn_r _ [58, 59, 60, 61, 62, 63, 64, 65, 66, 67, 68, 22, 23, 24, 15, 25, 26, 27, 8, 28, 69, 70, 71, 72, 29, 30, 31, 32, 33, 73, 74, 75, 76, 77, 78, 79, 80, 81, 82, 83, 84, 85, 86, 54, 53, 87, 88, 89, 90, 42, 91, 92, 93, 94, 17, 38, 39, 40, 41, 95, 96, 97, 98, 99, 100, 101, 102, 103, 104, 105, 106, 107, 108, 109, 110, 111, 112, 162, 163, 164, 165, 166, 167, 168, 169, 184, 185, 186, 187, 188, 189] (by decide +kernel) (by decide +kernel)
set_option maxRecDepth 20000 in
theorem gX4_open_X1_addOpened : GoodIn wsX4_open (wsV RX4 173 RX1 yX1_addOpened wsX1_addOpened) := goodIn_app (goodIn_of _ (by decide +kernel)) ggX4_open_X1_addOpened
set_option maxRecDepth 20000 in
theorem ggX4_open_X1_keep : GoodIn wsX4_open wsX1_keep := goodIn_r _ [116, 54, 17, 53, 117, 26, 22, 23, 24, 15, 25, 27, 8, 28, 118, 119, 120, 121, 59, 122, 123, 124, 125, 60, 61, 62, 63, 64, 65, 66, 67, 68, 126, 127, 128, 129, 29, 30, 31, 32, 33, 99, 100, 101, 102, 103, 104, 105, 106, 107, 108, 109, 110, 111, 112, 162, 163, 164, 165, 166, 167, 168, 169, 184, 185, 186, 187, 188, 189] (by decide +kernel) (by decide +kernel)
set_option maxRecDepth 20000 in
theorem gX4_open_X1_keep : GoodIn wsX4_open (wsV RX4 151 RX1 yX1_keep wsX1_keep) := goodIn_app (goodIn_of _ (by decide +kernel)) ggX4_open_X1_keep
set_option maxRecDepth 20000 in
theorem ggX4_open_X2_count : GoodIn wsX4_open wsX2_count := goodIn_r _ [133, 134, 170, 171, 172, 173, 174, 175, 176, 177, 178, 179, 180, 181, 182, 183] (by decide +kernel) (by decide +kernel)
set_option maxRecDepth 20000 in
theorem gX4_open_X2_count : GoodIn wsX4_open (wsV RX4 60 RX2 yX2_count wsX2_count) := goodIn_app (goodIn_of _ (by decide +kernel)) ggX4_open_X2_count
set_option maxRecDepth 20000 in
theorem ggX4_open_X4_settled : GoodIn wsX4_open wsX4_settled := goodIn_ca (goodIn_r _ [138, 139, 140, 4, 141, 142, 143, 46, 144, 134, 145, 146, 124, 147, 148, 149, 48, 150, 151, 152, 153, 154, 155, 156, 157, 158, 159, 160, 161, 170, 171, 172, 173, 174, 175, 176, 177, 178, 179, 180, 181, 182, 183] (by decide +kernel) (by decide +kernel)) (goodIn_sub (fun _ h => List.mem_cons_of_mem _ (List.mem_append_right _ h)) (by decide +kernel))
set_option maxRecDepth 20000 in
theorem gX4_open_X4_settled : GoodIn wsX4_open (wsV RX4 75 RX4 yX4_settled wsX4_settled) := goodIn_app (goodIn_of _ (by decide +kernel)) ggX4_open_X4_settled
theorem dX4_open_0 : decode cX4_open 0 = .ok (.aload_n 0, 1) := by decide +kernel
theorem dX4_open_1 : decode cX4_open 1 = .ok (.iload_n 1, 1) := by decide +kernel
theorem dX4_open_2 : decode cX4_open 2 = .ok (.invokevirtual 118, 3) := by decide +kernel
theorem dX4_open_5 : decode cX4_open 5 = .ok (.aload_n 0, 1) := by decide +kernel
theorem dX4_open_6 : decode cX4_open 6 = .ok (.iload_n 2, 1) := by decide +kernel
theorem dX4_open_7 : decode cX4_open 7 = .ok (.invokevirtual 118, 3) := by decide +kernel
theorem dX4_open_10 : decode cX4_open 10 = .ok (.aload_n 0, 1) := by decide +kernel
theorem dX4_open_11 : decode cX4_open 11 = .ok (.getfield 19, 3) := by decide +kernel
theorem dX4_open_14 : decode cX4_open 14 = .ok (.iload_n 1, 1) := by decide +kernel
theorem dX4_open_15 : decode cX4_open 15 = .ok (.invokevirtual 159, 3) := by decide +kernel
theorem dX4_open_18 : decode cX4_open 18 = .ok (.bipush (-2), 2) := by decide +kernel
theorem dX4_open_20 : decode cX4_open 20 = .ok (.if_icmp .eq 13, 3) := by decide +kernel
theorem dX4_open_23 : decode cX4_open 23 = .ok (.new 44, 3) := by decide +kernel
theorem dX4_open_26 : decode cX4_open 26 = .ok (.dup, 1) := by decide +kernel
theorem dX4_open_27 : decode cX4_open 27 = .ok (.ldc 169, 2) := by decide +kernel
theorem dX4_open_29 : decode cX4_open 29 = .ok (.invokespecial 48, 3) := by decide +kernel
theorem dX4_open_32 : decode cX4_open 32 = .ok (.athrow, 1) := by decide +kernel
theorem dX4_open_33 : decode cX4_open 33 = .ok (.aload_n 0, 1) := by decide +kernel
theorem dX4_open_34 : decode cX4_open 34 = .ok (.getfield 10, 3) := by decide +kernel
theorem dX4_open_37 : decode cX4_open 37 = .ok (.aload_n 0, 1) := by decide +kernel
theorem dX4_open_38 : decode cX4_open 38 = .ok (.getfield 19, 3) := by decide +kernel
theorem dX4_open_41 : decode cX4_open 41 = .ok (.iload_n 1, 1) := by decide +kernel
theorem dX4_open_42 : decode cX4_open 42 = .ok (.invokevirtual 121, 3) := by decide +kernel
theorem dX4_open_45 : decode cX4_open 45 = .ok (.invokevirtual 127, 3) := by decide +kernel
theorem dX4_open_48 : decode cX4_open 48 = .ok (.aload_n 0, 1) := by decide +kernel
theorem dX4_open_49 : decode cX4_open 49 = .ok (.getfield 19, 3) := by decide +kernel
theorem dX4_open_52 : decode cX4_open 52 = .ok (.iload_n 2, 1) := by decide +kernel
theorem dX4_open_53 : decode cX4_open 53 = .ok (.invokevirtual 121, 3) := by decide +kernel
theorem dX4_open_56 : decode cX4_open 56 = .ok (.if_icmp .eq 13, 3) := by decide +kernel
theorem dX4_open_59 : decode cX4_open 59 = .ok (.new 44, 3) := by decide +kernel
theorem dX4_open_62 : decode cX4_open 62 = .ok (.dup, 1) := by decide +kernel
theorem dX4_open_63 : decode cX4_open 63 = .ok (.ldc 171, 2) := by decide +kernel
theorem dX4_open_65 : decode cX4_open 65 = .ok (.invokespecial 48, 3) := by decide +kernel
theorem dX4_open_68 : decode cX4_open 68 = .ok (.athrow, 1) := by decide +kernel
theorem dX4_open_69 : decode cX4_open 69 = .ok (.aload_n 0, 1) := by decide +kernel
theorem dX4_open_70 : decode cX4_open 70 = .ok (.getfield 19, 3) := by decide +kernel
theorem dX4_open_73 : decode cX4_open 73 = .ok (.invokevirtual 132, 3) := by decide +kernel
theorem dX4_open_76 : decode cX4_open 76 = .ok (.aload_n 0, 1) := by decide +kernel
theorem dX4_open_77 : decode cX4_open 77 = .ok (.getfield 19, 3) := by decide +kernel
theorem dX4_open_80 : decode cX4_open 80 = .ok (.iload_n 1, 1) := by decide +kernel
theorem dX4_open_81 : decode cX4_open 81 = .ok (.iload_n 2, 1) := by decide +kernel
theorem dX4_open_82 : decode cX4_open 82 = .ok (.invokevirtual 173, 3) := by decide +kernel
theorem dX4_open_85 : decode cX4_open 85 = .ok (.aload_n 0, 1) := by decide +kernel
theorem dX4_open_86 : decode cX4_open 86 = .ok (.aload_n 0, 1) := by decide +kernel
theorem dX4_open_87 : decode cX4_open 87 = .ok (.getfield 19, 3) := by decide +kernel
theorem dX4_open_90 : decode cX4_open 90 = .ok (.invokevirtual 151, 3) := by decide +kernel
theorem dX4_open_93 : decode cX4_open 93 = .ok (.aload_n 0, 1) := by decide +kernel
theorem dX4_open_94 : decode cX4_open 94 = .ok (.getfield 10, 3) := by decide +kernel
theorem dX4_open_97 : decode cX4_open 97 = .ok (.invokevirtual 60, 3) := by decide +kernel
theorem dX4_open_100 : decode cX4_open 100 = .ok (.invokevirtual 75, 3) := by decide +kernel
theorem dX4_open_103 : decode cX4_open 103 = .ok (.ireturn, 1) := by decide +kernel
set_option maxRecDepth 20000 in
theorem ggX4_put_X4_requireTerm : GoodIn wsX4_put wsX4_requireTerm := goodIn_ca (goodIn_r _ [9, 10, 11, 3, 12, 13, 14, 15, 16, 17, 158, 159, 160, 161, 162, 163, 164, 165, 166, 167, 168, 169, 170, 171, 172] (by decide +kernel) (by decide +kernel)) (goodIn_sub (fun _ h => List.mem_cons_of_mem _ (List.mem_append_left _ (List.mem_append_right _ h))) (by decide +kernel))
set_option maxRecDepth 20000 in
theorem gX4_put_X4_requireTerm : GoodIn wsX4_put (wsV RX4 118 RX4 yX4_requireTerm wsX4_requireTerm) := goodIn_app (goodIn_of _ (by decide +kernel)) ggX4_put_X4_requireTerm
set_option maxRecDepth 20000 in
theorem ggX4_put_X4_requireFree : GoodIn wsX4_put wsX4_requireFree := goodIn_ca (goodIn_r _ [21, 1, 2, 3, 22, 23, 24, 15, 25, 26, 27, 28, 29, 30, 31, 8, 32, 33, 34, 35, 36, 37, 38, 39, 40, 158, 159, 160, 161, 162, 163, 164, 165, 166, 167, 168, 169, 170, 171, 172] (by decide +kernel) (by decide +kernel)) (goodIn_sub (fun _ h => List.mem_cons_of_mem _ (List.mem_append_left _ (List.mem_append_left _ (List.mem_append_right _ h)))) (by decide +kernel))
set_option maxRecDepth 20000 in
theorem gX4_put_X4_requireFree : GoodIn wsX4_put (wsV RX4 153 RX4 yX4_requireFree wsX4_requireFree) := goodIn_app (goodIn_of _ (by decide +kernel)) ggX4_put_X4_requireFree
set_option maxRecDepth 20000 in
theorem ggX4_put_X1_rootType : GoodIn wsX4_put wsX1_rootType := goodIn_r _ [44, 26, 27, 28, 15, 29, 30, 31, 8, 32, 45, 46, 47, 48, 49, 165, 166, 167, 168, 169, 170, 171, 172] (by decide +kernel) (by decide +kernel)
set_option maxRecDepth 20000 in
theorem gX4_put_X1_rootType : GoodIn wsX4_put (wsV RX4 121 RX1 yX1_rootType wsX1_rootType) := goodIn_app (goodIn_of _ (by decide +kernel)) ggX4_put_X1_rootType
set_option maxRecDepth 20000 in
theorem ggX4_put_X1_begin : GoodIn wsX4_put wsX1_begin := goodIn_r _ [53, 17, 54, 55, 26, 27, 28, 15, 29, 30, 31, 8, 32, 165, 166, 167, 168, 169, 170, 171, 172] (by decide +kernel) (by decide +kernel)
set_option maxRecDepth 20000 in
theorem gX4_put_X1_begin : GoodIn wsX4_put (wsV RX4 132 RX1 yX1_begin wsX1_begin) := goodIn_app (goodIn_of _ (by decide +kernel)) ggX4_put_X1_begin
set_option maxRecDepth 20000 in
theorem ggX4_put_X1_addReplaced : GoodIn wsX4_put wsX1_addReplaced := goodIn_r _ [59, 26, 27, 28, 15, 29, 30, 31, 8, 32, 60, 61, 62, 63, 64, 65, 66, 67, 33, 34, 35, 36, 37, 68, 23, 24, 25, 45, 46, 47, 48, 49, 69, 42, 43, 44, 70, 71, 72, 73, 74, 75, 76, 77, 55, 54, 78, 79, 80, 81, 82, 83, 84, 85, 17, 86, 87, 88, 89, 165, 166, 167, 168, 169, 170, 171, 172] (by decide +kernel) (by decide +kernel)
set_option maxRecDepth 20000 in
theorem gX4_put_X1_addReplaced : GoodIn wsX4_put (wsV RX4 178 RX1 yX1_addReplaced wsX1_addReplaced) := goodIn_app (goodIn_of _ (by decide +kernel)) ggX4_put_X1_addReplaced
set_option maxRecDepth 20000 in
theorem ggX4_put_X1_keep : GoodIn wsX4_put wsX1_keep := goodIn_r _ [93, 55, 17, 54, 94, 30, 26, 27, 28, 15, 29, 31, 8, 32, 95, 96, 97, 98, 99, 100, 101, 102, 103, 104, 105, 106, 107, 108, 109, 110, 111, 112, 113, 114, 115, 116, 33, 34, 35, 36, 37, 117, 118, 119, 120, 121, 122, 123, 124, 125, 126, 127, 128, 129, 130, 165, 166, 167, 168, 169, 170, 171, 172, 173, 174, 175, 176, 177, 178] (by decide +kernel) (by decide +kernel)
set_option maxRecDepth 20000 in
theorem gX4_put_X1_keep : GoodIn wsX4_put (wsV RX4 151 RX1 yX1_keep wsX1_keep) := goodIn_app (goodIn_of _ (by decide +kernel)) ggX4_put_X1_keep
set_option maxRecDepth 20000 in
theorem ggX4_put_X2_count : GoodIn wsX4_put wsX2_count := goodIn_r _ [135, 136, 179, 180, 181, 182, 183, 184, 185, 186, 187, 188, 189, 190, 191, 192] (by decide +kernel) (by decide +kernel)
set_option maxRecDepth 20000 in
theorem gX4_put_X2_count : GoodIn wsX4_put (wsV RX4 60 RX2 yX2_count wsX2_count) := goodIn_app (goodIn_of _ (by decide +kernel)) ggX4_put_X2_count
set_option maxRecDepth 20000 in
theorem ggX4_put_X4_settled : GoodIn wsX4_put wsX4_settled := goodIn_ca (goodIn_r _ [140, 141, 142, 4, 143, 144, 145, 134, 146, 136, 147, 148, 102, 149, 150, 151, 152, 153, 154, 155, 156, 157, 158, 159, 160, 161, 162, 163, 164, 179, 180, 181, 182, 183, 184, 185, 186, 187, 188, 189, 190, 191, 192] (by decide +kernel) (by decide +kernel)) (goodIn_sub (fun _ h => List.mem_cons_of_mem _ (List.mem_append_right _ h)) (by decide +kernel))
set_option maxRecDepth 20000 in
theorem gX4_put_X4_settled : GoodIn wsX4_put (wsV RX4 75 RX4 yX4_settled wsX4_settled) := goodIn_app (goodIn_of _ (by decide +kernel)) ggX4_put_X4_settled
theorem dX4_put_0 : decode cX4_put 0 = .ok (.aload_n 0, 1) := by decide +kernel
theorem dX4_put_1 : decode cX4_put 1 = .ok (.iload_n 1, 1) := by decide +kernel
theorem dX4_put_2 : decode cX4_put 2 = .ok (.invokevirtual 118, 3) := by decide +kernel
theorem dX4_put_5 : decode cX4_put 5 = .ok (.aload_n 0, 1) := by decide +kernel
theorem dX4_put_6 : decode cX4_put 6 = .ok (.iload_n 2, 1) := by decide +kernel
theorem dX4_put_7 : decode cX4_put 7 = .ok (.invokevirtual 118, 3) := by decide +kernel
theorem dX4_put_10 : decode cX4_put 10 = .ok (.aload_n 0, 1) := by decide +kernel
theorem dX4_put_11 : decode cX4_put 11 = .ok (.iload_n 3, 1) := by decide +kernel
theorem dX4_put_12 : decode cX4_put 12 = .ok (.invokevirtual 118, 3) := by decide +kernel
theorem dX4_put_15 : decode cX4_put 15 = .ok (.aload_n 0, 1) := by decide +kernel
theorem dX4_put_16 : decode cX4_put 16 = .ok (.iload_n 2, 1) := by decide +kernel
theorem dX4_put_17 : decode cX4_put 17 = .ok (.invokevirtual 153, 3) := by decide +kernel
theorem dX4_put_20 : decode cX4_put 20 = .ok (.aload_n 0, 1) := by decide +kernel
theorem dX4_put_21 : decode cX4_put 21 = .ok (.getfield 19, 3) := by decide +kernel
theorem dX4_put_24 : decode cX4_put 24 = .ok (.iload_n 2, 1) := by decide +kernel
theorem dX4_put_25 : decode cX4_put 25 = .ok (.invokevirtual 121, 3) := by decide +kernel
theorem dX4_put_28 : decode cX4_put 28 = .ok (.aload_n 0, 1) := by decide +kernel
theorem dX4_put_29 : decode cX4_put 29 = .ok (.getfield 19, 3) := by decide +kernel
theorem dX4_put_32 : decode cX4_put 32 = .ok (.iload_n 3, 1) := by decide +kernel
theorem dX4_put_33 : decode cX4_put 33 = .ok (.invokevirtual 121, 3) := by decide +kernel
theorem dX4_put_36 : decode cX4_put 36 = .ok (.if_icmp .eq 13, 3) := by decide +kernel
theorem dX4_put_39 : decode cX4_put 39 = .ok (.new 44, 3) := by decide +kernel
theorem dX4_put_42 : decode cX4_put 42 = .ok (.dup, 1) := by decide +kernel
theorem dX4_put_43 : decode cX4_put 43 = .ok (.ldc 176, 2) := by decide +kernel
theorem dX4_put_45 : decode cX4_put 45 = .ok (.invokespecial 48, 3) := by decide +kernel
theorem dX4_put_48 : decode cX4_put 48 = .ok (.athrow, 1) := by decide +kernel
theorem dX4_put_49 : decode cX4_put 49 = .ok (.aload_n 0, 1) := by decide +kernel
theorem dX4_put_50 : decode cX4_put 50 = .ok (.getfield 19, 3) := by decide +kernel
theorem dX4_put_53 : decode cX4_put 53 = .ok (.invokevirtual 132, 3) := by decide +kernel
theorem dX4_put_56 : decode cX4_put 56 = .ok (.aload_n 0, 1) := by decide +kernel
theorem dX4_put_57 : decode cX4_put 57 = .ok (.getfield 19, 3) := by decide +kernel
theorem dX4_put_60 : decode cX4_put 60 = .ok (.iload_n 1, 1) := by decide +kernel
theorem dX4_put_61 : decode cX4_put 61 = .ok (.iload_n 2, 1) := by decide +kernel
theorem dX4_put_62 : decode cX4_put 62 = .ok (.iload_n 3, 1) := by decide +kernel
theorem dX4_put_63 : decode cX4_put 63 = .ok (.invokevirtual 178, 3) := by decide +kernel
theorem dX4_put_66 : decode cX4_put 66 = .ok (.aload_n 0, 1) := by decide +kernel
theorem dX4_put_67 : decode cX4_put 67 = .ok (.aload_n 0, 1) := by decide +kernel
theorem dX4_put_68 : decode cX4_put 68 = .ok (.getfield 19, 3) := by decide +kernel
theorem dX4_put_71 : decode cX4_put 71 = .ok (.invokevirtual 151, 3) := by decide +kernel
theorem dX4_put_74 : decode cX4_put 74 = .ok (.aload_n 0, 1) := by decide +kernel
theorem dX4_put_75 : decode cX4_put 75 = .ok (.getfield 10, 3) := by decide +kernel
theorem dX4_put_78 : decode cX4_put 78 = .ok (.invokevirtual 60, 3) := by decide +kernel
theorem dX4_put_81 : decode cX4_put 81 = .ok (.invokevirtual 75, 3) := by decide +kernel
theorem dX4_put_84 : decode cX4_put 84 = .ok (.ireturn, 1) := by decide +kernel
set_option maxRecDepth 20000 in
theorem ggX4_retype_X4_requireTerm : GoodIn wsX4_retype wsX4_requireTerm := goodIn_ca (goodIn_r _ [7, 8, 9, 2, 10, 11, 12, 13, 14, 15, 201, 202, 203, 204, 205, 206, 207, 208, 209, 210, 211, 212, 213, 214, 215] (by decide +kernel) (by decide +kernel)) (goodIn_sub (fun _ h => List.mem_cons_of_mem _ (List.mem_append_left _ (List.mem_append_left _ (List.mem_append_right _ h)))) (by decide +kernel))
set_option maxRecDepth 20000 in
theorem gX4_retype_X4_requireTerm : GoodIn wsX4_retype (wsV RX4 118 RX4 yX4_requireTerm wsX4_requireTerm) := goodIn_app (goodIn_of _ (by decide +kernel)) ggX4_retype_X4_requireTerm
set_option maxRecDepth 20000 in
theorem ggX4_retype_X4_typeBehind : GoodIn wsX4_retype wsX4_typeBehind := goodIn_ca (goodIn_r _ [19, 8, 9, 1, 20, 21, 22, 23, 24, 25, 26, 27, 6, 28, 201, 202, 203, 204, 205, 206, 207, 216, 217, 218, 219, 220, 221, 222, 223, 224, 225, 226, 227, 228, 229] (by decide +kernel) (by decide +kernel)) (goodIn_sub (fun _ h => List.mem_cons_of_mem _ (List.mem_append_left _ (List.mem_append_left _ (List.mem_append_right _ h)))) (by decide +kernel))
set_option maxRecDepth 20000 in
theorem gX4_retype_X4_typeBehind : GoodIn wsX4_retype (wsV RX4 85 RX4 yX4_typeBehind wsX4_typeBehind) := goodIn_app (goodIn_of _ (by decide +kernel)) ggX4_retype_X4_typeBehind
set_option maxRecDepth 20000 in
theorem ggX4_retype_X4_requireNumber : GoodIn wsX4_retype wsX4_requireNumber := goodIn_ca (goodIn_r _ [31, 32, 33] (by decide +kernel) (by decide +kernel)) (goodIn_sub (fun _ h => List.mem_cons_of_mem _ (List.mem_append_left _ (List.mem_append_right _ h))) (by decide +kernel))
set_option maxRecDepth 20000 in
theorem gX4_retype_X4_requireNumber : GoodIn wsX4_retype (va_wsS RX4 56 yX4_requireNumber wsX4_requireNumber) := goodIn_app (goodIn_of _ (by decide +kernel)) ggX4_retype_X4_requireNumber
set_option maxRecDepth 20000 in
theorem ggX4_retype_X2_count : GoodIn wsX4_retype wsX2_count := goodIn_r _ [37, 38, 216, 217, 218, 219, 220, 221, 222, 223, 224, 225, 226, 227, 228, 229] (by decide +kernel) (by decide +kernel)
set_option maxRecDepth 20000 in
theorem gX4_retype_X2_count : GoodIn wsX4_retype (wsV RX4 60 RX2 yX2_count wsX2_count) := goodIn_app (goodIn_of _ (by decide +kernel)) ggX4_retype_X2_count
set_option maxRecDepth 20000 in
theorem ggX4_retype_X2_beginImages : GoodIn wsX4_retype wsX2_beginImages := goodIn_r _ [42, 43, 216, 217, 218, 219, 220, 221, 222, 223, 224, 225, 226, 227, 228, 229] (by decide +kernel) (by decide +kernel)
set_option maxRecDepth 20000 in
theorem gX4_retype_X2_beginImages : GoodIn wsX4_retype (wsV RX4 109 RX2 yX2_beginImages wsX2_beginImages) := goodIn_app (goodIn_of _ (by decide +kernel)) ggX4_retype_X2_beginImages
set_option maxRecDepth 20000 in
theorem ggX4_retype_X4_headOfVariable : GoodIn wsX4_retype wsX4_headOfVariable := goodIn_r _ [46] (by decide +kernel) (by decide +kernel)
set_option maxRecDepth 20000 in
theorem gX4_retype_X4_headOfVariable : GoodIn wsX4_retype (va_wsS RX4 64 yX4_headOfVariable wsX4_headOfVariable) := goodIn_app (goodIn_of _ (by decide +kernel)) ggX4_retype_X4_headOfVariable
set_option maxRecDepth 20000 in
theorem ggX4_retype_X2_find : GoodIn wsX4_retype wsX2_find := goodIn_r _ [50, 51, 38, 52, 53, 54, 55, 56, 57, 23, 58, 27, 6, 28, 216, 217, 218, 219, 220, 221, 222, 223, 224, 225, 226, 227, 228, 229] (by decide +kernel) (by decide +kernel)
set_option maxRecDepth 20000 in
theorem gX4_retype_X2_find : GoodIn wsX4_retype (wsV RX4 182 RX2 yX2_find wsX2_find) := goodIn_app (goodIn_of _ (by decide +kernel)) ggX4_retype_X2_find
set_option maxRecDepth 20000 in
theorem ggX4_retype_X2_setImage : GoodIn wsX4_retype wsX2_setImage := goodIn_r _ [62, 63, 64, 43, 216, 217, 218, 219, 220, 221, 222, 223, 224, 225, 226, 227, 228, 229] (by decide +kernel) (by decide +kernel)
set_option maxRecDepth 20000 in
theorem gX4_retype_X2_setImage : GoodIn wsX4_retype (wsV RX4 185 RX2 yX2_setImage wsX2_setImage) := goodIn_app (goodIn_of _ (by decide +kernel)) ggX4_retype_X2_setImage
set_option maxRecDepth 20000 in
theorem ggX4_retype_X1_begin : GoodIn wsX4_retype wsX1_begin := goodIn_r _ [68, 15, 69, 70, 71, 72, 73, 13, 74, 75, 27, 6, 28, 208, 209, 210, 211, 212, 213, 214, 215] (by decide +kernel) (by decide +kernel)
set_option maxRecDepth 20000 in
theorem gX4_retype_X1_begin : GoodIn wsX4_retype (wsV RX4 132 RX1 yX1_begin wsX1_begin) := goodIn_app (goodIn_of _ (by decide +kernel)) ggX4_retype_X1_begin
set_option maxRecDepth 20000 in
theorem ggX4_retype_X1_addRetyped : GoodIn wsX4_retype wsX1_addRetyped := goodIn_r _ [79, 71, 72, 73, 13, 74, 75, 27, 6, 28, 80, 81, 82, 83, 84, 85, 86, 87, 88, 89, 90, 91, 23, 92, 93, 94, 95, 96, 63, 97, 98, 99, 100, 64, 43, 101, 102, 103, 104, 53, 105, 106, 107, 108, 60, 61, 62, 109, 110, 111, 112, 113, 54, 114, 115, 116, 117, 52, 118, 119, 120, 121, 122, 123, 124, 125, 38, 126, 127, 55, 51, 128, 129, 130, 131, 132, 133, 134, 135, 136, 48, 49, 50, 56, 57, 58, 137, 138, 139, 140, 141, 142, 143, 144, 145, 70, 69, 146, 147, 148, 149, 15, 208, 209, 210, 211, 212, 213, 214, 215, 216, 217, 218, 219, 220, 221, 222, 223, 224, 225, 226, 227, 228, 229] (by decide +kernel) (by decide +kernel)
set_option maxRecDepth 20000 in
theorem gX4_retype_X1_addRetyped : GoodIn wsX4_retype (wsV RX4 188 RX1 yX1_addRetyped wsX1_addRetyped) := goodIn_app (goodIn_of _ (by decide +kernel)) ggX4_retype_X1_addRetyped
set_option maxRecDepth 20000 in
theorem ggX4_retype_X1_keep : GoodIn wsX4_retype wsX1_keep := goodIn_r _ [153, 70, 15, 69, 154, 75, 71, 72, 73, 13, 74, 27, 6, 28, 155, 156, 157, 158, 159, 160, 123, 124, 125, 161, 162, 163, 164, 165, 166, 167, 168, 169, 170, 171, 172, 173, 137, 138, 139, 140, 141, 174, 175, 176, 177, 178, 179, 180, 181, 182, 183, 184, 185, 186, 187, 208, 209, 210, 211, 212, 213, 214, 215, 230, 231, 232, 233, 234, 235] (by decide +kernel) (by decide +kernel)
set_option maxRecDepth 20000 in
theorem gX4_retype_X1_keep : GoodIn wsX4_retype (wsV RX4 151 RX1 yX1_keep wsX1_keep) := goodIn_app (goodIn_of _ (by decide +kernel)) ggX4_retype_X1_keep
set_option maxRecDepth 20000 in
theorem ggX4_retype_X4_settled : GoodIn wsX4_retype wsX4_settled := goodIn_ca (goodIn_r _ [191, 192, 193, 1, 194, 195, 196, 23, 197, 38, 198, 199, 124, 200, 51, 52, 53, 54, 55, 56, 57, 58, 201, 202, 203, 204, 205, 206, 207, 216, 217, 218, 219, 220, 221, 222, 223, 224, 225, 226, 227, 228, 229] (by decide +kernel) (by decide +kernel)) (goodIn_sub (fun _ h => List.mem_cons_of_mem _ (List.mem_append_right _ h)) (by decide +kernel))
set_option maxRecDepth 20000 in
theorem gX4_retype_X4_settled : GoodIn wsX4_retype (wsV RX4 75 RX4 yX4_settled wsX4_settled) := goodIn_app (goodIn_of _ (by decide +kernel)) ggX4_retype_X4_settled
theorem dX4_retype_0 : decode cX4_retype 0 = .ok (.aload_n 0, 1) := by decide +kernel
theorem dX4_retype_1 : decode cX4_retype 1 = .ok (.iload_n 1, 1) := by decide +kernel
theorem dX4_retype_2 : decode cX4_retype 2 = .ok (.invokevirtual 118, 3) := by decide +kernel
theorem dX4_retype_5 : decode cX4_retype 5 = .ok (.aload_n 0, 1) := by decide +kernel
theorem dX4_retype_6 : decode cX4_retype 6 = .ok (.iload_n 3, 1) := by decide +kernel
theorem dX4_retype_7 : decode cX4_retype 7 = .ok (.invokevirtual 85, 3) := by decide +kernel
theorem dX4_retype_10 : decode cX4_retype 10 = .ok (.istore 4, 2) := by decide +kernel
theorem dX4_retype_12 : decode cX4_retype 12 = .ok (.iload_n 2, 1) := by decide +kernel
theorem dX4_retype_13 : decode cX4_retype 13 = .ok (.invokestatic 56, 3) := by decide +kernel
theorem dX4_retype_16 : decode cX4_retype 16 = .ok (.aload_n 0, 1) := by decide +kernel
theorem dX4_retype_17 : decode cX4_retype 17 = .ok (.getfield 10, 3) := by decide +kernel
theorem dX4_retype_20 : decode cX4_retype 20 = .ok (.invokevirtual 60, 3) := by decide +kernel
theorem dX4_retype_23 : decode cX4_retype 23 = .ok (.istore 5, 2) := by decide +kernel
theorem dX4_retype_25 : decode cX4_retype 25 = .ok (.aload_n 0, 1) := by decide +kernel
theorem dX4_retype_26 : decode cX4_retype 26 = .ok (.getfield 10, 3) := by decide +kernel
theorem dX4_retype_29 : decode cX4_retype 29 = .ok (.invokevirtual 109, 3) := by decide +kernel
theorem dX4_retype_32 : decode cX4_retype 32 = .ok (.aload_n 0, 1) := by decide +kernel
theorem dX4_retype_33 : decode cX4_retype 33 = .ok (.getfield 10, 3) := by decide +kernel
theorem dX4_retype_36 : decode cX4_retype 36 = .ok (.aload_n 0, 1) := by decide +kernel
theorem dX4_retype_37 : decode cX4_retype 37 = .ok (.getfield 10, 3) := by decide +kernel
theorem dX4_retype_40 : decode cX4_retype 40 = .ok (.iload_n 2, 1) := by decide +kernel
theorem dX4_retype_41 : decode cX4_retype 41 = .ok (.invokestatic 64, 3) := by decide +kernel
theorem dX4_retype_44 : decode cX4_retype 44 = .ok (.iconst (-1), 1) := by decide +kernel
theorem dX4_retype_45 : decode cX4_retype 45 = .ok (.iconst (-1), 1) := by decide +kernel
theorem dX4_retype_46 : decode cX4_retype 46 = .ok (.invokevirtual 182, 3) := by decide +kernel
theorem dX4_retype_49 : decode cX4_retype 49 = .ok (.iload 4, 2) := by decide +kernel
theorem dX4_retype_51 : decode cX4_retype 51 = .ok (.invokevirtual 185, 3) := by decide +kernel
theorem dX4_retype_54 : decode cX4_retype 54 = .ok (.aload_n 0, 1) := by decide +kernel
theorem dX4_retype_55 : decode cX4_retype 55 = .ok (.getfield 19, 3) := by decide +kernel
theorem dX4_retype_58 : decode cX4_retype 58 = .ok (.invokevirtual 132, 3) := by decide +kernel
theorem dX4_retype_61 : decode cX4_retype 61 = .ok (.aload_n 0, 1) := by decide +kernel
theorem dX4_retype_62 : decode cX4_retype 62 = .ok (.getfield 19, 3) := by decide +kernel
theorem dX4_retype_65 : decode cX4_retype 65 = .ok (.iload_n 1, 1) := by decide +kernel
theorem dX4_retype_66 : decode cX4_retype 66 = .ok (.aload_n 0, 1) := by decide +kernel
theorem dX4_retype_67 : decode cX4_retype 67 = .ok (.getfield 10, 3) := by decide +kernel
theorem dX4_retype_70 : decode cX4_retype 70 = .ok (.invokevirtual 188, 3) := by decide +kernel
theorem dX4_retype_73 : decode cX4_retype 73 = .ok (.istore 6, 2) := by decide +kernel
theorem dX4_retype_75 : decode cX4_retype 75 = .ok (.aload_n 0, 1) := by decide +kernel
theorem dX4_retype_76 : decode cX4_retype 76 = .ok (.iload 6, 2) := by decide +kernel
theorem dX4_retype_78 : decode cX4_retype 78 = .ok (.ifCond .eq 13, 3) := by decide +kernel
theorem dX4_retype_81 : decode cX4_retype 81 = .ok (.aload_n 0, 1) := by decide +kernel
theorem dX4_retype_82 : decode cX4_retype 82 = .ok (.getfield 19, 3) := by decide +kernel
theorem dX4_retype_85 : decode cX4_retype 85 = .ok (.invokevirtual 151, 3) := by decide +kernel
theorem dX4_retype_88 : decode cX4_retype 88 = .ok (.goto 4, 3) := by decide +kernel
theorem dX4_retype_91 : decode cX4_retype 91 = .ok (.iconst (-1), 1) := by decide +kernel
theorem dX4_retype_92 : decode cX4_retype 92 = .ok (.iload 5, 2) := by decide +kernel
theorem dX4_retype_94 : decode cX4_retype 94 = .ok (.invokevirtual 75, 3) := by decide +kernel
theorem dX4_retype_97 : decode cX4_retype 97 = .ok (.ireturn, 1) := by decide +kernel
set_option maxRecDepth 20000 in
theorem ggX4_typeOf_X4_requireTerm : GoodIn wsX4_typeOf wsX4_requireTerm := goodIn_ca (goodIn_r _ [7, 8, 9, 2, 10, 11, 12, 13, 14, 15, 72, 73, 74, 75, 76, 77, 78, 79, 80, 81, 82, 83, 84, 85, 86] (by decide +kernel) (by decide +kernel)) (goodIn_sub (fun _ h => List.mem_cons_of_mem _ (List.mem_append_left _ (List.mem_append_right _ h))) (by decide +kernel))
set_option maxRecDepth 20000 in
theorem gX4_typeOf_X4_requireTerm : GoodIn wsX4_typeOf (wsV RX4 118 RX4 yX4_requireTerm wsX4_requireTerm) := goodIn_app (goodIn_of _ (by decide +kernel)) ggX4_typeOf_X4_requireTerm
set_option maxRecDepth 20000 in
theorem ggX4_typeOf_X1_rootType : GoodIn wsX4_typeOf wsX1_rootType := goodIn_r _ [19, 20, 21, 22, 13, 23, 24, 25, 6, 26, 27, 28, 29, 30, 31, 79, 80, 81, 82, 83, 84, 85, 86] (by decide +kernel) (by decide +kernel)
set_option maxRecDepth 20000 in
theorem gX4_typeOf_X1_rootType : GoodIn wsX4_typeOf (wsV RX4 121 RX1 yX1_rootType wsX1_rootType) := goodIn_app (goodIn_of _ (by decide +kernel)) ggX4_typeOf_X1_rootType
set_option maxRecDepth 20000 in
theorem ggX4_typeOf_X2_keep : GoodIn wsX4_typeOf wsX2_keep := goodIn_r _ [36, 37, 38, 39, 40, 41, 42, 35, 43, 44, 25, 6, 26, 87, 88, 89, 90, 91, 92, 93, 94, 95, 96, 97, 98, 99, 100] (by decide +kernel) (by decide +kernel)
set_option maxRecDepth 20000 in
theorem gX4_typeOf_X2_keep : GoodIn wsX4_typeOf (wsV RX4 72 RX2 yX2_keep wsX2_keep) := goodIn_app (goodIn_of _ (by decide +kernel)) ggX4_typeOf_X2_keep
set_option maxRecDepth 20000 in
theorem ggX4_typeOf_X2_count : GoodIn wsX4_typeOf wsX2_count := goodIn_r _ [48, 49, 87, 88, 89, 90, 91, 92, 93, 94, 95, 96, 97, 98, 99, 100] (by decide +kernel) (by decide +kernel)
set_option maxRecDepth 20000 in
theorem gX4_typeOf_X2_count : GoodIn wsX4_typeOf (wsV RX4 60 RX2 yX2_count wsX2_count) := goodIn_app (goodIn_of _ (by decide +kernel)) ggX4_typeOf_X2_count
set_option maxRecDepth 20000 in
theorem ggX4_typeOf_X4_settled : GoodIn wsX4_typeOf wsX4_settled := goodIn_ca (goodIn_r _ [53, 54, 55, 1, 56, 57, 58, 35, 59, 49, 60, 61, 62, 63, 64, 65, 66, 67, 68, 69, 70, 71, 72, 73, 74, 75, 76, 77, 78, 87, 88, 89, 90, 91, 92, 93, 94, 95, 96, 97, 98, 99, 100] (by decide +kernel) (by decide +kernel)) (goodIn_sub (fun _ h => List.mem_cons_of_mem _ (List.mem_append_right _ h)) (by decide +kernel))
set_option maxRecDepth 20000 in
theorem gX4_typeOf_X4_settled : GoodIn wsX4_typeOf (wsV RX4 75 RX4 yX4_settled wsX4_settled) := goodIn_app (goodIn_of _ (by decide +kernel)) ggX4_typeOf_X4_settled
theorem dX4_typeOf_0 : decode cX4_typeOf 0 = .ok (.aload_n 0, 1) := by decide +kernel
theorem dX4_typeOf_1 : decode cX4_typeOf 1 = .ok (.iload_n 1, 1) := by decide +kernel
theorem dX4_typeOf_2 : decode cX4_typeOf 2 = .ok (.invokevirtual 118, 3) := by decide +kernel
theorem dX4_typeOf_5 : decode cX4_typeOf 5 = .ok (.aload_n 0, 1) := by decide +kernel
theorem dX4_typeOf_6 : decode cX4_typeOf 6 = .ok (.aload_n 0, 1) := by decide +kernel
theorem dX4_typeOf_7 : decode cX4_typeOf 7 = .ok (.getfield 10, 3) := by decide +kernel
theorem dX4_typeOf_10 : decode cX4_typeOf 10 = .ok (.aload_n 0, 1) := by decide +kernel
theorem dX4_typeOf_11 : decode cX4_typeOf 11 = .ok (.getfield 19, 3) := by decide +kernel
theorem dX4_typeOf_14 : decode cX4_typeOf 14 = .ok (.iload_n 1, 1) := by decide +kernel
theorem dX4_typeOf_15 : decode cX4_typeOf 15 = .ok (.invokevirtual 121, 3) := by decide +kernel
theorem dX4_typeOf_18 : decode cX4_typeOf 18 = .ok (.invokevirtual 72, 3) := by decide +kernel
theorem dX4_typeOf_21 : decode cX4_typeOf 21 = .ok (.aload_n 0, 1) := by decide +kernel
theorem dX4_typeOf_22 : decode cX4_typeOf 22 = .ok (.getfield 10, 3) := by decide +kernel
theorem dX4_typeOf_25 : decode cX4_typeOf 25 = .ok (.invokevirtual 60, 3) := by decide +kernel
theorem dX4_typeOf_28 : decode cX4_typeOf 28 = .ok (.invokevirtual 75, 3) := by decide +kernel
theorem dX4_typeOf_31 : decode cX4_typeOf 31 = .ok (.ireturn, 1) := by decide +kernel
set_option maxRecDepth 20000 in
theorem ggX4_symbol_X4_requireTerm : GoodIn wsX4_symbol wsX4_requireTerm := goodIn_ca (goodIn_r _ [8, 1, 2, 3, 9, 10, 11, 12, 13, 14, 36, 37, 38, 39, 40, 41, 42, 43, 44, 45, 46, 47, 48, 49, 50] (by decide +kernel) (by decide +kernel)) (goodIn_sub (fun _ h => List.mem_cons_of_mem _ (List.mem_append_right _ h)) (by decide +kernel))
set_option maxRecDepth 20000 in
theorem gX4_symbol_X4_requireTerm : GoodIn wsX4_symbol (wsV RX4 118 RX4 yX4_requireTerm wsX4_requireTerm) := goodIn_app (goodIn_of _ (by decide +kernel)) ggX4_symbol_X4_requireTerm
set_option maxRecDepth 20000 in
theorem ggX4_symbol_X1_length : GoodIn wsX4_symbol wsX1_length := goodIn_r _ [18, 19, 20, 21, 12, 22, 23, 24, 7, 25, 26, 27, 28, 29, 43, 44, 45, 46, 47, 48, 49, 50] (by decide +kernel) (by decide +kernel)
set_option maxRecDepth 20000 in
theorem gX4_symbol_X1_length : GoodIn wsX4_symbol (wsV RX4 192 RX1 yX1_length wsX1_length) := goodIn_app (goodIn_of _ (by decide +kernel)) ggX4_symbol_X1_length
set_option maxRecDepth 20000 in
theorem ggX4_symbol_X1_start : GoodIn wsX4_symbol wsX1_start := goodIn_r _ [29, 23, 24, 7, 25, 43, 44, 45, 46, 47, 48, 49, 50] (by decide +kernel) (by decide +kernel)
set_option maxRecDepth 20000 in
theorem gX4_symbol_X1_start : GoodIn wsX4_symbol (wsV RX4 142 RX1 yX1_start wsX1_start) := goodIn_app (goodIn_of _ (by decide +kernel)) ggX4_symbol_X1_start
set_option maxRecDepth 20000 in
theorem ggX4_symbol_X1_code : GoodIn wsX4_symbol wsX1_code := goodIn_r _ [34, 35, 24, 7, 25, 43, 44, 45, 46, 47, 48, 49, 50] (by decide +kernel) (by decide +kernel)
set_option maxRecDepth 20000 in
theorem gX4_symbol_X1_code : GoodIn wsX4_symbol (wsV RX4 197 RX1 yX1_code wsX1_code) := goodIn_app (goodIn_of _ (by decide +kernel)) ggX4_symbol_X1_code
theorem dX4_symbol_0 : decode cX4_symbol 0 = .ok (.aload_n 0, 1) := by decide +kernel
theorem dX4_symbol_1 : decode cX4_symbol 1 = .ok (.iload_n 1, 1) := by decide +kernel
theorem dX4_symbol_2 : decode cX4_symbol 2 = .ok (.invokevirtual 118, 3) := by decide +kernel
theorem dX4_symbol_5 : decode cX4_symbol 5 = .ok (.iload_n 2, 1) := by decide +kernel
theorem dX4_symbol_6 : decode cX4_symbol 6 = .ok (.ifCond .lt 15, 3) := by decide +kernel
theorem dX4_symbol_9 : decode cX4_symbol 9 = .ok (.iload_n 2, 1) := by decide +kernel
theorem dX4_symbol_10 : decode cX4_symbol 10 = .ok (.aload_n 0, 1) := by decide +kernel
theorem dX4_symbol_11 : decode cX4_symbol 11 = .ok (.getfield 19, 3) := by decide +kernel
theorem dX4_symbol_14 : decode cX4_symbol 14 = .ok (.iload_n 1, 1) := by decide +kernel
theorem dX4_symbol_15 : decode cX4_symbol 15 = .ok (.invokevirtual 192, 3) := by decide +kernel
theorem dX4_symbol_18 : decode cX4_symbol 18 = .ok (.if_icmp .lt 13, 3) := by decide +kernel
theorem dX4_symbol_21 : decode cX4_symbol 21 = .ok (.new 91, 3) := by decide +kernel
theorem dX4_symbol_24 : decode cX4_symbol 24 = .ok (.dup, 1) := by decide +kernel
theorem dX4_symbol_25 : decode cX4_symbol 25 = .ok (.ldc 195, 2) := by decide +kernel
theorem dX4_symbol_27 : decode cX4_symbol 27 = .ok (.invokespecial 95, 3) := by decide +kernel
theorem dX4_symbol_30 : decode cX4_symbol 30 = .ok (.athrow, 1) := by decide +kernel
theorem dX4_symbol_31 : decode cX4_symbol 31 = .ok (.aload_n 0, 1) := by decide +kernel
theorem dX4_symbol_32 : decode cX4_symbol 32 = .ok (.getfield 19, 3) := by decide +kernel
theorem dX4_symbol_35 : decode cX4_symbol 35 = .ok (.aload_n 0, 1) := by decide +kernel
theorem dX4_symbol_36 : decode cX4_symbol 36 = .ok (.getfield 19, 3) := by decide +kernel
theorem dX4_symbol_39 : decode cX4_symbol 39 = .ok (.iload_n 1, 1) := by decide +kernel
theorem dX4_symbol_40 : decode cX4_symbol 40 = .ok (.invokevirtual 142, 3) := by decide +kernel
theorem dX4_symbol_43 : decode cX4_symbol 43 = .ok (.iload_n 2, 1) := by decide +kernel
theorem dX4_symbol_44 : decode cX4_symbol 44 = .ok (.iadd, 1) := by decide +kernel
theorem dX4_symbol_45 : decode cX4_symbol 45 = .ok (.invokevirtual 197, 3) := by decide +kernel
theorem dX4_symbol_48 : decode cX4_symbol 48 = .ok (.ireturn, 1) := by decide +kernel
set_option maxRecDepth 20000 in
theorem ggX4_measure_X4_requireTerm : GoodIn wsX4_measure wsX4_requireTerm := goodIn_ca (goodIn_r _ [8, 9, 10, 3, 11, 12, 13, 14, 15, 16, 37, 38, 39, 40, 41, 42, 43, 44, 45, 46, 47, 48, 49, 50, 51] (by decide +kernel) (by decide +kernel)) (goodIn_sub (fun _ h => List.mem_cons_of_mem _ (List.mem_append_right _ h)) (by decide +kernel))
set_option maxRecDepth 20000 in
theorem gX4_measure_X4_requireTerm : GoodIn wsX4_measure (wsV RX4 118 RX4 yX4_requireTerm wsX4_requireTerm) := goodIn_app (goodIn_of _ (by decide +kernel)) ggX4_measure_X4_requireTerm
set_option maxRecDepth 20000 in
theorem ggX4_measure_X1_length : GoodIn wsX4_measure wsX1_length := goodIn_r _ [20, 21, 22, 23, 14, 24, 25, 26, 7, 27, 28, 29, 30, 31, 44, 45, 46, 47, 48, 49, 50, 51] (by decide +kernel) (by decide +kernel)
set_option maxRecDepth 20000 in
theorem gX4_measure_X1_length : GoodIn wsX4_measure (wsV RX4 192 RX1 yX1_length wsX1_length) := goodIn_app (goodIn_of _ (by decide +kernel)) ggX4_measure_X1_length
set_option maxRecDepth 20000 in
theorem ggX4_measure_X1_height : GoodIn wsX4_measure wsX1_height := goodIn_r _ [35, 36, 26, 7, 27, 44, 45, 46, 47, 48, 49, 50, 51] (by decide +kernel) (by decide +kernel)
set_option maxRecDepth 20000 in
theorem gX4_measure_X1_height : GoodIn wsX4_measure (wsV RX4 202 RX1 yX1_height wsX1_height) := goodIn_app (goodIn_of _ (by decide +kernel)) ggX4_measure_X1_height
theorem dX4_measure_0 : decode cX4_measure 0 = .ok (.aload_n 0, 1) := by decide +kernel
theorem dX4_measure_1 : decode cX4_measure 1 = .ok (.iload_n 1, 1) := by decide +kernel
theorem dX4_measure_2 : decode cX4_measure 2 = .ok (.invokevirtual 118, 3) := by decide +kernel
theorem dX4_measure_5 : decode cX4_measure 5 = .ok (.iload_n 2, 1) := by decide +kernel
theorem dX4_measure_6 : decode cX4_measure 6 = .ok (.ifCond .eq 18, 3) := by decide +kernel
theorem dX4_measure_9 : decode cX4_measure 9 = .ok (.iload_n 2, 1) := by decide +kernel
theorem dX4_measure_10 : decode cX4_measure 10 = .ok (.iconst 1, 1) := by decide +kernel
theorem dX4_measure_11 : decode cX4_measure 11 = .ok (.if_icmp .eq 13, 3) := by decide +kernel
theorem dX4_measure_14 : decode cX4_measure 14 = .ok (.new 44, 3) := by decide +kernel
theorem dX4_measure_17 : decode cX4_measure 17 = .ok (.dup, 1) := by decide +kernel
theorem dX4_measure_18 : decode cX4_measure 18 = .ok (.ldc 200, 2) := by decide +kernel
theorem dX4_measure_20 : decode cX4_measure 20 = .ok (.invokespecial 48, 3) := by decide +kernel
theorem dX4_measure_23 : decode cX4_measure 23 = .ok (.athrow, 1) := by decide +kernel
theorem dX4_measure_24 : decode cX4_measure 24 = .ok (.iload_n 2, 1) := by decide +kernel
theorem dX4_measure_25 : decode cX4_measure 25 = .ok (.ifCond .ne 14, 3) := by decide +kernel
theorem dX4_measure_28 : decode cX4_measure 28 = .ok (.aload_n 0, 1) := by decide +kernel
theorem dX4_measure_29 : decode cX4_measure 29 = .ok (.getfield 19, 3) := by decide +kernel
theorem dX4_measure_32 : decode cX4_measure 32 = .ok (.iload_n 1, 1) := by decide +kernel
theorem dX4_measure_33 : decode cX4_measure 33 = .ok (.invokevirtual 192, 3) := by decide +kernel
theorem dX4_measure_36 : decode cX4_measure 36 = .ok (.goto 11, 3) := by decide +kernel
theorem dX4_measure_39 : decode cX4_measure 39 = .ok (.aload_n 0, 1) := by decide +kernel
theorem dX4_measure_40 : decode cX4_measure 40 = .ok (.getfield 19, 3) := by decide +kernel
theorem dX4_measure_43 : decode cX4_measure 43 = .ok (.iload_n 1, 1) := by decide +kernel
theorem dX4_measure_44 : decode cX4_measure 44 = .ok (.invokevirtual 202, 3) := by decide +kernel
theorem dX4_measure_47 : decode cX4_measure 47 = .ok (.ireturn, 1) := by decide +kernel
set_option maxRecDepth 20000 in
theorem ggX4_same_X4_requireTerm : GoodIn wsX4_same wsX4_requireTerm := goodIn_ca (goodIn_r _ [6, 7, 8, 1, 9, 10, 11, 12, 13, 14, 40, 41, 42, 43, 44, 45, 46, 47, 48, 49, 50, 51, 52, 53, 54] (by decide +kernel) (by decide +kernel)) (goodIn_sub (fun _ h => List.mem_cons_of_mem _ (List.mem_append_right _ h)) (by decide +kernel))
set_option maxRecDepth 20000 in
theorem gX4_same_X4_requireTerm : GoodIn wsX4_same (wsV RX4 118 RX4 yX4_requireTerm wsX4_requireTerm) := goodIn_app (goodIn_of _ (by decide +kernel)) ggX4_same_X4_requireTerm
set_option maxRecDepth 20000 in
theorem ggX4_same_X1_start : GoodIn wsX4_same wsX1_start := goodIn_r _ [18, 19, 20, 5, 21, 47, 48, 49, 50, 51, 52, 53, 54] (by decide +kernel) (by decide +kernel)
set_option maxRecDepth 20000 in
theorem gX4_same_X1_start : GoodIn wsX4_same (wsV RX4 142 RX1 yX1_start wsX1_start) := goodIn_app (goodIn_of _ (by decide +kernel)) ggX4_same_X1_start
set_option maxRecDepth 20000 in
theorem ggX4_same_X1_end : GoodIn wsX4_same wsX1_end := goodIn_r _ [25, 19, 20, 5, 21, 47, 48, 49, 50, 51, 52, 53, 54] (by decide +kernel) (by decide +kernel)
set_option maxRecDepth 20000 in
theorem gX4_same_X1_end : GoodIn wsX4_same (wsV RX4 145 RX1 yX1_end wsX1_end) := goodIn_app (goodIn_of _ (by decide +kernel)) ggX4_same_X1_end
set_option maxRecDepth 20000 in
theorem ggX4_same_X1_alike : GoodIn wsX4_same wsX1_alike := goodIn_r _ [29, 30, 31, 32, 12, 33, 34, 20, 5, 21, 35, 36, 37, 38, 39, 47, 48, 49, 50, 51, 52, 53, 54] (by decide +kernel) (by decide +kernel)
set_option maxRecDepth 20000 in
theorem gX4_same_X1_alike : GoodIn wsX4_same (wsV RX4 205 RX1 yX1_alike wsX1_alike) := goodIn_app (goodIn_of _ (by decide +kernel)) ggX4_same_X1_alike
theorem dX4_same_0 : decode cX4_same 0 = .ok (.aload_n 0, 1) := by decide +kernel
theorem dX4_same_1 : decode cX4_same 1 = .ok (.iload_n 1, 1) := by decide +kernel
theorem dX4_same_2 : decode cX4_same 2 = .ok (.invokevirtual 118, 3) := by decide +kernel
theorem dX4_same_5 : decode cX4_same 5 = .ok (.aload_n 0, 1) := by decide +kernel
theorem dX4_same_6 : decode cX4_same 6 = .ok (.iload_n 2, 1) := by decide +kernel
theorem dX4_same_7 : decode cX4_same 7 = .ok (.invokevirtual 118, 3) := by decide +kernel
theorem dX4_same_10 : decode cX4_same 10 = .ok (.aload_n 0, 1) := by decide +kernel
theorem dX4_same_11 : decode cX4_same 11 = .ok (.getfield 19, 3) := by decide +kernel
theorem dX4_same_14 : decode cX4_same 14 = .ok (.aload_n 0, 1) := by decide +kernel
theorem dX4_same_15 : decode cX4_same 15 = .ok (.getfield 19, 3) := by decide +kernel
theorem dX4_same_18 : decode cX4_same 18 = .ok (.iload_n 1, 1) := by decide +kernel
theorem dX4_same_19 : decode cX4_same 19 = .ok (.invokevirtual 142, 3) := by decide +kernel
theorem dX4_same_22 : decode cX4_same 22 = .ok (.aload_n 0, 1) := by decide +kernel
theorem dX4_same_23 : decode cX4_same 23 = .ok (.getfield 19, 3) := by decide +kernel
theorem dX4_same_26 : decode cX4_same 26 = .ok (.iload_n 1, 1) := by decide +kernel
theorem dX4_same_27 : decode cX4_same 27 = .ok (.invokevirtual 145, 3) := by decide +kernel
theorem dX4_same_30 : decode cX4_same 30 = .ok (.aload_n 0, 1) := by decide +kernel
theorem dX4_same_31 : decode cX4_same 31 = .ok (.getfield 19, 3) := by decide +kernel
theorem dX4_same_34 : decode cX4_same 34 = .ok (.iload_n 2, 1) := by decide +kernel
theorem dX4_same_35 : decode cX4_same 35 = .ok (.invokevirtual 142, 3) := by decide +kernel
theorem dX4_same_38 : decode cX4_same 38 = .ok (.aload_n 0, 1) := by decide +kernel
theorem dX4_same_39 : decode cX4_same 39 = .ok (.getfield 19, 3) := by decide +kernel
theorem dX4_same_42 : decode cX4_same 42 = .ok (.iload_n 2, 1) := by decide +kernel
theorem dX4_same_43 : decode cX4_same 43 = .ok (.invokevirtual 145, 3) := by decide +kernel
theorem dX4_same_46 : decode cX4_same 46 = .ok (.invokevirtual 205, 3) := by decide +kernel
theorem dX4_same_49 : decode cX4_same 49 = .ok (.ireturn, 1) := by decide +kernel
set_option maxRecDepth 20000 in
theorem ggX4_sameType_X4_typeBehind : GoodIn wsX4_sameType wsX4_typeBehind := goodIn_ca (goodIn_r _ [5, 6, 7, 8, 9, 10, 11, 12, 13, 14, 15, 16, 4, 17, 18, 19, 20, 21, 22, 23, 24, 25, 26, 27, 28, 29, 30, 31, 32, 33, 34, 35, 36, 37, 38] (by decide +kernel) (by decide +kernel)) (goodIn_sub (fun _ h => List.mem_cons_of_mem _ (List.mem_append_right _ h)) (by decide +kernel))
set_option maxRecDepth 20000 in
theorem gX4_sameType_X4_typeBehind : GoodIn wsX4_sameType (wsV RX4 85 RX4 yX4_typeBehind wsX4_typeBehind) := goodIn_app (goodIn_of _ (by decide +kernel)) ggX4_sameType_X4_typeBehind
theorem dX4_sameType_0 : decode cX4_sameType 0 = .ok (.aload_n 0, 1) := by decide +kernel
theorem dX4_sameType_1 : decode cX4_sameType 1 = .ok (.iload_n 1, 1) := by decide +kernel
theorem dX4_sameType_2 : decode cX4_sameType 2 = .ok (.invokevirtual 85, 3) := by decide +kernel
theorem dX4_sameType_5 : decode cX4_sameType 5 = .ok (.aload_n 0, 1) := by decide +kernel
theorem dX4_sameType_6 : decode cX4_sameType 6 = .ok (.iload_n 2, 1) := by decide +kernel
theorem dX4_sameType_7 : decode cX4_sameType 7 = .ok (.invokevirtual 85, 3) := by decide +kernel
theorem dX4_sameType_10 : decode cX4_sameType 10 = .ok (.if_icmp .ne 7, 3) := by decide +kernel
theorem dX4_sameType_13 : decode cX4_sameType 13 = .ok (.iconst 1, 1) := by decide +kernel
theorem dX4_sameType_14 : decode cX4_sameType 14 = .ok (.goto 4, 3) := by decide +kernel
theorem dX4_sameType_17 : decode cX4_sameType 17 = .ok (.iconst 0, 1) := by decide +kernel
theorem dX4_sameType_18 : decode cX4_sameType 18 = .ok (.ireturn, 1) := by decide +kernel
set_option maxRecDepth 20000 in
theorem ggX4_occurs_X4_requireTerm : GoodIn wsX4_occurs wsX4_requireTerm := goodIn_ca (goodIn_r _ [6, 7, 8, 1, 9, 10, 11, 12, 13, 14, 62, 63, 64, 65, 66, 67, 68, 69, 70, 71, 72, 73, 74, 75, 76] (by decide +kernel) (by decide +kernel)) (goodIn_sub (fun _ h => List.mem_cons_of_mem _ (List.mem_append_left _ (List.mem_append_right _ h))) (by decide +kernel))
set_option maxRecDepth 20000 in
theorem gX4_occurs_X4_requireTerm : GoodIn wsX4_occurs (wsV RX4 118 RX4 yX4_requireTerm wsX4_requireTerm) := goodIn_app (goodIn_of _ (by decide +kernel)) ggX4_occurs_X4_requireTerm
set_option maxRecDepth 20000 in
theorem ggX4_occurs_X4_requireFree : GoodIn wsX4_occurs wsX4_requireFree := goodIn_ca (goodIn_r _ [18, 19, 20, 1, 21, 22, 23, 12, 24, 25, 26, 27, 28, 29, 30, 5, 31, 32, 33, 34, 35, 36, 37, 38, 39, 62, 63, 64, 65, 66, 67, 68, 69, 70, 71, 72, 73, 74, 75, 76] (by decide +kernel) (by decide +kernel)) (goodIn_sub (fun _ h => List.mem_cons_of_mem _ (List.mem_append_right _ h)) (by decide +kernel))
set_option maxRecDepth 20000 in
theorem gX4_occurs_X4_requireFree : GoodIn wsX4_occurs (wsV RX4 153 RX4 yX4_requireFree wsX4_requireFree) := goodIn_app (goodIn_of _ (by decide +kernel)) ggX4_occurs_X4_requireFree
set_option maxRecDepth 20000 in
theorem ggX4_occurs_X1_holds : GoodIn wsX4_occurs wsX1_holds := goodIn_r _ [43, 25, 26, 27, 12, 28, 29, 30, 5, 31, 44, 45, 46, 47, 48, 49, 50, 51, 32, 33, 34, 35, 36, 52, 22, 23, 24, 53, 54, 55, 56, 57, 58, 59, 60, 61, 69, 70, 71, 72, 73, 74, 75, 76] (by decide +kernel) (by decide +kernel)
set_option maxRecDepth 20000 in
theorem gX4_occurs_X1_holds : GoodIn wsX4_occurs (wsV RX4 209 RX1 yX1_holds wsX1_holds) := goodIn_app (goodIn_of _ (by decide +kernel)) ggX4_occurs_X1_holds
theorem dX4_occurs_0 : decode cX4_occurs 0 = .ok (.aload_n 0, 1) := by decide +kernel
theorem dX4_occurs_1 : decode cX4_occurs 1 = .ok (.iload_n 1, 1) := by decide +kernel
theorem dX4_occurs_2 : decode cX4_occurs 2 = .ok (.invokevirtual 118, 3) := by decide +kernel
theorem dX4_occurs_5 : decode cX4_occurs 5 = .ok (.aload_n 0, 1) := by decide +kernel
theorem dX4_occurs_6 : decode cX4_occurs 6 = .ok (.iload_n 2, 1) := by decide +kernel
theorem dX4_occurs_7 : decode cX4_occurs 7 = .ok (.invokevirtual 118, 3) := by decide +kernel
theorem dX4_occurs_10 : decode cX4_occurs 10 = .ok (.aload_n 0, 1) := by decide +kernel
theorem dX4_occurs_11 : decode cX4_occurs 11 = .ok (.iload_n 1, 1) := by decide +kernel
theorem dX4_occurs_12 : decode cX4_occurs 12 = .ok (.invokevirtual 153, 3) := by decide +kernel
theorem dX4_occurs_15 : decode cX4_occurs 15 = .ok (.aload_n 0, 1) := by decide +kernel
theorem dX4_occurs_16 : decode cX4_occurs 16 = .ok (.getfield 19, 3) := by decide +kernel
theorem dX4_occurs_19 : decode cX4_occurs 19 = .ok (.iload_n 2, 1) := by decide +kernel
theorem dX4_occurs_20 : decode cX4_occurs 20 = .ok (.iload_n 1, 1) := by decide +kernel
theorem dX4_occurs_21 : decode cX4_occurs 21 = .ok (.invokevirtual 209, 3) := by decide +kernel
theorem dX4_occurs_24 : decode cX4_occurs 24 = .ok (.ireturn, 1) := by decide +kernel
set_option maxRecDepth 20000 in
theorem ggX4_match_X4_requireTerm : GoodIn wsX4_match wsX4_requireTerm := goodIn_ca (goodIn_r _ [7, 8, 9, 10, 11, 12, 13, 14, 15, 16, 174, 175, 176, 177, 178, 179, 180, 181, 182, 183, 184, 185, 186, 187, 188] (by decide +kernel) (by decide +kernel)) (goodIn_sub (fun _ h => List.mem_cons_of_mem _ (List.mem_append_right _ h)) (by decide +kernel))
set_option maxRecDepth 20000 in
theorem gX4_match_X4_requireTerm : GoodIn wsX4_match (wsV RX4 118 RX4 yX4_requireTerm wsX4_requireTerm) := goodIn_app (goodIn_of _ (by decide +kernel)) ggX4_match_X4_requireTerm
set_option maxRecDepth 20000 in
theorem ggX4_match_X0_forget : GoodIn wsX4_match wsX0_forget := goodIn_r _ [21, 22, 23, 24, 25, 26, 20, 27, 28, 29, 6, 30, 189, 190, 191, 192, 193, 194, 195] (by decide +kernel) (by decide +kernel)
set_option maxRecDepth 20000 in
theorem gX4_match_X0_forget : GoodIn wsX4_match (wsV RX4 212 RX0 yX0_forget wsX0_forget) := goodIn_app (goodIn_of _ (by decide +kernel)) ggX4_match_X0_forget
set_option maxRecDepth 20000 in
theorem ggX4_match_X2_beginImages : GoodIn wsX4_match wsX2_beginImages := goodIn_r _ [35, 36, 196, 197, 198, 199, 200, 201, 202, 203, 204, 205, 206, 207, 208, 209] (by decide +kernel) (by decide +kernel)
set_option maxRecDepth 20000 in
theorem gX4_match_X2_beginImages : GoodIn wsX4_match (wsV RX4 109 RX2 yX2_beginImages wsX2_beginImages) := goodIn_app (goodIn_of _ (by decide +kernel)) ggX4_match_X2_beginImages
set_option maxRecDepth 20000 in
theorem ggX4_match_X4_wholeFits : GoodIn wsX4_match wsX4_wholeFits := goodIn_r _ [40, 10, 41, 42, 43, 14, 44, 45, 46, 6, 47, 48, 49, 50, 51, 52, 53, 54, 55, 2, 56, 57, 58, 59, 60, 61, 62, 63, 64, 65, 66, 67, 1, 68, 69, 70, 71, 72, 16, 73, 74, 75, 76, 77, 78, 79, 80, 81, 82, 83, 29, 30, 84, 85, 86, 87, 88, 89, 90, 91, 92, 93, 94, 95, 96, 97, 98, 99, 100, 101, 102, 103, 104, 105, 106, 107, 108, 109, 110, 111, 112, 113, 20, 114, 28, 22, 115, 116, 117, 118, 119, 120, 121, 122, 123, 124, 125, 126, 127, 128, 129, 130, 131, 132, 133, 134, 34, 135, 136, 137, 138, 139, 140, 141, 142, 143, 144, 145, 36, 146, 147, 148, 149, 150, 151, 152, 153, 154, 155, 156, 157, 158, 159, 160, 161, 162, 163, 164, 165, 166, 167, 168, 23, 24, 25, 26, 27, 169, 174, 175, 176, 177, 178, 179, 180, 181, 182, 183, 184, 185, 186, 187, 188, 210, 211, 212, 213, 214, 215, 189, 190, 191, 192, 193, 194, 195, 196, 197, 198, 199, 200, 201, 202, 203, 204, 205, 206, 207, 208, 209] (by decide +kernel) (by decide +kernel)
set_option maxRecDepth 20000 in
theorem gX4_match_X4_wholeFits : GoodIn wsX4_match (wsV RX4 215 RX4 yX4_wholeFits wsX4_wholeFits) := goodIn_app (goodIn_of _ (by decide +kernel)) ggX4_match_X4_wholeFits
set_option maxRecDepth 20000 in
theorem ggX4_match_X0_count : GoodIn wsX4_match wsX0_count := goodIn_r _ [173, 22, 189, 190, 191, 192, 193, 194, 195] (by decide +kernel) (by decide +kernel)
set_option maxRecDepth 20000 in
theorem gX4_match_X0_count : GoodIn wsX4_match (wsV RX4 218 RX0 yX0_count wsX0_count) := goodIn_app (goodIn_of _ (by decide +kernel)) ggX4_match_X0_count
theorem dX4_match_0 : decode cX4_match 0 = .ok (.aload_n 0, 1) := by decide +kernel
theorem dX4_match_1 : decode cX4_match 1 = .ok (.iload_n 1, 1) := by decide +kernel
theorem dX4_match_2 : decode cX4_match 2 = .ok (.invokevirtual 118, 3) := by decide +kernel
theorem dX4_match_5 : decode cX4_match 5 = .ok (.aload_n 0, 1) := by decide +kernel
theorem dX4_match_6 : decode cX4_match 6 = .ok (.iload_n 2, 1) := by decide +kernel
theorem dX4_match_7 : decode cX4_match 7 = .ok (.invokevirtual 118, 3) := by decide +kernel
theorem dX4_match_10 : decode cX4_match 10 = .ok (.aload_n 0, 1) := by decide +kernel
theorem dX4_match_11 : decode cX4_match 11 = .ok (.getfield 26, 3) := by decide +kernel
theorem dX4_match_14 : decode cX4_match 14 = .ok (.invokevirtual 212, 3) := by decide +kernel
theorem dX4_match_17 : decode cX4_match 17 = .ok (.aload_n 0, 1) := by decide +kernel
theorem dX4_match_18 : decode cX4_match 18 = .ok (.getfield 10, 3) := by decide +kernel
theorem dX4_match_21 : decode cX4_match 21 = .ok (.invokevirtual 109, 3) := by decide +kernel
theorem dX4_match_24 : decode cX4_match 24 = .ok (.aload_n 0, 1) := by decide +kernel
theorem dX4_match_25 : decode cX4_match 25 = .ok (.iload_n 1, 1) := by decide +kernel
theorem dX4_match_26 : decode cX4_match 26 = .ok (.iload_n 2, 1) := by decide +kernel
theorem dX4_match_27 : decode cX4_match 27 = .ok (.invokevirtual 215, 3) := by decide +kernel
theorem dX4_match_30 : decode cX4_match 30 = .ok (.ifCond .ne 12, 3) := by decide +kernel
theorem dX4_match_33 : decode cX4_match 33 = .ok (.aload_n 0, 1) := by decide +kernel
theorem dX4_match_34 : decode cX4_match 34 = .ok (.getfield 26, 3) := by decide +kernel
theorem dX4_match_37 : decode cX4_match 37 = .ok (.invokevirtual 212, 3) := by decide +kernel
theorem dX4_match_40 : decode cX4_match 40 = .ok (.iconst (-1), 1) := by decide +kernel
theorem dX4_match_41 : decode cX4_match 41 = .ok (.ireturn, 1) := by decide +kernel
theorem dX4_match_42 : decode cX4_match 42 = .ok (.aload_n 0, 1) := by decide +kernel
theorem dX4_match_43 : decode cX4_match 43 = .ok (.getfield 26, 3) := by decide +kernel
theorem dX4_match_46 : decode cX4_match 46 = .ok (.invokevirtual 218, 3) := by decide +kernel
theorem dX4_match_49 : decode cX4_match 49 = .ok (.ireturn, 1) := by decide +kernel
set_option maxRecDepth 20000 in
theorem ggX4_matched_X0_count : GoodIn wsX4_matched wsX0_count := goodIn_r _ [10, 11, 131, 132, 133, 134, 135, 136, 137] (by decide +kernel) (by decide +kernel)
set_option maxRecDepth 20000 in
theorem gX4_matched_X0_count : GoodIn wsX4_matched (wsV RX4 218 RX0 yX0_count wsX0_count) := goodIn_app (goodIn_of _ (by decide +kernel)) ggX4_matched_X0_count
set_option maxRecDepth 20000 in
theorem ggX4_matched_X1_begin : GoodIn wsX4_matched wsX1_begin := goodIn_r _ [16, 17, 18, 19, 20, 21, 22, 15, 23, 24, 25, 26, 27, 138, 139, 140, 141, 142, 143, 144, 145] (by decide +kernel) (by decide +kernel)
set_option maxRecDepth 20000 in
theorem gX4_matched_X1_begin : GoodIn wsX4_matched (wsV RX4 132 RX1 yX1_begin wsX1_begin) := goodIn_app (goodIn_of _ (by decide +kernel)) ggX4_matched_X1_begin
set_option maxRecDepth 20000 in
theorem ggX4_matched_X0_from : GoodIn wsX4_matched wsX0_from := goodIn_r _ [31, 32, 25, 26, 27, 131, 132, 133, 134, 135, 136, 137] (by decide +kernel) (by decide +kernel)
set_option maxRecDepth 20000 in
theorem gX4_matched_X0_from : GoodIn wsX4_matched (wsV RX4 221 RX0 yX0_from wsX0_from) := goodIn_app (goodIn_of _ (by decide +kernel)) ggX4_matched_X0_from
set_option maxRecDepth 20000 in
theorem ggX4_matched_X0_end : GoodIn wsX4_matched wsX0_end := goodIn_r _ [36, 37, 25, 26, 27, 131, 132, 133, 134, 135, 136, 137] (by decide +kernel) (by decide +kernel)
set_option maxRecDepth 20000 in
theorem gX4_matched_X0_end : GoodIn wsX4_matched (wsV RX4 224 RX0 yX0_end wsX0_end) := goodIn_app (goodIn_of _ (by decide +kernel)) ggX4_matched_X0_end
set_option maxRecDepth 20000 in
theorem ggX4_matched_X1_copy : GoodIn wsX4_matched wsX1_copy := goodIn_r _ [41, 19, 18, 42, 43, 44, 45, 46, 47, 48, 49, 50, 15, 51, 17, 20, 21, 22, 23, 24, 25, 26, 27, 138, 139, 140, 141, 142, 143, 144, 145] (by decide +kernel) (by decide +kernel)
set_option maxRecDepth 20000 in
theorem gX4_matched_X1_copy : GoodIn wsX4_matched (wsV RX4 148 RX1 yX1_copy wsX1_copy) := goodIn_app (goodIn_of _ (by decide +kernel)) ggX4_matched_X1_copy
set_option maxRecDepth 20000 in
theorem ggX4_matched_X1_keep : GoodIn wsX4_matched wsX1_keep := goodIn_r _ [55, 19, 17, 18, 56, 24, 20, 21, 22, 15, 23, 25, 26, 27, 57, 58, 59, 60, 61, 62, 63, 64, 65, 66, 67, 68, 69, 70, 71, 72, 73, 74, 75, 76, 77, 78, 79, 80, 81, 82, 42, 83, 84, 85, 86, 87, 88, 89, 90, 91, 92, 93, 94, 95, 96, 138, 139, 140, 141, 142, 143, 144, 145, 146, 147, 148, 149, 150, 151] (by decide +kernel) (by decide +kernel)
set_option maxRecDepth 20000 in
theorem gX4_matched_X1_keep : GoodIn wsX4_matched (wsV RX4 151 RX1 yX1_keep wsX1_keep) := goodIn_app (goodIn_of _ (by decide +kernel)) ggX4_matched_X1_keep
set_option maxRecDepth 20000 in
theorem ggX4_matched_X2_count : GoodIn wsX4_matched wsX2_count := goodIn_r _ [101, 102, 152, 153, 154, 155, 156, 157, 158, 159, 160, 161, 162, 163, 164, 165] (by decide +kernel) (by decide +kernel)
set_option maxRecDepth 20000 in
theorem gX4_matched_X2_count : GoodIn wsX4_matched (wsV RX4 60 RX2 yX2_count wsX2_count) := goodIn_app (goodIn_of _ (by decide +kernel)) ggX4_matched_X2_count
set_option maxRecDepth 20000 in
theorem ggX4_matched_X4_settled : GoodIn wsX4_matched wsX4_settled := goodIn_ca (goodIn_r _ [106, 107, 108, 5, 109, 110, 111, 100, 112, 102, 113, 114, 64, 115, 116, 117, 118, 119, 120, 121, 122, 123, 124, 125, 126, 127, 128, 129, 130, 152, 153, 154, 155, 156, 157, 158, 159, 160, 161, 162, 163, 164, 165] (by decide +kernel) (by decide +kernel)) (goodIn_sub (fun _ h => List.mem_cons_of_mem _ (List.mem_append_right _ h)) (by decide +kernel))
set_option maxRecDepth 20000 in
theorem gX4_matched_X4_settled : GoodIn wsX4_matched (wsV RX4 75 RX4 yX4_settled wsX4_settled) := goodIn_app (goodIn_of _ (by decide +kernel)) ggX4_matched_X4_settled
theorem dX4_matched_0 : decode cX4_matched 0 = .ok (.iload_n 1, 1) := by decide +kernel
theorem dX4_matched_1 : decode cX4_matched 1 = .ok (.ifCond .lt 14, 3) := by decide +kernel
theorem dX4_matched_4 : decode cX4_matched 4 = .ok (.iload_n 1, 1) := by decide +kernel
theorem dX4_matched_5 : decode cX4_matched 5 = .ok (.aload_n 0, 1) := by decide +kernel
theorem dX4_matched_6 : decode cX4_matched 6 = .ok (.getfield 26, 3) := by decide +kernel
theorem dX4_matched_9 : decode cX4_matched 9 = .ok (.invokevirtual 218, 3) := by decide +kernel
theorem dX4_matched_12 : decode cX4_matched 12 = .ok (.if_icmp .lt 13, 3) := by decide +kernel
theorem dX4_matched_15 : decode cX4_matched 15 = .ok (.new 91, 3) := by decide +kernel
theorem dX4_matched_18 : decode cX4_matched 18 = .ok (.dup, 1) := by decide +kernel
theorem dX4_matched_19 : decode cX4_matched 19 = .ok (.ldc 219, 2) := by decide +kernel
theorem dX4_matched_21 : decode cX4_matched 21 = .ok (.invokespecial 95, 3) := by decide +kernel
theorem dX4_matched_24 : decode cX4_matched 24 = .ok (.athrow, 1) := by decide +kernel
theorem dX4_matched_25 : decode cX4_matched 25 = .ok (.aload_n 0, 1) := by decide +kernel
theorem dX4_matched_26 : decode cX4_matched 26 = .ok (.getfield 19, 3) := by decide +kernel
theorem dX4_matched_29 : decode cX4_matched 29 = .ok (.invokevirtual 132, 3) := by decide +kernel
theorem dX4_matched_32 : decode cX4_matched 32 = .ok (.aload_n 0, 1) := by decide +kernel
theorem dX4_matched_33 : decode cX4_matched 33 = .ok (.getfield 19, 3) := by decide +kernel
theorem dX4_matched_36 : decode cX4_matched 36 = .ok (.aload_n 0, 1) := by decide +kernel
theorem dX4_matched_37 : decode cX4_matched 37 = .ok (.getfield 26, 3) := by decide +kernel
theorem dX4_matched_40 : decode cX4_matched 40 = .ok (.iload_n 1, 1) := by decide +kernel
theorem dX4_matched_41 : decode cX4_matched 41 = .ok (.invokevirtual 221, 3) := by decide +kernel
theorem dX4_matched_44 : decode cX4_matched 44 = .ok (.aload_n 0, 1) := by decide +kernel
theorem dX4_matched_45 : decode cX4_matched 45 = .ok (.getfield 26, 3) := by decide +kernel
theorem dX4_matched_48 : decode cX4_matched 48 = .ok (.iload_n 1, 1) := by decide +kernel
theorem dX4_matched_49 : decode cX4_matched 49 = .ok (.invokevirtual 224, 3) := by decide +kernel
theorem dX4_matched_52 : decode cX4_matched 52 = .ok (.invokevirtual 148, 3) := by decide +kernel
theorem dX4_matched_55 : decode cX4_matched 55 = .ok (.aload_n 0, 1) := by decide +kernel
theorem dX4_matched_56 : decode cX4_matched 56 = .ok (.aload_n 0, 1) := by decide +kernel
theorem dX4_matched_57 : decode cX4_matched 57 = .ok (.getfield 19, 3) := by decide +kernel
theorem dX4_matched_60 : decode cX4_matched 60 = .ok (.invokevirtual 151, 3) := by decide +kernel
theorem dX4_matched_63 : decode cX4_matched 63 = .ok (.aload_n 0, 1) := by decide +kernel
theorem dX4_matched_64 : decode cX4_matched 64 = .ok (.getfield 10, 3) := by decide +kernel
theorem dX4_matched_67 : decode cX4_matched 67 = .ok (.invokevirtual 60, 3) := by decide +kernel
theorem dX4_matched_70 : decode cX4_matched 70 = .ok (.invokevirtual 75, 3) := by decide +kernel
theorem dX4_matched_73 : decode cX4_matched 73 = .ok (.ireturn, 1) := by decide +kernel
set_option maxRecDepth 20000 in
theorem ggX4_leaf_X1_begin : GoodIn wsX4_leaf wsX1_begin := goodIn_r _ [7, 8, 9, 10, 11, 12, 13, 6, 14, 15, 16, 17, 18, 108, 109, 110, 111, 112, 113, 114, 115] (by decide +kernel) (by decide +kernel)
set_option maxRecDepth 20000 in
theorem gX4_leaf_X1_begin : GoodIn wsX4_leaf (wsV RX4 132 RX1 yX1_begin wsX1_begin) := goodIn_app (goodIn_of _ (by decide +kernel)) ggX4_leaf_X1_begin
set_option maxRecDepth 20000 in
theorem ggX4_leaf_X1_add : GoodIn wsX4_leaf wsX1_add := goodIn_r _ [22, 10, 23, 9, 24, 25, 26, 27, 6, 28, 8, 11, 12, 13, 14, 15, 16, 17, 18, 108, 109, 110, 111, 112, 113, 114, 115] (by decide +kernel) (by decide +kernel)
set_option maxRecDepth 20000 in
theorem gX4_leaf_X1_add : GoodIn wsX4_leaf (wsV RX4 138 RX1 yX1_add wsX1_add) := goodIn_app (goodIn_of _ (by decide +kernel)) ggX4_leaf_X1_add
set_option maxRecDepth 20000 in
theorem ggX4_leaf_X1_keep : GoodIn wsX4_leaf wsX1_keep := goodIn_r _ [32, 10, 8, 9, 33, 15, 11, 12, 13, 6, 14, 16, 17, 18, 34, 35, 36, 37, 38, 39, 40, 41, 42, 43, 44, 45, 46, 47, 48, 49, 50, 51, 52, 53, 54, 55, 56, 57, 58, 59, 23, 60, 61, 62, 63, 64, 65, 66, 67, 68, 69, 70, 71, 72, 73, 108, 109, 110, 111, 112, 113, 114, 115, 116, 117, 118, 119, 120, 121] (by decide +kernel) (by decide +kernel)
set_option maxRecDepth 20000 in
theorem gX4_leaf_X1_keep : GoodIn wsX4_leaf (wsV RX4 151 RX1 yX1_keep wsX1_keep) := goodIn_app (goodIn_of _ (by decide +kernel)) ggX4_leaf_X1_keep
set_option maxRecDepth 20000 in
theorem ggX4_leaf_X2_count : GoodIn wsX4_leaf wsX2_count := goodIn_r _ [78, 79, 122, 123, 124, 125, 126, 127, 128, 129, 130, 131, 132, 133, 134, 135] (by decide +kernel) (by decide +kernel)
set_option maxRecDepth 20000 in
theorem gX4_leaf_X2_count : GoodIn wsX4_leaf (wsV RX4 60 RX2 yX2_count wsX2_count) := goodIn_app (goodIn_of _ (by decide +kernel)) ggX4_leaf_X2_count
set_option maxRecDepth 20000 in
theorem ggX4_leaf_X4_settled : GoodIn wsX4_leaf wsX4_settled := goodIn_ca (goodIn_r _ [83, 84, 85, 2, 86, 87, 88, 77, 89, 79, 90, 91, 41, 92, 93, 94, 95, 96, 97, 98, 99, 100, 101, 102, 103, 104, 105, 106, 107, 122, 123, 124, 125, 126, 127, 128, 129, 130, 131, 132, 133, 134, 135] (by decide +kernel) (by decide +kernel)) (goodIn_sub (fun _ h => List.mem_cons_of_mem _ (List.mem_append_right _ h)) (by decide +kernel))
set_option maxRecDepth 20000 in
theorem gX4_leaf_X4_settled : GoodIn wsX4_leaf (wsV RX4 75 RX4 yX4_settled wsX4_settled) := goodIn_app (goodIn_of _ (by decide +kernel)) ggX4_leaf_X4_settled
theorem dX4_leaf_0 : decode cX4_leaf 0 = .ok (.aload_n 0, 1) := by decide +kernel
theorem dX4_leaf_1 : decode cX4_leaf 1 = .ok (.getfield 19, 3) := by decide +kernel
theorem dX4_leaf_4 : decode cX4_leaf 4 = .ok (.invokevirtual 132, 3) := by decide +kernel
theorem dX4_leaf_7 : decode cX4_leaf 7 = .ok (.aload_n 0, 1) := by decide +kernel
theorem dX4_leaf_8 : decode cX4_leaf 8 = .ok (.getfield 19, 3) := by decide +kernel
theorem dX4_leaf_11 : decode cX4_leaf 11 = .ok (.iload_n 1, 1) := by decide +kernel
theorem dX4_leaf_12 : decode cX4_leaf 12 = .ok (.iload_n 2, 1) := by decide +kernel
theorem dX4_leaf_13 : decode cX4_leaf 13 = .ok (.invokevirtual 138, 3) := by decide +kernel
theorem dX4_leaf_16 : decode cX4_leaf 16 = .ok (.aload_n 0, 1) := by decide +kernel
theorem dX4_leaf_17 : decode cX4_leaf 17 = .ok (.aload_n 0, 1) := by decide +kernel
theorem dX4_leaf_18 : decode cX4_leaf 18 = .ok (.getfield 19, 3) := by decide +kernel
theorem dX4_leaf_21 : decode cX4_leaf 21 = .ok (.invokevirtual 151, 3) := by decide +kernel
theorem dX4_leaf_24 : decode cX4_leaf 24 = .ok (.aload_n 0, 1) := by decide +kernel
theorem dX4_leaf_25 : decode cX4_leaf 25 = .ok (.getfield 10, 3) := by decide +kernel
theorem dX4_leaf_28 : decode cX4_leaf 28 = .ok (.invokevirtual 60, 3) := by decide +kernel
theorem dX4_leaf_31 : decode cX4_leaf 31 = .ok (.invokevirtual 75, 3) := by decide +kernel
theorem dX4_leaf_34 : decode cX4_leaf 34 = .ok (.ireturn, 1) := by decide +kernel
set_option maxRecDepth 20000 in
theorem ggX4_wholeFits_X1_start : GoodIn wsX4_wholeFits wsX1_start := goodIn_r _ [6, 7, 8, 9, 10, 155, 156, 157, 158, 159, 160, 161, 162] (by decide +kernel) (by decide +kernel)
set_option maxRecDepth 20000 in
theorem gX4_wholeFits_X1_start : GoodIn wsX4_wholeFits (wsV RX4 142 RX1 yX1_start wsX1_start) := goodIn_app (goodIn_of _ (by decide +kernel)) ggX4_wholeFits_X1_start
set_option maxRecDepth 20000 in
theorem ggX4_wholeFits_X1_end : GoodIn wsX4_wholeFits wsX1_end := goodIn_r _ [14, 7, 8, 9, 10, 155, 156, 157, 158, 159, 160, 161, 162] (by decide +kernel) (by decide +kernel)
set_option maxRecDepth 20000 in
theorem gX4_wholeFits_X1_end : GoodIn wsX4_wholeFits (wsV RX4 145 RX1 yX1_end wsX1_end) := goodIn_app (goodIn_of _ (by decide +kernel)) ggX4_wholeFits_X1_end
set_option maxRecDepth 20000 in
theorem ggX4_wholeFits_X4_behindFitting : GoodIn wsX4_wholeFits wsX4_behindFitting := goodIn_r _ [18, 1, 19, 20, 21, 22, 5, 23, 24, 8, 9, 10, 25, 26, 27, 28, 29, 30, 31, 32, 33, 34, 35, 36, 37, 38, 39, 40, 41, 42, 43, 44, 45, 46, 47, 48, 3, 4, 6, 7, 49, 50, 51, 52, 53, 54, 55, 56, 57, 58, 59, 60, 61, 62, 63, 64, 65, 66, 67, 68, 69, 70, 71, 72, 73, 74, 75, 76, 77, 78, 79, 80, 81, 82, 83, 84, 85, 86, 87, 88, 89, 90, 91, 92, 93, 94, 95, 96, 97, 98, 99, 100, 101, 102, 103, 104, 105, 106, 107, 108, 109, 110, 111, 112, 113, 114, 115, 116, 117, 118, 119, 120, 121, 122, 123, 124, 125, 126, 127, 128, 129, 130, 131, 132, 133, 134, 135, 136, 137, 138, 139, 140, 141, 142, 143, 144, 145, 146, 147, 148, 149, 150, 151, 152, 153, 154, 155, 156, 157, 158, 159, 160, 161, 162, 163, 164, 165, 166, 167, 168, 169, 170, 171, 172, 173, 174, 175, 176, 177, 178, 179, 180, 181, 182, 183, 184, 185, 186, 187, 188, 189] (by decide +kernel) (by decide +kernel)
set_option maxRecDepth 20000 in
theorem gX4_wholeFits_X4_behindFitting : GoodIn wsX4_wholeFits (wsV RX4 225 RX4 yX4_behindFitting wsX4_behindFitting) := goodIn_app (goodIn_of _ (by decide +kernel)) ggX4_wholeFits_X4_behindFitting
theorem dX4_wholeFits_0 : decode cX4_wholeFits 0 = .ok (.aload_n 0, 1) := by decide +kernel
theorem dX4_wholeFits_1 : decode cX4_wholeFits 1 = .ok (.getfield 19, 3) := by decide +kernel
theorem dX4_wholeFits_4 : decode cX4_wholeFits 4 = .ok (.iload_n 2, 1) := by decide +kernel
theorem dX4_wholeFits_5 : decode cX4_wholeFits 5 = .ok (.invokevirtual 142, 3) := by decide +kernel
theorem dX4_wholeFits_8 : decode cX4_wholeFits 8 = .ok (.istore_n 3, 1) := by decide +kernel
theorem dX4_wholeFits_9 : decode cX4_wholeFits 9 = .ok (.aload_n 0, 1) := by decide +kernel
theorem dX4_wholeFits_10 : decode cX4_wholeFits 10 = .ok (.getfield 19, 3) := by decide +kernel
theorem dX4_wholeFits_13 : decode cX4_wholeFits 13 = .ok (.iload_n 1, 1) := by decide +kernel
theorem dX4_wholeFits_14 : decode cX4_wholeFits 14 = .ok (.invokevirtual 142, 3) := by decide +kernel
theorem dX4_wholeFits_17 : decode cX4_wholeFits 17 = .ok (.istore 4, 2) := by decide +kernel
theorem dX4_wholeFits_19 : decode cX4_wholeFits 19 = .ok (.iload 4, 2) := by decide +kernel
theorem dX4_wholeFits_21 : decode cX4_wholeFits 21 = .ok (.aload_n 0, 1) := by decide +kernel
theorem dX4_wholeFits_22 : decode cX4_wholeFits 22 = .ok (.getfield 19, 3) := by decide +kernel
theorem dX4_wholeFits_25 : decode cX4_wholeFits 25 = .ok (.iload_n 1, 1) := by decide +kernel
theorem dX4_wholeFits_26 : decode cX4_wholeFits 26 = .ok (.invokevirtual 145, 3) := by decide +kernel
theorem dX4_wholeFits_29 : decode cX4_wholeFits 29 = .ok (.if_icmp .ge 24, 3) := by decide +kernel
theorem dX4_wholeFits_32 : decode cX4_wholeFits 32 = .ok (.aload_n 0, 1) := by decide +kernel
theorem dX4_wholeFits_33 : decode cX4_wholeFits 33 = .ok (.iload 4, 2) := by decide +kernel
theorem dX4_wholeFits_35 : decode cX4_wholeFits 35 = .ok (.iload_n 3, 1) := by decide +kernel
theorem dX4_wholeFits_36 : decode cX4_wholeFits 36 = .ok (.invokevirtual 225, 3) := by decide +kernel
theorem dX4_wholeFits_39 : decode cX4_wholeFits 39 = .ok (.istore_n 3, 1) := by decide +kernel
theorem dX4_wholeFits_40 : decode cX4_wholeFits 40 = .ok (.iload_n 3, 1) := by decide +kernel
theorem dX4_wholeFits_41 : decode cX4_wholeFits 41 = .ok (.iconst (-1), 1) := by decide +kernel
theorem dX4_wholeFits_42 : decode cX4_wholeFits 42 = .ok (.if_icmp .ne 5, 3) := by decide +kernel
theorem dX4_wholeFits_45 : decode cX4_wholeFits 45 = .ok (.iconst 0, 1) := by decide +kernel
theorem dX4_wholeFits_46 : decode cX4_wholeFits 46 = .ok (.ireturn, 1) := by decide +kernel
theorem dX4_wholeFits_47 : decode cX4_wholeFits 47 = .ok (.iinc 4 1, 3) := by decide +kernel
theorem dX4_wholeFits_50 : decode cX4_wholeFits 50 = .ok (.goto (-31), 3) := by decide +kernel
theorem dX4_wholeFits_53 : decode cX4_wholeFits 53 = .ok (.iconst 1, 1) := by decide +kernel
theorem dX4_wholeFits_54 : decode cX4_wholeFits 54 = .ok (.ireturn, 1) := by decide +kernel
set_option maxRecDepth 20000 in
theorem ggX4_behindFitting_X1_code : GoodIn wsX4_behindFitting wsX1_code := goodIn_r _ [7, 8, 9, 10, 11, 146, 147, 148, 149, 150, 151, 152, 153] (by decide +kernel) (by decide +kernel)
set_option maxRecDepth 20000 in
theorem gX4_behindFitting_X1_code : GoodIn wsX4_behindFitting (wsV RX4 197 RX1 yX1_code wsX1_code) := goodIn_app (goodIn_of _ (by decide +kernel)) ggX4_behindFitting_X1_code
set_option maxRecDepth 20000 in
theorem ggX4_behindFitting_X4_isOf : GoodIn wsX4_behindFitting wsX4_isOf := goodIn_r _ [14] (by decide +kernel) (by decide +kernel)
set_option maxRecDepth 20000 in
theorem gX4_behindFitting_X4_isOf : GoodIn wsX4_behindFitting (va_wsS RX4 228 yX4_isOf wsX4_isOf) := goodIn_app (goodIn_of _ (by decide +kernel)) ggX4_behindFitting_X4_isOf
set_option maxRecDepth 20000 in
theorem ggX4_behindFitting_X4_behindBinding : GoodIn wsX4_behindFitting wsX4_behindBinding := goodIn_r _ [18, 1, 19, 2, 20, 21, 22, 6, 23, 24, 25, 26, 27, 28, 29, 30, 31, 32, 33, 34, 35, 36, 37, 38, 39, 9, 10, 11, 40, 4, 5, 7, 8, 13, 14, 41, 42, 43, 44, 45, 46, 47, 48, 49, 50, 51, 52, 53, 54, 55, 56, 57, 58, 59, 60, 61, 62, 63, 64, 3, 65, 66, 67, 68, 69, 70, 71, 72, 73, 74, 75, 76, 77, 78, 79, 80, 81, 82, 83, 84, 85, 86, 87, 88, 89, 90, 91, 92, 93, 94, 95, 96, 97, 98, 99, 100, 101, 102, 103, 104, 105, 106, 107, 108, 109, 110, 111, 112, 113, 114, 115, 116, 117, 118, 119, 120, 121, 122, 123, 124, 125, 126, 127, 128, 129, 130, 131, 132, 133, 134, 135, 136, 137, 139, 140, 141, 142, 143, 144, 145, 146, 147, 148, 149, 150, 151, 152, 153, 154, 155, 156, 157, 158, 159, 160, 161, 162, 163, 164, 165, 166, 167, 168, 169, 170, 171, 172, 173, 174, 175, 176, 177, 178, 179, 180] (by decide +kernel) (by decide +kernel)
set_option maxRecDepth 20000 in
theorem gX4_behindFitting_X4_behindBinding : GoodIn wsX4_behindFitting (wsV RX4 231 RX4 yX4_behindBinding wsX4_behindBinding) := goodIn_app (goodIn_of _ (by decide +kernel)) ggX4_behindFitting_X4_behindBinding
set_option maxRecDepth 20000 in
theorem ggX4_behindFitting_X1_symbolType : GoodIn wsX4_behindFitting wsX1_symbolType := goodIn_r _ [68, 69, 9, 10, 11, 146, 147, 148, 149, 150, 151, 152, 153] (by decide +kernel) (by decide +kernel)
set_option maxRecDepth 20000 in
theorem gX4_behindFitting_X1_symbolType : GoodIn wsX4_behindFitting (wsV RX4 234 RX1 yX1_symbolType wsX1_symbolType) := goodIn_app (goodIn_of _ (by decide +kernel)) ggX4_behindFitting_X1_symbolType
set_option maxRecDepth 20000 in
theorem ggX4_behindFitting_X2_first : GoodIn wsX4_behindFitting wsX2_first := goodIn_r _ [118, 119, 9, 10, 11, 167, 168, 169, 170, 171, 172, 173, 174, 175, 176, 177, 178, 179, 180] (by decide +kernel) (by decide +kernel)
set_option maxRecDepth 20000 in
theorem gX4_behindFitting_X2_first : GoodIn wsX4_behindFitting (wsV RX4 127 RX2 yX2_first wsX2_first) := goodIn_app (goodIn_of _ (by decide +kernel)) ggX4_behindFitting_X2_first
set_option maxRecDepth 20000 in
theorem ggX4_behindFitting_X2_fits : GoodIn wsX4_behindFitting wsX2_fits := goodIn_r _ [98, 99, 100, 101, 97, 102, 103, 104, 105, 106, 107, 108, 109, 9, 10, 11, 110, 111, 112, 113, 114, 115, 116, 117, 118, 119, 120, 121, 122, 123, 124, 125, 126, 127, 128, 167, 168, 169, 170, 171, 172, 173, 174, 175, 176, 177, 178, 179, 180] (by decide +kernel) (by decide +kernel)
set_option maxRecDepth 20000 in
theorem gX4_behindFitting_X2_fits : GoodIn wsX4_behindFitting (wsV RX4 112 RX2 yX2_fits wsX2_fits) := goodIn_app (goodIn_of _ (by decide +kernel)) ggX4_behindFitting_X2_fits
theorem dX4_behindFitting_0 : decode cX4_behindFitting 0 = .ok (.aload_n 0, 1) := by decide +kernel
theorem dX4_behindFitting_1 : decode cX4_behindFitting 1 = .ok (.getfield 19, 3) := by decide +kernel
theorem dX4_behindFitting_4 : decode cX4_behindFitting 4 = .ok (.iload_n 1, 1) := by decide +kernel
theorem dX4_behindFitting_5 : decode cX4_behindFitting 5 = .ok (.invokevirtual 197, 3) := by decide +kernel
theorem dX4_behindFitting_8 : decode cX4_behindFitting 8 = .ok (.istore_n 3, 1) := by decide +kernel
theorem dX4_behindFitting_9 : decode cX4_behindFitting 9 = .ok (.iconst 1, 1) := by decide +kernel
theorem dX4_behindFitting_10 : decode cX4_behindFitting 10 = .ok (.iload_n 3, 1) := by decide +kernel
theorem dX4_behindFitting_11 : decode cX4_behindFitting 11 = .ok (.invokestatic 228, 3) := by decide +kernel
theorem dX4_behindFitting_14 : decode cX4_behindFitting 14 = .ok (.ifCond .eq 10, 3) := by decide +kernel
theorem dX4_behindFitting_17 : decode cX4_behindFitting 17 = .ok (.aload_n 0, 1) := by decide +kernel
theorem dX4_behindFitting_18 : decode cX4_behindFitting 18 = .ok (.iload_n 1, 1) := by decide +kernel
theorem dX4_behindFitting_19 : decode cX4_behindFitting 19 = .ok (.iload_n 2, 1) := by decide +kernel
theorem dX4_behindFitting_20 : decode cX4_behindFitting 20 = .ok (.invokevirtual 231, 3) := by decide +kernel
theorem dX4_behindFitting_23 : decode cX4_behindFitting 23 = .ok (.ireturn, 1) := by decide +kernel
theorem dX4_behindFitting_24 : decode cX4_behindFitting 24 = .ok (.iload_n 3, 1) := by decide +kernel
