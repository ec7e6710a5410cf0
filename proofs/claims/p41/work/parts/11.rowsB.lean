set_option maxRecDepth 20000 in
theorem ggX7_init_X0_init : GoodIn wsX7_init wsX0_init := goodIn_r _ [41, 42, 2, 3, 43, 44, 45, 46, 47, 48, 107, 108, 109, 110] (by decide +kernel) (by decide +kernel)
set_option maxRecDepth 20000 in
theorem gX7_init_X0_init : GoodIn wsX7_init (wsX0_init) := ggX7_init_X0_init
set_option maxRecDepth 20000 in
theorem ggX7_init_X1_init : GoodIn wsX7_init wsX1_init := goodIn_r _ [51, 52, 2, 3, 43, 53, 54, 55, 56, 57, 58, 124, 125, 126, 127, 128] (by decide +kernel) (by decide +kernel)
set_option maxRecDepth 20000 in
theorem gX7_init_X1_init : GoodIn wsX7_init (wsX1_init) := ggX7_init_X1_init
set_option maxRecDepth 20000 in
theorem ggX7_init_X6_init : GoodIn wsX7_init wsX6_init := goodIn_r _ [61, 62, 2, 3, 43, 63, 64, 65, 66, 32, 67, 68, 129, 130, 131, 132, 133, 134] (by decide +kernel) (by decide +kernel)
set_option maxRecDepth 20000 in
theorem gX7_init_X6_init : GoodIn wsX7_init (wsX6_init) := ggX7_init_X6_init
set_option maxRecDepth 20000 in
theorem ggX7_init_X2_init : GoodIn wsX7_init wsX2_init := goodIn_r _ [71, 72, 2, 3, 32, 73, 43, 74, 75, 76, 77, 78, 79, 80, 81, 82, 83, 135, 136, 137, 138, 139, 140, 141, 142, 143, 144, 145] (by decide +kernel) (by decide +kernel)
set_option maxRecDepth 20000 in
theorem gX7_init_X2_init : GoodIn wsX7_init (wsX2_init) := ggX7_init_X2_init
set_option maxRecDepth 20000 in
theorem ggX7_init_X4_init : GoodIn wsX7_init wsX4_init := goodIn_r _ [86, 87, 2, 3, 32, 88, 43, 89, 90, 91, 146, 147, 148, 149] (by decide +kernel) (by decide +kernel)
set_option maxRecDepth 20000 in
theorem gX7_init_X4_init : GoodIn wsX7_init (wsX4_init) := ggX7_init_X4_init
set_option maxRecDepth 20000 in
theorem ggX7_init_X5_init : GoodIn wsX7_init wsX5_init := goodIn_r _ [94, 95, 2, 3, 96, 21, 22, 97, 98, 43, 99, 100, 85, 86, 87, 32, 88, 89, 90, 91, 146, 147, 148, 149, 150, 151, 152] (by decide +kernel) (by decide +kernel)
set_option maxRecDepth 20000 in
theorem gX7_init_X5_init : GoodIn wsX7_init (wsX5_init) := ggX7_init_X5_init
set_option maxRecDepth 20000 in
theorem ggX7_init_X3_init : GoodIn wsX7_init wsX3_init := goodIn_r _ [103, 104, 2, 3, 105, 106, 153, 154] (by decide +kernel) (by decide +kernel)
set_option maxRecDepth 20000 in
theorem gX7_init_X3_init : GoodIn wsX7_init (wsX3_init) := ggX7_init_X3_init
theorem dX7_init_0 : decode cX7_init 0 = .ok (.aload_n 0, 1) := by decide +kernel
theorem dX7_init_1 : decode cX7_init 1 = .ok (.invokespecial 3, 3) := by decide +kernel
theorem dX7_init_4 : decode cX7_init 4 = .ok (.aload_n 0, 1) := by decide +kernel
theorem dX7_init_5 : decode cX7_init 5 = .ok (.new 9, 3) := by decide +kernel
theorem dX7_init_8 : decode cX7_init 8 = .ok (.dup, 1) := by decide +kernel
theorem dX7_init_9 : decode cX7_init 9 = .ok (.invokespecial 11, 3) := by decide +kernel
theorem dX7_init_12 : decode cX7_init 12 = .ok (.putfield 12, 3) := by decide +kernel
theorem dX7_init_15 : decode cX7_init 15 = .ok (.aload_n 0, 1) := by decide +kernel
theorem dX7_init_16 : decode cX7_init 16 = .ok (.new 16, 3) := by decide +kernel
theorem dX7_init_19 : decode cX7_init 19 = .ok (.dup, 1) := by decide +kernel
theorem dX7_init_20 : decode cX7_init 20 = .ok (.invokespecial 18, 3) := by decide +kernel
theorem dX7_init_23 : decode cX7_init 23 = .ok (.putfield 19, 3) := by decide +kernel
theorem dX7_init_26 : decode cX7_init 26 = .ok (.aload_n 0, 1) := by decide +kernel
theorem dX7_init_27 : decode cX7_init 27 = .ok (.new 23, 3) := by decide +kernel
theorem dX7_init_30 : decode cX7_init 30 = .ok (.dup, 1) := by decide +kernel
theorem dX7_init_31 : decode cX7_init 31 = .ok (.invokespecial 25, 3) := by decide +kernel
theorem dX7_init_34 : decode cX7_init 34 = .ok (.putfield 26, 3) := by decide +kernel
theorem dX7_init_37 : decode cX7_init 37 = .ok (.aload_n 0, 1) := by decide +kernel
theorem dX7_init_38 : decode cX7_init 38 = .ok (.new 30, 3) := by decide +kernel
theorem dX7_init_41 : decode cX7_init 41 = .ok (.dup, 1) := by decide +kernel
theorem dX7_init_42 : decode cX7_init 42 = .ok (.invokespecial 32, 3) := by decide +kernel
theorem dX7_init_45 : decode cX7_init 45 = .ok (.putfield 33, 3) := by decide +kernel
theorem dX7_init_48 : decode cX7_init 48 = .ok (.aload_n 0, 1) := by decide +kernel
theorem dX7_init_49 : decode cX7_init 49 = .ok (.new 37, 3) := by decide +kernel
theorem dX7_init_52 : decode cX7_init 52 = .ok (.dup, 1) := by decide +kernel
theorem dX7_init_53 : decode cX7_init 53 = .ok (.invokespecial 39, 3) := by decide +kernel
theorem dX7_init_56 : decode cX7_init 56 = .ok (.putfield 40, 3) := by decide +kernel
theorem dX7_init_59 : decode cX7_init 59 = .ok (.aload_n 0, 1) := by decide +kernel
theorem dX7_init_60 : decode cX7_init 60 = .ok (.new 37, 3) := by decide +kernel
theorem dX7_init_63 : decode cX7_init 63 = .ok (.dup, 1) := by decide +kernel
theorem dX7_init_64 : decode cX7_init 64 = .ok (.invokespecial 39, 3) := by decide +kernel
theorem dX7_init_67 : decode cX7_init 67 = .ok (.putfield 44, 3) := by decide +kernel
theorem dX7_init_70 : decode cX7_init 70 = .ok (.aload_n 0, 1) := by decide +kernel
theorem dX7_init_71 : decode cX7_init 71 = .ok (.new 47, 3) := by decide +kernel
theorem dX7_init_74 : decode cX7_init 74 = .ok (.dup, 1) := by decide +kernel
theorem dX7_init_75 : decode cX7_init 75 = .ok (.invokespecial 49, 3) := by decide +kernel
theorem dX7_init_78 : decode cX7_init 78 = .ok (.putfield 50, 3) := by decide +kernel
theorem dX7_init_81 : decode cX7_init 81 = .ok (.aload_n 0, 1) := by decide +kernel
theorem dX7_init_82 : decode cX7_init 82 = .ok (.new 54, 3) := by decide +kernel
theorem dX7_init_85 : decode cX7_init 85 = .ok (.dup, 1) := by decide +kernel
theorem dX7_init_86 : decode cX7_init 86 = .ok (.bipush 20, 2) := by decide +kernel
theorem dX7_init_88 : decode cX7_init 88 = .ok (.newarray .char, 2) := by decide +kernel
theorem dX7_init_90 : decode cX7_init 90 = .ok (.invokespecial 56, 3) := by decide +kernel
theorem dX7_init_93 : decode cX7_init 93 = .ok (.putfield 59, 3) := by decide +kernel
theorem dX7_init_96 : decode cX7_init 96 = .ok (.aload_n 0, 1) := by decide +kernel
theorem dX7_init_97 : decode cX7_init 97 = .ok (.new 54, 3) := by decide +kernel
theorem dX7_init_100 : decode cX7_init 100 = .ok (.dup, 1) := by decide +kernel
theorem dX7_init_101 : decode cX7_init 101 = .ok (.sipush 300, 3) := by decide +kernel
theorem dX7_init_104 : decode cX7_init 104 = .ok (.newarray .char, 2) := by decide +kernel
theorem dX7_init_106 : decode cX7_init 106 = .ok (.invokespecial 56, 3) := by decide +kernel
theorem dX7_init_109 : decode cX7_init 109 = .ok (.putfield 63, 3) := by decide +kernel
theorem dX7_init_112 : decode cX7_init 112 = .ok (.aload_n 0, 1) := by decide +kernel
theorem dX7_init_113 : decode cX7_init 113 = .ok (.iconst 0, 1) := by decide +kernel
theorem dX7_init_114 : decode cX7_init 114 = .ok (.putfield 66, 3) := by decide +kernel
theorem dX7_init_117 : decode cX7_init 117 = .ok (.aload_n 0, 1) := by decide +kernel
theorem dX7_init_118 : decode cX7_init 118 = .ok (.iconst 0, 1) := by decide +kernel
theorem dX7_init_119 : decode cX7_init 119 = .ok (.putfield 70, 3) := by decide +kernel
theorem dX7_init_122 : decode cX7_init 122 = .ok (.aload_n 0, 1) := by decide +kernel
theorem dX7_init_123 : decode cX7_init 123 = .ok (.bipush 45, 2) := by decide +kernel
theorem dX7_init_125 : decode cX7_init 125 = .ok (.putfield 74, 3) := by decide +kernel
theorem dX7_init_128 : decode cX7_init 128 = .ok (.aload_n 0, 1) := by decide +kernel
theorem dX7_init_129 : decode cX7_init 129 = .ok (.iconst (-1), 1) := by decide +kernel
theorem dX7_init_130 : decode cX7_init 130 = .ok (.putfield 78, 3) := by decide +kernel
theorem dX7_init_133 : decode cX7_init 133 = .ok (.return_, 1) := by decide +kernel
set_option maxRecDepth 20000 in
theorem ggX7_addAuthor_X0_isFull : GoodIn wsX7_addAuthor wsX0_isFull := goodIn_r _ [10, 11, 32, 33, 34, 35] (by decide +kernel) (by decide +kernel)
set_option maxRecDepth 20000 in
theorem gX7_addAuthor_X0_isFull : GoodIn wsX7_addAuthor (wsV RX7 88 RX0 yX0_isFull wsX0_isFull) := goodIn_app (goodIn_of _ (by decide +kernel)) ggX7_addAuthor_X0_isFull
set_option maxRecDepth 20000 in
theorem ggX7_addAuthor_X0_enter : GoodIn wsX7_addAuthor wsX0_enter := goodIn_ca (goodIn_r _ [15, 16, 11, 17, 18, 7, 8, 9, 10, 32, 33, 34, 35] (by decide +kernel) (by decide +kernel)) (goodIn_sub (fun _ h => List.mem_cons_of_mem _ (List.mem_append_right _ h)) (by decide +kernel))
set_option maxRecDepth 20000 in
theorem gX7_addAuthor_X0_enter : GoodIn wsX7_addAuthor (wsV RX7 97 RX0 yX0_enter wsX0_enter) := goodIn_app (goodIn_of _ (by decide +kernel)) ggX7_addAuthor_X0_enter
theorem dX7_addAuthor_0 : decode cX7_addAuthor 0 = .ok (.iload_n 1, 1) := by decide +kernel
theorem dX7_addAuthor_1 : decode cX7_addAuthor 1 = .ok (.ifCond .lt 19, 3) := by decide +kernel
theorem dX7_addAuthor_4 : decode cX7_addAuthor 4 = .ok (.iload_n 1, 1) := by decide +kernel
theorem dX7_addAuthor_5 : decode cX7_addAuthor 5 = .ok (.iconst 3, 1) := by decide +kernel
theorem dX7_addAuthor_6 : decode cX7_addAuthor 6 = .ok (.if_icmp .gt 14, 3) := by decide +kernel
theorem dX7_addAuthor_9 : decode cX7_addAuthor 9 = .ok (.iload_n 2, 1) := by decide +kernel
theorem dX7_addAuthor_10 : decode cX7_addAuthor 10 = .ok (.ifCond .lt 10, 3) := by decide +kernel
theorem dX7_addAuthor_13 : decode cX7_addAuthor 13 = .ok (.iload_n 2, 1) := by decide +kernel
theorem dX7_addAuthor_14 : decode cX7_addAuthor 14 = .ok (.sipush 999, 3) := by decide +kernel
theorem dX7_addAuthor_17 : decode cX7_addAuthor 17 = .ok (.if_icmp .le 13, 3) := by decide +kernel
theorem dX7_addAuthor_20 : decode cX7_addAuthor 20 = .ok (.new 81, 3) := by decide +kernel
theorem dX7_addAuthor_23 : decode cX7_addAuthor 23 = .ok (.dup, 1) := by decide +kernel
theorem dX7_addAuthor_24 : decode cX7_addAuthor 24 = .ok (.ldc 83, 2) := by decide +kernel
theorem dX7_addAuthor_26 : decode cX7_addAuthor 26 = .ok (.invokespecial 85, 3) := by decide +kernel
theorem dX7_addAuthor_29 : decode cX7_addAuthor 29 = .ok (.athrow, 1) := by decide +kernel
theorem dX7_addAuthor_30 : decode cX7_addAuthor 30 = .ok (.aload_n 0, 1) := by decide +kernel
theorem dX7_addAuthor_31 : decode cX7_addAuthor 31 = .ok (.getfield 12, 3) := by decide +kernel
theorem dX7_addAuthor_34 : decode cX7_addAuthor 34 = .ok (.invokevirtual 88, 3) := by decide +kernel
theorem dX7_addAuthor_37 : decode cX7_addAuthor 37 = .ok (.ifCond .eq 13, 3) := by decide +kernel
theorem dX7_addAuthor_40 : decode cX7_addAuthor 40 = .ok (.new 92, 3) := by decide +kernel
theorem dX7_addAuthor_43 : decode cX7_addAuthor 43 = .ok (.dup, 1) := by decide +kernel
theorem dX7_addAuthor_44 : decode cX7_addAuthor 44 = .ok (.ldc 94, 2) := by decide +kernel
theorem dX7_addAuthor_46 : decode cX7_addAuthor 46 = .ok (.invokespecial 96, 3) := by decide +kernel
theorem dX7_addAuthor_49 : decode cX7_addAuthor 49 = .ok (.athrow, 1) := by decide +kernel
theorem dX7_addAuthor_50 : decode cX7_addAuthor 50 = .ok (.aload_n 0, 1) := by decide +kernel
theorem dX7_addAuthor_51 : decode cX7_addAuthor 51 = .ok (.getfield 12, 3) := by decide +kernel
theorem dX7_addAuthor_54 : decode cX7_addAuthor 54 = .ok (.iload_n 1, 1) := by decide +kernel
theorem dX7_addAuthor_55 : decode cX7_addAuthor 55 = .ok (.iload_n 2, 1) := by decide +kernel
theorem dX7_addAuthor_56 : decode cX7_addAuthor 56 = .ok (.invokevirtual 97, 3) := by decide +kernel
theorem dX7_addAuthor_59 : decode cX7_addAuthor 59 = .ok (.ireturn, 1) := by decide +kernel
set_option maxRecDepth 20000 in
theorem ggX7_type_X3_isFull : GoodIn wsX7_type wsX3_isFull := goodIn_r _ [11, 12, 13, 32, 33] (by decide +kernel) (by decide +kernel)
set_option maxRecDepth 20000 in
theorem gX7_type_X3_isFull : GoodIn wsX7_type (wsV RX7 103 RX3 yX3_isFull wsX3_isFull) := goodIn_app (goodIn_of _ (by decide +kernel)) ggX7_type_X3_isFull
set_option maxRecDepth 20000 in
theorem ggX7_type_X3_put : GoodIn wsX7_type wsX3_put := goodIn_ca (goodIn_r _ [17, 13, 12, 18, 8, 9, 10, 11, 32, 33] (by decide +kernel) (by decide +kernel)) (goodIn_sub (fun _ h => List.mem_cons_of_mem _ (List.mem_append_right _ h)) (by decide +kernel))
set_option maxRecDepth 20000 in
theorem gX7_type_X3_put : GoodIn wsX7_type (wsV RX7 106 RX3 yX3_put wsX3_put) := goodIn_app (goodIn_of _ (by decide +kernel)) ggX7_type_X3_put
theorem dX7_type_0 : decode cX7_type 0 = .ok (.iload_n 1, 1) := by decide +kernel
theorem dX7_type_1 : decode cX7_type 1 = .ok (.bipush 32, 2) := by decide +kernel
theorem dX7_type_3 : decode cX7_type 3 = .ok (.if_icmp .eq 25, 3) := by decide +kernel
theorem dX7_type_6 : decode cX7_type 6 = .ok (.iload_n 1, 1) := by decide +kernel
theorem dX7_type_7 : decode cX7_type 7 = .ok (.bipush 97, 2) := by decide +kernel
theorem dX7_type_9 : decode cX7_type 9 = .ok (.if_icmp .lt 9, 3) := by decide +kernel
theorem dX7_type_12 : decode cX7_type 12 = .ok (.iload_n 1, 1) := by decide +kernel
theorem dX7_type_13 : decode cX7_type 13 = .ok (.bipush 122, 2) := by decide +kernel
theorem dX7_type_15 : decode cX7_type 15 = .ok (.if_icmp .le 13, 3) := by decide +kernel
theorem dX7_type_18 : decode cX7_type 18 = .ok (.new 81, 3) := by decide +kernel
theorem dX7_type_21 : decode cX7_type 21 = .ok (.dup, 1) := by decide +kernel
theorem dX7_type_22 : decode cX7_type 22 = .ok (.ldc 101, 2) := by decide +kernel
theorem dX7_type_24 : decode cX7_type 24 = .ok (.invokespecial 85, 3) := by decide +kernel
theorem dX7_type_27 : decode cX7_type 27 = .ok (.athrow, 1) := by decide +kernel
theorem dX7_type_28 : decode cX7_type 28 = .ok (.aload_n 0, 1) := by decide +kernel
theorem dX7_type_29 : decode cX7_type 29 = .ok (.getfield 59, 3) := by decide +kernel
theorem dX7_type_32 : decode cX7_type 32 = .ok (.invokevirtual 103, 3) := by decide +kernel
theorem dX7_type_35 : decode cX7_type 35 = .ok (.ifCond .eq 13, 3) := by decide +kernel
theorem dX7_type_38 : decode cX7_type 38 = .ok (.new 92, 3) := by decide +kernel
theorem dX7_type_41 : decode cX7_type 41 = .ok (.dup, 1) := by decide +kernel
theorem dX7_type_42 : decode cX7_type 42 = .ok (.ldc 104, 2) := by decide +kernel
theorem dX7_type_44 : decode cX7_type 44 = .ok (.invokespecial 96, 3) := by decide +kernel
theorem dX7_type_47 : decode cX7_type 47 = .ok (.athrow, 1) := by decide +kernel
theorem dX7_type_48 : decode cX7_type 48 = .ok (.aload_n 0, 1) := by decide +kernel
theorem dX7_type_49 : decode cX7_type 49 = .ok (.getfield 59, 3) := by decide +kernel
theorem dX7_type_52 : decode cX7_type 52 = .ok (.iload_n 1, 1) := by decide +kernel
theorem dX7_type_53 : decode cX7_type 53 = .ok (.invokevirtual 106, 3) := by decide +kernel
theorem dX7_type_56 : decode cX7_type 56 = .ok (.aload_n 0, 1) := by decide +kernel
theorem dX7_type_57 : decode cX7_type 57 = .ok (.getfield 59, 3) := by decide +kernel
theorem dX7_type_60 : decode cX7_type 60 = .ok (.getfield 110, 3) := by decide +kernel
theorem dX7_type_63 : decode cX7_type 63 = .ok (.ireturn, 1) := by decide +kernel
set_option maxRecDepth 20000 in
theorem ggX7_insert_X7_needAuthor : GoodIn wsX7_insert wsX7_needAuthor := goodIn_ca (goodIn_r _ [16, 1, 2, 17, 18, 182, 183, 184, 185, 186, 187, 188, 189, 190, 191, 192, 193, 194, 201, 202, 203, 204] (by decide +kernel) (by decide +kernel)) (goodIn_sub (fun _ h => List.mem_cons_of_mem _ (List.mem_append_left _ (List.mem_append_left _ (List.mem_append_left _ (List.mem_append_left _ (List.mem_append_right _ h)))))) (by decide +kernel))
set_option maxRecDepth 20000 in
theorem gX7_insert_X7_needAuthor : GoodIn wsX7_insert (wsV RX7 113 RX7 yX7_needAuthor wsX7_needAuthor) := goodIn_app (goodIn_of _ (by decide +kernel)) ggX7_insert_X7_needAuthor
set_option maxRecDepth 20000 in
theorem ggX7_insert_X7_needRoomForEdit : GoodIn wsX7_insert wsX7_needRoomForEdit := goodIn_ca (goodIn_r _ [22, 5, 6, 11, 23, 24, 25, 26, 27, 28, 182, 183, 184, 185, 186, 187, 188, 189, 190, 191, 192, 193, 194, 205, 206, 207, 208, 209, 210, 211, 212, 213, 214, 215] (by decide +kernel) (by decide +kernel)) (goodIn_sub (fun _ h => List.mem_cons_of_mem _ (List.mem_append_left _ (List.mem_append_left _ (List.mem_append_right _ h)))) (by decide +kernel))
set_option maxRecDepth 20000 in
theorem gX7_insert_X7_needRoomForEdit : GoodIn wsX7_insert (wsV RX7 125 RX7 yX7_needRoomForEdit wsX7_needRoomForEdit) := goodIn_app (goodIn_of _ (by decide +kernel)) ggX7_insert_X7_needRoomForEdit
set_option maxRecDepth 20000 in
theorem ggX7_insert_X2_draft : GoodIn wsX7_insert wsX2_draft := goodIn_ca (goodIn_r _ [32, 33, 28, 34, 35, 36, 37, 38, 39, 40, 24, 25, 26, 27, 205, 206, 207, 208, 209, 210, 211, 212, 213, 214, 215] (by decide +kernel) (by decide +kernel)) (goodIn_sub (fun _ h => List.mem_cons_of_mem _ (List.mem_append_left _ (List.mem_append_right _ h))) (by decide +kernel))
set_option maxRecDepth 20000 in
theorem gX7_insert_X2_draft : GoodIn wsX7_insert (wsV RX7 130 RX2 yX2_draft wsX2_draft) := goodIn_app (goodIn_of _ (by decide +kernel)) ggX7_insert_X2_draft
set_option maxRecDepth 20000 in
theorem ggX7_insert_X2_draftLetters : GoodIn wsX7_insert wsX2_draftLetters := goodIn_ca (goodIn_r _ [44, 45, 39, 46, 47, 199, 200, 205, 206, 207, 208, 209, 210, 211, 212, 213, 214, 215] (by decide +kernel) (by decide +kernel)) (goodIn_sub (fun _ h => List.mem_cons_of_mem _ (List.mem_append_left _ (List.mem_append_right _ h))) (by decide +kernel))
set_option maxRecDepth 20000 in
theorem gX7_insert_X2_draftLetters : GoodIn wsX7_insert (wsV RX7 134 RX2 yX2_draftLetters wsX2_draftLetters) := goodIn_app (goodIn_of _ (by decide +kernel)) ggX7_insert_X2_draftLetters
set_option maxRecDepth 20000 in
theorem ggX7_insert_X7_performDraft : GoodIn wsX7_insert wsX7_performDraft := goodIn_ca (goodIn_ca (goodIn_r _ [51, 52, 53, 11, 54, 7, 55, 56, 57, 58, 59, 60, 17, 61, 62, 63, 64, 65, 66, 26, 67, 33, 35, 36, 68, 37, 69, 70, 71, 72, 73, 74, 75, 76, 77, 78, 38, 46, 34, 79, 80, 81, 82, 83, 84, 85, 86, 87, 88, 89, 90, 91, 92, 93, 94, 95, 96, 97, 98, 99, 100, 101, 102, 103, 104, 105, 106, 107, 108, 109, 110, 111, 112, 113, 114, 115, 116, 117, 118, 119, 120, 121, 15, 122, 123, 124, 125, 126, 127, 128, 129, 130, 131, 132, 133, 134, 135, 136, 137, 138, 139, 140, 141, 142, 143, 144, 145, 146, 147, 148, 149, 150, 151, 152, 153, 154, 155, 156, 157, 158, 159, 160, 161, 162, 163, 164, 165, 166, 167, 168, 169, 170, 171, 172, 173, 174, 28, 175, 39, 40, 24, 25, 27, 182, 183, 184, 185, 186, 187, 188, 189, 190, 191, 192, 193, 194, 205, 206, 207, 208, 209, 210, 211, 212, 213, 214, 215, 216, 217, 218, 219, 220, 201, 202, 203, 204, 195, 196, 197, 198, 221, 222, 223, 224, 225, 226] (by decide +kernel) (by decide +kernel)) (goodIn_sub (fun _ h => List.mem_cons_of_mem _ (List.mem_append_right _ h)) (by decide +kernel))) (goodIn_sub (fun _ h => List.mem_cons_of_mem _ (List.mem_append_left _ (List.mem_append_right _ h))) (by decide +kernel))
set_option maxRecDepth 20000 in
theorem gX7_insert_X7_performDraft : GoodIn wsX7_insert (wsV RX7 138 RX7 yX7_performDraft wsX7_performDraft) := goodIn_app (goodIn_of _ (by decide +kernel)) ggX7_insert_X7_performDraft
set_option maxRecDepth 20000 in
theorem ggX7_insert_X3_clear : GoodIn wsX7_insert wsX3_clear := goodIn_r _ [180, 181, 199, 200] (by decide +kernel) (by decide +kernel)
set_option maxRecDepth 20000 in
theorem gX7_insert_X3_clear : GoodIn wsX7_insert (wsV RX7 141 RX3 yX3_clear wsX3_clear) := goodIn_app (goodIn_of _ (by decide +kernel)) ggX7_insert_X3_clear
theorem dX7_insert_0 : decode cX7_insert 0 = .ok (.aload_n 0, 1) := by decide +kernel
theorem dX7_insert_1 : decode cX7_insert 1 = .ok (.iload_n 1, 1) := by decide +kernel
theorem dX7_insert_2 : decode cX7_insert 2 = .ok (.invokevirtual 113, 3) := by decide +kernel
theorem dX7_insert_5 : decode cX7_insert 5 = .ok (.iload_n 2, 1) := by decide +kernel
theorem dX7_insert_6 : decode cX7_insert 6 = .ok (.ifCond .lt 14, 3) := by decide +kernel
theorem dX7_insert_9 : decode cX7_insert 9 = .ok (.iload_n 2, 1) := by decide +kernel
theorem dX7_insert_10 : decode cX7_insert 10 = .ok (.aload_n 0, 1) := by decide +kernel
theorem dX7_insert_11 : decode cX7_insert 11 = .ok (.getfield 40, 3) := by decide +kernel
theorem dX7_insert_14 : decode cX7_insert 14 = .ok (.getfield 117, 3) := by decide +kernel
theorem dX7_insert_17 : decode cX7_insert 17 = .ok (.if_icmp .le 13, 3) := by decide +kernel
theorem dX7_insert_20 : decode cX7_insert 20 = .ok (.new 118, 3) := by decide +kernel
theorem dX7_insert_23 : decode cX7_insert 23 = .ok (.dup, 1) := by decide +kernel
theorem dX7_insert_24 : decode cX7_insert 24 = .ok (.ldc 120, 2) := by decide +kernel
theorem dX7_insert_26 : decode cX7_insert 26 = .ok (.invokespecial 122, 3) := by decide +kernel
theorem dX7_insert_29 : decode cX7_insert 29 = .ok (.athrow, 1) := by decide +kernel
theorem dX7_insert_30 : decode cX7_insert 30 = .ok (.aload_n 0, 1) := by decide +kernel
theorem dX7_insert_31 : decode cX7_insert 31 = .ok (.getfield 59, 3) := by decide +kernel
theorem dX7_insert_34 : decode cX7_insert 34 = .ok (.getfield 110, 3) := by decide +kernel
theorem dX7_insert_37 : decode cX7_insert 37 = .ok (.ifCond .ne 13, 3) := by decide +kernel
theorem dX7_insert_40 : decode cX7_insert 40 = .ok (.new 81, 3) := by decide +kernel
theorem dX7_insert_43 : decode cX7_insert 43 = .ok (.dup, 1) := by decide +kernel
theorem dX7_insert_44 : decode cX7_insert 44 = .ok (.ldc 123, 2) := by decide +kernel
theorem dX7_insert_46 : decode cX7_insert 46 = .ok (.invokespecial 85, 3) := by decide +kernel
theorem dX7_insert_49 : decode cX7_insert 49 = .ok (.athrow, 1) := by decide +kernel
theorem dX7_insert_50 : decode cX7_insert 50 = .ok (.aload_n 0, 1) := by decide +kernel
theorem dX7_insert_51 : decode cX7_insert 51 = .ok (.invokevirtual 125, 3) := by decide +kernel
theorem dX7_insert_54 : decode cX7_insert 54 = .ok (.aload_n 0, 1) := by decide +kernel
theorem dX7_insert_55 : decode cX7_insert 55 = .ok (.getfield 40, 3) := by decide +kernel
theorem dX7_insert_58 : decode cX7_insert 58 = .ok (.getfield 117, 3) := by decide +kernel
theorem dX7_insert_61 : decode cX7_insert 61 = .ok (.aload_n 0, 1) := by decide +kernel
theorem dX7_insert_62 : decode cX7_insert 62 = .ok (.getfield 59, 3) := by decide +kernel
theorem dX7_insert_65 : decode cX7_insert 65 = .ok (.getfield 110, 3) := by decide +kernel
theorem dX7_insert_68 : decode cX7_insert 68 = .ok (.iadd, 1) := by decide +kernel
theorem dX7_insert_69 : decode cX7_insert 69 = .ok (.bipush 60, 2) := by decide +kernel
theorem dX7_insert_71 : decode cX7_insert 71 = .ok (.if_icmp .le 13, 3) := by decide +kernel
theorem dX7_insert_74 : decode cX7_insert 74 = .ok (.new 92, 3) := by decide +kernel
theorem dX7_insert_77 : decode cX7_insert 77 = .ok (.dup, 1) := by decide +kernel
theorem dX7_insert_78 : decode cX7_insert 78 = .ok (.ldc 128, 2) := by decide +kernel
theorem dX7_insert_80 : decode cX7_insert 80 = .ok (.invokespecial 96, 3) := by decide +kernel
theorem dX7_insert_83 : decode cX7_insert 83 = .ok (.athrow, 1) := by decide +kernel
theorem dX7_insert_84 : decode cX7_insert 84 = .ok (.aload_n 0, 1) := by decide +kernel
theorem dX7_insert_85 : decode cX7_insert 85 = .ok (.getfield 33, 3) := by decide +kernel
theorem dX7_insert_88 : decode cX7_insert 88 = .ok (.bipush 105, 2) := by decide +kernel
theorem dX7_insert_90 : decode cX7_insert 90 = .ok (.iload_n 1, 1) := by decide +kernel
theorem dX7_insert_91 : decode cX7_insert 91 = .ok (.iload_n 2, 1) := by decide +kernel
theorem dX7_insert_92 : decode cX7_insert 92 = .ok (.aload_n 0, 1) := by decide +kernel
theorem dX7_insert_93 : decode cX7_insert 93 = .ok (.getfield 59, 3) := by decide +kernel
theorem dX7_insert_96 : decode cX7_insert 96 = .ok (.getfield 110, 3) := by decide +kernel
theorem dX7_insert_99 : decode cX7_insert 99 = .ok (.iload_n 2, 1) := by decide +kernel
theorem dX7_insert_100 : decode cX7_insert 100 = .ok (.invokevirtual 130, 3) := by decide +kernel
theorem dX7_insert_103 : decode cX7_insert 103 = .ok (.aload_n 0, 1) := by decide +kernel
theorem dX7_insert_104 : decode cX7_insert 104 = .ok (.getfield 33, 3) := by decide +kernel
theorem dX7_insert_107 : decode cX7_insert 107 = .ok (.aload_n 0, 1) := by decide +kernel
theorem dX7_insert_108 : decode cX7_insert 108 = .ok (.getfield 59, 3) := by decide +kernel
theorem dX7_insert_111 : decode cX7_insert 111 = .ok (.invokevirtual 134, 3) := by decide +kernel
theorem dX7_insert_114 : decode cX7_insert 114 = .ok (.aload_n 0, 1) := by decide +kernel
theorem dX7_insert_115 : decode cX7_insert 115 = .ok (.invokevirtual 138, 3) := by decide +kernel
theorem dX7_insert_118 : decode cX7_insert 118 = .ok (.aload_n 0, 1) := by decide +kernel
theorem dX7_insert_119 : decode cX7_insert 119 = .ok (.getfield 59, 3) := by decide +kernel
theorem dX7_insert_122 : decode cX7_insert 122 = .ok (.invokevirtual 141, 3) := by decide +kernel
theorem dX7_insert_125 : decode cX7_insert 125 = .ok (.aload_n 0, 1) := by decide +kernel
theorem dX7_insert_126 : decode cX7_insert 126 = .ok (.getfield 40, 3) := by decide +kernel
theorem dX7_insert_129 : decode cX7_insert 129 = .ok (.getfield 117, 3) := by decide +kernel
theorem dX7_insert_132 : decode cX7_insert 132 = .ok (.ireturn, 1) := by decide +kernel
set_option maxRecDepth 20000 in
theorem ggX7_delete_X7_needAuthor : GoodIn wsX7_delete wsX7_needAuthor := goodIn_ca (goodIn_r _ [8, 9, 10, 11, 12, 170, 171, 172, 173, 174, 175, 176, 177, 178, 179, 180, 181, 182, 187, 188, 189, 190] (by decide +kernel) (by decide +kernel)) (goodIn_sub (fun _ h => List.mem_cons_of_mem _ (List.mem_append_left _ (List.mem_append_left _ (List.mem_append_left _ (List.mem_append_right _ h))))) (by decide +kernel))
set_option maxRecDepth 20000 in
theorem gX7_delete_X7_needAuthor : GoodIn wsX7_delete (wsV RX7 113 RX7 yX7_needAuthor wsX7_needAuthor) := goodIn_app (goodIn_of _ (by decide +kernel)) ggX7_delete_X7_needAuthor
set_option maxRecDepth 20000 in
theorem ggX7_delete_X7_needRange : GoodIn wsX7_delete wsX7_needRange := goodIn_ca (goodIn_r _ [16, 9, 10, 2, 3, 170, 171, 172, 173, 174, 175, 176, 177, 178, 179, 180, 181, 182, 183, 184, 185, 186] (by decide +kernel) (by decide +kernel)) (goodIn_sub (fun _ h => List.mem_cons_of_mem _ (List.mem_append_left _ (List.mem_append_left _ (List.mem_append_left _ (List.mem_append_right _ h))))) (by decide +kernel))
set_option maxRecDepth 20000 in
theorem gX7_delete_X7_needRange : GoodIn wsX7_delete (wsV RX7 144 RX7 yX7_needRange wsX7_needRange) := goodIn_app (goodIn_of _ (by decide +kernel)) ggX7_delete_X7_needRange
set_option maxRecDepth 20000 in
theorem ggX7_delete_X7_needRoomForEdit : GoodIn wsX7_delete wsX7_needRoomForEdit := goodIn_ca (goodIn_r _ [20, 21, 22, 1, 23, 24, 25, 26, 27, 28, 170, 171, 172, 173, 174, 175, 176, 177, 178, 179, 180, 181, 182, 191, 192, 193, 194, 195, 196, 197, 198, 199, 200, 201] (by decide +kernel) (by decide +kernel)) (goodIn_sub (fun _ h => List.mem_cons_of_mem _ (List.mem_append_left _ (List.mem_append_left _ (List.mem_append_right _ h)))) (by decide +kernel))
set_option maxRecDepth 20000 in
theorem gX7_delete_X7_needRoomForEdit : GoodIn wsX7_delete (wsV RX7 125 RX7 yX7_needRoomForEdit wsX7_needRoomForEdit) := goodIn_app (goodIn_of _ (by decide +kernel)) ggX7_delete_X7_needRoomForEdit
set_option maxRecDepth 20000 in
theorem ggX7_delete_X2_draft : GoodIn wsX7_delete wsX2_draft := goodIn_ca (goodIn_r _ [32, 33, 28, 34, 35, 36, 37, 38, 39, 40, 24, 25, 26, 27, 191, 192, 193, 194, 195, 196, 197, 198, 199, 200, 201] (by decide +kernel) (by decide +kernel)) (goodIn_sub (fun _ h => List.mem_cons_of_mem _ (List.mem_append_left _ (List.mem_append_right _ h))) (by decide +kernel))
set_option maxRecDepth 20000 in
theorem gX7_delete_X2_draft : GoodIn wsX7_delete (wsV RX7 130 RX2 yX2_draft wsX2_draft) := goodIn_app (goodIn_of _ (by decide +kernel)) ggX7_delete_X2_draft
set_option maxRecDepth 20000 in
theorem ggX7_delete_X7_performDraft : GoodIn wsX7_delete wsX7_performDraft := goodIn_ca (goodIn_ca (goodIn_r _ [44, 45, 46, 1, 47, 2, 48, 49, 50, 51, 52, 53, 11, 54, 55, 56, 57, 58, 59, 26, 60, 33, 35, 36, 61, 37, 62, 63, 64, 65, 66, 67, 68, 69, 70, 71, 38, 72, 34, 73, 74, 75, 76, 77, 78, 79, 80, 81, 82, 83, 84, 85, 86, 87, 88, 89, 90, 91, 92, 93, 94, 95, 96, 97, 98, 99, 100, 101, 102, 103, 104, 105, 106, 107, 108, 109, 110, 111, 112, 113, 114, 115, 7, 116, 117, 118, 119, 120, 121, 122, 123, 124, 125, 126, 127, 128, 129, 130, 131, 132, 133, 134, 135, 136, 137, 138, 139, 140, 141, 142, 143, 144, 145, 146, 147, 148, 149, 150, 151, 152, 153, 154, 155, 156, 157, 158, 159, 160, 161, 162, 163, 164, 165, 166, 167, 168, 28, 169, 39, 40, 24, 25, 27, 170, 171, 172, 173, 174, 175, 176, 177, 178, 179, 180, 181, 182, 191, 192, 193, 194, 195, 196, 197, 198, 199, 200, 201, 202, 203, 204, 205, 206, 187, 188, 189, 190, 183, 184, 185, 186, 207, 208, 209, 210, 211, 212] (by decide +kernel) (by decide +kernel)) (goodIn_sub (fun _ h => List.mem_cons_of_mem _ (List.mem_append_right _ h)) (by decide +kernel))) (goodIn_sub (fun _ h => List.mem_cons_of_mem _ (List.mem_append_left _ (List.mem_append_right _ h))) (by decide +kernel))
set_option maxRecDepth 20000 in
theorem gX7_delete_X7_performDraft : GoodIn wsX7_delete (wsV RX7 138 RX7 yX7_performDraft wsX7_performDraft) := goodIn_app (goodIn_of _ (by decide +kernel)) ggX7_delete_X7_performDraft
theorem dX7_delete_0 : decode cX7_delete 0 = .ok (.aload_n 0, 1) := by decide +kernel
theorem dX7_delete_1 : decode cX7_delete 1 = .ok (.iload_n 1, 1) := by decide +kernel
theorem dX7_delete_2 : decode cX7_delete 2 = .ok (.invokevirtual 113, 3) := by decide +kernel
theorem dX7_delete_5 : decode cX7_delete 5 = .ok (.aload_n 0, 1) := by decide +kernel
theorem dX7_delete_6 : decode cX7_delete 6 = .ok (.iload_n 2, 1) := by decide +kernel
theorem dX7_delete_7 : decode cX7_delete 7 = .ok (.iload_n 3, 1) := by decide +kernel
theorem dX7_delete_8 : decode cX7_delete 8 = .ok (.invokevirtual 144, 3) := by decide +kernel
theorem dX7_delete_11 : decode cX7_delete 11 = .ok (.aload_n 0, 1) := by decide +kernel
theorem dX7_delete_12 : decode cX7_delete 12 = .ok (.invokevirtual 125, 3) := by decide +kernel
theorem dX7_delete_15 : decode cX7_delete 15 = .ok (.aload_n 0, 1) := by decide +kernel
theorem dX7_delete_16 : decode cX7_delete 16 = .ok (.getfield 33, 3) := by decide +kernel
theorem dX7_delete_19 : decode cX7_delete 19 = .ok (.bipush 100, 2) := by decide +kernel
theorem dX7_delete_21 : decode cX7_delete 21 = .ok (.iload_n 1, 1) := by decide +kernel
theorem dX7_delete_22 : decode cX7_delete 22 = .ok (.iload_n 2, 1) := by decide +kernel
theorem dX7_delete_23 : decode cX7_delete 23 = .ok (.iload_n 3, 1) := by decide +kernel
theorem dX7_delete_24 : decode cX7_delete 24 = .ok (.iload_n 2, 1) := by decide +kernel
theorem dX7_delete_25 : decode cX7_delete 25 = .ok (.invokevirtual 130, 3) := by decide +kernel
theorem dX7_delete_28 : decode cX7_delete 28 = .ok (.aload_n 0, 1) := by decide +kernel
theorem dX7_delete_29 : decode cX7_delete 29 = .ok (.invokevirtual 138, 3) := by decide +kernel
theorem dX7_delete_32 : decode cX7_delete 32 = .ok (.aload_n 0, 1) := by decide +kernel
theorem dX7_delete_33 : decode cX7_delete 33 = .ok (.getfield 40, 3) := by decide +kernel
theorem dX7_delete_36 : decode cX7_delete 36 = .ok (.getfield 117, 3) := by decide +kernel
theorem dX7_delete_39 : decode cX7_delete 39 = .ok (.ireturn, 1) := by decide +kernel
set_option maxRecDepth 20000 in
theorem ggX7_move_X7_needAuthor : GoodIn wsX7_move wsX7_needAuthor := goodIn_ca (goodIn_r _ [11, 1, 2, 12, 13, 170, 171, 172, 173, 174, 175, 176, 177, 178, 179, 180, 181, 182, 198, 199, 200, 201] (by decide +kernel) (by decide +kernel)) (goodIn_sub (fun _ h => List.mem_cons_of_mem _ (List.mem_append_left _ (List.mem_append_left _ (List.mem_append_left _ (List.mem_append_right _ h))))) (by decide +kernel))
set_option maxRecDepth 20000 in
theorem gX7_move_X7_needAuthor : GoodIn wsX7_move (wsV RX7 113 RX7 yX7_needAuthor wsX7_needAuthor) := goodIn_app (goodIn_of _ (by decide +kernel)) ggX7_move_X7_needAuthor
set_option maxRecDepth 20000 in
theorem ggX7_move_X7_needRange : GoodIn wsX7_move wsX7_needRange := goodIn_ca (goodIn_r _ [17, 1, 2, 3, 4, 170, 171, 172, 173, 174, 175, 176, 177, 178, 179, 180, 181, 182, 183, 184, 185, 186] (by decide +kernel) (by decide +kernel)) (goodIn_sub (fun _ h => List.mem_cons_of_mem _ (List.mem_append_left _ (List.mem_append_left _ (List.mem_append_left _ (List.mem_append_right _ h))))) (by decide +kernel))
set_option maxRecDepth 20000 in
theorem gX7_move_X7_needRange : GoodIn wsX7_move (wsV RX7 144 RX7 yX7_needRange wsX7_needRange) := goodIn_app (goodIn_of _ (by decide +kernel)) ggX7_move_X7_needRange
set_option maxRecDepth 20000 in
theorem ggX7_move_X7_needRoomForEdit : GoodIn wsX7_move wsX7_needRoomForEdit := goodIn_ca (goodIn_r _ [21, 22, 23, 5, 24, 25, 26, 27, 28, 29, 170, 171, 172, 173, 174, 175, 176, 177, 178, 179, 180, 181, 182, 187, 188, 189, 190, 191, 192, 193, 194, 195, 196, 197] (by decide +kernel) (by decide +kernel)) (goodIn_sub (fun _ h => List.mem_cons_of_mem _ (List.mem_append_left _ (List.mem_append_left _ (List.mem_append_right _ h)))) (by decide +kernel))
set_option maxRecDepth 20000 in
theorem gX7_move_X7_needRoomForEdit : GoodIn wsX7_move (wsV RX7 125 RX7 yX7_needRoomForEdit wsX7_needRoomForEdit) := goodIn_app (goodIn_of _ (by decide +kernel)) ggX7_move_X7_needRoomForEdit
set_option maxRecDepth 20000 in
theorem ggX7_move_X2_draft : GoodIn wsX7_move wsX2_draft := goodIn_ca (goodIn_r _ [33, 34, 29, 35, 36, 37, 38, 39, 40, 41, 25, 26, 27, 28, 187, 188, 189, 190, 191, 192, 193, 194, 195, 196, 197] (by decide +kernel) (by decide +kernel)) (goodIn_sub (fun _ h => List.mem_cons_of_mem _ (List.mem_append_left _ (List.mem_append_right _ h))) (by decide +kernel))
set_option maxRecDepth 20000 in
theorem gX7_move_X2_draft : GoodIn wsX7_move (wsV RX7 130 RX2 yX2_draft wsX2_draft) := goodIn_app (goodIn_of _ (by decide +kernel)) ggX7_move_X2_draft
set_option maxRecDepth 20000 in
theorem ggX7_move_X7_performDraft : GoodIn wsX7_move wsX7_performDraft := goodIn_ca (goodIn_ca (goodIn_r _ [45, 46, 47, 5, 6, 3, 48, 49, 50, 51, 52, 53, 12, 54, 55, 56, 57, 58, 59, 27, 60, 34, 36, 37, 61, 38, 62, 63, 64, 65, 66, 67, 68, 69, 70, 71, 39, 72, 35, 73, 74, 75, 76, 77, 78, 79, 80, 81, 82, 83, 84, 85, 86, 87, 88, 89, 90, 91, 92, 93, 94, 95, 96, 97, 98, 99, 100, 101, 102, 103, 104, 105, 106, 107, 108, 109, 110, 111, 112, 113, 114, 115, 10, 116, 117, 118, 119, 120, 121, 122, 123, 124, 125, 126, 127, 128, 129, 130, 131, 132, 133, 134, 135, 136, 137, 138, 139, 140, 141, 142, 143, 144, 145, 146, 147, 148, 149, 150, 151, 152, 153, 154, 155, 156, 157, 158, 159, 160, 161, 162, 163, 164, 165, 166, 167, 168, 29, 169, 40, 41, 25, 26, 28, 170, 171, 172, 173, 174, 175, 176, 177, 178, 179, 180, 181, 182, 187, 188, 189, 190, 191, 192, 193, 194, 195, 196, 197, 202, 203, 204, 205, 206, 198, 199, 200, 201, 183, 184, 185, 186, 207, 208, 209, 210, 211, 212] (by decide +kernel) (by decide +kernel)) (goodIn_sub (fun _ h => List.mem_cons_of_mem _ (List.mem_append_right _ h)) (by decide +kernel))) (goodIn_sub (fun _ h => List.mem_cons_of_mem _ (List.mem_append_left _ (List.mem_append_right _ h))) (by decide +kernel))
set_option maxRecDepth 20000 in
theorem gX7_move_X7_performDraft : GoodIn wsX7_move (wsV RX7 138 RX7 yX7_performDraft wsX7_performDraft) := goodIn_app (goodIn_of _ (by decide +kernel)) ggX7_move_X7_performDraft
theorem dX7_move_0 : decode cX7_move 0 = .ok (.aload_n 0, 1) := by decide +kernel
theorem dX7_move_1 : decode cX7_move 1 = .ok (.iload_n 1, 1) := by decide +kernel
theorem dX7_move_2 : decode cX7_move 2 = .ok (.invokevirtual 113, 3) := by decide +kernel
theorem dX7_move_5 : decode cX7_move 5 = .ok (.aload_n 0, 1) := by decide +kernel
theorem dX7_move_6 : decode cX7_move 6 = .ok (.iload_n 2, 1) := by decide +kernel
theorem dX7_move_7 : decode cX7_move 7 = .ok (.iload_n 3, 1) := by decide +kernel
theorem dX7_move_8 : decode cX7_move 8 = .ok (.invokevirtual 144, 3) := by decide +kernel
theorem dX7_move_11 : decode cX7_move 11 = .ok (.iload 4, 2) := by decide +kernel
theorem dX7_move_13 : decode cX7_move 13 = .ok (.ifCond .lt 17, 3) := by decide +kernel
theorem dX7_move_16 : decode cX7_move 16 = .ok (.iload 4, 2) := by decide +kernel
theorem dX7_move_18 : decode cX7_move 18 = .ok (.aload_n 0, 1) := by decide +kernel
theorem dX7_move_19 : decode cX7_move 19 = .ok (.getfield 40, 3) := by decide +kernel
theorem dX7_move_22 : decode cX7_move 22 = .ok (.getfield 117, 3) := by decide +kernel
theorem dX7_move_25 : decode cX7_move 25 = .ok (.iload_n 3, 1) := by decide +kernel
theorem dX7_move_26 : decode cX7_move 26 = .ok (.isub, 1) := by decide +kernel
theorem dX7_move_27 : decode cX7_move 27 = .ok (.if_icmp .le 13, 3) := by decide +kernel
theorem dX7_move_30 : decode cX7_move 30 = .ok (.new 118, 3) := by decide +kernel
theorem dX7_move_33 : decode cX7_move 33 = .ok (.dup, 1) := by decide +kernel
theorem dX7_move_34 : decode cX7_move 34 = .ok (.ldc 148, 2) := by decide +kernel
theorem dX7_move_36 : decode cX7_move 36 = .ok (.invokespecial 122, 3) := by decide +kernel
theorem dX7_move_39 : decode cX7_move 39 = .ok (.athrow, 1) := by decide +kernel
theorem dX7_move_40 : decode cX7_move 40 = .ok (.aload_n 0, 1) := by decide +kernel
theorem dX7_move_41 : decode cX7_move 41 = .ok (.invokevirtual 125, 3) := by decide +kernel
theorem dX7_move_44 : decode cX7_move 44 = .ok (.aload_n 0, 1) := by decide +kernel
theorem dX7_move_45 : decode cX7_move 45 = .ok (.getfield 33, 3) := by decide +kernel
theorem dX7_move_48 : decode cX7_move 48 = .ok (.bipush 109, 2) := by decide +kernel
theorem dX7_move_50 : decode cX7_move 50 = .ok (.iload_n 1, 1) := by decide +kernel
theorem dX7_move_51 : decode cX7_move 51 = .ok (.iload_n 2, 1) := by decide +kernel
theorem dX7_move_52 : decode cX7_move 52 = .ok (.iload_n 3, 1) := by decide +kernel
theorem dX7_move_53 : decode cX7_move 53 = .ok (.iload 4, 2) := by decide +kernel
theorem dX7_move_55 : decode cX7_move 55 = .ok (.invokevirtual 130, 3) := by decide +kernel
theorem dX7_move_58 : decode cX7_move 58 = .ok (.aload_n 0, 1) := by decide +kernel
theorem dX7_move_59 : decode cX7_move 59 = .ok (.invokevirtual 138, 3) := by decide +kernel
theorem dX7_move_62 : decode cX7_move 62 = .ok (.aload_n 0, 1) := by decide +kernel
theorem dX7_move_63 : decode cX7_move 63 = .ok (.getfield 33, 3) := by decide +kernel
theorem dX7_move_66 : decode cX7_move 66 = .ok (.getfield 150, 3) := by decide +kernel
theorem dX7_move_69 : decode cX7_move 69 = .ok (.iconst 1, 1) := by decide +kernel
theorem dX7_move_70 : decode cX7_move 70 = .ok (.isub, 1) := by decide +kernel
theorem dX7_move_71 : decode cX7_move 71 = .ok (.ireturn, 1) := by decide +kernel
set_option maxRecDepth 20000 in
theorem ggX7_refusalReason_X7_needRefusal : GoodIn wsX7_refusalReason wsX7_needRefusal := goodIn_ca (goodIn_r _ [6, 7, 8, 1, 9, 10, 11, 12, 13, 14, 15, 16, 17, 18, 19, 20, 21] (by decide +kernel) (by decide +kernel)) (goodIn_sub (fun _ h => List.mem_cons_of_mem _ (List.mem_append_right _ h)) (by decide +kernel))
set_option maxRecDepth 20000 in
theorem gX7_refusalReason_X7_needRefusal : GoodIn wsX7_refusalReason (wsV RX7 165 RX7 yX7_needRefusal wsX7_needRefusal) := goodIn_app (goodIn_of _ (by decide +kernel)) ggX7_refusalReason_X7_needRefusal
theorem dX7_refusalReason_0 : decode cX7_refusalReason 0 = .ok (.aload_n 0, 1) := by decide +kernel
theorem dX7_refusalReason_1 : decode cX7_refusalReason 1 = .ok (.invokevirtual 165, 3) := by decide +kernel
theorem dX7_refusalReason_4 : decode cX7_refusalReason 4 = .ok (.aload_n 0, 1) := by decide +kernel
theorem dX7_refusalReason_5 : decode cX7_refusalReason 5 = .ok (.getfield 74, 3) := by decide +kernel
theorem dX7_refusalReason_8 : decode cX7_refusalReason 8 = .ok (.ireturn, 1) := by decide +kernel
set_option maxRecDepth 20000 in
theorem ggX7_refusalSubject_X7_needRefusal : GoodIn wsX7_refusalSubject wsX7_needRefusal := goodIn_ca (goodIn_r _ [6, 7, 8, 9, 10, 11, 12, 13, 14, 15, 16, 17, 18, 19, 20, 21, 22] (by decide +kernel) (by decide +kernel)) (goodIn_sub (fun _ h => List.mem_cons_of_mem _ (List.mem_append_right _ h)) (by decide +kernel))
set_option maxRecDepth 20000 in
theorem gX7_refusalSubject_X7_needRefusal : GoodIn wsX7_refusalSubject (wsV RX7 165 RX7 yX7_needRefusal wsX7_needRefusal) := goodIn_app (goodIn_of _ (by decide +kernel)) ggX7_refusalSubject_X7_needRefusal
theorem dX7_refusalSubject_0 : decode cX7_refusalSubject 0 = .ok (.aload_n 0, 1) := by decide +kernel
theorem dX7_refusalSubject_1 : decode cX7_refusalSubject 1 = .ok (.invokevirtual 165, 3) := by decide +kernel
theorem dX7_refusalSubject_4 : decode cX7_refusalSubject 4 = .ok (.aload_n 0, 1) := by decide +kernel
theorem dX7_refusalSubject_5 : decode cX7_refusalSubject 5 = .ok (.getfield 78, 3) := by decide +kernel
theorem dX7_refusalSubject_8 : decode cX7_refusalSubject 8 = .ok (.ireturn, 1) := by decide +kernel
theorem dX7_length_0 : decode cX7_length 0 = .ok (.aload_n 0, 1) := by decide +kernel
theorem dX7_length_1 : decode cX7_length 1 = .ok (.getfield 40, 3) := by decide +kernel
theorem dX7_length_4 : decode cX7_length 4 = .ok (.getfield 117, 3) := by decide +kernel
theorem dX7_length_7 : decode cX7_length 7 = .ok (.ireturn, 1) := by decide +kernel
set_option maxRecDepth 20000 in
theorem ggX7_charAt_X7_needPosition : GoodIn wsX7_charAt wsX7_needPosition := goodIn_ca (goodIn_r _ [7, 8, 9, 10, 24, 25, 26, 27] (by decide +kernel) (by decide +kernel)) (goodIn_sub (fun _ h => List.mem_cons_of_mem _ (List.mem_append_right _ h)) (by decide +kernel))
set_option maxRecDepth 20000 in
theorem gX7_charAt_X7_needPosition : GoodIn wsX7_charAt (wsV RX7 168 RX7 yX7_needPosition wsX7_needPosition) := goodIn_app (goodIn_of _ (by decide +kernel)) ggX7_charAt_X7_needPosition
theorem dX7_charAt_0 : decode cX7_charAt 0 = .ok (.aload_n 0, 1) := by decide +kernel
theorem dX7_charAt_1 : decode cX7_charAt 1 = .ok (.iload_n 1, 1) := by decide +kernel
theorem dX7_charAt_2 : decode cX7_charAt 2 = .ok (.aload_n 0, 1) := by decide +kernel
theorem dX7_charAt_3 : decode cX7_charAt 3 = .ok (.getfield 40, 3) := by decide +kernel
theorem dX7_charAt_6 : decode cX7_charAt 6 = .ok (.invokevirtual 168, 3) := by decide +kernel
theorem dX7_charAt_9 : decode cX7_charAt 9 = .ok (.aload_n 0, 1) := by decide +kernel
theorem dX7_charAt_10 : decode cX7_charAt 10 = .ok (.getfield 40, 3) := by decide +kernel
theorem dX7_charAt_13 : decode cX7_charAt 13 = .ok (.getfield 172, 3) := by decide +kernel
theorem dX7_charAt_16 : decode cX7_charAt 16 = .ok (.iload_n 1, 1) := by decide +kernel
theorem dX7_charAt_17 : decode cX7_charAt 17 = .ok (.caload, 1) := by decide +kernel
theorem dX7_charAt_18 : decode cX7_charAt 18 = .ok (.ireturn, 1) := by decide +kernel
set_option maxRecDepth 20000 in
theorem ggX7_authorOf_X7_needPosition : GoodIn wsX7_authorOf wsX7_needPosition := goodIn_ca (goodIn_r _ [7, 8, 9, 10, 24, 25, 26, 27] (by decide +kernel) (by decide +kernel)) (goodIn_sub (fun _ h => List.mem_cons_of_mem _ (List.mem_append_right _ h)) (by decide +kernel))
set_option maxRecDepth 20000 in
theorem gX7_authorOf_X7_needPosition : GoodIn wsX7_authorOf (wsV RX7 168 RX7 yX7_needPosition wsX7_needPosition) := goodIn_app (goodIn_of _ (by decide +kernel)) ggX7_authorOf_X7_needPosition
theorem dX7_authorOf_0 : decode cX7_authorOf 0 = .ok (.aload_n 0, 1) := by decide +kernel
theorem dX7_authorOf_1 : decode cX7_authorOf 1 = .ok (.iload_n 1, 1) := by decide +kernel
theorem dX7_authorOf_2 : decode cX7_authorOf 2 = .ok (.aload_n 0, 1) := by decide +kernel
theorem dX7_authorOf_3 : decode cX7_authorOf 3 = .ok (.getfield 40, 3) := by decide +kernel
theorem dX7_authorOf_6 : decode cX7_authorOf 6 = .ok (.invokevirtual 168, 3) := by decide +kernel
theorem dX7_authorOf_9 : decode cX7_authorOf 9 = .ok (.aload_n 0, 1) := by decide +kernel
theorem dX7_authorOf_10 : decode cX7_authorOf 10 = .ok (.getfield 40, 3) := by decide +kernel
theorem dX7_authorOf_13 : decode cX7_authorOf 13 = .ok (.getfield 175, 3) := by decide +kernel
theorem dX7_authorOf_16 : decode cX7_authorOf 16 = .ok (.iload_n 1, 1) := by decide +kernel
theorem dX7_authorOf_17 : decode cX7_authorOf 17 = .ok (.iaload, 1) := by decide +kernel
theorem dX7_authorOf_18 : decode cX7_authorOf 18 = .ok (.ireturn, 1) := by decide +kernel
set_option maxRecDepth 20000 in
theorem ggX7_clauseOf_X7_needPosition : GoodIn wsX7_clauseOf wsX7_needPosition := goodIn_ca (goodIn_r _ [7, 8, 9, 10, 24, 25, 26, 27] (by decide +kernel) (by decide +kernel)) (goodIn_sub (fun _ h => List.mem_cons_of_mem _ (List.mem_append_right _ h)) (by decide +kernel))
set_option maxRecDepth 20000 in
theorem gX7_clauseOf_X7_needPosition : GoodIn wsX7_clauseOf (wsV RX7 168 RX7 yX7_needPosition wsX7_needPosition) := goodIn_app (goodIn_of _ (by decide +kernel)) ggX7_clauseOf_X7_needPosition
theorem dX7_clauseOf_0 : decode cX7_clauseOf 0 = .ok (.aload_n 0, 1) := by decide +kernel
theorem dX7_clauseOf_1 : decode cX7_clauseOf 1 = .ok (.iload_n 1, 1) := by decide +kernel
theorem dX7_clauseOf_2 : decode cX7_clauseOf 2 = .ok (.aload_n 0, 1) := by decide +kernel
theorem dX7_clauseOf_3 : decode cX7_clauseOf 3 = .ok (.getfield 40, 3) := by decide +kernel
theorem dX7_clauseOf_6 : decode cX7_clauseOf 6 = .ok (.invokevirtual 168, 3) := by decide +kernel
theorem dX7_clauseOf_9 : decode cX7_clauseOf 9 = .ok (.aload_n 0, 1) := by decide +kernel
theorem dX7_clauseOf_10 : decode cX7_clauseOf 10 = .ok (.getfield 40, 3) := by decide +kernel
theorem dX7_clauseOf_13 : decode cX7_clauseOf 13 = .ok (.getfield 176, 3) := by decide +kernel
theorem dX7_clauseOf_16 : decode cX7_clauseOf 16 = .ok (.iload_n 1, 1) := by decide +kernel
theorem dX7_clauseOf_17 : decode cX7_clauseOf 17 = .ok (.iaload, 1) := by decide +kernel
theorem dX7_clauseOf_18 : decode cX7_clauseOf 18 = .ok (.ireturn, 1) := by decide +kernel
set_option maxRecDepth 20000 in
theorem ggX7_lengthAgain_X5_run : GoodIn wsX7_lengthAgain wsX5_run := goodIn_ca (goodIn_r _ [10, 11, 12, 13, 14, 15, 16, 17, 18, 19, 20, 21, 22, 23, 24, 25, 26, 27, 28, 29, 30, 31, 32, 33, 34, 35, 36, 37, 38, 39, 40, 41, 42, 43, 44, 45, 46, 47, 48, 49, 50, 51, 52, 53, 54, 55, 56, 57, 58, 59, 60, 61, 62, 63, 64, 65, 66, 67, 68, 69, 70, 71, 72, 73, 74, 75, 76, 77, 78, 79, 80, 81, 82, 83, 84, 85, 86, 87, 88, 89, 90, 91, 92, 93, 94, 95, 96, 97, 98, 112, 113, 114, 119, 120, 121, 122, 123, 124, 125, 126, 127, 128, 129, 130, 131, 132, 133, 134, 115, 116, 117, 118] (by decide +kernel) (by decide +kernel)) (goodIn_sub (fun _ h => List.mem_cons_of_mem _ (List.mem_append_right _ h)) (by decide +kernel))
set_option maxRecDepth 20000 in
theorem gX7_lengthAgain_X5_run : GoodIn wsX7_lengthAgain (wsV RX7 179 RX5 yX5_run wsX5_run) := goodIn_app (goodIn_of _ (by decide +kernel)) ggX7_lengthAgain_X5_run
theorem dX7_lengthAgain_0 : decode cX7_lengthAgain 0 = .ok (.aload_n 0, 1) := by decide +kernel
theorem dX7_lengthAgain_1 : decode cX7_lengthAgain 1 = .ok (.getfield 50, 3) := by decide +kernel
theorem dX7_lengthAgain_4 : decode cX7_lengthAgain 4 = .ok (.aload_n 0, 1) := by decide +kernel
theorem dX7_lengthAgain_5 : decode cX7_lengthAgain 5 = .ok (.getfield 33, 3) := by decide +kernel
theorem dX7_lengthAgain_8 : decode cX7_lengthAgain 8 = .ok (.aload_n 0, 1) := by decide +kernel
theorem dX7_lengthAgain_9 : decode cX7_lengthAgain 9 = .ok (.getfield 19, 3) := by decide +kernel
theorem dX7_lengthAgain_12 : decode cX7_lengthAgain 12 = .ok (.invokevirtual 179, 3) := by decide +kernel
theorem dX7_lengthAgain_15 : decode cX7_lengthAgain 15 = .ok (.aload_n 0, 1) := by decide +kernel
theorem dX7_lengthAgain_16 : decode cX7_lengthAgain 16 = .ok (.getfield 50, 3) := by decide +kernel
theorem dX7_lengthAgain_19 : decode cX7_lengthAgain 19 = .ok (.getfield 183, 3) := by decide +kernel
theorem dX7_lengthAgain_22 : decode cX7_lengthAgain 22 = .ok (.getfield 117, 3) := by decide +kernel
theorem dX7_lengthAgain_25 : decode cX7_lengthAgain 25 = .ok (.ireturn, 1) := by decide +kernel
set_option maxRecDepth 20000 in
theorem ggX7_charAgain_X5_run : GoodIn wsX7_charAgain wsX5_run := goodIn_ca (goodIn_r _ [10, 11, 12, 13, 14, 15, 16, 17, 18, 19, 20, 21, 22, 23, 24, 25, 26, 27, 28, 29, 30, 31, 32, 33, 34, 35, 36, 37, 38, 39, 40, 41, 42, 43, 44, 45, 46, 47, 48, 49, 50, 51, 52, 53, 54, 55, 56, 57, 58, 59, 60, 61, 62, 63, 64, 65, 66, 67, 68, 69, 70, 71, 72, 73, 74, 75, 76, 77, 78, 79, 80, 81, 82, 83, 84, 85, 86, 87, 88, 89, 90, 91, 92, 93, 94, 95, 96, 97, 98, 120, 121, 122, 127, 128, 129, 130, 131, 132, 133, 134, 135, 136, 137, 138, 139, 140, 141, 142, 123, 124, 125, 126] (by decide +kernel) (by decide +kernel)) (goodIn_sub (fun _ h => List.mem_cons_of_mem _ (List.mem_append_left _ (List.mem_append_right _ h))) (by decide +kernel))
set_option maxRecDepth 20000 in
theorem gX7_charAgain_X5_run : GoodIn wsX7_charAgain (wsV RX7 179 RX5 yX5_run wsX5_run) := goodIn_app (goodIn_of _ (by decide +kernel)) ggX7_charAgain_X5_run
set_option maxRecDepth 20000 in
theorem ggX7_charAgain_X7_needPosition : GoodIn wsX7_charAgain wsX7_needPosition := goodIn_ca (goodIn_r _ [103, 104, 105, 106, 123, 124, 125, 126] (by decide +kernel) (by decide +kernel)) (goodIn_sub (fun _ h => List.mem_cons_of_mem _ (List.mem_append_right _ h)) (by decide +kernel))
set_option maxRecDepth 20000 in
theorem gX7_charAgain_X7_needPosition : GoodIn wsX7_charAgain (wsV RX7 168 RX7 yX7_needPosition wsX7_needPosition) := goodIn_app (goodIn_of _ (by decide +kernel)) ggX7_charAgain_X7_needPosition
theorem dX7_charAgain_0 : decode cX7_charAgain 0 = .ok (.aload_n 0, 1) := by decide +kernel
theorem dX7_charAgain_1 : decode cX7_charAgain 1 = .ok (.getfield 50, 3) := by decide +kernel
theorem dX7_charAgain_4 : decode cX7_charAgain 4 = .ok (.aload_n 0, 1) := by decide +kernel
theorem dX7_charAgain_5 : decode cX7_charAgain 5 = .ok (.getfield 33, 3) := by decide +kernel
theorem dX7_charAgain_8 : decode cX7_charAgain 8 = .ok (.aload_n 0, 1) := by decide +kernel
theorem dX7_charAgain_9 : decode cX7_charAgain 9 = .ok (.getfield 19, 3) := by decide +kernel
theorem dX7_charAgain_12 : decode cX7_charAgain 12 = .ok (.invokevirtual 179, 3) := by decide +kernel
theorem dX7_charAgain_15 : decode cX7_charAgain 15 = .ok (.aload_n 0, 1) := by decide +kernel
theorem dX7_charAgain_16 : decode cX7_charAgain 16 = .ok (.iload_n 1, 1) := by decide +kernel
theorem dX7_charAgain_17 : decode cX7_charAgain 17 = .ok (.aload_n 0, 1) := by decide +kernel
theorem dX7_charAgain_18 : decode cX7_charAgain 18 = .ok (.getfield 50, 3) := by decide +kernel
theorem dX7_charAgain_21 : decode cX7_charAgain 21 = .ok (.getfield 183, 3) := by decide +kernel
theorem dX7_charAgain_24 : decode cX7_charAgain 24 = .ok (.invokevirtual 168, 3) := by decide +kernel
theorem dX7_charAgain_27 : decode cX7_charAgain 27 = .ok (.aload_n 0, 1) := by decide +kernel
theorem dX7_charAgain_28 : decode cX7_charAgain 28 = .ok (.getfield 50, 3) := by decide +kernel
theorem dX7_charAgain_31 : decode cX7_charAgain 31 = .ok (.getfield 183, 3) := by decide +kernel
theorem dX7_charAgain_34 : decode cX7_charAgain 34 = .ok (.getfield 172, 3) := by decide +kernel
theorem dX7_charAgain_37 : decode cX7_charAgain 37 = .ok (.iload_n 1, 1) := by decide +kernel
theorem dX7_charAgain_38 : decode cX7_charAgain 38 = .ok (.caload, 1) := by decide +kernel
theorem dX7_charAgain_39 : decode cX7_charAgain 39 = .ok (.ireturn, 1) := by decide +kernel
set_option maxRecDepth 20000 in
theorem ggX7_writeText_X3_clear : GoodIn wsX7_writeText wsX3_clear := goodIn_r _ [11, 12, 48, 49] (by decide +kernel) (by decide +kernel)
set_option maxRecDepth 20000 in
theorem gX7_writeText_X3_clear : GoodIn wsX7_writeText (wsV RX7 141 RX3 yX3_clear wsX3_clear) := goodIn_app (goodIn_of _ (by decide +kernel)) ggX7_writeText_X3_clear
set_option maxRecDepth 20000 in
theorem ggX7_writeText_X7_closeBracket : GoodIn wsX7_writeText wsX7_closeBracket := goodIn_ca (goodIn_r _ [17, 1, 18, 19, 20, 10, 21, 22, 12, 23, 24, 25, 26, 31, 32, 33, 34, 35, 36, 37, 38, 39, 40, 41, 42, 43, 48, 49] (by decide +kernel) (by decide +kernel)) (goodIn_sub (fun _ h => List.mem_cons_of_mem _ (List.mem_append_right _ h)) (by decide +kernel))
set_option maxRecDepth 20000 in
theorem gX7_writeText_X7_closeBracket : GoodIn wsX7_writeText (wsV RX7 186 RX7 yX7_closeBracket wsX7_closeBracket) := goodIn_app (goodIn_of _ (by decide +kernel)) ggX7_writeText_X7_closeBracket
set_option maxRecDepth 20000 in
theorem ggX7_writeText_X7_openBracket : GoodIn wsX7_writeText wsX7_openBracket := goodIn_ca (goodIn_r _ [30, 1, 18, 19, 20, 10, 21, 22, 12, 23, 24, 25, 26, 31, 32, 33, 34, 35, 36, 37, 38, 39, 40, 41, 42, 43, 48, 49] (by decide +kernel) (by decide +kernel)) (goodIn_sub (fun _ h => List.mem_cons_of_mem _ (List.mem_append_right _ h)) (by decide +kernel))
set_option maxRecDepth 20000 in
theorem gX7_writeText_X7_openBracket : GoodIn wsX7_writeText (wsV RX7 189 RX7 yX7_openBracket wsX7_openBracket) := goodIn_app (goodIn_of _ (by decide +kernel)) ggX7_writeText_X7_openBracket
set_option maxRecDepth 20000 in
theorem ggX7_writeText_X3_put : GoodIn wsX7_writeText wsX3_put := goodIn_ca (goodIn_r _ [21, 22, 12, 23, 24, 25, 10, 26, 48, 49] (by decide +kernel) (by decide +kernel)) (goodIn_sub (fun _ h => List.mem_cons_of_mem _ (List.mem_append_right _ h)) (by decide +kernel))
set_option maxRecDepth 20000 in
theorem gX7_writeText_X3_put : GoodIn wsX7_writeText (wsV RX7 106 RX3 yX3_put wsX3_put) := goodIn_app (goodIn_of _ (by decide +kernel)) ggX7_writeText_X3_put
theorem dX7_writeText_0 : decode cX7_writeText 0 = .ok (.aload_n 0, 1) := by decide +kernel
theorem dX7_writeText_1 : decode cX7_writeText 1 = .ok (.getfield 63, 3) := by decide +kernel
theorem dX7_writeText_4 : decode cX7_writeText 4 = .ok (.invokevirtual 141, 3) := by decide +kernel
theorem dX7_writeText_7 : decode cX7_writeText 7 = .ok (.iconst (-1), 1) := by decide +kernel
theorem dX7_writeText_8 : decode cX7_writeText 8 = .ok (.istore_n 1, 1) := by decide +kernel
theorem dX7_writeText_9 : decode cX7_writeText 9 = .ok (.iconst 0, 1) := by decide +kernel
theorem dX7_writeText_10 : decode cX7_writeText 10 = .ok (.istore_n 2, 1) := by decide +kernel
theorem dX7_writeText_11 : decode cX7_writeText 11 = .ok (.iload_n 2, 1) := by decide +kernel
theorem dX7_writeText_12 : decode cX7_writeText 12 = .ok (.aload_n 0, 1) := by decide +kernel
theorem dX7_writeText_13 : decode cX7_writeText 13 = .ok (.getfield 40, 3) := by decide +kernel
theorem dX7_writeText_16 : decode cX7_writeText 16 = .ok (.getfield 117, 3) := by decide +kernel
theorem dX7_writeText_19 : decode cX7_writeText 19 = .ok (.if_icmp .ge 52, 3) := by decide +kernel
theorem dX7_writeText_22 : decode cX7_writeText 22 = .ok (.aload_n 0, 1) := by decide +kernel
theorem dX7_writeText_23 : decode cX7_writeText 23 = .ok (.getfield 40, 3) := by decide +kernel
theorem dX7_writeText_26 : decode cX7_writeText 26 = .ok (.getfield 176, 3) := by decide +kernel
theorem dX7_writeText_29 : decode cX7_writeText 29 = .ok (.iload_n 2, 1) := by decide +kernel
theorem dX7_writeText_30 : decode cX7_writeText 30 = .ok (.iaload, 1) := by decide +kernel
theorem dX7_writeText_31 : decode cX7_writeText 31 = .ok (.istore_n 3, 1) := by decide +kernel
theorem dX7_writeText_32 : decode cX7_writeText 32 = .ok (.iload_n 3, 1) := by decide +kernel
theorem dX7_writeText_33 : decode cX7_writeText 33 = .ok (.iload_n 1, 1) := by decide +kernel
theorem dX7_writeText_34 : decode cX7_writeText 34 = .ok (.if_icmp .eq 15, 3) := by decide +kernel
theorem dX7_writeText_37 : decode cX7_writeText 37 = .ok (.aload_n 0, 1) := by decide +kernel
theorem dX7_writeText_38 : decode cX7_writeText 38 = .ok (.iload_n 1, 1) := by decide +kernel
theorem dX7_writeText_39 : decode cX7_writeText 39 = .ok (.invokevirtual 186, 3) := by decide +kernel
theorem dX7_writeText_42 : decode cX7_writeText 42 = .ok (.aload_n 0, 1) := by decide +kernel
theorem dX7_writeText_43 : decode cX7_writeText 43 = .ok (.iload_n 3, 1) := by decide +kernel
theorem dX7_writeText_44 : decode cX7_writeText 44 = .ok (.invokevirtual 189, 3) := by decide +kernel
theorem dX7_writeText_47 : decode cX7_writeText 47 = .ok (.iload_n 3, 1) := by decide +kernel
theorem dX7_writeText_48 : decode cX7_writeText 48 = .ok (.istore_n 1, 1) := by decide +kernel
theorem dX7_writeText_49 : decode cX7_writeText 49 = .ok (.aload_n 0, 1) := by decide +kernel
theorem dX7_writeText_50 : decode cX7_writeText 50 = .ok (.getfield 63, 3) := by decide +kernel
theorem dX7_writeText_53 : decode cX7_writeText 53 = .ok (.aload_n 0, 1) := by decide +kernel
theorem dX7_writeText_54 : decode cX7_writeText 54 = .ok (.getfield 40, 3) := by decide +kernel
theorem dX7_writeText_57 : decode cX7_writeText 57 = .ok (.getfield 172, 3) := by decide +kernel
theorem dX7_writeText_60 : decode cX7_writeText 60 = .ok (.iload_n 2, 1) := by decide +kernel
theorem dX7_writeText_61 : decode cX7_writeText 61 = .ok (.caload, 1) := by decide +kernel
theorem dX7_writeText_62 : decode cX7_writeText 62 = .ok (.invokevirtual 106, 3) := by decide +kernel
theorem dX7_writeText_65 : decode cX7_writeText 65 = .ok (.iinc 2 1, 3) := by decide +kernel
theorem dX7_writeText_68 : decode cX7_writeText 68 = .ok (.goto (-57), 3) := by decide +kernel
theorem dX7_writeText_71 : decode cX7_writeText 71 = .ok (.aload_n 0, 1) := by decide +kernel
theorem dX7_writeText_72 : decode cX7_writeText 72 = .ok (.iload_n 1, 1) := by decide +kernel
theorem dX7_writeText_73 : decode cX7_writeText 73 = .ok (.invokevirtual 186, 3) := by decide +kernel
theorem dX7_writeText_76 : decode cX7_writeText 76 = .ok (.aload_n 0, 1) := by decide +kernel
theorem dX7_writeText_77 : decode cX7_writeText 77 = .ok (.getfield 63, 3) := by decide +kernel
theorem dX7_writeText_80 : decode cX7_writeText 80 = .ok (.getfield 110, 3) := by decide +kernel
theorem dX7_writeText_83 : decode cX7_writeText 83 = .ok (.ireturn, 1) := by decide +kernel
set_option maxRecDepth 20000 in
theorem ggX7_writeClause_X7_needClause : GoodIn wsX7_writeClause wsX7_needClause := goodIn_ca (goodIn_r _ [11, 12, 13, 14, 15, 31, 32, 33, 34, 35, 36, 37, 38, 39, 40, 41, 42, 43, 50, 51, 52, 53, 54] (by decide +kernel) (by decide +kernel)) (goodIn_sub (fun _ h => List.mem_cons_of_mem _ (List.mem_append_right _ h)) (by decide +kernel))
set_option maxRecDepth 20000 in
theorem gX7_writeClause_X7_needClause : GoodIn wsX7_writeClause (wsV RX7 192 RX7 yX7_needClause wsX7_needClause) := goodIn_app (goodIn_of _ (by decide +kernel)) ggX7_writeClause_X7_needClause
set_option maxRecDepth 20000 in
theorem ggX7_writeClause_X3_clear : GoodIn wsX7_writeClause wsX3_clear := goodIn_r _ [20, 21, 48, 49] (by decide +kernel) (by decide +kernel)
set_option maxRecDepth 20000 in
theorem gX7_writeClause_X3_clear : GoodIn wsX7_writeClause (wsV RX7 141 RX3 yX3_clear wsX3_clear) := goodIn_app (goodIn_of _ (by decide +kernel)) ggX7_writeClause_X3_clear
set_option maxRecDepth 20000 in
theorem ggX7_writeClause_X3_put : GoodIn wsX7_writeClause wsX3_put := goodIn_ca (goodIn_r _ [25, 26, 21, 27, 28, 29, 19, 30, 48, 49] (by decide +kernel) (by decide +kernel)) (goodIn_sub (fun _ h => List.mem_cons_of_mem _ (List.mem_append_left _ (List.mem_append_right _ h))) (by decide +kernel))
set_option maxRecDepth 20000 in
theorem gX7_writeClause_X3_put : GoodIn wsX7_writeClause (wsV RX7 106 RX3 yX3_put wsX3_put) := goodIn_app (goodIn_of _ (by decide +kernel)) ggX7_writeClause_X3_put
theorem dX7_writeClause_0 : decode cX7_writeClause 0 = .ok (.aload_n 0, 1) := by decide +kernel
theorem dX7_writeClause_1 : decode cX7_writeClause 1 = .ok (.iload_n 1, 1) := by decide +kernel
theorem dX7_writeClause_2 : decode cX7_writeClause 2 = .ok (.invokevirtual 192, 3) := by decide +kernel
theorem dX7_writeClause_5 : decode cX7_writeClause 5 = .ok (.aload_n 0, 1) := by decide +kernel
theorem dX7_writeClause_6 : decode cX7_writeClause 6 = .ok (.getfield 63, 3) := by decide +kernel
theorem dX7_writeClause_9 : decode cX7_writeClause 9 = .ok (.invokevirtual 141, 3) := by decide +kernel
theorem dX7_writeClause_12 : decode cX7_writeClause 12 = .ok (.iconst 0, 1) := by decide +kernel
theorem dX7_writeClause_13 : decode cX7_writeClause 13 = .ok (.istore_n 2, 1) := by decide +kernel
theorem dX7_writeClause_14 : decode cX7_writeClause 14 = .ok (.iload_n 2, 1) := by decide +kernel
theorem dX7_writeClause_15 : decode cX7_writeClause 15 = .ok (.aload_n 0, 1) := by decide +kernel
theorem dX7_writeClause_16 : decode cX7_writeClause 16 = .ok (.getfield 40, 3) := by decide +kernel
theorem dX7_writeClause_19 : decode cX7_writeClause 19 = .ok (.getfield 117, 3) := by decide +kernel
theorem dX7_writeClause_22 : decode cX7_writeClause 22 = .ok (.if_icmp .ge 38, 3) := by decide +kernel
theorem dX7_writeClause_25 : decode cX7_writeClause 25 = .ok (.aload_n 0, 1) := by decide +kernel
theorem dX7_writeClause_26 : decode cX7_writeClause 26 = .ok (.getfield 40, 3) := by decide +kernel
theorem dX7_writeClause_29 : decode cX7_writeClause 29 = .ok (.getfield 176, 3) := by decide +kernel
theorem dX7_writeClause_32 : decode cX7_writeClause 32 = .ok (.iload_n 2, 1) := by decide +kernel
theorem dX7_writeClause_33 : decode cX7_writeClause 33 = .ok (.iaload, 1) := by decide +kernel
theorem dX7_writeClause_34 : decode cX7_writeClause 34 = .ok (.iload_n 1, 1) := by decide +kernel
theorem dX7_writeClause_35 : decode cX7_writeClause 35 = .ok (.if_icmp .ne 19, 3) := by decide +kernel
theorem dX7_writeClause_38 : decode cX7_writeClause 38 = .ok (.aload_n 0, 1) := by decide +kernel
theorem dX7_writeClause_39 : decode cX7_writeClause 39 = .ok (.getfield 63, 3) := by decide +kernel
theorem dX7_writeClause_42 : decode cX7_writeClause 42 = .ok (.aload_n 0, 1) := by decide +kernel
theorem dX7_writeClause_43 : decode cX7_writeClause 43 = .ok (.getfield 40, 3) := by decide +kernel
theorem dX7_writeClause_46 : decode cX7_writeClause 46 = .ok (.getfield 172, 3) := by decide +kernel
theorem dX7_writeClause_49 : decode cX7_writeClause 49 = .ok (.iload_n 2, 1) := by decide +kernel
theorem dX7_writeClause_50 : decode cX7_writeClause 50 = .ok (.caload, 1) := by decide +kernel
theorem dX7_writeClause_51 : decode cX7_writeClause 51 = .ok (.invokevirtual 106, 3) := by decide +kernel
theorem dX7_writeClause_54 : decode cX7_writeClause 54 = .ok (.iinc 2 1, 3) := by decide +kernel
theorem dX7_writeClause_57 : decode cX7_writeClause 57 = .ok (.goto (-43), 3) := by decide +kernel
theorem dX7_writeClause_60 : decode cX7_writeClause 60 = .ok (.aload_n 0, 1) := by decide +kernel
theorem dX7_writeClause_61 : decode cX7_writeClause 61 = .ok (.getfield 63, 3) := by decide +kernel
theorem dX7_writeClause_64 : decode cX7_writeClause 64 = .ok (.getfield 110, 3) := by decide +kernel
theorem dX7_writeClause_67 : decode cX7_writeClause 67 = .ok (.ireturn, 1) := by decide +kernel
theorem dX7_outputAt_0 : decode cX7_outputAt 0 = .ok (.iload_n 1, 1) := by decide +kernel
theorem dX7_outputAt_1 : decode cX7_outputAt 1 = .ok (.ifCond .lt 14, 3) := by decide +kernel
theorem dX7_outputAt_4 : decode cX7_outputAt 4 = .ok (.iload_n 1, 1) := by decide +kernel
theorem dX7_outputAt_5 : decode cX7_outputAt 5 = .ok (.aload_n 0, 1) := by decide +kernel
theorem dX7_outputAt_6 : decode cX7_outputAt 6 = .ok (.getfield 63, 3) := by decide +kernel
theorem dX7_outputAt_9 : decode cX7_outputAt 9 = .ok (.getfield 110, 3) := by decide +kernel
theorem dX7_outputAt_12 : decode cX7_outputAt 12 = .ok (.if_icmp .lt 13, 3) := by decide +kernel
theorem dX7_outputAt_15 : decode cX7_outputAt 15 = .ok (.new 118, 3) := by decide +kernel
theorem dX7_outputAt_18 : decode cX7_outputAt 18 = .ok (.dup, 1) := by decide +kernel
theorem dX7_outputAt_19 : decode cX7_outputAt 19 = .ok (.ldc 195, 2) := by decide +kernel
theorem dX7_outputAt_21 : decode cX7_outputAt 21 = .ok (.invokespecial 122, 3) := by decide +kernel
theorem dX7_outputAt_24 : decode cX7_outputAt 24 = .ok (.athrow, 1) := by decide +kernel
theorem dX7_outputAt_25 : decode cX7_outputAt 25 = .ok (.aload_n 0, 1) := by decide +kernel
theorem dX7_outputAt_26 : decode cX7_outputAt 26 = .ok (.getfield 63, 3) := by decide +kernel
theorem dX7_outputAt_29 : decode cX7_outputAt 29 = .ok (.getfield 197, 3) := by decide +kernel
theorem dX7_outputAt_32 : decode cX7_outputAt 32 = .ok (.iload_n 1, 1) := by decide +kernel
theorem dX7_outputAt_33 : decode cX7_outputAt 33 = .ok (.caload, 1) := by decide +kernel
theorem dX7_outputAt_34 : decode cX7_outputAt 34 = .ok (.ireturn, 1) := by decide +kernel
set_option maxRecDepth 20000 in
theorem ggX7_addClause_X7_needRange : GoodIn wsX7_addClause wsX7_needRange := goodIn_ca (goodIn_r _ [11, 12, 13, 4, 14, 40, 41, 42, 43, 44, 45, 46, 47, 48, 49, 50, 51, 52, 64, 65, 66, 67] (by decide +kernel) (by decide +kernel)) (goodIn_sub (fun _ h => List.mem_cons_of_mem _ (List.mem_append_left _ (List.mem_append_right _ h))) (by decide +kernel))
set_option maxRecDepth 20000 in
theorem gX7_addClause_X7_needRange : GoodIn wsX7_addClause (wsV RX7 144 RX7 yX7_needRange wsX7_needRange) := goodIn_app (goodIn_of _ (by decide +kernel)) ggX7_addClause_X7_needRange
set_option maxRecDepth 20000 in
theorem ggX7_addClause_X1_isFull : GoodIn wsX7_addClause wsX1_isFull := goodIn_r _ [19, 20, 68, 69, 70, 71, 72] (by decide +kernel) (by decide +kernel)
set_option maxRecDepth 20000 in
theorem gX7_addClause_X1_isFull : GoodIn wsX7_addClause (wsV RX7 200 RX1 yX1_isFull wsX1_isFull) := goodIn_app (goodIn_of _ (by decide +kernel)) ggX7_addClause_X1_isFull
set_option maxRecDepth 20000 in
theorem ggX7_addClause_X4_isFree : GoodIn wsX7_addClause wsX4_isFree := goodIn_ca (goodIn_r _ [25, 26, 27, 64, 65, 66, 67] (by decide +kernel) (by decide +kernel)) (goodIn_sub (fun _ h => List.mem_cons_of_mem _ (List.mem_append_right _ h)) (by decide +kernel))
set_option maxRecDepth 20000 in
theorem gX7_addClause_X4_isFree : GoodIn wsX7_addClause (wsV RX7 203 RX4 yX4_isFree wsX4_isFree) := goodIn_app (goodIn_of _ (by decide +kernel)) ggX7_addClause_X4_isFree
set_option maxRecDepth 20000 in
theorem ggX7_addClause_X1_enter : GoodIn wsX7_addClause wsX1_enter := goodIn_ca (goodIn_r _ [31, 32, 20, 33, 34, 35, 16, 17, 18, 19, 68, 69, 70, 71, 72] (by decide +kernel) (by decide +kernel)) (goodIn_sub (fun _ h => List.mem_cons_of_mem _ (List.mem_append_right _ h)) (by decide +kernel))
set_option maxRecDepth 20000 in
theorem gX7_addClause_X1_enter : GoodIn wsX7_addClause (wsV RX7 209 RX1 yX1_enter wsX1_enter) := goodIn_app (goodIn_of _ (by decide +kernel)) ggX7_addClause_X1_enter
set_option maxRecDepth 20000 in
theorem ggX7_addClause_X4_mark : GoodIn wsX7_addClause wsX4_mark := goodIn_ca (goodIn_r _ [39, 26, 27, 64, 65, 66, 67] (by decide +kernel) (by decide +kernel)) (goodIn_sub (fun _ h => List.mem_cons_of_mem _ (List.mem_append_right _ h)) (by decide +kernel))
set_option maxRecDepth 20000 in
theorem gX7_addClause_X4_mark : GoodIn wsX7_addClause (wsV RX7 212 RX4 yX4_mark wsX4_mark) := goodIn_app (goodIn_of _ (by decide +kernel)) ggX7_addClause_X4_mark
theorem dX7_addClause_0 : decode cX7_addClause 0 = .ok (.aload_n 0, 1) := by decide +kernel
theorem dX7_addClause_1 : decode cX7_addClause 1 = .ok (.iload_n 1, 1) := by decide +kernel
theorem dX7_addClause_2 : decode cX7_addClause 2 = .ok (.iload_n 2, 1) := by decide +kernel
theorem dX7_addClause_3 : decode cX7_addClause 3 = .ok (.invokevirtual 144, 3) := by decide +kernel
theorem dX7_addClause_6 : decode cX7_addClause 6 = .ok (.aload_n 0, 1) := by decide +kernel
theorem dX7_addClause_7 : decode cX7_addClause 7 = .ok (.getfield 19, 3) := by decide +kernel
theorem dX7_addClause_10 : decode cX7_addClause 10 = .ok (.invokevirtual 200, 3) := by decide +kernel
theorem dX7_addClause_13 : decode cX7_addClause 13 = .ok (.ifCond .eq 13, 3) := by decide +kernel
theorem dX7_addClause_16 : decode cX7_addClause 16 = .ok (.new 92, 3) := by decide +kernel
theorem dX7_addClause_19 : decode cX7_addClause 19 = .ok (.dup, 1) := by decide +kernel
theorem dX7_addClause_20 : decode cX7_addClause 20 = .ok (.ldc 201, 2) := by decide +kernel
theorem dX7_addClause_22 : decode cX7_addClause 22 = .ok (.invokespecial 96, 3) := by decide +kernel
theorem dX7_addClause_25 : decode cX7_addClause 25 = .ok (.athrow, 1) := by decide +kernel
theorem dX7_addClause_26 : decode cX7_addClause 26 = .ok (.aload_n 0, 1) := by decide +kernel
theorem dX7_addClause_27 : decode cX7_addClause 27 = .ok (.getfield 40, 3) := by decide +kernel
theorem dX7_addClause_30 : decode cX7_addClause 30 = .ok (.iload_n 1, 1) := by decide +kernel
theorem dX7_addClause_31 : decode cX7_addClause 31 = .ok (.iload_n 2, 1) := by decide +kernel
theorem dX7_addClause_32 : decode cX7_addClause 32 = .ok (.invokevirtual 203, 3) := by decide +kernel
theorem dX7_addClause_35 : decode cX7_addClause 35 = .ok (.ifCond .ne 13, 3) := by decide +kernel
theorem dX7_addClause_38 : decode cX7_addClause 38 = .ok (.new 92, 3) := by decide +kernel
theorem dX7_addClause_41 : decode cX7_addClause 41 = .ok (.dup, 1) := by decide +kernel
theorem dX7_addClause_42 : decode cX7_addClause 42 = .ok (.ldc 207, 2) := by decide +kernel
theorem dX7_addClause_44 : decode cX7_addClause 44 = .ok (.invokespecial 96, 3) := by decide +kernel
theorem dX7_addClause_47 : decode cX7_addClause 47 = .ok (.athrow, 1) := by decide +kernel
theorem dX7_addClause_48 : decode cX7_addClause 48 = .ok (.aload_n 0, 1) := by decide +kernel
theorem dX7_addClause_49 : decode cX7_addClause 49 = .ok (.getfield 19, 3) := by decide +kernel
theorem dX7_addClause_52 : decode cX7_addClause 52 = .ok (.iload_n 1, 1) := by decide +kernel
theorem dX7_addClause_53 : decode cX7_addClause 53 = .ok (.iload_n 2, 1) := by decide +kernel
theorem dX7_addClause_54 : decode cX7_addClause 54 = .ok (.aload_n 0, 1) := by decide +kernel
theorem dX7_addClause_55 : decode cX7_addClause 55 = .ok (.getfield 33, 3) := by decide +kernel
theorem dX7_addClause_58 : decode cX7_addClause 58 = .ok (.getfield 150, 3) := by decide +kernel
theorem dX7_addClause_61 : decode cX7_addClause 61 = .ok (.invokevirtual 209, 3) := by decide +kernel
theorem dX7_addClause_64 : decode cX7_addClause 64 = .ok (.istore_n 3, 1) := by decide +kernel
theorem dX7_addClause_65 : decode cX7_addClause 65 = .ok (.aload_n 0, 1) := by decide +kernel
theorem dX7_addClause_66 : decode cX7_addClause 66 = .ok (.getfield 40, 3) := by decide +kernel
theorem dX7_addClause_69 : decode cX7_addClause 69 = .ok (.iload_n 1, 1) := by decide +kernel
theorem dX7_addClause_70 : decode cX7_addClause 70 = .ok (.iload_n 2, 1) := by decide +kernel
theorem dX7_addClause_71 : decode cX7_addClause 71 = .ok (.iload_n 3, 1) := by decide +kernel
theorem dX7_addClause_72 : decode cX7_addClause 72 = .ok (.invokevirtual 212, 3) := by decide +kernel
theorem dX7_addClause_75 : decode cX7_addClause 75 = .ok (.iload_n 3, 1) := by decide +kernel
theorem dX7_addClause_76 : decode cX7_addClause 76 = .ok (.ireturn, 1) := by decide +kernel
theorem dX7_clauses_0 : decode cX7_clauses 0 = .ok (.aload_n 0, 1) := by decide +kernel
theorem dX7_clauses_1 : decode cX7_clauses 1 = .ok (.getfield 19, 3) := by decide +kernel
theorem dX7_clauses_4 : decode cX7_clauses 4 = .ok (.getfield 216, 3) := by decide +kernel
theorem dX7_clauses_7 : decode cX7_clauses 7 = .ok (.ireturn, 1) := by decide +kernel
set_option maxRecDepth 20000 in
theorem ggX7_clauseLength_X7_needClause : GoodIn wsX7_clauseLength wsX7_needClause := goodIn_ca (goodIn_r _ [6, 7, 8, 9, 10, 18, 19, 20, 21, 22, 23, 24, 25, 26, 27, 28, 29, 30, 31, 32, 33, 34, 35] (by decide +kernel) (by decide +kernel)) (goodIn_sub (fun _ h => List.mem_cons_of_mem _ (List.mem_append_left _ (List.mem_append_right _ h))) (by decide +kernel))
set_option maxRecDepth 20000 in
theorem gX7_clauseLength_X7_needClause : GoodIn wsX7_clauseLength (wsV RX7 192 RX7 yX7_needClause wsX7_needClause) := goodIn_app (goodIn_of _ (by decide +kernel)) ggX7_clauseLength_X7_needClause
set_option maxRecDepth 20000 in
theorem ggX7_clauseLength_X4_countOfClause : GoodIn wsX7_clauseLength wsX4_countOfClause := goodIn_ca (goodIn_r _ [15, 16, 17, 36, 37, 38, 39] (by decide +kernel) (by decide +kernel)) (goodIn_sub (fun _ h => List.mem_cons_of_mem _ (List.mem_append_right _ h)) (by decide +kernel))
set_option maxRecDepth 20000 in
theorem gX7_clauseLength_X4_countOfClause : GoodIn wsX7_clauseLength (wsV RX7 217 RX4 yX4_countOfClause wsX4_countOfClause) := goodIn_app (goodIn_of _ (by decide +kernel)) ggX7_clauseLength_X4_countOfClause
theorem dX7_clauseLength_0 : decode cX7_clauseLength 0 = .ok (.aload_n 0, 1) := by decide +kernel
theorem dX7_clauseLength_1 : decode cX7_clauseLength 1 = .ok (.iload_n 1, 1) := by decide +kernel
theorem dX7_clauseLength_2 : decode cX7_clauseLength 2 = .ok (.invokevirtual 192, 3) := by decide +kernel
theorem dX7_clauseLength_5 : decode cX7_clauseLength 5 = .ok (.aload_n 0, 1) := by decide +kernel
theorem dX7_clauseLength_6 : decode cX7_clauseLength 6 = .ok (.getfield 40, 3) := by decide +kernel
theorem dX7_clauseLength_9 : decode cX7_clauseLength 9 = .ok (.iload_n 1, 1) := by decide +kernel
theorem dX7_clauseLength_10 : decode cX7_clauseLength 10 = .ok (.invokevirtual 217, 3) := by decide +kernel
theorem dX7_clauseLength_13 : decode cX7_clauseLength 13 = .ok (.ireturn, 1) := by decide +kernel
set_option maxRecDepth 20000 in
theorem ggX7_lock_X7_needClause : GoodIn wsX7_lock wsX7_needClause := goodIn_ca (goodIn_r _ [7, 8, 9, 1, 10, 11, 12, 13, 14, 15, 16, 17, 18, 19, 20, 21, 22, 23, 24, 25, 26, 27, 28] (by decide +kernel) (by decide +kernel)) (goodIn_sub (fun _ h => List.mem_cons_of_mem _ (List.mem_append_right _ h)) (by decide +kernel))
set_option maxRecDepth 20000 in
theorem gX7_lock_X7_needClause : GoodIn wsX7_lock (wsV RX7 192 RX7 yX7_needClause wsX7_needClause) := goodIn_app (goodIn_of _ (by decide +kernel)) ggX7_lock_X7_needClause
theorem dX7_lock_0 : decode cX7_lock 0 = .ok (.aload_n 0, 1) := by decide +kernel
theorem dX7_lock_1 : decode cX7_lock 1 = .ok (.iload_n 1, 1) := by decide +kernel
theorem dX7_lock_2 : decode cX7_lock 2 = .ok (.invokevirtual 192, 3) := by decide +kernel
theorem dX7_lock_5 : decode cX7_lock 5 = .ok (.aload_n 0, 1) := by decide +kernel
theorem dX7_lock_6 : decode cX7_lock 6 = .ok (.getfield 19, 3) := by decide +kernel
theorem dX7_lock_9 : decode cX7_lock 9 = .ok (.getfield 221, 3) := by decide +kernel
theorem dX7_lock_12 : decode cX7_lock 12 = .ok (.iload_n 1, 1) := by decide +kernel
theorem dX7_lock_13 : decode cX7_lock 13 = .ok (.baload, 1) := by decide +kernel
theorem dX7_lock_14 : decode cX7_lock 14 = .ok (.istore_n 3, 1) := by decide +kernel
theorem dX7_lock_15 : decode cX7_lock 15 = .ok (.aload_n 0, 1) := by decide +kernel
theorem dX7_lock_16 : decode cX7_lock 16 = .ok (.getfield 19, 3) := by decide +kernel
theorem dX7_lock_19 : decode cX7_lock 19 = .ok (.getfield 221, 3) := by decide +kernel
theorem dX7_lock_22 : decode cX7_lock 22 = .ok (.iload_n 1, 1) := by decide +kernel
theorem dX7_lock_23 : decode cX7_lock 23 = .ok (.iload_n 2, 1) := by decide +kernel
theorem dX7_lock_24 : decode cX7_lock 24 = .ok (.bastore, 1) := by decide +kernel
theorem dX7_lock_25 : decode cX7_lock 25 = .ok (.iload_n 3, 1) := by decide +kernel
theorem dX7_lock_26 : decode cX7_lock 26 = .ok (.ireturn, 1) := by decide +kernel
set_option maxRecDepth 20000 in
theorem ggX7_sign_X7_needAuthor : GoodIn wsX7_sign wsX7_needAuthor := goodIn_ca (goodIn_r _ [14, 15, 16, 17, 18, 35, 36, 37, 38, 39, 40, 41, 42, 43, 44, 45, 46, 47, 64, 65, 66, 67] (by decide +kernel) (by decide +kernel)) (goodIn_sub (fun _ h => List.mem_cons_of_mem _ (List.mem_append_left _ (List.mem_append_right _ h))) (by decide +kernel))
set_option maxRecDepth 20000 in
theorem gX7_sign_X7_needAuthor : GoodIn wsX7_sign (wsV RX7 113 RX7 yX7_needAuthor wsX7_needAuthor) := goodIn_app (goodIn_of _ (by decide +kernel)) ggX7_sign_X7_needAuthor
set_option maxRecDepth 20000 in
theorem ggX7_sign_X6_isFull : GoodIn wsX7_sign wsX6_isFull := goodIn_r _ [23, 24, 68, 69, 70, 71, 72, 73] (by decide +kernel) (by decide +kernel)
set_option maxRecDepth 20000 in
theorem gX7_sign_X6_isFull : GoodIn wsX7_sign (wsV RX7 230 RX6 yX6_isFull wsX6_isFull) := goodIn_app (goodIn_of _ (by decide +kernel)) ggX7_sign_X6_isFull
set_option maxRecDepth 20000 in
theorem ggX7_sign_X6_enter : GoodIn wsX7_sign wsX6_enter := goodIn_ca (goodIn_r _ [28, 29, 24, 30, 31, 32, 33, 34, 20, 21, 22, 23, 68, 69, 70, 71, 72, 73] (by decide +kernel) (by decide +kernel)) (goodIn_sub (fun _ h => List.mem_cons_of_mem _ (List.mem_append_right _ h)) (by decide +kernel))
set_option maxRecDepth 20000 in
theorem gX7_sign_X6_enter : GoodIn wsX7_sign (wsV RX7 233 RX6 yX6_enter wsX6_enter) := goodIn_app (goodIn_of _ (by decide +kernel)) ggX7_sign_X6_enter
theorem dX7_sign_0 : decode cX7_sign 0 = .ok (.aload_n 0, 1) := by decide +kernel
theorem dX7_sign_1 : decode cX7_sign 1 = .ok (.iload_n 1, 1) := by decide +kernel
theorem dX7_sign_2 : decode cX7_sign 2 = .ok (.invokevirtual 113, 3) := by decide +kernel
theorem dX7_sign_5 : decode cX7_sign 5 = .ok (.iload_n 2, 1) := by decide +kernel
theorem dX7_sign_6 : decode cX7_sign 6 = .ok (.ifCond .eq 15, 3) := by decide +kernel
theorem dX7_sign_9 : decode cX7_sign 9 = .ok (.iload_n 2, 1) := by decide +kernel
theorem dX7_sign_10 : decode cX7_sign 10 = .ok (.aload_n 0, 1) := by decide +kernel
theorem dX7_sign_11 : decode cX7_sign 11 = .ok (.getfield 19, 3) := by decide +kernel
theorem dX7_sign_14 : decode cX7_sign 14 = .ok (.getfield 216, 3) := by decide +kernel
theorem dX7_sign_17 : decode cX7_sign 17 = .ok (.iushr, 1) := by decide +kernel
theorem dX7_sign_18 : decode cX7_sign 18 = .ok (.ifCond .eq 13, 3) := by decide +kernel
theorem dX7_sign_21 : decode cX7_sign 21 = .ok (.new 81, 3) := by decide +kernel
theorem dX7_sign_24 : decode cX7_sign 24 = .ok (.dup, 1) := by decide +kernel
theorem dX7_sign_25 : decode cX7_sign 25 = .ok (.ldc 228, 2) := by decide +kernel
theorem dX7_sign_27 : decode cX7_sign 27 = .ok (.invokespecial 85, 3) := by decide +kernel
theorem dX7_sign_30 : decode cX7_sign 30 = .ok (.athrow, 1) := by decide +kernel
theorem dX7_sign_31 : decode cX7_sign 31 = .ok (.aload_n 0, 1) := by decide +kernel
theorem dX7_sign_32 : decode cX7_sign 32 = .ok (.getfield 26, 3) := by decide +kernel
theorem dX7_sign_35 : decode cX7_sign 35 = .ok (.invokevirtual 230, 3) := by decide +kernel
theorem dX7_sign_38 : decode cX7_sign 38 = .ok (.ifCond .eq 13, 3) := by decide +kernel
theorem dX7_sign_41 : decode cX7_sign 41 = .ok (.new 92, 3) := by decide +kernel
theorem dX7_sign_44 : decode cX7_sign 44 = .ok (.dup, 1) := by decide +kernel
theorem dX7_sign_45 : decode cX7_sign 45 = .ok (.ldc 231, 2) := by decide +kernel
theorem dX7_sign_47 : decode cX7_sign 47 = .ok (.invokespecial 96, 3) := by decide +kernel
theorem dX7_sign_50 : decode cX7_sign 50 = .ok (.athrow, 1) := by decide +kernel
theorem dX7_sign_51 : decode cX7_sign 51 = .ok (.aload_n 0, 1) := by decide +kernel
theorem dX7_sign_52 : decode cX7_sign 52 = .ok (.getfield 26, 3) := by decide +kernel
theorem dX7_sign_55 : decode cX7_sign 55 = .ok (.iload_n 1, 1) := by decide +kernel
theorem dX7_sign_56 : decode cX7_sign 56 = .ok (.iload_n 2, 1) := by decide +kernel
theorem dX7_sign_57 : decode cX7_sign 57 = .ok (.aload_n 0, 1) := by decide +kernel
theorem dX7_sign_58 : decode cX7_sign 58 = .ok (.getfield 33, 3) := by decide +kernel
theorem dX7_sign_61 : decode cX7_sign 61 = .ok (.getfield 150, 3) := by decide +kernel
theorem dX7_sign_64 : decode cX7_sign 64 = .ok (.invokevirtual 233, 3) := by decide +kernel
theorem dX7_sign_67 : decode cX7_sign 67 = .ok (.ireturn, 1) := by decide +kernel
set_option maxRecDepth 20000 in
theorem ggX7_withdraw_X7_needSignature : GoodIn wsX7_withdraw wsX7_needSignature := goodIn_ca (goodIn_r _ [9, 10, 11, 3, 12, 20, 21, 22, 23, 24, 25, 26, 27, 28, 29, 30, 31, 32, 33, 34, 35, 36, 37, 38] (by decide +kernel) (by decide +kernel)) (goodIn_sub (fun _ h => List.mem_cons_of_mem _ (List.mem_append_right _ h)) (by decide +kernel))
set_option maxRecDepth 20000 in
theorem gX7_withdraw_X7_needSignature : GoodIn wsX7_withdraw (wsV RX7 234 RX7 yX7_needSignature wsX7_needSignature) := goodIn_app (goodIn_of _ (by decide +kernel)) ggX7_withdraw_X7_needSignature
set_option maxRecDepth 20000 in
theorem ggX7_withdraw_X6_countValid : GoodIn wsX7_withdraw wsX6_countValid := goodIn_ca (goodIn_r _ [17, 18, 19, 33, 34, 35, 36, 37, 38] (by decide +kernel) (by decide +kernel)) (goodIn_sub (fun _ h => List.mem_cons_of_mem _ (List.mem_append_left _ (List.mem_append_left _ (List.mem_append_right _ h)))) (by decide +kernel))
set_option maxRecDepth 20000 in
theorem gX7_withdraw_X6_countValid : GoodIn wsX7_withdraw (wsV RX7 242 RX6 yX6_countValid wsX6_countValid) := goodIn_app (goodIn_of _ (by decide +kernel)) ggX7_withdraw_X6_countValid
theorem dX7_withdraw_0 : decode cX7_withdraw 0 = .ok (.aload_n 0, 1) := by decide +kernel
theorem dX7_withdraw_1 : decode cX7_withdraw 1 = .ok (.iload_n 1, 1) := by decide +kernel
theorem dX7_withdraw_2 : decode cX7_withdraw 2 = .ok (.invokevirtual 234, 3) := by decide +kernel
theorem dX7_withdraw_5 : decode cX7_withdraw 5 = .ok (.aload_n 0, 1) := by decide +kernel
theorem dX7_withdraw_6 : decode cX7_withdraw 6 = .ok (.getfield 26, 3) := by decide +kernel
theorem dX7_withdraw_9 : decode cX7_withdraw 9 = .ok (.getfield 237, 3) := by decide +kernel
theorem dX7_withdraw_12 : decode cX7_withdraw 12 = .ok (.iload_n 1, 1) := by decide +kernel
theorem dX7_withdraw_13 : decode cX7_withdraw 13 = .ok (.caload, 1) := by decide +kernel
theorem dX7_withdraw_14 : decode cX7_withdraw 14 = .ok (.bipush 118, 2) := by decide +kernel
theorem dX7_withdraw_16 : decode cX7_withdraw 16 = .ok (.if_icmp .eq 13, 3) := by decide +kernel
theorem dX7_withdraw_19 : decode cX7_withdraw 19 = .ok (.new 92, 3) := by decide +kernel
theorem dX7_withdraw_22 : decode cX7_withdraw 22 = .ok (.dup, 1) := by decide +kernel
theorem dX7_withdraw_23 : decode cX7_withdraw 23 = .ok (.ldc 240, 2) := by decide +kernel
theorem dX7_withdraw_25 : decode cX7_withdraw 25 = .ok (.invokespecial 96, 3) := by decide +kernel
theorem dX7_withdraw_28 : decode cX7_withdraw 28 = .ok (.athrow, 1) := by decide +kernel
theorem dX7_withdraw_29 : decode cX7_withdraw 29 = .ok (.aload_n 0, 1) := by decide +kernel
theorem dX7_withdraw_30 : decode cX7_withdraw 30 = .ok (.getfield 26, 3) := by decide +kernel
theorem dX7_withdraw_33 : decode cX7_withdraw 33 = .ok (.getfield 237, 3) := by decide +kernel
theorem dX7_withdraw_36 : decode cX7_withdraw 36 = .ok (.iload_n 1, 1) := by decide +kernel
theorem dX7_withdraw_37 : decode cX7_withdraw 37 = .ok (.bipush 119, 2) := by decide +kernel
theorem dX7_withdraw_39 : decode cX7_withdraw 39 = .ok (.castore, 1) := by decide +kernel
theorem dX7_withdraw_40 : decode cX7_withdraw 40 = .ok (.aload_n 0, 1) := by decide +kernel
theorem dX7_withdraw_41 : decode cX7_withdraw 41 = .ok (.getfield 26, 3) := by decide +kernel
theorem dX7_withdraw_44 : decode cX7_withdraw 44 = .ok (.invokevirtual 242, 3) := by decide +kernel
theorem dX7_withdraw_47 : decode cX7_withdraw 47 = .ok (.ireturn, 1) := by decide +kernel
theorem dX7_setStrict_0 : decode cX7_setStrict 0 = .ok (.aload_n 0, 1) := by decide +kernel
theorem dX7_setStrict_1 : decode cX7_setStrict 1 = .ok (.getfield 66, 3) := by decide +kernel
theorem dX7_setStrict_4 : decode cX7_setStrict 4 = .ok (.istore_n 2, 1) := by decide +kernel
theorem dX7_setStrict_5 : decode cX7_setStrict 5 = .ok (.aload_n 0, 1) := by decide +kernel
theorem dX7_setStrict_6 : decode cX7_setStrict 6 = .ok (.iload_n 1, 1) := by decide +kernel
theorem dX7_setStrict_7 : decode cX7_setStrict 7 = .ok (.putfield 66, 3) := by decide +kernel
theorem dX7_setStrict_10 : decode cX7_setStrict 10 = .ok (.iload_n 2, 1) := by decide +kernel
theorem dX7_setStrict_11 : decode cX7_setStrict 11 = .ok (.ireturn, 1) := by decide +kernel
theorem dX7_setFee_0 : decode cX7_setFee 0 = .ok (.iload_n 1, 1) := by decide +kernel
theorem dX7_setFee_1 : decode cX7_setFee 1 = .ok (.ifCond .lt 10, 3) := by decide +kernel
theorem dX7_setFee_4 : decode cX7_setFee 4 = .ok (.iload_n 1, 1) := by decide +kernel
theorem dX7_setFee_5 : decode cX7_setFee 5 = .ok (.sipush 999, 3) := by decide +kernel
theorem dX7_setFee_8 : decode cX7_setFee 8 = .ok (.if_icmp .le 14, 3) := by decide +kernel
theorem dX7_setFee_11 : decode cX7_setFee 11 = .ok (.new 81, 3) := by decide +kernel
theorem dX7_setFee_14 : decode cX7_setFee 14 = .ok (.dup, 1) := by decide +kernel
theorem dX7_setFee_15 : decode cX7_setFee 15 = .ok (.ldc_w 259, 3) := by decide +kernel
theorem dX7_setFee_18 : decode cX7_setFee 18 = .ok (.invokespecial 85, 3) := by decide +kernel
theorem dX7_setFee_21 : decode cX7_setFee 21 = .ok (.athrow, 1) := by decide +kernel
theorem dX7_setFee_22 : decode cX7_setFee 22 = .ok (.aload_n 0, 1) := by decide +kernel
theorem dX7_setFee_23 : decode cX7_setFee 23 = .ok (.getfield 70, 3) := by decide +kernel
theorem dX7_setFee_26 : decode cX7_setFee 26 = .ok (.istore_n 2, 1) := by decide +kernel
theorem dX7_setFee_27 : decode cX7_setFee 27 = .ok (.aload_n 0, 1) := by decide +kernel
theorem dX7_setFee_28 : decode cX7_setFee 28 = .ok (.iload_n 1, 1) := by decide +kernel
theorem dX7_setFee_29 : decode cX7_setFee 29 = .ok (.putfield 70, 3) := by decide +kernel
theorem dX7_setFee_32 : decode cX7_setFee 32 = .ok (.iload_n 2, 1) := by decide +kernel
theorem dX7_setFee_33 : decode cX7_setFee 33 = .ok (.ireturn, 1) := by decide +kernel
theorem dX7_needAuthor_0 : decode cX7_needAuthor 0 = .ok (.iload_n 1, 1) := by decide +kernel
theorem dX7_needAuthor_1 : decode cX7_needAuthor 1 = .ok (.ifCond .lt 14, 3) := by decide +kernel
theorem dX7_needAuthor_4 : decode cX7_needAuthor 4 = .ok (.iload_n 1, 1) := by decide +kernel
theorem dX7_needAuthor_5 : decode cX7_needAuthor 5 = .ok (.aload_n 0, 1) := by decide +kernel
theorem dX7_needAuthor_6 : decode cX7_needAuthor 6 = .ok (.getfield 12, 3) := by decide +kernel
theorem dX7_needAuthor_9 : decode cX7_needAuthor 9 = .ok (.getfield 293, 3) := by decide +kernel
theorem dX7_needAuthor_12 : decode cX7_needAuthor 12 = .ok (.if_icmp .lt 14, 3) := by decide +kernel
theorem dX7_needAuthor_15 : decode cX7_needAuthor 15 = .ok (.new 118, 3) := by decide +kernel
theorem dX7_needAuthor_18 : decode cX7_needAuthor 18 = .ok (.dup, 1) := by decide +kernel
theorem dX7_needAuthor_19 : decode cX7_needAuthor 19 = .ok (.ldc_w 294, 3) := by decide +kernel
theorem dX7_needAuthor_22 : decode cX7_needAuthor 22 = .ok (.invokespecial 122, 3) := by decide +kernel
theorem dX7_needAuthor_25 : decode cX7_needAuthor 25 = .ok (.athrow, 1) := by decide +kernel
theorem dX7_needAuthor_26 : decode cX7_needAuthor 26 = .ok (.return_, 1) := by decide +kernel
theorem dX7_needClause_0 : decode cX7_needClause 0 = .ok (.iload_n 1, 1) := by decide +kernel
theorem dX7_needClause_1 : decode cX7_needClause 1 = .ok (.ifCond .lt 14, 3) := by decide +kernel
theorem dX7_needClause_4 : decode cX7_needClause 4 = .ok (.iload_n 1, 1) := by decide +kernel
theorem dX7_needClause_5 : decode cX7_needClause 5 = .ok (.aload_n 0, 1) := by decide +kernel
theorem dX7_needClause_6 : decode cX7_needClause 6 = .ok (.getfield 19, 3) := by decide +kernel
theorem dX7_needClause_9 : decode cX7_needClause 9 = .ok (.getfield 216, 3) := by decide +kernel
theorem dX7_needClause_12 : decode cX7_needClause 12 = .ok (.if_icmp .lt 14, 3) := by decide +kernel
theorem dX7_needClause_15 : decode cX7_needClause 15 = .ok (.new 118, 3) := by decide +kernel
theorem dX7_needClause_18 : decode cX7_needClause 18 = .ok (.dup, 1) := by decide +kernel
theorem dX7_needClause_19 : decode cX7_needClause 19 = .ok (.ldc_w 298, 3) := by decide +kernel
theorem dX7_needClause_22 : decode cX7_needClause 22 = .ok (.invokespecial 122, 3) := by decide +kernel
theorem dX7_needClause_25 : decode cX7_needClause 25 = .ok (.athrow, 1) := by decide +kernel
theorem dX7_needClause_26 : decode cX7_needClause 26 = .ok (.return_, 1) := by decide +kernel
theorem dX7_needSignature_0 : decode cX7_needSignature 0 = .ok (.iload_n 1, 1) := by decide +kernel
theorem dX7_needSignature_1 : decode cX7_needSignature 1 = .ok (.ifCond .lt 14, 3) := by decide +kernel
theorem dX7_needSignature_4 : decode cX7_needSignature 4 = .ok (.iload_n 1, 1) := by decide +kernel
theorem dX7_needSignature_5 : decode cX7_needSignature 5 = .ok (.aload_n 0, 1) := by decide +kernel
theorem dX7_needSignature_6 : decode cX7_needSignature 6 = .ok (.getfield 26, 3) := by decide +kernel
theorem dX7_needSignature_9 : decode cX7_needSignature 9 = .ok (.getfield 246, 3) := by decide +kernel
theorem dX7_needSignature_12 : decode cX7_needSignature 12 = .ok (.if_icmp .lt 14, 3) := by decide +kernel
theorem dX7_needSignature_15 : decode cX7_needSignature 15 = .ok (.new 118, 3) := by decide +kernel
theorem dX7_needSignature_18 : decode cX7_needSignature 18 = .ok (.dup, 1) := by decide +kernel
theorem dX7_needSignature_19 : decode cX7_needSignature 19 = .ok (.ldc_w 300, 3) := by decide +kernel
theorem dX7_needSignature_22 : decode cX7_needSignature 22 = .ok (.invokespecial 122, 3) := by decide +kernel
theorem dX7_needSignature_25 : decode cX7_needSignature 25 = .ok (.athrow, 1) := by decide +kernel
theorem dX7_needSignature_26 : decode cX7_needSignature 26 = .ok (.return_, 1) := by decide +kernel
theorem dX7_needPosition_0 : decode cX7_needPosition 0 = .ok (.iload_n 1, 1) := by decide +kernel
theorem dX7_needPosition_1 : decode cX7_needPosition 1 = .ok (.ifCond .lt 11, 3) := by decide +kernel
theorem dX7_needPosition_4 : decode cX7_needPosition 4 = .ok (.iload_n 1, 1) := by decide +kernel
theorem dX7_needPosition_5 : decode cX7_needPosition 5 = .ok (.aload_n 2, 1) := by decide +kernel
theorem dX7_needPosition_6 : decode cX7_needPosition 6 = .ok (.getfield 117, 3) := by decide +kernel
theorem dX7_needPosition_9 : decode cX7_needPosition 9 = .ok (.if_icmp .lt 13, 3) := by decide +kernel
theorem dX7_needPosition_12 : decode cX7_needPosition 12 = .ok (.new 118, 3) := by decide +kernel
theorem dX7_needPosition_15 : decode cX7_needPosition 15 = .ok (.dup, 1) := by decide +kernel
theorem dX7_needPosition_16 : decode cX7_needPosition 16 = .ok (.ldc 120, 2) := by decide +kernel
theorem dX7_needPosition_18 : decode cX7_needPosition 18 = .ok (.invokespecial 122, 3) := by decide +kernel
theorem dX7_needPosition_21 : decode cX7_needPosition 21 = .ok (.athrow, 1) := by decide +kernel
theorem dX7_needPosition_22 : decode cX7_needPosition 22 = .ok (.return_, 1) := by decide +kernel
theorem dX7_needRange_0 : decode cX7_needRange 0 = .ok (.iload_n 1, 1) := by decide +kernel
theorem dX7_needRange_1 : decode cX7_needRange 1 = .ok (.ifCond .lt 32, 3) := by decide +kernel
theorem dX7_needRange_4 : decode cX7_needRange 4 = .ok (.iload_n 1, 1) := by decide +kernel
theorem dX7_needRange_5 : decode cX7_needRange 5 = .ok (.aload_n 0, 1) := by decide +kernel
theorem dX7_needRange_6 : decode cX7_needRange 6 = .ok (.getfield 40, 3) := by decide +kernel
theorem dX7_needRange_9 : decode cX7_needRange 9 = .ok (.getfield 117, 3) := by decide +kernel
theorem dX7_needRange_12 : decode cX7_needRange 12 = .ok (.if_icmp .gt 21, 3) := by decide +kernel
theorem dX7_needRange_15 : decode cX7_needRange 15 = .ok (.iload_n 2, 1) := by decide +kernel
theorem dX7_needRange_16 : decode cX7_needRange 16 = .ok (.iconst 1, 1) := by decide +kernel
theorem dX7_needRange_17 : decode cX7_needRange 17 = .ok (.if_icmp .lt 16, 3) := by decide +kernel
theorem dX7_needRange_20 : decode cX7_needRange 20 = .ok (.iload_n 2, 1) := by decide +kernel
theorem dX7_needRange_21 : decode cX7_needRange 21 = .ok (.aload_n 0, 1) := by decide +kernel
theorem dX7_needRange_22 : decode cX7_needRange 22 = .ok (.getfield 40, 3) := by decide +kernel
theorem dX7_needRange_25 : decode cX7_needRange 25 = .ok (.getfield 117, 3) := by decide +kernel
theorem dX7_needRange_28 : decode cX7_needRange 28 = .ok (.iload_n 1, 1) := by decide +kernel
theorem dX7_needRange_29 : decode cX7_needRange 29 = .ok (.isub, 1) := by decide +kernel
theorem dX7_needRange_30 : decode cX7_needRange 30 = .ok (.if_icmp .le 14, 3) := by decide +kernel
theorem dX7_needRange_33 : decode cX7_needRange 33 = .ok (.new 118, 3) := by decide +kernel
theorem dX7_needRange_36 : decode cX7_needRange 36 = .ok (.dup, 1) := by decide +kernel
theorem dX7_needRange_37 : decode cX7_needRange 37 = .ok (.ldc_w 302, 3) := by decide +kernel
theorem dX7_needRange_40 : decode cX7_needRange 40 = .ok (.invokespecial 122, 3) := by decide +kernel
theorem dX7_needRange_43 : decode cX7_needRange 43 = .ok (.athrow, 1) := by decide +kernel
theorem dX7_needRange_44 : decode cX7_needRange 44 = .ok (.return_, 1) := by decide +kernel
set_option maxRecDepth 20000 in
theorem ggX7_needRoomForEdit_X2_isFull : GoodIn wsX7_needRoomForEdit wsX2_isFull := goodIn_r _ [8, 9, 23, 24, 25, 26, 27, 28, 29, 30, 31, 32, 33] (by decide +kernel) (by decide +kernel)
set_option maxRecDepth 20000 in
theorem gX7_needRoomForEdit_X2_isFull : GoodIn wsX7_needRoomForEdit (wsV RX7 304 RX2 yX2_isFull wsX2_isFull) := goodIn_app (goodIn_of _ (by decide +kernel)) ggX7_needRoomForEdit_X2_isFull
theorem dX7_needRoomForEdit_0 : decode cX7_needRoomForEdit 0 = .ok (.aload_n 0, 1) := by decide +kernel
theorem dX7_needRoomForEdit_1 : decode cX7_needRoomForEdit 1 = .ok (.getfield 33, 3) := by decide +kernel
theorem dX7_needRoomForEdit_4 : decode cX7_needRoomForEdit 4 = .ok (.invokevirtual 304, 3) := by decide +kernel
theorem dX7_needRoomForEdit_7 : decode cX7_needRoomForEdit 7 = .ok (.ifCond .eq 14, 3) := by decide +kernel
theorem dX7_needRoomForEdit_10 : decode cX7_needRoomForEdit 10 = .ok (.new 92, 3) := by decide +kernel
theorem dX7_needRoomForEdit_13 : decode cX7_needRoomForEdit 13 = .ok (.dup, 1) := by decide +kernel
theorem dX7_needRoomForEdit_14 : decode cX7_needRoomForEdit 14 = .ok (.ldc_w 305, 3) := by decide +kernel
theorem dX7_needRoomForEdit_17 : decode cX7_needRoomForEdit 17 = .ok (.invokespecial 96, 3) := by decide +kernel
theorem dX7_needRoomForEdit_20 : decode cX7_needRoomForEdit 20 = .ok (.athrow, 1) := by decide +kernel
theorem dX7_needRoomForEdit_21 : decode cX7_needRoomForEdit 21 = .ok (.return_, 1) := by decide +kernel
theorem dX7_needRefusal_0 : decode cX7_needRefusal 0 = .ok (.aload_n 0, 1) := by decide +kernel
theorem dX7_needRefusal_1 : decode cX7_needRefusal 1 = .ok (.getfield 74, 3) := by decide +kernel
theorem dX7_needRefusal_4 : decode cX7_needRefusal 4 = .ok (.bipush 45, 2) := by decide +kernel
theorem dX7_needRefusal_6 : decode cX7_needRefusal 6 = .ok (.if_icmp .ne 14, 3) := by decide +kernel
theorem dX7_needRefusal_9 : decode cX7_needRefusal 9 = .ok (.new 251, 3) := by decide +kernel
theorem dX7_needRefusal_12 : decode cX7_needRefusal 12 = .ok (.dup, 1) := by decide +kernel
theorem dX7_needRefusal_13 : decode cX7_needRefusal 13 = .ok (.ldc_w 307, 3) := by decide +kernel
theorem dX7_needRefusal_16 : decode cX7_needRefusal 16 = .ok (.invokespecial 255, 3) := by decide +kernel
theorem dX7_needRefusal_19 : decode cX7_needRefusal 19 = .ok (.athrow, 1) := by decide +kernel
theorem dX7_needRefusal_20 : decode cX7_needRefusal 20 = .ok (.return_, 1) := by decide +kernel
set_option maxRecDepth 20000 in
theorem ggX7_performDraft_X2_perform : GoodIn wsX7_performDraft wsX2_perform := goodIn_ca (goodIn_r _ [20, 21, 22, 23, 24, 25, 26, 27, 28, 29, 30, 31, 32, 33, 34, 19, 35, 36, 37, 38, 39, 40, 41, 42, 43, 44, 45, 46, 47, 48, 49, 50, 51, 52, 53, 54, 55, 56, 57, 58, 59, 60, 61, 62, 63, 64, 65, 66, 156, 157, 158, 159, 160, 161, 162, 163, 164, 165, 166, 176, 177, 178, 179] (by decide +kernel) (by decide +kernel)) (goodIn_sub (fun _ h => List.mem_cons_of_mem _ (List.mem_append_right _ h)) (by decide +kernel))
set_option maxRecDepth 20000 in
theorem gX7_performDraft_X2_perform : GoodIn wsX7_performDraft (wsV RX7 309 RX2 yX2_perform wsX2_perform) := goodIn_app (goodIn_of _ (by decide +kernel)) ggX7_performDraft_X2_perform
set_option maxRecDepth 20000 in
theorem ggX7_performDraft_X4_clausesUnlike : GoodIn wsX7_performDraft wsX4_clausesUnlike := goodIn_ca (goodIn_r _ [70, 71, 72, 73, 29, 74, 31, 43, 48, 75, 76, 77, 78, 176, 177, 178, 179] (by decide +kernel) (by decide +kernel)) (goodIn_sub (fun _ h => List.mem_cons_of_mem _ (List.mem_append_right _ h)) (by decide +kernel))
set_option maxRecDepth 20000 in
theorem gX7_performDraft_X4_clausesUnlike : GoodIn wsX7_performDraft (wsV RX7 313 RX4 yX4_clausesUnlike wsX4_clausesUnlike) := goodIn_app (goodIn_of _ (by decide +kernel)) ggX7_performDraft_X4_clausesUnlike
set_option maxRecDepth 20000 in
theorem ggX7_performDraft_X7_noteRefusal : GoodIn wsX7_performDraft wsX7_noteRefusal := goodIn_ca (goodIn_r _ [83, 7, 84, 85, 86, 10, 87, 88, 89, 90, 91, 92, 93, 94, 95, 96, 97, 98, 99, 100, 101, 102, 103, 104, 105, 143, 144, 145, 146, 147, 148, 149, 150, 151, 152, 153, 154, 155, 167, 168, 169, 170, 171, 180, 181, 182, 183, 184, 185] (by decide +kernel) (by decide +kernel)) (goodIn_sub (fun _ h => List.mem_cons_of_mem _ (List.mem_append_right _ h)) (by decide +kernel))
set_option maxRecDepth 20000 in
theorem gX7_performDraft_X7_noteRefusal : GoodIn wsX7_performDraft (wsV RX7 317 RX7 yX7_noteRefusal wsX7_noteRefusal) := goodIn_app (goodIn_of _ (by decide +kernel)) ggX7_performDraft_X7_noteRefusal
set_option maxRecDepth 20000 in
theorem ggX7_performDraft_X4_copyFrom : GoodIn wsX7_performDraft wsX4_copyFrom := goodIn_ca (goodIn_r _ [109, 31, 110, 27, 28, 29, 30, 111, 45, 46, 47, 48, 49, 43, 50, 51, 52, 53, 176, 177, 178, 179] (by decide +kernel) (by decide +kernel)) (goodIn_sub (fun _ h => List.mem_cons_of_mem _ (List.mem_append_right _ h)) (by decide +kernel))
set_option maxRecDepth 20000 in
theorem gX7_performDraft_X4_copyFrom : GoodIn wsX7_performDraft (wsV RX7 325 RX4 yX4_copyFrom wsX4_copyFrom) := goodIn_app (goodIn_of _ (by decide +kernel)) ggX7_performDraft_X4_copyFrom
set_option maxRecDepth 20000 in
theorem ggX7_performDraft_X6_makeVoid : GoodIn wsX7_performDraft wsX6_makeVoid := goodIn_ca (goodIn_r _ [115, 99, 104, 116, 100, 101, 102, 97, 103, 105, 180, 181, 182, 183, 184, 185] (by decide +kernel) (by decide +kernel)) (goodIn_sub (fun _ h => List.mem_cons_of_mem _ (List.mem_append_right _ h)) (by decide +kernel))
set_option maxRecDepth 20000 in
theorem gX7_performDraft_X6_makeVoid : GoodIn wsX7_performDraft (wsV RX7 329 RX6 yX6_makeVoid wsX6_makeVoid) := goodIn_app (goodIn_of _ (by decide +kernel)) ggX7_performDraft_X6_makeVoid
set_option maxRecDepth 20000 in
theorem ggX7_performDraft_X0_priceOf : GoodIn wsX7_performDraft wsX0_priceOf := goodIn_ca (goodIn_r _ [121, 122, 123, 124, 125, 126, 127, 128, 129, 120, 130, 172, 173, 174, 175] (by decide +kernel) (by decide +kernel)) (goodIn_sub (fun _ h => List.mem_cons_of_mem _ (List.mem_append_right _ h)) (by decide +kernel))
set_option maxRecDepth 20000 in
theorem gX7_performDraft_X0_priceOf : GoodIn wsX7_performDraft (wsV RX7 335 RX0 yX0_priceOf wsX0_priceOf) := goodIn_app (goodIn_of _ (by decide +kernel)) ggX7_performDraft_X0_priceOf
set_option maxRecDepth 20000 in
theorem ggX7_performDraft_X2_keepDraft : GoodIn wsX7_performDraft wsX2_keepDraft := goodIn_ca (goodIn_r _ [134, 135, 136, 137, 21, 138, 23, 139, 140, 141, 19, 142, 156, 157, 158, 159, 160, 161, 162, 163, 164, 165, 166] (by decide +kernel) (by decide +kernel)) (goodIn_sub (fun _ h => List.mem_cons_of_mem _ (List.mem_append_right _ h)) (by decide +kernel))
set_option maxRecDepth 20000 in
theorem gX7_performDraft_X2_keepDraft : GoodIn wsX7_performDraft (wsV RX7 339 RX2 yX2_keepDraft wsX2_keepDraft) := goodIn_app (goodIn_of _ (by decide +kernel)) ggX7_performDraft_X2_keepDraft
theorem dX7_performDraft_0 : decode cX7_performDraft 0 = .ok (.aload_n 0, 1) := by decide +kernel
theorem dX7_performDraft_1 : decode cX7_performDraft 1 = .ok (.getfield 33, 3) := by decide +kernel
theorem dX7_performDraft_4 : decode cX7_performDraft 4 = .ok (.getfield 150, 3) := by decide +kernel
theorem dX7_performDraft_7 : decode cX7_performDraft 7 = .ok (.istore_n 1, 1) := by decide +kernel
theorem dX7_performDraft_8 : decode cX7_performDraft 8 = .ok (.aload_n 0, 1) := by decide +kernel
theorem dX7_performDraft_9 : decode cX7_performDraft 9 = .ok (.getfield 33, 3) := by decide +kernel
theorem dX7_performDraft_12 : decode cX7_performDraft 12 = .ok (.iload_n 1, 1) := by decide +kernel
theorem dX7_performDraft_13 : decode cX7_performDraft 13 = .ok (.aload_n 0, 1) := by decide +kernel
theorem dX7_performDraft_14 : decode cX7_performDraft 14 = .ok (.getfield 40, 3) := by decide +kernel
theorem dX7_performDraft_17 : decode cX7_performDraft 17 = .ok (.aload_n 0, 1) := by decide +kernel
theorem dX7_performDraft_18 : decode cX7_performDraft 18 = .ok (.getfield 44, 3) := by decide +kernel
theorem dX7_performDraft_21 : decode cX7_performDraft 21 = .ok (.invokevirtual 309, 3) := by decide +kernel
theorem dX7_performDraft_24 : decode cX7_performDraft 24 = .ok (.aload_n 0, 1) := by decide +kernel
theorem dX7_performDraft_25 : decode cX7_performDraft 25 = .ok (.getfield 44, 3) := by decide +kernel
theorem dX7_performDraft_28 : decode cX7_performDraft 28 = .ok (.aload_n 0, 1) := by decide +kernel
theorem dX7_performDraft_29 : decode cX7_performDraft 29 = .ok (.getfield 40, 3) := by decide +kernel
theorem dX7_performDraft_32 : decode cX7_performDraft 32 = .ok (.aload_n 0, 1) := by decide +kernel
theorem dX7_performDraft_33 : decode cX7_performDraft 33 = .ok (.getfield 19, 3) := by decide +kernel
theorem dX7_performDraft_36 : decode cX7_performDraft 36 = .ok (.getfield 216, 3) := by decide +kernel
theorem dX7_performDraft_39 : decode cX7_performDraft 39 = .ok (.invokevirtual 313, 3) := by decide +kernel
theorem dX7_performDraft_42 : decode cX7_performDraft 42 = .ok (.istore_n 2, 1) := by decide +kernel
theorem dX7_performDraft_43 : decode cX7_performDraft 43 = .ok (.aload_n 0, 1) := by decide +kernel
theorem dX7_performDraft_44 : decode cX7_performDraft 44 = .ok (.iload_n 2, 1) := by decide +kernel
theorem dX7_performDraft_45 : decode cX7_performDraft 45 = .ok (.invokevirtual 317, 3) := by decide +kernel
theorem dX7_performDraft_48 : decode cX7_performDraft 48 = .ok (.ifCond .eq 14, 3) := by decide +kernel
theorem dX7_performDraft_51 : decode cX7_performDraft 51 = .ok (.new 320, 3) := by decide +kernel
theorem dX7_performDraft_54 : decode cX7_performDraft 54 = .ok (.dup, 1) := by decide +kernel
theorem dX7_performDraft_55 : decode cX7_performDraft 55 = .ok (.ldc_w 322, 3) := by decide +kernel
theorem dX7_performDraft_58 : decode cX7_performDraft 58 = .ok (.invokespecial 324, 3) := by decide +kernel
theorem dX7_performDraft_61 : decode cX7_performDraft 61 = .ok (.athrow, 1) := by decide +kernel
theorem dX7_performDraft_62 : decode cX7_performDraft 62 = .ok (.aload_n 0, 1) := by decide +kernel
theorem dX7_performDraft_63 : decode cX7_performDraft 63 = .ok (.getfield 40, 3) := by decide +kernel
theorem dX7_performDraft_66 : decode cX7_performDraft 66 = .ok (.aload_n 0, 1) := by decide +kernel
theorem dX7_performDraft_67 : decode cX7_performDraft 67 = .ok (.getfield 44, 3) := by decide +kernel
theorem dX7_performDraft_70 : decode cX7_performDraft 70 = .ok (.invokevirtual 325, 3) := by decide +kernel
theorem dX7_performDraft_73 : decode cX7_performDraft 73 = .ok (.aload_n 0, 1) := by decide +kernel
theorem dX7_performDraft_74 : decode cX7_performDraft 74 = .ok (.getfield 70, 3) := by decide +kernel
theorem dX7_performDraft_77 : decode cX7_performDraft 77 = .ok (.aload_n 0, 1) := by decide +kernel
theorem dX7_performDraft_78 : decode cX7_performDraft 78 = .ok (.getfield 26, 3) := by decide +kernel
theorem dX7_performDraft_81 : decode cX7_performDraft 81 = .ok (.iload_n 2, 1) := by decide +kernel
theorem dX7_performDraft_82 : decode cX7_performDraft 82 = .ok (.iload_n 1, 1) := by decide +kernel
theorem dX7_performDraft_83 : decode cX7_performDraft 83 = .ok (.invokevirtual 329, 3) := by decide +kernel
theorem dX7_performDraft_86 : decode cX7_performDraft 86 = .ok (.imul, 1) := by decide +kernel
theorem dX7_performDraft_87 : decode cX7_performDraft 87 = .ok (.istore_n 3, 1) := by decide +kernel
theorem dX7_performDraft_88 : decode cX7_performDraft 88 = .ok (.aload_n 0, 1) := by decide +kernel
theorem dX7_performDraft_89 : decode cX7_performDraft 89 = .ok (.getfield 33, 3) := by decide +kernel
theorem dX7_performDraft_92 : decode cX7_performDraft 92 = .ok (.getfield 158, 3) := by decide +kernel
theorem dX7_performDraft_95 : decode cX7_performDraft 95 = .ok (.iload_n 1, 1) := by decide +kernel
theorem dX7_performDraft_96 : decode cX7_performDraft 96 = .ok (.iaload, 1) := by decide +kernel
theorem dX7_performDraft_97 : decode cX7_performDraft 97 = .ok (.istore 4, 2) := by decide +kernel
theorem dX7_performDraft_99 : decode cX7_performDraft 99 = .ok (.aload_n 0, 1) := by decide +kernel
theorem dX7_performDraft_100 : decode cX7_performDraft 100 = .ok (.getfield 12, 3) := by decide +kernel
theorem dX7_performDraft_103 : decode cX7_performDraft 103 = .ok (.iload 4, 2) := by decide +kernel
theorem dX7_performDraft_105 : decode cX7_performDraft 105 = .ok (.aload_n 0, 1) := by decide +kernel
theorem dX7_performDraft_106 : decode cX7_performDraft 106 = .ok (.getfield 33, 3) := by decide +kernel
theorem dX7_performDraft_109 : decode cX7_performDraft 109 = .ok (.getfield 154, 3) := by decide +kernel
theorem dX7_performDraft_112 : decode cX7_performDraft 112 = .ok (.iload_n 1, 1) := by decide +kernel
theorem dX7_performDraft_113 : decode cX7_performDraft 113 = .ok (.caload, 1) := by decide +kernel
theorem dX7_performDraft_114 : decode cX7_performDraft 114 = .ok (.aload_n 0, 1) := by decide +kernel
theorem dX7_performDraft_115 : decode cX7_performDraft 115 = .ok (.getfield 33, 3) := by decide +kernel
theorem dX7_performDraft_118 : decode cX7_performDraft 118 = .ok (.getfield 332, 3) := by decide +kernel
theorem dX7_performDraft_121 : decode cX7_performDraft 121 = .ok (.iload_n 1, 1) := by decide +kernel
theorem dX7_performDraft_122 : decode cX7_performDraft 122 = .ok (.iaload, 1) := by decide +kernel
theorem dX7_performDraft_123 : decode cX7_performDraft 123 = .ok (.invokevirtual 335, 3) := by decide +kernel
theorem dX7_performDraft_126 : decode cX7_performDraft 126 = .ok (.iload_n 3, 1) := by decide +kernel
theorem dX7_performDraft_127 : decode cX7_performDraft 127 = .ok (.iadd, 1) := by decide +kernel
theorem dX7_performDraft_128 : decode cX7_performDraft 128 = .ok (.istore 5, 2) := by decide +kernel
theorem dX7_performDraft_130 : decode cX7_performDraft 130 = .ok (.aload_n 0, 1) := by decide +kernel
theorem dX7_performDraft_131 : decode cX7_performDraft 131 = .ok (.getfield 12, 3) := by decide +kernel
theorem dX7_performDraft_134 : decode cX7_performDraft 134 = .ok (.getfield 261, 3) := by decide +kernel
theorem dX7_performDraft_137 : decode cX7_performDraft 137 = .ok (.iload 4, 2) := by decide +kernel
theorem dX7_performDraft_139 : decode cX7_performDraft 139 = .ok (.dup2, 1) := by decide +kernel
theorem dX7_performDraft_140 : decode cX7_performDraft 140 = .ok (.laload, 1) := by decide +kernel
theorem dX7_performDraft_141 : decode cX7_performDraft 141 = .ok (.iload 5, 2) := by decide +kernel
theorem dX7_performDraft_143 : decode cX7_performDraft 143 = .ok (.i2l, 1) := by decide +kernel
theorem dX7_performDraft_144 : decode cX7_performDraft 144 = .ok (.ladd, 1) := by decide +kernel
theorem dX7_performDraft_145 : decode cX7_performDraft 145 = .ok (.lastore, 1) := by decide +kernel
theorem dX7_performDraft_146 : decode cX7_performDraft 146 = .ok (.aload_n 0, 1) := by decide +kernel
theorem dX7_performDraft_147 : decode cX7_performDraft 147 = .ok (.getfield 33, 3) := by decide +kernel
theorem dX7_performDraft_150 : decode cX7_performDraft 150 = .ok (.iload 5, 2) := by decide +kernel
theorem dX7_performDraft_152 : decode cX7_performDraft 152 = .ok (.iload_n 3, 1) := by decide +kernel
theorem dX7_performDraft_153 : decode cX7_performDraft 153 = .ok (.invokevirtual 339, 3) := by decide +kernel
theorem dX7_performDraft_156 : decode cX7_performDraft 156 = .ok (.return_, 1) := by decide +kernel
set_option maxRecDepth 20000 in
theorem ggX7_noteRefusal_X1_lowestLocked : GoodIn wsX7_noteRefusal wsX1_lowestLocked := goodIn_ca (goodIn_r _ [10, 11, 12, 38, 39, 40, 41, 42] (by decide +kernel) (by decide +kernel)) (goodIn_sub (fun _ h => List.mem_cons_of_mem _ (List.mem_append_right _ h)) (by decide +kernel))
set_option maxRecDepth 20000 in
theorem gX7_noteRefusal_X1_lowestLocked : GoodIn wsX7_noteRefusal (wsV RX7 342 RX1 yX1_lowestLocked wsX1_lowestLocked) := goodIn_app (goodIn_of _ (by decide +kernel)) ggX7_noteRefusal_X1_lowestLocked
set_option maxRecDepth 20000 in
theorem ggX7_noteRefusal_X6_lowestValid : GoodIn wsX7_noteRefusal wsX6_lowestValid := goodIn_ca (goodIn_r _ [17, 18, 19, 20, 21, 16, 22, 23, 24, 43, 44, 45, 46, 47, 48] (by decide +kernel) (by decide +kernel)) (goodIn_sub (fun _ h => List.mem_cons_of_mem _ (List.mem_append_right _ h)) (by decide +kernel))
set_option maxRecDepth 20000 in
theorem gX7_noteRefusal_X6_lowestValid : GoodIn wsX7_noteRefusal (wsV RX7 345 RX6 yX6_lowestValid wsX6_lowestValid) := goodIn_app (goodIn_of _ (by decide +kernel)) ggX7_noteRefusal_X6_lowestValid
theorem dX7_noteRefusal_0 : decode cX7_noteRefusal 0 = .ok (.aload_n 0, 1) := by decide +kernel
theorem dX7_noteRefusal_1 : decode cX7_noteRefusal 1 = .ok (.getfield 19, 3) := by decide +kernel
theorem dX7_noteRefusal_4 : decode cX7_noteRefusal 4 = .ok (.iload_n 1, 1) := by decide +kernel
theorem dX7_noteRefusal_5 : decode cX7_noteRefusal 5 = .ok (.invokevirtual 342, 3) := by decide +kernel
theorem dX7_noteRefusal_8 : decode cX7_noteRefusal 8 = .ok (.istore_n 2, 1) := by decide +kernel
theorem dX7_noteRefusal_9 : decode cX7_noteRefusal 9 = .ok (.iload_n 2, 1) := by decide +kernel
theorem dX7_noteRefusal_10 : decode cX7_noteRefusal 10 = .ok (.iconst (-1), 1) := by decide +kernel
theorem dX7_noteRefusal_11 : decode cX7_noteRefusal 11 = .ok (.if_icmp .eq 16, 3) := by decide +kernel
theorem dX7_noteRefusal_14 : decode cX7_noteRefusal 14 = .ok (.aload_n 0, 1) := by decide +kernel
theorem dX7_noteRefusal_15 : decode cX7_noteRefusal 15 = .ok (.bipush 108, 2) := by decide +kernel
theorem dX7_noteRefusal_17 : decode cX7_noteRefusal 17 = .ok (.putfield 74, 3) := by decide +kernel
theorem dX7_noteRefusal_20 : decode cX7_noteRefusal 20 = .ok (.aload_n 0, 1) := by decide +kernel
theorem dX7_noteRefusal_21 : decode cX7_noteRefusal 21 = .ok (.iload_n 2, 1) := by decide +kernel
theorem dX7_noteRefusal_22 : decode cX7_noteRefusal 22 = .ok (.putfield 78, 3) := by decide +kernel
theorem dX7_noteRefusal_25 : decode cX7_noteRefusal 25 = .ok (.iconst 1, 1) := by decide +kernel
theorem dX7_noteRefusal_26 : decode cX7_noteRefusal 26 = .ok (.ireturn, 1) := by decide +kernel
theorem dX7_noteRefusal_27 : decode cX7_noteRefusal 27 = .ok (.aload_n 0, 1) := by decide +kernel
theorem dX7_noteRefusal_28 : decode cX7_noteRefusal 28 = .ok (.getfield 66, 3) := by decide +kernel
theorem dX7_noteRefusal_31 : decode cX7_noteRefusal 31 = .ok (.ifCond .eq 14, 3) := by decide +kernel
theorem dX7_noteRefusal_34 : decode cX7_noteRefusal 34 = .ok (.aload_n 0, 1) := by decide +kernel
theorem dX7_noteRefusal_35 : decode cX7_noteRefusal 35 = .ok (.getfield 26, 3) := by decide +kernel
theorem dX7_noteRefusal_38 : decode cX7_noteRefusal 38 = .ok (.iload_n 1, 1) := by decide +kernel
theorem dX7_noteRefusal_39 : decode cX7_noteRefusal 39 = .ok (.invokevirtual 345, 3) := by decide +kernel
theorem dX7_noteRefusal_42 : decode cX7_noteRefusal 42 = .ok (.goto 4, 3) := by decide +kernel
theorem dX7_noteRefusal_45 : decode cX7_noteRefusal 45 = .ok (.iconst (-1), 1) := by decide +kernel
theorem dX7_noteRefusal_46 : decode cX7_noteRefusal 46 = .ok (.istore_n 3, 1) := by decide +kernel
theorem dX7_noteRefusal_47 : decode cX7_noteRefusal 47 = .ok (.iload_n 3, 1) := by decide +kernel
theorem dX7_noteRefusal_48 : decode cX7_noteRefusal 48 = .ok (.iconst (-1), 1) := by decide +kernel
theorem dX7_noteRefusal_49 : decode cX7_noteRefusal 49 = .ok (.if_icmp .eq 16, 3) := by decide +kernel
theorem dX7_noteRefusal_52 : decode cX7_noteRefusal 52 = .ok (.aload_n 0, 1) := by decide +kernel
theorem dX7_noteRefusal_53 : decode cX7_noteRefusal 53 = .ok (.bipush 115, 2) := by decide +kernel
theorem dX7_noteRefusal_55 : decode cX7_noteRefusal 55 = .ok (.putfield 74, 3) := by decide +kernel
theorem dX7_noteRefusal_58 : decode cX7_noteRefusal 58 = .ok (.aload_n 0, 1) := by decide +kernel
theorem dX7_noteRefusal_59 : decode cX7_noteRefusal 59 = .ok (.iload_n 3, 1) := by decide +kernel
theorem dX7_noteRefusal_60 : decode cX7_noteRefusal 60 = .ok (.putfield 78, 3) := by decide +kernel
theorem dX7_noteRefusal_63 : decode cX7_noteRefusal 63 = .ok (.iconst 1, 1) := by decide +kernel
theorem dX7_noteRefusal_64 : decode cX7_noteRefusal 64 = .ok (.ireturn, 1) := by decide +kernel
theorem dX7_noteRefusal_65 : decode cX7_noteRefusal 65 = .ok (.iconst 0, 1) := by decide +kernel
theorem dX7_noteRefusal_66 : decode cX7_noteRefusal 66 = .ok (.ireturn, 1) := by decide +kernel
set_option maxRecDepth 20000 in
theorem ggX7_openBracket_X3_put : GoodIn wsX7_openBracket wsX3_put := goodIn_ca (goodIn_r _ [6, 7, 8, 9, 10, 11, 5, 12, 26, 27] (by decide +kernel) (by decide +kernel)) (goodIn_sub (fun _ h => List.mem_cons_of_mem _ (List.mem_append_right _ h)) (by decide +kernel))
set_option maxRecDepth 20000 in
theorem gX7_openBracket_X3_put : GoodIn wsX7_openBracket (wsV RX7 106 RX3 yX3_put wsX3_put) := goodIn_app (goodIn_of _ (by decide +kernel)) ggX7_openBracket_X3_put
theorem dX7_openBracket_0 : decode cX7_openBracket 0 = .ok (.iload_n 1, 1) := by decide +kernel
theorem dX7_openBracket_1 : decode cX7_openBracket 1 = .ok (.iconst (-1), 1) := by decide +kernel
theorem dX7_openBracket_2 : decode cX7_openBracket 2 = .ok (.if_icmp .eq 33, 3) := by decide +kernel
theorem dX7_openBracket_5 : decode cX7_openBracket 5 = .ok (.aload_n 0, 1) := by decide +kernel
theorem dX7_openBracket_6 : decode cX7_openBracket 6 = .ok (.getfield 63, 3) := by decide +kernel
theorem dX7_openBracket_9 : decode cX7_openBracket 9 = .ok (.bipush 91, 2) := by decide +kernel
theorem dX7_openBracket_11 : decode cX7_openBracket 11 = .ok (.invokevirtual 106, 3) := by decide +kernel
theorem dX7_openBracket_14 : decode cX7_openBracket 14 = .ok (.aload_n 0, 1) := by decide +kernel
theorem dX7_openBracket_15 : decode cX7_openBracket 15 = .ok (.getfield 63, 3) := by decide +kernel
theorem dX7_openBracket_18 : decode cX7_openBracket 18 = .ok (.bipush 48, 2) := by decide +kernel
theorem dX7_openBracket_20 : decode cX7_openBracket 20 = .ok (.iload_n 1, 1) := by decide +kernel
theorem dX7_openBracket_21 : decode cX7_openBracket 21 = .ok (.iadd, 1) := by decide +kernel
theorem dX7_openBracket_22 : decode cX7_openBracket 22 = .ok (.i2c, 1) := by decide +kernel
theorem dX7_openBracket_23 : decode cX7_openBracket 23 = .ok (.invokevirtual 106, 3) := by decide +kernel
theorem dX7_openBracket_26 : decode cX7_openBracket 26 = .ok (.aload_n 0, 1) := by decide +kernel
theorem dX7_openBracket_27 : decode cX7_openBracket 27 = .ok (.getfield 63, 3) := by decide +kernel
theorem dX7_openBracket_30 : decode cX7_openBracket 30 = .ok (.bipush 58, 2) := by decide +kernel
theorem dX7_openBracket_32 : decode cX7_openBracket 32 = .ok (.invokevirtual 106, 3) := by decide +kernel
theorem dX7_openBracket_35 : decode cX7_openBracket 35 = .ok (.return_, 1) := by decide +kernel
set_option maxRecDepth 20000 in
theorem ggX7_closeBracket_X3_put : GoodIn wsX7_closeBracket wsX3_put := goodIn_ca (goodIn_r _ [6, 7, 8, 9, 10, 11, 5, 12, 26, 27] (by decide +kernel) (by decide +kernel)) (goodIn_sub (fun _ h => List.mem_cons_of_mem _ (List.mem_append_right _ h)) (by decide +kernel))
set_option maxRecDepth 20000 in
theorem gX7_closeBracket_X3_put : GoodIn wsX7_closeBracket (wsV RX7 106 RX3 yX3_put wsX3_put) := goodIn_app (goodIn_of _ (by decide +kernel)) ggX7_closeBracket_X3_put
theorem dX7_closeBracket_0 : decode cX7_closeBracket 0 = .ok (.iload_n 1, 1) := by decide +kernel
theorem dX7_closeBracket_1 : decode cX7_closeBracket 1 = .ok (.iconst (-1), 1) := by decide +kernel
theorem dX7_closeBracket_2 : decode cX7_closeBracket 2 = .ok (.if_icmp .eq 12, 3) := by decide +kernel
theorem dX7_closeBracket_5 : decode cX7_closeBracket 5 = .ok (.aload_n 0, 1) := by decide +kernel
theorem dX7_closeBracket_6 : decode cX7_closeBracket 6 = .ok (.getfield 63, 3) := by decide +kernel
theorem dX7_closeBracket_9 : decode cX7_closeBracket 9 = .ok (.bipush 93, 2) := by decide +kernel
theorem dX7_closeBracket_11 : decode cX7_closeBracket 11 = .ok (.invokevirtual 106, 3) := by decide +kernel
theorem dX7_closeBracket_14 : decode cX7_closeBracket 14 = .ok (.return_, 1) := by decide +kernel
