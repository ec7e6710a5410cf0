set_option maxRecDepth 20000 in
theorem ggL_addAuthor_X7_addAuthor : GoodIn wsL_addAuthor wsX7_addAuthor := goodIn_ca (goodIn_ca (goodIn_ca (goodIn_r _ [7, 8, 9, 10, 11, 12, 13, 14, 15, 16, 17, 18, 19, 20, 21, 22, 23, 24, 25, 26, 27, 28, 29, 30, 31, 32, 33, 34, 35, 36, 37, 38, 39, 40, 41, 42] (by decide +kernel) (by decide +kernel)) (goodIn_sub (fun _ h => List.mem_cons_of_mem _ (List.mem_append_left _ (List.mem_append_right _ h))) (by decide +kernel))) (goodIn_sub (fun _ h => List.mem_cons_of_mem _ (List.mem_append_right _ h)) (by decide +kernel))) (goodIn_sub (fun _ h => List.mem_cons_of_mem _ (List.mem_append_left _ (List.mem_append_left _ (List.mem_append_right _ h)))) (by decide +kernel))
set_option maxRecDepth 20000 in
theorem gL_addAuthor_X7_addAuthor : GoodIn wsL_addAuthor (wsV RL 7 RX7 yX7_addAuthor wsX7_addAuthor) := goodIn_app (goodIn_of _ (by decide +kernel)) ggL_addAuthor_X7_addAuthor
theorem dL_addAuthor_0 : decode cL_addAuthor 0 = .ok (.aload_n 3, 1) := by decide +kernel
theorem dL_addAuthor_1 : decode cL_addAuthor 1 = .ok (.iconst 0, 1) := by decide +kernel
theorem dL_addAuthor_2 : decode cL_addAuthor 2 = .ok (.aload_n 0, 1) := by decide +kernel
theorem dL_addAuthor_3 : decode cL_addAuthor 3 = .ok (.iload_n 1, 1) := by decide +kernel
theorem dL_addAuthor_4 : decode cL_addAuthor 4 = .ok (.iload_n 2, 1) := by decide +kernel
theorem dL_addAuthor_5 : decode cL_addAuthor 5 = .ok (.invokevirtual 7, 3) := by decide +kernel
theorem dL_addAuthor_8 : decode cL_addAuthor 8 = .ok (.i2l, 1) := by decide +kernel
theorem dL_addAuthor_9 : decode cL_addAuthor 9 = .ok (.lastore, 1) := by decide +kernel
theorem dL_addAuthor_10 : decode cL_addAuthor 10 = .ok (.goto 11, 3) := by decide +kernel
theorem dL_addAuthor_13 : decode cL_addAuthor 13 = .ok (.astore 4, 2) := by decide +kernel
theorem dL_addAuthor_15 : decode cL_addAuthor 15 = .ok (.iconst 1, 1) := by decide +kernel
theorem dL_addAuthor_16 : decode cL_addAuthor 16 = .ok (.ireturn, 1) := by decide +kernel
theorem dL_addAuthor_17 : decode cL_addAuthor 17 = .ok (.astore 4, 2) := by decide +kernel
theorem dL_addAuthor_19 : decode cL_addAuthor 19 = .ok (.iconst 2, 1) := by decide +kernel
theorem dL_addAuthor_20 : decode cL_addAuthor 20 = .ok (.ireturn, 1) := by decide +kernel
theorem dL_addAuthor_21 : decode cL_addAuthor 21 = .ok (.iconst 0, 1) := by decide +kernel
theorem dL_addAuthor_22 : decode cL_addAuthor 22 = .ok (.ireturn, 1) := by decide +kernel
set_option maxRecDepth 20000 in
theorem ggL_type_X7_type : GoodIn wsL_type wsX7_type := goodIn_ca (goodIn_ca (goodIn_ca (goodIn_r _ [7, 8, 9, 10, 11, 12, 13, 14, 15, 16, 17, 18, 19, 20, 21, 22, 23, 24, 25, 26, 27, 28, 29, 30, 31, 32, 33, 34, 35, 36, 37, 38, 39, 40] (by decide +kernel) (by decide +kernel)) (goodIn_sub (fun _ h => List.mem_cons_of_mem _ (List.mem_append_left _ (List.mem_append_right _ h))) (by decide +kernel))) (goodIn_sub (fun _ h => List.mem_cons_of_mem _ (List.mem_append_right _ h)) (by decide +kernel))) (goodIn_sub (fun _ h => List.mem_cons_of_mem _ (List.mem_append_left _ (List.mem_append_left _ (List.mem_append_right _ h)))) (by decide +kernel))
set_option maxRecDepth 20000 in
theorem gL_type_X7_type : GoodIn wsL_type (wsV RL 17 RX7 yX7_type wsX7_type) := goodIn_app (goodIn_of _ (by decide +kernel)) ggL_type_X7_type
theorem dL_type_0 : decode cL_type 0 = .ok (.aload_n 2, 1) := by decide +kernel
theorem dL_type_1 : decode cL_type 1 = .ok (.iconst 0, 1) := by decide +kernel
theorem dL_type_2 : decode cL_type 2 = .ok (.aload_n 0, 1) := by decide +kernel
theorem dL_type_3 : decode cL_type 3 = .ok (.iload_n 1, 1) := by decide +kernel
theorem dL_type_4 : decode cL_type 4 = .ok (.invokevirtual 17, 3) := by decide +kernel
theorem dL_type_7 : decode cL_type 7 = .ok (.i2l, 1) := by decide +kernel
theorem dL_type_8 : decode cL_type 8 = .ok (.lastore, 1) := by decide +kernel
theorem dL_type_9 : decode cL_type 9 = .ok (.goto 9, 3) := by decide +kernel
theorem dL_type_12 : decode cL_type 12 = .ok (.astore_n 3, 1) := by decide +kernel
theorem dL_type_13 : decode cL_type 13 = .ok (.iconst 1, 1) := by decide +kernel
theorem dL_type_14 : decode cL_type 14 = .ok (.ireturn, 1) := by decide +kernel
theorem dL_type_15 : decode cL_type 15 = .ok (.astore_n 3, 1) := by decide +kernel
theorem dL_type_16 : decode cL_type 16 = .ok (.iconst 2, 1) := by decide +kernel
theorem dL_type_17 : decode cL_type 17 = .ok (.ireturn, 1) := by decide +kernel
theorem dL_type_18 : decode cL_type 18 = .ok (.iconst 0, 1) := by decide +kernel
theorem dL_type_19 : decode cL_type 19 = .ok (.ireturn, 1) := by decide +kernel
set_option maxRecDepth 20000 in
theorem ggL_insert_X7_insert : GoodIn wsL_insert wsX7_insert := goodIn_ca (goodIn_ca (goodIn_ca (goodIn_ca (goodIn_ca (goodIn_r _ [9, 10, 11, 12, 13, 14, 15, 16, 17, 18, 19, 20, 21, 22, 23, 8, 24, 25, 26, 27, 28, 29, 30, 31, 32, 33, 34, 35, 36, 37, 38, 39, 40, 41, 42, 43, 44, 45, 46, 47, 48, 49, 50, 51, 52, 53, 54, 55, 56, 57, 58, 59, 60, 61, 62, 63, 64, 65, 66, 67, 68, 69, 70, 71, 72, 73, 74, 75, 76, 77, 78, 79, 80, 81, 82, 83, 84, 85, 86, 87, 88, 89, 90, 91, 92, 93, 94, 95, 96, 97, 98, 99, 100, 101, 102, 103, 104, 105, 106, 107, 108, 109, 110, 111, 112, 113, 114, 115, 116, 117, 118, 119, 120, 121, 122, 123, 124, 125, 126, 127, 128, 129, 130, 131, 132, 133, 134, 135, 136, 137, 138, 139, 140, 141, 142, 143, 144, 145, 146, 147, 148, 149, 150, 151, 152, 153, 154, 155, 156, 157, 158, 159, 160, 161, 162, 163, 164, 165, 166, 167, 168, 169, 170, 171, 172, 173, 174, 175, 176, 177, 178, 179, 180, 181, 182, 183, 184, 185, 186, 187, 188, 189, 190, 191, 192, 193, 194, 195, 196, 197, 198, 199, 200, 201, 202, 203, 204, 205, 206, 207, 208, 209, 210, 211, 212, 213, 214, 215, 216, 217, 218, 219, 220, 221, 222, 223, 224, 225, 226, 227, 228, 229, 230, 231, 232, 233, 234] (by decide +kernel) (by decide +kernel)) (goodIn_sub (fun _ h => List.mem_cons_of_mem _ (List.mem_append_left _ (List.mem_append_left _ (List.mem_append_left _ (List.mem_append_right _ h))))) (by decide +kernel))) (goodIn_sub (fun _ h => List.mem_cons_of_mem _ (List.mem_append_left _ (List.mem_append_left _ (List.mem_append_right _ h)))) (by decide +kernel))) (goodIn_sub (fun _ h => List.mem_cons_of_mem _ (List.mem_append_left _ (List.mem_append_right _ h))) (by decide +kernel))) (goodIn_sub (fun _ h => List.mem_cons_of_mem _ (List.mem_append_left _ (List.mem_append_left _ (List.mem_append_left _ (List.mem_append_left _ (List.mem_append_right _ h)))))) (by decide +kernel))) (goodIn_sub (fun _ h => List.mem_cons_of_mem _ (List.mem_append_right _ h)) (by decide +kernel))
set_option maxRecDepth 20000 in
theorem gL_insert_X7_insert : GoodIn wsL_insert (wsV RL 21 RX7 yX7_insert wsX7_insert) := goodIn_app (goodIn_of _ (by decide +kernel)) ggL_insert_X7_insert
theorem dL_insert_0 : decode cL_insert 0 = .ok (.aload_n 3, 1) := by decide +kernel
theorem dL_insert_1 : decode cL_insert 1 = .ok (.iconst 0, 1) := by decide +kernel
theorem dL_insert_2 : decode cL_insert 2 = .ok (.aload_n 0, 1) := by decide +kernel
theorem dL_insert_3 : decode cL_insert 3 = .ok (.iload_n 1, 1) := by decide +kernel
theorem dL_insert_4 : decode cL_insert 4 = .ok (.iload_n 2, 1) := by decide +kernel
theorem dL_insert_5 : decode cL_insert 5 = .ok (.invokevirtual 21, 3) := by decide +kernel
theorem dL_insert_8 : decode cL_insert 8 = .ok (.i2l, 1) := by decide +kernel
theorem dL_insert_9 : decode cL_insert 9 = .ok (.lastore, 1) := by decide +kernel
theorem dL_insert_10 : decode cL_insert 10 = .ok (.goto 19, 3) := by decide +kernel
theorem dL_insert_13 : decode cL_insert 13 = .ok (.astore 4, 2) := by decide +kernel
theorem dL_insert_15 : decode cL_insert 15 = .ok (.iconst 1, 1) := by decide +kernel
theorem dL_insert_16 : decode cL_insert 16 = .ok (.ireturn, 1) := by decide +kernel
theorem dL_insert_17 : decode cL_insert 17 = .ok (.astore 4, 2) := by decide +kernel
theorem dL_insert_19 : decode cL_insert 19 = .ok (.iconst 2, 1) := by decide +kernel
theorem dL_insert_20 : decode cL_insert 20 = .ok (.ireturn, 1) := by decide +kernel
theorem dL_insert_21 : decode cL_insert 21 = .ok (.astore 4, 2) := by decide +kernel
theorem dL_insert_23 : decode cL_insert 23 = .ok (.iconst 3, 1) := by decide +kernel
theorem dL_insert_24 : decode cL_insert 24 = .ok (.ireturn, 1) := by decide +kernel
theorem dL_insert_25 : decode cL_insert 25 = .ok (.astore 4, 2) := by decide +kernel
theorem dL_insert_27 : decode cL_insert 27 = .ok (.iconst 4, 1) := by decide +kernel
theorem dL_insert_28 : decode cL_insert 28 = .ok (.ireturn, 1) := by decide +kernel
theorem dL_insert_29 : decode cL_insert 29 = .ok (.iconst 0, 1) := by decide +kernel
theorem dL_insert_30 : decode cL_insert 30 = .ok (.ireturn, 1) := by decide +kernel
set_option maxRecDepth 20000 in
theorem ggL_delete_X7_delete : GoodIn wsL_delete wsX7_delete := goodIn_ca (goodIn_ca (goodIn_ca (goodIn_ca (goodIn_r _ [8, 9, 10, 11, 12, 13, 14, 7, 15, 16, 17, 18, 19, 20, 21, 22, 23, 24, 25, 26, 27, 28, 29, 30, 31, 32, 33, 34, 35, 36, 37, 38, 39, 40, 41, 42, 43, 44, 45, 46, 47, 48, 49, 50, 51, 52, 53, 54, 55, 56, 57, 58, 59, 60, 61, 62, 63, 64, 65, 66, 67, 68, 69, 70, 71, 72, 73, 74, 75, 76, 77, 78, 79, 80, 81, 82, 83, 84, 85, 86, 87, 88, 89, 90, 91, 92, 93, 94, 95, 96, 97, 98, 99, 100, 101, 102, 103, 104, 105, 106, 107, 108, 109, 110, 111, 112, 113, 114, 115, 116, 117, 118, 119, 120, 121, 122, 123, 124, 125, 126, 127, 128, 129, 130, 131, 132, 133, 134, 135, 136, 137, 138, 139, 140, 141, 142, 143, 144, 145, 146, 147, 148, 149, 150, 151, 152, 153, 154, 155, 156, 157, 158, 159, 160, 161, 162, 163, 164, 165, 166, 167, 168, 169, 170, 171, 172, 173, 174, 175, 176, 177, 178, 179, 180, 181, 182, 183, 184, 185, 186, 187, 188, 189, 190, 191, 192, 193, 194, 195, 196, 197, 198, 199, 200, 201, 202, 203, 204, 205, 206, 207, 208, 209, 210, 211, 212, 213, 214, 215, 216, 217, 218, 219] (by decide +kernel) (by decide +kernel)) (goodIn_sub (fun _ h => List.mem_cons_of_mem _ (List.mem_append_left _ (List.mem_append_left _ (List.mem_append_right _ h)))) (by decide +kernel))) (goodIn_sub (fun _ h => List.mem_cons_of_mem _ (List.mem_append_left _ (List.mem_append_right _ h))) (by decide +kernel))) (goodIn_sub (fun _ h => List.mem_cons_of_mem _ (List.mem_append_left _ (List.mem_append_left _ (List.mem_append_left _ (List.mem_append_right _ h))))) (by decide +kernel))) (goodIn_sub (fun _ h => List.mem_cons_of_mem _ (List.mem_append_right _ h)) (by decide +kernel))
set_option maxRecDepth 20000 in
theorem gL_delete_X7_delete : GoodIn wsL_delete (wsV RL 28 RX7 yX7_delete wsX7_delete) := goodIn_app (goodIn_of _ (by decide +kernel)) ggL_delete_X7_delete
theorem dL_delete_0 : decode cL_delete 0 = .ok (.aload 4, 2) := by decide +kernel
theorem dL_delete_2 : decode cL_delete 2 = .ok (.iconst 0, 1) := by decide +kernel
theorem dL_delete_3 : decode cL_delete 3 = .ok (.aload_n 0, 1) := by decide +kernel
theorem dL_delete_4 : decode cL_delete 4 = .ok (.iload_n 1, 1) := by decide +kernel
theorem dL_delete_5 : decode cL_delete 5 = .ok (.iload_n 2, 1) := by decide +kernel
theorem dL_delete_6 : decode cL_delete 6 = .ok (.iload_n 3, 1) := by decide +kernel
theorem dL_delete_7 : decode cL_delete 7 = .ok (.invokevirtual 28, 3) := by decide +kernel
theorem dL_delete_10 : decode cL_delete 10 = .ok (.i2l, 1) := by decide +kernel
theorem dL_delete_11 : decode cL_delete 11 = .ok (.lastore, 1) := by decide +kernel
theorem dL_delete_12 : decode cL_delete 12 = .ok (.goto 15, 3) := by decide +kernel
theorem dL_delete_15 : decode cL_delete 15 = .ok (.astore 5, 2) := by decide +kernel
theorem dL_delete_17 : decode cL_delete 17 = .ok (.iconst 1, 1) := by decide +kernel
theorem dL_delete_18 : decode cL_delete 18 = .ok (.ireturn, 1) := by decide +kernel
theorem dL_delete_19 : decode cL_delete 19 = .ok (.astore 5, 2) := by decide +kernel
theorem dL_delete_21 : decode cL_delete 21 = .ok (.iconst 2, 1) := by decide +kernel
theorem dL_delete_22 : decode cL_delete 22 = .ok (.ireturn, 1) := by decide +kernel
theorem dL_delete_23 : decode cL_delete 23 = .ok (.astore 5, 2) := by decide +kernel
theorem dL_delete_25 : decode cL_delete 25 = .ok (.iconst 3, 1) := by decide +kernel
theorem dL_delete_26 : decode cL_delete 26 = .ok (.ireturn, 1) := by decide +kernel
theorem dL_delete_27 : decode cL_delete 27 = .ok (.iconst 0, 1) := by decide +kernel
theorem dL_delete_28 : decode cL_delete 28 = .ok (.ireturn, 1) := by decide +kernel
set_option maxRecDepth 20000 in
theorem ggL_move_X7_move : GoodIn wsL_move wsX7_move := goodIn_ca (goodIn_ca (goodIn_ca (goodIn_ca (goodIn_r _ [8, 9, 10, 11, 12, 13, 14, 15, 16, 17, 7, 18, 19, 20, 21, 22, 23, 24, 25, 26, 27, 28, 29, 30, 31, 32, 33, 34, 35, 36, 37, 38, 39, 40, 41, 42, 43, 44, 45, 46, 47, 48, 49, 50, 51, 52, 53, 54, 55, 56, 57, 58, 59, 60, 61, 62, 63, 64, 65, 66, 67, 68, 69, 70, 71, 72, 73, 74, 75, 76, 77, 78, 79, 80, 81, 82, 83, 84, 85, 86, 87, 88, 89, 90, 91, 92, 93, 94, 95, 96, 97, 98, 99, 100, 101, 102, 103, 104, 105, 106, 107, 108, 109, 110, 111, 112, 113, 114, 115, 116, 117, 118, 119, 120, 121, 122, 123, 124, 125, 126, 127, 128, 129, 130, 131, 132, 133, 134, 135, 136, 137, 138, 139, 140, 141, 142, 143, 144, 145, 146, 147, 148, 149, 150, 151, 152, 153, 154, 155, 156, 157, 158, 159, 160, 161, 162, 163, 164, 165, 166, 167, 168, 169, 170, 171, 172, 173, 174, 175, 176, 177, 178, 179, 180, 181, 182, 183, 184, 185, 186, 187, 188, 189, 190, 191, 192, 193, 194, 195, 196, 197, 198, 199, 200, 201, 202, 203, 204, 205, 206, 207, 208, 209, 210, 211, 212, 213, 214, 215, 216, 217, 218, 219] (by decide +kernel) (by decide +kernel)) (goodIn_sub (fun _ h => List.mem_cons_of_mem _ (List.mem_append_left _ (List.mem_append_left _ (List.mem_append_right _ h)))) (by decide +kernel))) (goodIn_sub (fun _ h => List.mem_cons_of_mem _ (List.mem_append_left _ (List.mem_append_right _ h))) (by decide +kernel))) (goodIn_sub (fun _ h => List.mem_cons_of_mem _ (List.mem_append_left _ (List.mem_append_left _ (List.mem_append_left _ (List.mem_append_right _ h))))) (by decide +kernel))) (goodIn_sub (fun _ h => List.mem_cons_of_mem _ (List.mem_append_right _ h)) (by decide +kernel))
set_option maxRecDepth 20000 in
theorem gL_move_X7_move : GoodIn wsL_move (wsV RL 32 RX7 yX7_move wsX7_move) := goodIn_app (goodIn_of _ (by decide +kernel)) ggL_move_X7_move
theorem dL_move_0 : decode cL_move 0 = .ok (.aload 5, 2) := by decide +kernel
theorem dL_move_2 : decode cL_move 2 = .ok (.iconst 0, 1) := by decide +kernel
theorem dL_move_3 : decode cL_move 3 = .ok (.aload_n 0, 1) := by decide +kernel
theorem dL_move_4 : decode cL_move 4 = .ok (.iload_n 1, 1) := by decide +kernel
theorem dL_move_5 : decode cL_move 5 = .ok (.iload_n 2, 1) := by decide +kernel
theorem dL_move_6 : decode cL_move 6 = .ok (.iload_n 3, 1) := by decide +kernel
theorem dL_move_7 : decode cL_move 7 = .ok (.iload 4, 2) := by decide +kernel
theorem dL_move_9 : decode cL_move 9 = .ok (.invokevirtual 32, 3) := by decide +kernel
theorem dL_move_12 : decode cL_move 12 = .ok (.i2l, 1) := by decide +kernel
theorem dL_move_13 : decode cL_move 13 = .ok (.lastore, 1) := by decide +kernel
theorem dL_move_14 : decode cL_move 14 = .ok (.goto 15, 3) := by decide +kernel
theorem dL_move_17 : decode cL_move 17 = .ok (.astore 6, 2) := by decide +kernel
theorem dL_move_19 : decode cL_move 19 = .ok (.iconst 1, 1) := by decide +kernel
theorem dL_move_20 : decode cL_move 20 = .ok (.ireturn, 1) := by decide +kernel
theorem dL_move_21 : decode cL_move 21 = .ok (.astore 6, 2) := by decide +kernel
theorem dL_move_23 : decode cL_move 23 = .ok (.iconst 2, 1) := by decide +kernel
theorem dL_move_24 : decode cL_move 24 = .ok (.ireturn, 1) := by decide +kernel
theorem dL_move_25 : decode cL_move 25 = .ok (.astore 6, 2) := by decide +kernel
theorem dL_move_27 : decode cL_move 27 = .ok (.iconst 3, 1) := by decide +kernel
theorem dL_move_28 : decode cL_move 28 = .ok (.ireturn, 1) := by decide +kernel
theorem dL_move_29 : decode cL_move 29 = .ok (.iconst 0, 1) := by decide +kernel
theorem dL_move_30 : decode cL_move 30 = .ok (.ireturn, 1) := by decide +kernel
set_option maxRecDepth 20000 in
theorem ggL_editKind_X7_editKind : GoodIn wsL_editKind wsX7_editKind := goodIn_ca (goodIn_ca (goodIn_r _ [6, 7, 8, 9, 10, 11, 5, 12, 13, 14, 15, 16, 17, 18, 19, 20, 21, 22, 23, 24, 25, 26, 27, 28, 29, 30, 31, 32, 33, 34, 35, 36, 37, 38, 39] (by decide +kernel) (by decide +kernel)) (goodIn_sub (fun _ h => List.mem_cons_of_mem _ (List.mem_append_left _ (List.mem_append_right _ h))) (by decide +kernel))) (goodIn_sub (fun _ h => List.mem_cons_of_mem _ (List.mem_append_right _ h)) (by decide +kernel))
set_option maxRecDepth 20000 in
theorem gL_editKind_X7_editKind : GoodIn wsL_editKind (wsV RL 36 RX7 yX7_editKind wsX7_editKind) := goodIn_app (goodIn_of _ (by decide +kernel)) ggL_editKind_X7_editKind
theorem dL_editKind_0 : decode cL_editKind 0 = .ok (.aload_n 2, 1) := by decide +kernel
theorem dL_editKind_1 : decode cL_editKind 1 = .ok (.iconst 0, 1) := by decide +kernel
theorem dL_editKind_2 : decode cL_editKind 2 = .ok (.aload_n 0, 1) := by decide +kernel
theorem dL_editKind_3 : decode cL_editKind 3 = .ok (.iload_n 1, 1) := by decide +kernel
theorem dL_editKind_4 : decode cL_editKind 4 = .ok (.invokevirtual 36, 3) := by decide +kernel
theorem dL_editKind_7 : decode cL_editKind 7 = .ok (.i2l, 1) := by decide +kernel
theorem dL_editKind_8 : decode cL_editKind 8 = .ok (.lastore, 1) := by decide +kernel
theorem dL_editKind_9 : decode cL_editKind 9 = .ok (.goto 6, 3) := by decide +kernel
theorem dL_editKind_12 : decode cL_editKind 12 = .ok (.astore_n 3, 1) := by decide +kernel
theorem dL_editKind_13 : decode cL_editKind 13 = .ok (.iconst 1, 1) := by decide +kernel
theorem dL_editKind_14 : decode cL_editKind 14 = .ok (.ireturn, 1) := by decide +kernel
theorem dL_editKind_15 : decode cL_editKind 15 = .ok (.iconst 0, 1) := by decide +kernel
theorem dL_editKind_16 : decode cL_editKind 16 = .ok (.ireturn, 1) := by decide +kernel
set_option maxRecDepth 20000 in
theorem ggL_editAuthor_X7_editAuthor : GoodIn wsL_editAuthor wsX7_editAuthor := goodIn_ca (goodIn_ca (goodIn_r _ [6, 7, 8, 9, 10, 11, 5, 12, 13, 14, 15, 16, 17, 18, 19, 20, 21, 22, 23, 24, 25, 26, 27, 28, 29, 30, 31, 32, 33, 34, 35, 36, 37, 38, 39] (by decide +kernel) (by decide +kernel)) (goodIn_sub (fun _ h => List.mem_cons_of_mem _ (List.mem_append_left _ (List.mem_append_right _ h))) (by decide +kernel))) (goodIn_sub (fun _ h => List.mem_cons_of_mem _ (List.mem_append_right _ h)) (by decide +kernel))
set_option maxRecDepth 20000 in
theorem gL_editAuthor_X7_editAuthor : GoodIn wsL_editAuthor (wsV RL 40 RX7 yX7_editAuthor wsX7_editAuthor) := goodIn_app (goodIn_of _ (by decide +kernel)) ggL_editAuthor_X7_editAuthor
theorem dL_editAuthor_0 : decode cL_editAuthor 0 = .ok (.aload_n 2, 1) := by decide +kernel
theorem dL_editAuthor_1 : decode cL_editAuthor 1 = .ok (.iconst 0, 1) := by decide +kernel
theorem dL_editAuthor_2 : decode cL_editAuthor 2 = .ok (.aload_n 0, 1) := by decide +kernel
theorem dL_editAuthor_3 : decode cL_editAuthor 3 = .ok (.iload_n 1, 1) := by decide +kernel
theorem dL_editAuthor_4 : decode cL_editAuthor 4 = .ok (.invokevirtual 40, 3) := by decide +kernel
theorem dL_editAuthor_7 : decode cL_editAuthor 7 = .ok (.i2l, 1) := by decide +kernel
theorem dL_editAuthor_8 : decode cL_editAuthor 8 = .ok (.lastore, 1) := by decide +kernel
theorem dL_editAuthor_9 : decode cL_editAuthor 9 = .ok (.goto 6, 3) := by decide +kernel
theorem dL_editAuthor_12 : decode cL_editAuthor 12 = .ok (.astore_n 3, 1) := by decide +kernel
theorem dL_editAuthor_13 : decode cL_editAuthor 13 = .ok (.iconst 1, 1) := by decide +kernel
theorem dL_editAuthor_14 : decode cL_editAuthor 14 = .ok (.ireturn, 1) := by decide +kernel
theorem dL_editAuthor_15 : decode cL_editAuthor 15 = .ok (.iconst 0, 1) := by decide +kernel
theorem dL_editAuthor_16 : decode cL_editAuthor 16 = .ok (.ireturn, 1) := by decide +kernel
set_option maxRecDepth 20000 in
theorem ggL_editCost_X7_editCost : GoodIn wsL_editCost wsX7_editCost := goodIn_ca (goodIn_ca (goodIn_r _ [6, 7, 8, 9, 10, 11, 5, 12, 13, 14, 15, 16, 17, 18, 19, 20, 21, 22, 23, 24, 25, 26, 27, 28, 29, 30, 31, 32, 33, 34, 35, 36, 37, 38, 39] (by decide +kernel) (by decide +kernel)) (goodIn_sub (fun _ h => List.mem_cons_of_mem _ (List.mem_append_left _ (List.mem_append_right _ h))) (by decide +kernel))) (goodIn_sub (fun _ h => List.mem_cons_of_mem _ (List.mem_append_right _ h)) (by decide +kernel))
set_option maxRecDepth 20000 in
theorem gL_editCost_X7_editCost : GoodIn wsL_editCost (wsV RL 44 RX7 yX7_editCost wsX7_editCost) := goodIn_app (goodIn_of _ (by decide +kernel)) ggL_editCost_X7_editCost
theorem dL_editCost_0 : decode cL_editCost 0 = .ok (.aload_n 2, 1) := by decide +kernel
theorem dL_editCost_1 : decode cL_editCost 1 = .ok (.iconst 0, 1) := by decide +kernel
theorem dL_editCost_2 : decode cL_editCost 2 = .ok (.aload_n 0, 1) := by decide +kernel
theorem dL_editCost_3 : decode cL_editCost 3 = .ok (.iload_n 1, 1) := by decide +kernel
theorem dL_editCost_4 : decode cL_editCost 4 = .ok (.invokevirtual 44, 3) := by decide +kernel
theorem dL_editCost_7 : decode cL_editCost 7 = .ok (.i2l, 1) := by decide +kernel
theorem dL_editCost_8 : decode cL_editCost 8 = .ok (.lastore, 1) := by decide +kernel
theorem dL_editCost_9 : decode cL_editCost 9 = .ok (.goto 6, 3) := by decide +kernel
theorem dL_editCost_12 : decode cL_editCost 12 = .ok (.astore_n 3, 1) := by decide +kernel
theorem dL_editCost_13 : decode cL_editCost 13 = .ok (.iconst 1, 1) := by decide +kernel
theorem dL_editCost_14 : decode cL_editCost 14 = .ok (.ireturn, 1) := by decide +kernel
theorem dL_editCost_15 : decode cL_editCost 15 = .ok (.iconst 0, 1) := by decide +kernel
theorem dL_editCost_16 : decode cL_editCost 16 = .ok (.ireturn, 1) := by decide +kernel
set_option maxRecDepth 20000 in
theorem ggL_refusalReason_X7_refusalReason : GoodIn wsL_refusalReason wsX7_refusalReason := goodIn_ca (goodIn_r _ [6, 7, 8, 9, 10, 5, 11, 12, 13, 14, 15, 16, 17, 18, 19, 20, 21, 22, 23, 24, 25, 26] (by decide +kernel) (by decide +kernel)) (goodIn_sub (fun _ h => List.mem_cons_of_mem _ (List.mem_append_right _ h)) (by decide +kernel))
set_option maxRecDepth 20000 in
theorem gL_refusalReason_X7_refusalReason : GoodIn wsL_refusalReason (wsV RL 47 RX7 yX7_refusalReason wsX7_refusalReason) := goodIn_app (goodIn_of _ (by decide +kernel)) ggL_refusalReason_X7_refusalReason
theorem dL_refusalReason_0 : decode cL_refusalReason 0 = .ok (.aload_n 1, 1) := by decide +kernel
theorem dL_refusalReason_1 : decode cL_refusalReason 1 = .ok (.iconst 0, 1) := by decide +kernel
theorem dL_refusalReason_2 : decode cL_refusalReason 2 = .ok (.aload_n 0, 1) := by decide +kernel
theorem dL_refusalReason_3 : decode cL_refusalReason 3 = .ok (.invokevirtual 47, 3) := by decide +kernel
theorem dL_refusalReason_6 : decode cL_refusalReason 6 = .ok (.i2l, 1) := by decide +kernel
theorem dL_refusalReason_7 : decode cL_refusalReason 7 = .ok (.lastore, 1) := by decide +kernel
theorem dL_refusalReason_8 : decode cL_refusalReason 8 = .ok (.goto 6, 3) := by decide +kernel
theorem dL_refusalReason_11 : decode cL_refusalReason 11 = .ok (.astore_n 2, 1) := by decide +kernel
theorem dL_refusalReason_12 : decode cL_refusalReason 12 = .ok (.iconst 1, 1) := by decide +kernel
theorem dL_refusalReason_13 : decode cL_refusalReason 13 = .ok (.ireturn, 1) := by decide +kernel
theorem dL_refusalReason_14 : decode cL_refusalReason 14 = .ok (.iconst 0, 1) := by decide +kernel
theorem dL_refusalReason_15 : decode cL_refusalReason 15 = .ok (.ireturn, 1) := by decide +kernel
set_option maxRecDepth 20000 in
theorem ggL_refusalSubject_X7_refusalSubject : GoodIn wsL_refusalSubject wsX7_refusalSubject := goodIn_ca (goodIn_r _ [6, 7, 8, 9, 10, 5, 11, 12, 13, 14, 15, 16, 17, 18, 19, 20, 21, 22, 23, 24, 25, 26, 27] (by decide +kernel) (by decide +kernel)) (goodIn_sub (fun _ h => List.mem_cons_of_mem _ (List.mem_append_right _ h)) (by decide +kernel))
set_option maxRecDepth 20000 in
theorem gL_refusalSubject_X7_refusalSubject : GoodIn wsL_refusalSubject (wsV RL 53 RX7 yX7_refusalSubject wsX7_refusalSubject) := goodIn_app (goodIn_of _ (by decide +kernel)) ggL_refusalSubject_X7_refusalSubject
theorem dL_refusalSubject_0 : decode cL_refusalSubject 0 = .ok (.aload_n 1, 1) := by decide +kernel
theorem dL_refusalSubject_1 : decode cL_refusalSubject 1 = .ok (.iconst 0, 1) := by decide +kernel
theorem dL_refusalSubject_2 : decode cL_refusalSubject 2 = .ok (.aload_n 0, 1) := by decide +kernel
theorem dL_refusalSubject_3 : decode cL_refusalSubject 3 = .ok (.invokevirtual 53, 3) := by decide +kernel
theorem dL_refusalSubject_6 : decode cL_refusalSubject 6 = .ok (.i2l, 1) := by decide +kernel
theorem dL_refusalSubject_7 : decode cL_refusalSubject 7 = .ok (.lastore, 1) := by decide +kernel
theorem dL_refusalSubject_8 : decode cL_refusalSubject 8 = .ok (.goto 6, 3) := by decide +kernel
theorem dL_refusalSubject_11 : decode cL_refusalSubject 11 = .ok (.astore_n 2, 1) := by decide +kernel
theorem dL_refusalSubject_12 : decode cL_refusalSubject 12 = .ok (.iconst 1, 1) := by decide +kernel
theorem dL_refusalSubject_13 : decode cL_refusalSubject 13 = .ok (.ireturn, 1) := by decide +kernel
theorem dL_refusalSubject_14 : decode cL_refusalSubject 14 = .ok (.iconst 0, 1) := by decide +kernel
theorem dL_refusalSubject_15 : decode cL_refusalSubject 15 = .ok (.ireturn, 1) := by decide +kernel
set_option maxRecDepth 20000 in
theorem ggL_charAt_X7_charAt : GoodIn wsL_charAt wsX7_charAt := goodIn_ca (goodIn_ca (goodIn_r _ [6, 7, 8, 9, 10, 11, 5, 12, 13, 14, 15, 16, 17, 18, 19, 20, 21, 22, 23, 24, 25, 26, 27, 28, 29, 30, 31, 32] (by decide +kernel) (by decide +kernel)) (goodIn_sub (fun _ h => List.mem_cons_of_mem _ (List.mem_append_left _ (List.mem_append_right _ h))) (by decide +kernel))) (goodIn_sub (fun _ h => List.mem_cons_of_mem _ (List.mem_append_right _ h)) (by decide +kernel))
set_option maxRecDepth 20000 in
theorem gL_charAt_X7_charAt : GoodIn wsL_charAt (wsV RL 57 RX7 yX7_charAt wsX7_charAt) := goodIn_app (goodIn_of _ (by decide +kernel)) ggL_charAt_X7_charAt
theorem dL_charAt_0 : decode cL_charAt 0 = .ok (.aload_n 2, 1) := by decide +kernel
theorem dL_charAt_1 : decode cL_charAt 1 = .ok (.iconst 0, 1) := by decide +kernel
theorem dL_charAt_2 : decode cL_charAt 2 = .ok (.aload_n 0, 1) := by decide +kernel
theorem dL_charAt_3 : decode cL_charAt 3 = .ok (.iload_n 1, 1) := by decide +kernel
theorem dL_charAt_4 : decode cL_charAt 4 = .ok (.invokevirtual 57, 3) := by decide +kernel
theorem dL_charAt_7 : decode cL_charAt 7 = .ok (.i2l, 1) := by decide +kernel
theorem dL_charAt_8 : decode cL_charAt 8 = .ok (.lastore, 1) := by decide +kernel
theorem dL_charAt_9 : decode cL_charAt 9 = .ok (.goto 6, 3) := by decide +kernel
theorem dL_charAt_12 : decode cL_charAt 12 = .ok (.astore_n 3, 1) := by decide +kernel
theorem dL_charAt_13 : decode cL_charAt 13 = .ok (.iconst 1, 1) := by decide +kernel
theorem dL_charAt_14 : decode cL_charAt 14 = .ok (.ireturn, 1) := by decide +kernel
theorem dL_charAt_15 : decode cL_charAt 15 = .ok (.iconst 0, 1) := by decide +kernel
theorem dL_charAt_16 : decode cL_charAt 16 = .ok (.ireturn, 1) := by decide +kernel
set_option maxRecDepth 20000 in
theorem ggL_authorOf_X7_authorOf : GoodIn wsL_authorOf wsX7_authorOf := goodIn_ca (goodIn_ca (goodIn_r _ [6, 7, 8, 9, 10, 11, 5, 12, 13, 14, 15, 16, 17, 18, 19, 20, 21, 22, 23, 24, 25, 26, 27, 28, 29, 30, 31, 32] (by decide +kernel) (by decide +kernel)) (goodIn_sub (fun _ h => List.mem_cons_of_mem _ (List.mem_append_left _ (List.mem_append_right _ h))) (by decide +kernel))) (goodIn_sub (fun _ h => List.mem_cons_of_mem _ (List.mem_append_right _ h)) (by decide +kernel))
set_option maxRecDepth 20000 in
theorem gL_authorOf_X7_authorOf : GoodIn wsL_authorOf (wsV RL 60 RX7 yX7_authorOf wsX7_authorOf) := goodIn_app (goodIn_of _ (by decide +kernel)) ggL_authorOf_X7_authorOf
theorem dL_authorOf_0 : decode cL_authorOf 0 = .ok (.aload_n 2, 1) := by decide +kernel
theorem dL_authorOf_1 : decode cL_authorOf 1 = .ok (.iconst 0, 1) := by decide +kernel
theorem dL_authorOf_2 : decode cL_authorOf 2 = .ok (.aload_n 0, 1) := by decide +kernel
theorem dL_authorOf_3 : decode cL_authorOf 3 = .ok (.iload_n 1, 1) := by decide +kernel
theorem dL_authorOf_4 : decode cL_authorOf 4 = .ok (.invokevirtual 60, 3) := by decide +kernel
theorem dL_authorOf_7 : decode cL_authorOf 7 = .ok (.i2l, 1) := by decide +kernel
theorem dL_authorOf_8 : decode cL_authorOf 8 = .ok (.lastore, 1) := by decide +kernel
theorem dL_authorOf_9 : decode cL_authorOf 9 = .ok (.goto 6, 3) := by decide +kernel
theorem dL_authorOf_12 : decode cL_authorOf 12 = .ok (.astore_n 3, 1) := by decide +kernel
theorem dL_authorOf_13 : decode cL_authorOf 13 = .ok (.iconst 1, 1) := by decide +kernel
theorem dL_authorOf_14 : decode cL_authorOf 14 = .ok (.ireturn, 1) := by decide +kernel
theorem dL_authorOf_15 : decode cL_authorOf 15 = .ok (.iconst 0, 1) := by decide +kernel
theorem dL_authorOf_16 : decode cL_authorOf 16 = .ok (.ireturn, 1) := by decide +kernel
set_option maxRecDepth 20000 in
theorem ggL_clauseOf_X7_clauseOf : GoodIn wsL_clauseOf wsX7_clauseOf := goodIn_ca (goodIn_ca (goodIn_r _ [6, 7, 8, 9, 10, 11, 5, 12, 13, 14, 15, 16, 17, 18, 19, 20, 21, 22, 23, 24, 25, 26, 27, 28, 29, 30, 31, 32] (by decide +kernel) (by decide +kernel)) (goodIn_sub (fun _ h => List.mem_cons_of_mem _ (List.mem_append_left _ (List.mem_append_right _ h))) (by decide +kernel))) (goodIn_sub (fun _ h => List.mem_cons_of_mem _ (List.mem_append_right _ h)) (by decide +kernel))
set_option maxRecDepth 20000 in
theorem gL_clauseOf_X7_clauseOf : GoodIn wsL_clauseOf (wsV RL 63 RX7 yX7_clauseOf wsX7_clauseOf) := goodIn_app (goodIn_of _ (by decide +kernel)) ggL_clauseOf_X7_clauseOf
theorem dL_clauseOf_0 : decode cL_clauseOf 0 = .ok (.aload_n 2, 1) := by decide +kernel
theorem dL_clauseOf_1 : decode cL_clauseOf 1 = .ok (.iconst 0, 1) := by decide +kernel
theorem dL_clauseOf_2 : decode cL_clauseOf 2 = .ok (.aload_n 0, 1) := by decide +kernel
theorem dL_clauseOf_3 : decode cL_clauseOf 3 = .ok (.iload_n 1, 1) := by decide +kernel
theorem dL_clauseOf_4 : decode cL_clauseOf 4 = .ok (.invokevirtual 63, 3) := by decide +kernel
theorem dL_clauseOf_7 : decode cL_clauseOf 7 = .ok (.i2l, 1) := by decide +kernel
theorem dL_clauseOf_8 : decode cL_clauseOf 8 = .ok (.lastore, 1) := by decide +kernel
theorem dL_clauseOf_9 : decode cL_clauseOf 9 = .ok (.goto 6, 3) := by decide +kernel
theorem dL_clauseOf_12 : decode cL_clauseOf 12 = .ok (.astore_n 3, 1) := by decide +kernel
theorem dL_clauseOf_13 : decode cL_clauseOf 13 = .ok (.iconst 1, 1) := by decide +kernel
theorem dL_clauseOf_14 : decode cL_clauseOf 14 = .ok (.ireturn, 1) := by decide +kernel
theorem dL_clauseOf_15 : decode cL_clauseOf 15 = .ok (.iconst 0, 1) := by decide +kernel
theorem dL_clauseOf_16 : decode cL_clauseOf 16 = .ok (.ireturn, 1) := by decide +kernel
set_option maxRecDepth 20000 in
theorem ggL_charAgain_X7_charAgain : GoodIn wsL_charAgain wsX7_charAgain := goodIn_ca (goodIn_ca (goodIn_r _ [6, 7, 8, 9, 10, 11, 12, 13, 14, 15, 16, 17, 18, 19, 20, 21, 22, 23, 24, 25, 26, 27, 28, 29, 30, 31, 32, 33, 34, 35, 36, 37, 38, 39, 40, 41, 42, 43, 44, 45, 46, 47, 48, 49, 50, 51, 52, 53, 54, 55, 56, 57, 58, 59, 60, 61, 62, 63, 64, 65, 66, 67, 68, 69, 70, 71, 72, 73, 74, 75, 76, 77, 78, 79, 80, 81, 82, 83, 84, 85, 86, 87, 88, 89, 90, 91, 92, 93, 94, 95, 96, 97, 98, 99, 100, 101, 102, 103, 104, 105, 106, 107, 5, 108, 109, 110, 111, 112, 113, 114, 115, 116, 117, 118, 119, 120, 121, 122, 123, 124, 125, 126, 127, 128, 129, 130, 131, 132, 133, 134, 135, 136, 137, 138, 139, 140, 141, 142, 143, 144, 145, 146, 147] (by decide +kernel) (by decide +kernel)) (goodIn_sub (fun _ h => List.mem_cons_of_mem _ (List.mem_append_left _ (List.mem_append_right _ h))) (by decide +kernel))) (goodIn_sub (fun _ h => List.mem_cons_of_mem _ (List.mem_append_right _ h)) (by decide +kernel))
set_option maxRecDepth 20000 in
theorem gL_charAgain_X7_charAgain : GoodIn wsL_charAgain (wsV RL 66 RX7 yX7_charAgain wsX7_charAgain) := goodIn_app (goodIn_of _ (by decide +kernel)) ggL_charAgain_X7_charAgain
theorem dL_charAgain_0 : decode cL_charAgain 0 = .ok (.aload_n 2, 1) := by decide +kernel
theorem dL_charAgain_1 : decode cL_charAgain 1 = .ok (.iconst 0, 1) := by decide +kernel
theorem dL_charAgain_2 : decode cL_charAgain 2 = .ok (.aload_n 0, 1) := by decide +kernel
theorem dL_charAgain_3 : decode cL_charAgain 3 = .ok (.iload_n 1, 1) := by decide +kernel
theorem dL_charAgain_4 : decode cL_charAgain 4 = .ok (.invokevirtual 66, 3) := by decide +kernel
theorem dL_charAgain_7 : decode cL_charAgain 7 = .ok (.i2l, 1) := by decide +kernel
theorem dL_charAgain_8 : decode cL_charAgain 8 = .ok (.lastore, 1) := by decide +kernel
theorem dL_charAgain_9 : decode cL_charAgain 9 = .ok (.goto 6, 3) := by decide +kernel
theorem dL_charAgain_12 : decode cL_charAgain 12 = .ok (.astore_n 3, 1) := by decide +kernel
theorem dL_charAgain_13 : decode cL_charAgain 13 = .ok (.iconst 1, 1) := by decide +kernel
theorem dL_charAgain_14 : decode cL_charAgain 14 = .ok (.ireturn, 1) := by decide +kernel
theorem dL_charAgain_15 : decode cL_charAgain 15 = .ok (.iconst 0, 1) := by decide +kernel
theorem dL_charAgain_16 : decode cL_charAgain 16 = .ok (.ireturn, 1) := by decide +kernel
set_option maxRecDepth 20000 in
theorem ggL_writeClause_X7_writeClause : GoodIn wsL_writeClause wsX7_writeClause := goodIn_ca (goodIn_ca (goodIn_r _ [6, 7, 8, 9, 10, 11, 12, 13, 14, 15, 5, 16, 17, 18, 19, 20, 21, 22, 23, 24, 25, 26, 27, 28, 29, 30, 31, 32, 33, 34, 35, 36, 37, 38, 39, 40, 41, 42, 43, 44, 45, 46, 47, 48, 49, 50, 51, 52, 53, 54, 55, 56, 57, 58, 59] (by decide +kernel) (by decide +kernel)) (goodIn_sub (fun _ h => List.mem_cons_of_mem _ (List.mem_append_left _ (List.mem_append_right _ h))) (by decide +kernel))) (goodIn_sub (fun _ h => List.mem_cons_of_mem _ (List.mem_append_right _ h)) (by decide +kernel))
set_option maxRecDepth 20000 in
theorem gL_writeClause_X7_writeClause : GoodIn wsL_writeClause (wsV RL 69 RX7 yX7_writeClause wsX7_writeClause) := goodIn_app (goodIn_of _ (by decide +kernel)) ggL_writeClause_X7_writeClause
theorem dL_writeClause_0 : decode cL_writeClause 0 = .ok (.aload_n 2, 1) := by decide +kernel
theorem dL_writeClause_1 : decode cL_writeClause 1 = .ok (.iconst 0, 1) := by decide +kernel
theorem dL_writeClause_2 : decode cL_writeClause 2 = .ok (.aload_n 0, 1) := by decide +kernel
theorem dL_writeClause_3 : decode cL_writeClause 3 = .ok (.iload_n 1, 1) := by decide +kernel
theorem dL_writeClause_4 : decode cL_writeClause 4 = .ok (.invokevirtual 69, 3) := by decide +kernel
theorem dL_writeClause_7 : decode cL_writeClause 7 = .ok (.i2l, 1) := by decide +kernel
theorem dL_writeClause_8 : decode cL_writeClause 8 = .ok (.lastore, 1) := by decide +kernel
theorem dL_writeClause_9 : decode cL_writeClause 9 = .ok (.goto 6, 3) := by decide +kernel
theorem dL_writeClause_12 : decode cL_writeClause 12 = .ok (.astore_n 3, 1) := by decide +kernel
theorem dL_writeClause_13 : decode cL_writeClause 13 = .ok (.iconst 1, 1) := by decide +kernel
theorem dL_writeClause_14 : decode cL_writeClause 14 = .ok (.ireturn, 1) := by decide +kernel
theorem dL_writeClause_15 : decode cL_writeClause 15 = .ok (.iconst 0, 1) := by decide +kernel
theorem dL_writeClause_16 : decode cL_writeClause 16 = .ok (.ireturn, 1) := by decide +kernel
set_option maxRecDepth 20000 in
theorem ggL_outputAt_X7_outputAt : GoodIn wsL_outputAt wsX7_outputAt := goodIn_ca (goodIn_ca (goodIn_r _ [6, 7, 8, 9, 10, 11, 12, 13, 14, 15, 16, 17, 18, 19, 20, 21, 22, 23, 24, 25, 26] (by decide +kernel) (by decide +kernel)) (goodIn_sub (fun _ h => List.mem_cons_of_mem _ (List.mem_append_right _ h)) (by decide +kernel))) (goodIn_sub (fun _ h => List.mem_cons_of_mem _ (List.mem_append_left _ (List.mem_append_right _ h))) (by decide +kernel))
set_option maxRecDepth 20000 in
theorem gL_outputAt_X7_outputAt : GoodIn wsL_outputAt (wsV RL 72 RX7 yX7_outputAt wsX7_outputAt) := goodIn_app (goodIn_of _ (by decide +kernel)) ggL_outputAt_X7_outputAt
theorem dL_outputAt_0 : decode cL_outputAt 0 = .ok (.aload_n 2, 1) := by decide +kernel
theorem dL_outputAt_1 : decode cL_outputAt 1 = .ok (.iconst 0, 1) := by decide +kernel
theorem dL_outputAt_2 : decode cL_outputAt 2 = .ok (.aload_n 0, 1) := by decide +kernel
theorem dL_outputAt_3 : decode cL_outputAt 3 = .ok (.iload_n 1, 1) := by decide +kernel
theorem dL_outputAt_4 : decode cL_outputAt 4 = .ok (.invokevirtual 72, 3) := by decide +kernel
theorem dL_outputAt_7 : decode cL_outputAt 7 = .ok (.i2l, 1) := by decide +kernel
theorem dL_outputAt_8 : decode cL_outputAt 8 = .ok (.lastore, 1) := by decide +kernel
theorem dL_outputAt_9 : decode cL_outputAt 9 = .ok (.goto 6, 3) := by decide +kernel
theorem dL_outputAt_12 : decode cL_outputAt 12 = .ok (.astore_n 3, 1) := by decide +kernel
theorem dL_outputAt_13 : decode cL_outputAt 13 = .ok (.iconst 1, 1) := by decide +kernel
theorem dL_outputAt_14 : decode cL_outputAt 14 = .ok (.ireturn, 1) := by decide +kernel
theorem dL_outputAt_15 : decode cL_outputAt 15 = .ok (.iconst 0, 1) := by decide +kernel
theorem dL_outputAt_16 : decode cL_outputAt 16 = .ok (.ireturn, 1) := by decide +kernel
set_option maxRecDepth 20000 in
theorem ggL_addClause_X7_addClause : GoodIn wsL_addClause wsX7_addClause := goodIn_ca (goodIn_ca (goodIn_ca (goodIn_r _ [7, 8, 9, 10, 11, 12, 13, 14, 15, 16, 6, 17, 18, 19, 20, 21, 22, 23, 24, 25, 26, 27, 28, 29, 30, 31, 32, 33, 34, 35, 36, 37, 38, 39, 40, 41, 42, 43, 44, 45, 46, 47, 48, 49, 50, 51, 52, 53, 54, 55, 56, 57, 58, 59, 60, 61, 62, 63, 64, 65, 66, 67, 68, 69, 70, 71, 72, 73, 74, 75, 76, 77, 78] (by decide +kernel) (by decide +kernel)) (goodIn_sub (fun _ h => List.mem_cons_of_mem _ (List.mem_append_left _ (List.mem_append_right _ h))) (by decide +kernel))) (goodIn_sub (fun _ h => List.mem_cons_of_mem _ (List.mem_append_right _ h)) (by decide +kernel))) (goodIn_sub (fun _ h => List.mem_cons_of_mem _ (List.mem_append_left _ (List.mem_append_left _ (List.mem_append_right _ h)))) (by decide +kernel))
set_option maxRecDepth 20000 in
theorem gL_addClause_X7_addClause : GoodIn wsL_addClause (wsV RL 75 RX7 yX7_addClause wsX7_addClause) := goodIn_app (goodIn_of _ (by decide +kernel)) ggL_addClause_X7_addClause
theorem dL_addClause_0 : decode cL_addClause 0 = .ok (.aload_n 3, 1) := by decide +kernel
theorem dL_addClause_1 : decode cL_addClause 1 = .ok (.iconst 0, 1) := by decide +kernel
theorem dL_addClause_2 : decode cL_addClause 2 = .ok (.aload_n 0, 1) := by decide +kernel
theorem dL_addClause_3 : decode cL_addClause 3 = .ok (.iload_n 1, 1) := by decide +kernel
theorem dL_addClause_4 : decode cL_addClause 4 = .ok (.iload_n 2, 1) := by decide +kernel
theorem dL_addClause_5 : decode cL_addClause 5 = .ok (.invokevirtual 75, 3) := by decide +kernel
theorem dL_addClause_8 : decode cL_addClause 8 = .ok (.i2l, 1) := by decide +kernel
theorem dL_addClause_9 : decode cL_addClause 9 = .ok (.lastore, 1) := by decide +kernel
theorem dL_addClause_10 : decode cL_addClause 10 = .ok (.goto 11, 3) := by decide +kernel
theorem dL_addClause_13 : decode cL_addClause 13 = .ok (.astore 4, 2) := by decide +kernel
theorem dL_addClause_15 : decode cL_addClause 15 = .ok (.iconst 1, 1) := by decide +kernel
theorem dL_addClause_16 : decode cL_addClause 16 = .ok (.ireturn, 1) := by decide +kernel
theorem dL_addClause_17 : decode cL_addClause 17 = .ok (.astore 4, 2) := by decide +kernel
theorem dL_addClause_19 : decode cL_addClause 19 = .ok (.iconst 2, 1) := by decide +kernel
theorem dL_addClause_20 : decode cL_addClause 20 = .ok (.ireturn, 1) := by decide +kernel
theorem dL_addClause_21 : decode cL_addClause 21 = .ok (.iconst 0, 1) := by decide +kernel
theorem dL_addClause_22 : decode cL_addClause 22 = .ok (.ireturn, 1) := by decide +kernel
set_option maxRecDepth 20000 in
theorem ggL_clauseLength_X7_clauseLength : GoodIn wsL_clauseLength wsX7_clauseLength := goodIn_ca (goodIn_ca (goodIn_r _ [6, 7, 8, 9, 10, 5, 11, 12, 13, 14, 15, 16, 17, 18, 19, 20, 21, 22, 23, 24, 25, 26, 27, 28, 29, 30, 31, 32, 33, 34, 35, 36, 37, 38, 39, 40, 41, 42, 43, 44] (by decide +kernel) (by decide +kernel)) (goodIn_sub (fun _ h => List.mem_cons_of_mem _ (List.mem_append_right _ h)) (by decide +kernel))) (goodIn_sub (fun _ h => List.mem_cons_of_mem _ (List.mem_append_left _ (List.mem_append_right _ h))) (by decide +kernel))
set_option maxRecDepth 20000 in
theorem gL_clauseLength_X7_clauseLength : GoodIn wsL_clauseLength (wsV RL 78 RX7 yX7_clauseLength wsX7_clauseLength) := goodIn_app (goodIn_of _ (by decide +kernel)) ggL_clauseLength_X7_clauseLength
theorem dL_clauseLength_0 : decode cL_clauseLength 0 = .ok (.aload_n 2, 1) := by decide +kernel
theorem dL_clauseLength_1 : decode cL_clauseLength 1 = .ok (.iconst 0, 1) := by decide +kernel
theorem dL_clauseLength_2 : decode cL_clauseLength 2 = .ok (.aload_n 0, 1) := by decide +kernel
theorem dL_clauseLength_3 : decode cL_clauseLength 3 = .ok (.iload_n 1, 1) := by decide +kernel
theorem dL_clauseLength_4 : decode cL_clauseLength 4 = .ok (.invokevirtual 78, 3) := by decide +kernel
theorem dL_clauseLength_7 : decode cL_clauseLength 7 = .ok (.i2l, 1) := by decide +kernel
theorem dL_clauseLength_8 : decode cL_clauseLength 8 = .ok (.lastore, 1) := by decide +kernel
theorem dL_clauseLength_9 : decode cL_clauseLength 9 = .ok (.goto 6, 3) := by decide +kernel
theorem dL_clauseLength_12 : decode cL_clauseLength 12 = .ok (.astore_n 3, 1) := by decide +kernel
theorem dL_clauseLength_13 : decode cL_clauseLength 13 = .ok (.iconst 1, 1) := by decide +kernel
theorem dL_clauseLength_14 : decode cL_clauseLength 14 = .ok (.ireturn, 1) := by decide +kernel
theorem dL_clauseLength_15 : decode cL_clauseLength 15 = .ok (.iconst 0, 1) := by decide +kernel
theorem dL_clauseLength_16 : decode cL_clauseLength 16 = .ok (.ireturn, 1) := by decide +kernel
set_option maxRecDepth 20000 in
theorem ggL_lock_X7_lock : GoodIn wsL_lock wsX7_lock := goodIn_ca (goodIn_ca (goodIn_r _ [6, 7, 8, 9, 10, 11, 5, 12, 13, 14, 15, 16, 17, 18, 19, 20, 21, 22, 23, 24, 25, 26, 27, 28, 29, 30, 31, 32, 33] (by decide +kernel) (by decide +kernel)) (goodIn_sub (fun _ h => List.mem_cons_of_mem _ (List.mem_append_left _ (List.mem_append_right _ h))) (by decide +kernel))) (goodIn_sub (fun _ h => List.mem_cons_of_mem _ (List.mem_append_right _ h)) (by decide +kernel))
set_option maxRecDepth 20000 in
theorem gL_lock_X7_lock : GoodIn wsL_lock (wsV RL 81 RX7 yX7_lock wsX7_lock) := goodIn_app (goodIn_of _ (by decide +kernel)) ggL_lock_X7_lock
theorem dL_lock_0 : decode cL_lock 0 = .ok (.aload_n 3, 1) := by decide +kernel
theorem dL_lock_1 : decode cL_lock 1 = .ok (.iconst 0, 1) := by decide +kernel
theorem dL_lock_2 : decode cL_lock 2 = .ok (.aload_n 0, 1) := by decide +kernel
theorem dL_lock_3 : decode cL_lock 3 = .ok (.iload_n 1, 1) := by decide +kernel
theorem dL_lock_4 : decode cL_lock 4 = .ok (.iload_n 2, 1) := by decide +kernel
theorem dL_lock_5 : decode cL_lock 5 = .ok (.invokevirtual 81, 3) := by decide +kernel
theorem dL_lock_8 : decode cL_lock 8 = .ok (.ifCond .eq 7, 3) := by decide +kernel
theorem dL_lock_11 : decode cL_lock 11 = .ok (.lconst 1, 1) := by decide +kernel
theorem dL_lock_12 : decode cL_lock 12 = .ok (.goto 4, 3) := by decide +kernel
theorem dL_lock_15 : decode cL_lock 15 = .ok (.lconst 0, 1) := by decide +kernel
theorem dL_lock_16 : decode cL_lock 16 = .ok (.lastore, 1) := by decide +kernel
theorem dL_lock_17 : decode cL_lock 17 = .ok (.goto 7, 3) := by decide +kernel
theorem dL_lock_20 : decode cL_lock 20 = .ok (.astore 4, 2) := by decide +kernel
theorem dL_lock_22 : decode cL_lock 22 = .ok (.iconst 1, 1) := by decide +kernel
theorem dL_lock_23 : decode cL_lock 23 = .ok (.ireturn, 1) := by decide +kernel
theorem dL_lock_24 : decode cL_lock 24 = .ok (.iconst 0, 1) := by decide +kernel
theorem dL_lock_25 : decode cL_lock 25 = .ok (.ireturn, 1) := by decide +kernel
set_option maxRecDepth 20000 in
theorem ggL_signers_X7_signers : GoodIn wsL_signers wsX7_signers := goodIn_ca (goodIn_ca (goodIn_r _ [6, 7, 8, 9, 10, 5, 11, 12, 13, 14, 15, 16, 17, 18, 19, 20, 21, 22, 23, 24, 25, 26, 27, 28, 29, 30, 31, 32, 33, 34, 35, 36, 37, 38, 39, 40, 41, 42, 43, 44, 45, 46, 47, 48, 49, 50, 51, 52] (by decide +kernel) (by decide +kernel)) (goodIn_sub (fun _ h => List.mem_cons_of_mem _ (List.mem_append_right _ h)) (by decide +kernel))) (goodIn_sub (fun _ h => List.mem_cons_of_mem _ (List.mem_append_left _ (List.mem_append_right _ h))) (by decide +kernel))
set_option maxRecDepth 20000 in
theorem gL_signers_X7_signers : GoodIn wsL_signers (wsV RL 85 RX7 yX7_signers wsX7_signers) := goodIn_app (goodIn_of _ (by decide +kernel)) ggL_signers_X7_signers
theorem dL_signers_0 : decode cL_signers 0 = .ok (.aload_n 2, 1) := by decide +kernel
theorem dL_signers_1 : decode cL_signers 1 = .ok (.iconst 0, 1) := by decide +kernel
theorem dL_signers_2 : decode cL_signers 2 = .ok (.aload_n 0, 1) := by decide +kernel
theorem dL_signers_3 : decode cL_signers 3 = .ok (.iload_n 1, 1) := by decide +kernel
theorem dL_signers_4 : decode cL_signers 4 = .ok (.invokevirtual 85, 3) := by decide +kernel
theorem dL_signers_7 : decode cL_signers 7 = .ok (.i2l, 1) := by decide +kernel
theorem dL_signers_8 : decode cL_signers 8 = .ok (.lastore, 1) := by decide +kernel
theorem dL_signers_9 : decode cL_signers 9 = .ok (.goto 6, 3) := by decide +kernel
theorem dL_signers_12 : decode cL_signers 12 = .ok (.astore_n 3, 1) := by decide +kernel
theorem dL_signers_13 : decode cL_signers 13 = .ok (.iconst 1, 1) := by decide +kernel
theorem dL_signers_14 : decode cL_signers 14 = .ok (.ireturn, 1) := by decide +kernel
theorem dL_signers_15 : decode cL_signers 15 = .ok (.iconst 0, 1) := by decide +kernel
theorem dL_signers_16 : decode cL_signers 16 = .ok (.ireturn, 1) := by decide +kernel
set_option maxRecDepth 20000 in
theorem ggL_sign_X7_sign : GoodIn wsL_sign wsX7_sign := goodIn_ca (goodIn_ca (goodIn_ca (goodIn_ca (goodIn_r _ [8, 9, 10, 11, 12, 13, 14, 15, 16, 17, 18, 19, 20, 7, 21, 22, 23, 24, 25, 26, 27, 28, 29, 30, 31, 32, 33, 34, 35, 36, 37, 38, 39, 40, 41, 42, 43, 44, 45, 46, 47, 48, 49, 50, 51, 52, 53, 54, 55, 56, 57, 58, 59, 60, 61, 62, 63, 64, 65, 66, 67, 68, 69, 70, 71, 72, 73, 74, 75, 76, 77, 78, 79, 80] (by decide +kernel) (by decide +kernel)) (goodIn_sub (fun _ h => List.mem_cons_of_mem _ (List.mem_append_left _ (List.mem_append_left _ (List.mem_append_right _ h)))) (by decide +kernel))) (goodIn_sub (fun _ h => List.mem_cons_of_mem _ (List.mem_append_left _ (List.mem_append_right _ h))) (by decide +kernel))) (goodIn_sub (fun _ h => List.mem_cons_of_mem _ (List.mem_append_right _ h)) (by decide +kernel))) (goodIn_sub (fun _ h => List.mem_cons_of_mem _ (List.mem_append_left _ (List.mem_append_left _ (List.mem_append_left _ (List.mem_append_right _ h))))) (by decide +kernel))
set_option maxRecDepth 20000 in
theorem gL_sign_X7_sign : GoodIn wsL_sign (wsV RL 88 RX7 yX7_sign wsX7_sign) := goodIn_app (goodIn_of _ (by decide +kernel)) ggL_sign_X7_sign
theorem dL_sign_0 : decode cL_sign 0 = .ok (.aload_n 3, 1) := by decide +kernel
theorem dL_sign_1 : decode cL_sign 1 = .ok (.iconst 0, 1) := by decide +kernel
theorem dL_sign_2 : decode cL_sign 2 = .ok (.aload_n 0, 1) := by decide +kernel
theorem dL_sign_3 : decode cL_sign 3 = .ok (.iload_n 1, 1) := by decide +kernel
theorem dL_sign_4 : decode cL_sign 4 = .ok (.iload_n 2, 1) := by decide +kernel
theorem dL_sign_5 : decode cL_sign 5 = .ok (.invokevirtual 88, 3) := by decide +kernel
theorem dL_sign_8 : decode cL_sign 8 = .ok (.i2l, 1) := by decide +kernel
theorem dL_sign_9 : decode cL_sign 9 = .ok (.lastore, 1) := by decide +kernel
theorem dL_sign_10 : decode cL_sign 10 = .ok (.goto 15, 3) := by decide +kernel
theorem dL_sign_13 : decode cL_sign 13 = .ok (.astore 4, 2) := by decide +kernel
theorem dL_sign_15 : decode cL_sign 15 = .ok (.iconst 1, 1) := by decide +kernel
theorem dL_sign_16 : decode cL_sign 16 = .ok (.ireturn, 1) := by decide +kernel
theorem dL_sign_17 : decode cL_sign 17 = .ok (.astore 4, 2) := by decide +kernel
theorem dL_sign_19 : decode cL_sign 19 = .ok (.iconst 2, 1) := by decide +kernel
theorem dL_sign_20 : decode cL_sign 20 = .ok (.ireturn, 1) := by decide +kernel
theorem dL_sign_21 : decode cL_sign 21 = .ok (.astore 4, 2) := by decide +kernel
theorem dL_sign_23 : decode cL_sign 23 = .ok (.iconst 3, 1) := by decide +kernel
theorem dL_sign_24 : decode cL_sign 24 = .ok (.ireturn, 1) := by decide +kernel
theorem dL_sign_25 : decode cL_sign 25 = .ok (.iconst 0, 1) := by decide +kernel
theorem dL_sign_26 : decode cL_sign 26 = .ok (.ireturn, 1) := by decide +kernel
set_option maxRecDepth 20000 in
theorem ggL_withdraw_X7_withdraw : GoodIn wsL_withdraw wsX7_withdraw := goodIn_ca (goodIn_ca (goodIn_ca (goodIn_r _ [7, 8, 9, 10, 11, 12, 13, 14, 6, 15, 16, 17, 18, 19, 20, 21, 22, 23, 24, 25, 26, 27, 28, 29, 30, 31, 32, 33, 34, 35, 36, 37, 38, 39, 40, 41, 42, 43, 44] (by decide +kernel) (by decide +kernel)) (goodIn_sub (fun _ h => List.mem_cons_of_mem _ (List.mem_append_left _ (List.mem_append_left _ (List.mem_append_right _ h)))) (by decide +kernel))) (goodIn_sub (fun _ h => List.mem_cons_of_mem _ (List.mem_append_left _ (List.mem_append_right _ h))) (by decide +kernel))) (goodIn_sub (fun _ h => List.mem_cons_of_mem _ (List.mem_append_right _ h)) (by decide +kernel))
set_option maxRecDepth 20000 in
theorem gL_withdraw_X7_withdraw : GoodIn wsL_withdraw (wsV RL 91 RX7 yX7_withdraw wsX7_withdraw) := goodIn_app (goodIn_of _ (by decide +kernel)) ggL_withdraw_X7_withdraw
theorem dL_withdraw_0 : decode cL_withdraw 0 = .ok (.aload_n 2, 1) := by decide +kernel
theorem dL_withdraw_1 : decode cL_withdraw 1 = .ok (.iconst 0, 1) := by decide +kernel
theorem dL_withdraw_2 : decode cL_withdraw 2 = .ok (.aload_n 0, 1) := by decide +kernel
theorem dL_withdraw_3 : decode cL_withdraw 3 = .ok (.iload_n 1, 1) := by decide +kernel
theorem dL_withdraw_4 : decode cL_withdraw 4 = .ok (.invokevirtual 91, 3) := by decide +kernel
theorem dL_withdraw_7 : decode cL_withdraw 7 = .ok (.i2l, 1) := by decide +kernel
theorem dL_withdraw_8 : decode cL_withdraw 8 = .ok (.lastore, 1) := by decide +kernel
theorem dL_withdraw_9 : decode cL_withdraw 9 = .ok (.goto 9, 3) := by decide +kernel
theorem dL_withdraw_12 : decode cL_withdraw 12 = .ok (.astore_n 3, 1) := by decide +kernel
theorem dL_withdraw_13 : decode cL_withdraw 13 = .ok (.iconst 1, 1) := by decide +kernel
theorem dL_withdraw_14 : decode cL_withdraw 14 = .ok (.ireturn, 1) := by decide +kernel
theorem dL_withdraw_15 : decode cL_withdraw 15 = .ok (.astore_n 3, 1) := by decide +kernel
theorem dL_withdraw_16 : decode cL_withdraw 16 = .ok (.iconst 2, 1) := by decide +kernel
theorem dL_withdraw_17 : decode cL_withdraw 17 = .ok (.ireturn, 1) := by decide +kernel
theorem dL_withdraw_18 : decode cL_withdraw 18 = .ok (.iconst 0, 1) := by decide +kernel
theorem dL_withdraw_19 : decode cL_withdraw 19 = .ok (.ireturn, 1) := by decide +kernel
set_option maxRecDepth 20000 in
theorem ggL_state_X7_state : GoodIn wsL_state wsX7_state := goodIn_ca (goodIn_ca (goodIn_r _ [6, 7, 8, 9, 10, 11, 5, 12, 13, 14, 15, 16, 17, 18, 19, 20, 21, 22, 23, 24, 25, 26, 27, 28, 29, 30, 31, 32, 33, 34] (by decide +kernel) (by decide +kernel)) (goodIn_sub (fun _ h => List.mem_cons_of_mem _ (List.mem_append_left _ (List.mem_append_right _ h))) (by decide +kernel))) (goodIn_sub (fun _ h => List.mem_cons_of_mem _ (List.mem_append_right _ h)) (by decide +kernel))
set_option maxRecDepth 20000 in
theorem gL_state_X7_state : GoodIn wsL_state (wsV RL 94 RX7 yX7_state wsX7_state) := goodIn_app (goodIn_of _ (by decide +kernel)) ggL_state_X7_state
theorem dL_state_0 : decode cL_state 0 = .ok (.aload_n 2, 1) := by decide +kernel
theorem dL_state_1 : decode cL_state 1 = .ok (.iconst 0, 1) := by decide +kernel
theorem dL_state_2 : decode cL_state 2 = .ok (.aload_n 0, 1) := by decide +kernel
theorem dL_state_3 : decode cL_state 3 = .ok (.iload_n 1, 1) := by decide +kernel
theorem dL_state_4 : decode cL_state 4 = .ok (.invokevirtual 94, 3) := by decide +kernel
theorem dL_state_7 : decode cL_state 7 = .ok (.i2l, 1) := by decide +kernel
theorem dL_state_8 : decode cL_state 8 = .ok (.lastore, 1) := by decide +kernel
theorem dL_state_9 : decode cL_state 9 = .ok (.goto 6, 3) := by decide +kernel
theorem dL_state_12 : decode cL_state 12 = .ok (.astore_n 3, 1) := by decide +kernel
theorem dL_state_13 : decode cL_state 13 = .ok (.iconst 1, 1) := by decide +kernel
theorem dL_state_14 : decode cL_state 14 = .ok (.ireturn, 1) := by decide +kernel
theorem dL_state_15 : decode cL_state 15 = .ok (.iconst 0, 1) := by decide +kernel
theorem dL_state_16 : decode cL_state 16 = .ok (.ireturn, 1) := by decide +kernel
set_option maxRecDepth 20000 in
theorem ggL_isUntouched_X7_isUntouched : GoodIn wsL_isUntouched wsX7_isUntouched := goodIn_ca (goodIn_ca (goodIn_r _ [6, 7, 8, 9, 10, 11, 12, 5, 13, 14, 15, 16, 17, 18, 19, 20, 21, 22, 23, 24, 25, 26, 27, 28, 29, 30, 31, 32, 33, 34, 35, 36, 37, 38, 39, 40, 41, 42, 43, 44, 45, 46, 47, 48, 49, 50, 51, 52, 53, 54, 55, 56, 57, 58, 59, 60, 61, 62, 63, 64, 65, 66, 67, 68, 69, 70, 71, 72, 73, 74, 75, 76, 77, 78, 79, 80, 81, 82, 83, 84, 85, 86, 87, 88, 89, 90, 91, 92, 93, 94, 95, 96, 97, 98, 99, 100, 101, 102, 103, 104, 105, 106, 107, 108, 109, 110, 111, 112, 113, 114, 115, 116, 117, 118, 119, 120, 121, 122, 123, 124, 125, 126, 127, 128, 129, 130, 131, 132, 133, 134, 135, 136, 137, 138, 139, 140, 141, 142, 143, 144, 145, 146, 147, 148, 149, 150, 151, 152, 153, 154, 155, 156, 157, 158, 159, 160, 161, 162, 163] (by decide +kernel) (by decide +kernel)) (goodIn_sub (fun _ h => List.mem_cons_of_mem _ (List.mem_append_right _ h)) (by decide +kernel))) (goodIn_sub (fun _ h => List.mem_cons_of_mem _ (List.mem_append_left _ (List.mem_append_right _ h))) (by decide +kernel))
set_option maxRecDepth 20000 in
theorem gL_isUntouched_X7_isUntouched : GoodIn wsL_isUntouched (wsV RL 97 RX7 yX7_isUntouched wsX7_isUntouched) := goodIn_app (goodIn_of _ (by decide +kernel)) ggL_isUntouched_X7_isUntouched
theorem dL_isUntouched_0 : decode cL_isUntouched 0 = .ok (.aload_n 2, 1) := by decide +kernel
theorem dL_isUntouched_1 : decode cL_isUntouched 1 = .ok (.iconst 0, 1) := by decide +kernel
theorem dL_isUntouched_2 : decode cL_isUntouched 2 = .ok (.aload_n 0, 1) := by decide +kernel
theorem dL_isUntouched_3 : decode cL_isUntouched 3 = .ok (.iload_n 1, 1) := by decide +kernel
theorem dL_isUntouched_4 : decode cL_isUntouched 4 = .ok (.invokevirtual 97, 3) := by decide +kernel
theorem dL_isUntouched_7 : decode cL_isUntouched 7 = .ok (.ifCond .eq 7, 3) := by decide +kernel
theorem dL_isUntouched_10 : decode cL_isUntouched 10 = .ok (.lconst 1, 1) := by decide +kernel
theorem dL_isUntouched_11 : decode cL_isUntouched 11 = .ok (.goto 4, 3) := by decide +kernel
theorem dL_isUntouched_14 : decode cL_isUntouched 14 = .ok (.lconst 0, 1) := by decide +kernel
theorem dL_isUntouched_15 : decode cL_isUntouched 15 = .ok (.lastore, 1) := by decide +kernel
theorem dL_isUntouched_16 : decode cL_isUntouched 16 = .ok (.goto 6, 3) := by decide +kernel
theorem dL_isUntouched_19 : decode cL_isUntouched 19 = .ok (.astore_n 3, 1) := by decide +kernel
theorem dL_isUntouched_20 : decode cL_isUntouched 20 = .ok (.iconst 1, 1) := by decide +kernel
theorem dL_isUntouched_21 : decode cL_isUntouched 21 = .ok (.ireturn, 1) := by decide +kernel
theorem dL_isUntouched_22 : decode cL_isUntouched 22 = .ok (.iconst 0, 1) := by decide +kernel
theorem dL_isUntouched_23 : decode cL_isUntouched 23 = .ok (.ireturn, 1) := by decide +kernel
set_option maxRecDepth 20000 in
theorem ggL_voidedBy_X7_voidedBy : GoodIn wsL_voidedBy wsX7_voidedBy := goodIn_ca (goodIn_ca (goodIn_ca (goodIn_r _ [7, 8, 9, 10, 11, 12, 13, 14, 15, 6, 16, 17, 18, 19, 20, 21, 22, 23, 24, 25, 26, 27, 28, 29, 30, 31, 32, 33, 34, 35, 36, 37, 38] (by decide +kernel) (by decide +kernel)) (goodIn_sub (fun _ h => List.mem_cons_of_mem _ (List.mem_append_left _ (List.mem_append_left _ (List.mem_append_right _ h)))) (by decide +kernel))) (goodIn_sub (fun _ h => List.mem_cons_of_mem _ (List.mem_append_left _ (List.mem_append_right _ h))) (by decide +kernel))) (goodIn_sub (fun _ h => List.mem_cons_of_mem _ (List.mem_append_right _ h)) (by decide +kernel))
set_option maxRecDepth 20000 in
theorem gL_voidedBy_X7_voidedBy : GoodIn wsL_voidedBy (wsV RL 101 RX7 yX7_voidedBy wsX7_voidedBy) := goodIn_app (goodIn_of _ (by decide +kernel)) ggL_voidedBy_X7_voidedBy
theorem dL_voidedBy_0 : decode cL_voidedBy 0 = .ok (.aload_n 2, 1) := by decide +kernel
theorem dL_voidedBy_1 : decode cL_voidedBy 1 = .ok (.iconst 0, 1) := by decide +kernel
theorem dL_voidedBy_2 : decode cL_voidedBy 2 = .ok (.aload_n 0, 1) := by decide +kernel
theorem dL_voidedBy_3 : decode cL_voidedBy 3 = .ok (.iload_n 1, 1) := by decide +kernel
theorem dL_voidedBy_4 : decode cL_voidedBy 4 = .ok (.invokevirtual 101, 3) := by decide +kernel
theorem dL_voidedBy_7 : decode cL_voidedBy 7 = .ok (.i2l, 1) := by decide +kernel
theorem dL_voidedBy_8 : decode cL_voidedBy 8 = .ok (.lastore, 1) := by decide +kernel
theorem dL_voidedBy_9 : decode cL_voidedBy 9 = .ok (.goto 9, 3) := by decide +kernel
theorem dL_voidedBy_12 : decode cL_voidedBy 12 = .ok (.astore_n 3, 1) := by decide +kernel
theorem dL_voidedBy_13 : decode cL_voidedBy 13 = .ok (.iconst 1, 1) := by decide +kernel
theorem dL_voidedBy_14 : decode cL_voidedBy 14 = .ok (.ireturn, 1) := by decide +kernel
theorem dL_voidedBy_15 : decode cL_voidedBy 15 = .ok (.astore_n 3, 1) := by decide +kernel
theorem dL_voidedBy_16 : decode cL_voidedBy 16 = .ok (.iconst 2, 1) := by decide +kernel
theorem dL_voidedBy_17 : decode cL_voidedBy 17 = .ok (.ireturn, 1) := by decide +kernel
theorem dL_voidedBy_18 : decode cL_voidedBy 18 = .ok (.iconst 0, 1) := by decide +kernel
theorem dL_voidedBy_19 : decode cL_voidedBy 19 = .ok (.ireturn, 1) := by decide +kernel
set_option maxRecDepth 20000 in
theorem ggL_setFee_X7_setFee : GoodIn wsL_setFee wsX7_setFee := goodIn_ca (goodIn_r _ [6, 7, 8, 9, 10, 11, 12, 13, 14, 15, 16, 17, 18, 19, 20, 21, 22] (by decide +kernel) (by decide +kernel)) (goodIn_sub (fun _ h => List.mem_cons_of_mem _ (List.mem_append_right _ h)) (by decide +kernel))
set_option maxRecDepth 20000 in
theorem gL_setFee_X7_setFee : GoodIn wsL_setFee (wsV RL 104 RX7 yX7_setFee wsX7_setFee) := goodIn_app (goodIn_of _ (by decide +kernel)) ggL_setFee_X7_setFee
theorem dL_setFee_0 : decode cL_setFee 0 = .ok (.aload_n 2, 1) := by decide +kernel
theorem dL_setFee_1 : decode cL_setFee 1 = .ok (.iconst 0, 1) := by decide +kernel
theorem dL_setFee_2 : decode cL_setFee 2 = .ok (.aload_n 0, 1) := by decide +kernel
theorem dL_setFee_3 : decode cL_setFee 3 = .ok (.iload_n 1, 1) := by decide +kernel
theorem dL_setFee_4 : decode cL_setFee 4 = .ok (.invokevirtual 104, 3) := by decide +kernel
theorem dL_setFee_7 : decode cL_setFee 7 = .ok (.i2l, 1) := by decide +kernel
theorem dL_setFee_8 : decode cL_setFee 8 = .ok (.lastore, 1) := by decide +kernel
theorem dL_setFee_9 : decode cL_setFee 9 = .ok (.goto 6, 3) := by decide +kernel
theorem dL_setFee_12 : decode cL_setFee 12 = .ok (.astore_n 3, 1) := by decide +kernel
theorem dL_setFee_13 : decode cL_setFee 13 = .ok (.iconst 1, 1) := by decide +kernel
theorem dL_setFee_14 : decode cL_setFee 14 = .ok (.ireturn, 1) := by decide +kernel
theorem dL_setFee_15 : decode cL_setFee 15 = .ok (.iconst 0, 1) := by decide +kernel
theorem dL_setFee_16 : decode cL_setFee 16 = .ok (.ireturn, 1) := by decide +kernel
set_option maxRecDepth 20000 in
theorem ggL_bill_X7_bill : GoodIn wsL_bill wsX7_bill := goodIn_ca (goodIn_ca (goodIn_r _ [6, 7, 8, 9, 10, 11, 5, 12, 13, 14, 15, 16, 17, 18, 19, 20, 21, 22, 23, 24, 25, 26, 27, 28, 29, 30, 31, 32] (by decide +kernel) (by decide +kernel)) (goodIn_sub (fun _ h => List.mem_cons_of_mem _ (List.mem_append_left _ (List.mem_append_right _ h))) (by decide +kernel))) (goodIn_sub (fun _ h => List.mem_cons_of_mem _ (List.mem_append_right _ h)) (by decide +kernel))
set_option maxRecDepth 20000 in
theorem gL_bill_X7_bill : GoodIn wsL_bill (wsV RL 107 RX7 yX7_bill wsX7_bill) := goodIn_app (goodIn_of _ (by decide +kernel)) ggL_bill_X7_bill
theorem dL_bill_0 : decode cL_bill 0 = .ok (.aload_n 2, 1) := by decide +kernel
theorem dL_bill_1 : decode cL_bill 1 = .ok (.iconst 0, 1) := by decide +kernel
theorem dL_bill_2 : decode cL_bill 2 = .ok (.aload_n 0, 1) := by decide +kernel
theorem dL_bill_3 : decode cL_bill 3 = .ok (.iload_n 1, 1) := by decide +kernel
theorem dL_bill_4 : decode cL_bill 4 = .ok (.invokevirtual 107, 3) := by decide +kernel
theorem dL_bill_7 : decode cL_bill 7 = .ok (.lastore, 1) := by decide +kernel
theorem dL_bill_8 : decode cL_bill 8 = .ok (.goto 6, 3) := by decide +kernel
theorem dL_bill_11 : decode cL_bill 11 = .ok (.astore_n 3, 1) := by decide +kernel
theorem dL_bill_12 : decode cL_bill 12 = .ok (.iconst 1, 1) := by decide +kernel
theorem dL_bill_13 : decode cL_bill 13 = .ok (.ireturn, 1) := by decide +kernel
theorem dL_bill_14 : decode cL_bill 14 = .ok (.iconst 0, 1) := by decide +kernel
theorem dL_bill_15 : decode cL_bill 15 = .ok (.ireturn, 1) := by decide +kernel
set_option maxRecDepth 20000 in
theorem ggL_billAgain_X7_billAgain : GoodIn wsL_billAgain wsX7_billAgain := goodIn_ca (goodIn_ca (goodIn_r _ [6, 7, 8, 9, 5, 10, 11, 12, 13, 14, 15, 16, 17, 18, 19, 20, 21, 22, 23, 24, 25, 26, 27, 28, 29, 30, 31, 32, 33, 34, 35, 36, 37, 38, 39, 40, 41, 42, 43, 44, 45, 46, 47, 48, 49, 50, 51, 52, 53, 54, 55, 56, 57, 58, 59, 60, 61, 62, 63, 64, 65, 66] (by decide +kernel) (by decide +kernel)) (goodIn_sub (fun _ h => List.mem_cons_of_mem _ (List.mem_append_right _ h)) (by decide +kernel))) (goodIn_sub (fun _ h => List.mem_cons_of_mem _ (List.mem_append_left _ (List.mem_append_right _ h))) (by decide +kernel))
set_option maxRecDepth 20000 in
theorem gL_billAgain_X7_billAgain : GoodIn wsL_billAgain (wsV RL 111 RX7 yX7_billAgain wsX7_billAgain) := goodIn_app (goodIn_of _ (by decide +kernel)) ggL_billAgain_X7_billAgain
theorem dL_billAgain_0 : decode cL_billAgain 0 = .ok (.aload_n 2, 1) := by decide +kernel
theorem dL_billAgain_1 : decode cL_billAgain 1 = .ok (.iconst 0, 1) := by decide +kernel
theorem dL_billAgain_2 : decode cL_billAgain 2 = .ok (.aload_n 0, 1) := by decide +kernel
theorem dL_billAgain_3 : decode cL_billAgain 3 = .ok (.iload_n 1, 1) := by decide +kernel
theorem dL_billAgain_4 : decode cL_billAgain 4 = .ok (.invokevirtual 111, 3) := by decide +kernel
theorem dL_billAgain_7 : decode cL_billAgain 7 = .ok (.lastore, 1) := by decide +kernel
theorem dL_billAgain_8 : decode cL_billAgain 8 = .ok (.goto 6, 3) := by decide +kernel
theorem dL_billAgain_11 : decode cL_billAgain 11 = .ok (.astore_n 3, 1) := by decide +kernel
theorem dL_billAgain_12 : decode cL_billAgain 12 = .ok (.iconst 1, 1) := by decide +kernel
theorem dL_billAgain_13 : decode cL_billAgain 13 = .ok (.ireturn, 1) := by decide +kernel
theorem dL_billAgain_14 : decode cL_billAgain 14 = .ok (.iconst 0, 1) := by decide +kernel
theorem dL_billAgain_15 : decode cL_billAgain 15 = .ok (.ireturn, 1) := by decide +kernel
set_option maxRecDepth 20000 in
theorem ggL_share_X7_share : GoodIn wsL_share wsX7_share := goodIn_ca (goodIn_ca (goodIn_ca (goodIn_r _ [7, 8, 9, 10, 11, 12, 13, 14, 6, 15, 16, 17, 18, 19, 20, 21, 22, 23, 24, 25, 26, 27, 28, 29, 30, 31, 32, 33, 34, 35, 36, 37, 38, 39, 40, 41, 42, 43, 44, 45, 46, 47] (by decide +kernel) (by decide +kernel)) (goodIn_sub (fun _ h => List.mem_cons_of_mem _ (List.mem_append_left _ (List.mem_append_right _ h))) (by decide +kernel))) (goodIn_sub (fun _ h => List.mem_cons_of_mem _ (List.mem_append_right _ h)) (by decide +kernel))) (goodIn_sub (fun _ h => List.mem_cons_of_mem _ (List.mem_append_left _ (List.mem_append_left _ (List.mem_append_right _ h)))) (by decide +kernel))
set_option maxRecDepth 20000 in
theorem gL_share_X7_share : GoodIn wsL_share (wsV RL 114 RX7 yX7_share wsX7_share) := goodIn_app (goodIn_of _ (by decide +kernel)) ggL_share_X7_share
theorem dL_share_0 : decode cL_share 0 = .ok (.aload_n 2, 1) := by decide +kernel
theorem dL_share_1 : decode cL_share 1 = .ok (.iconst 0, 1) := by decide +kernel
theorem dL_share_2 : decode cL_share 2 = .ok (.aload_n 0, 1) := by decide +kernel
theorem dL_share_3 : decode cL_share 3 = .ok (.iload_n 1, 1) := by decide +kernel
theorem dL_share_4 : decode cL_share 4 = .ok (.invokevirtual 114, 3) := by decide +kernel
theorem dL_share_7 : decode cL_share 7 = .ok (.f2d, 1) := by decide +kernel
theorem dL_share_8 : decode cL_share 8 = .ok (.dastore, 1) := by decide +kernel
theorem dL_share_9 : decode cL_share 9 = .ok (.goto 9, 3) := by decide +kernel
theorem dL_share_12 : decode cL_share 12 = .ok (.astore_n 3, 1) := by decide +kernel
theorem dL_share_13 : decode cL_share 13 = .ok (.iconst 1, 1) := by decide +kernel
theorem dL_share_14 : decode cL_share 14 = .ok (.ireturn, 1) := by decide +kernel
theorem dL_share_15 : decode cL_share 15 = .ok (.astore_n 3, 1) := by decide +kernel
theorem dL_share_16 : decode cL_share 16 = .ok (.iconst 2, 1) := by decide +kernel
theorem dL_share_17 : decode cL_share 17 = .ok (.ireturn, 1) := by decide +kernel
theorem dL_share_18 : decode cL_share 18 = .ok (.iconst 0, 1) := by decide +kernel
theorem dL_share_19 : decode cL_share 19 = .ok (.ireturn, 1) := by decide +kernel
set_option maxRecDepth 20000 in
theorem ggL_meanCost_X7_meanCost : GoodIn wsL_meanCost wsX7_meanCost := goodIn_ca (goodIn_ca (goodIn_r _ [6, 7, 8, 9, 10, 11, 12, 13, 14, 15, 16, 17, 18, 19, 20, 21, 22, 23, 24, 25, 26, 27, 28, 29, 30, 31, 32, 33, 34, 35, 36, 37, 38, 39, 40, 41] (by decide +kernel) (by decide +kernel)) (goodIn_sub (fun _ h => List.mem_cons_of_mem _ (List.mem_append_right _ h)) (by decide +kernel))) (goodIn_sub (fun _ h => List.mem_cons_of_mem _ (List.mem_append_left _ (List.mem_append_right _ h))) (by decide +kernel))
set_option maxRecDepth 20000 in
theorem gL_meanCost_X7_meanCost : GoodIn wsL_meanCost (wsV RL 120 RX7 yX7_meanCost wsX7_meanCost) := goodIn_app (goodIn_of _ (by decide +kernel)) ggL_meanCost_X7_meanCost
theorem dL_meanCost_0 : decode cL_meanCost 0 = .ok (.aload_n 1, 1) := by decide +kernel
theorem dL_meanCost_1 : decode cL_meanCost 1 = .ok (.iconst 0, 1) := by decide +kernel
theorem dL_meanCost_2 : decode cL_meanCost 2 = .ok (.aload_n 0, 1) := by decide +kernel
theorem dL_meanCost_3 : decode cL_meanCost 3 = .ok (.invokevirtual 120, 3) := by decide +kernel
theorem dL_meanCost_6 : decode cL_meanCost 6 = .ok (.dastore, 1) := by decide +kernel
theorem dL_meanCost_7 : decode cL_meanCost 7 = .ok (.goto 6, 3) := by decide +kernel
theorem dL_meanCost_10 : decode cL_meanCost 10 = .ok (.astore_n 2, 1) := by decide +kernel
theorem dL_meanCost_11 : decode cL_meanCost 11 = .ok (.iconst 1, 1) := by decide +kernel
theorem dL_meanCost_12 : decode cL_meanCost 12 = .ok (.ireturn, 1) := by decide +kernel
theorem dL_meanCost_13 : decode cL_meanCost 13 = .ok (.iconst 0, 1) := by decide +kernel
theorem dL_meanCost_14 : decode cL_meanCost 14 = .ok (.ireturn, 1) := by decide +kernel
