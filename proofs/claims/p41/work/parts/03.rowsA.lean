theorem dX0_init_0 : decode cX0_init 0 = .ok (.aload_n 0, 1) := by decide +kernel
theorem dX0_init_1 : decode cX0_init 1 = .ok (.invokespecial 3, 3) := by decide +kernel
theorem dX0_init_4 : decode cX0_init 4 = .ok (.aload_n 0, 1) := by decide +kernel
theorem dX0_init_5 : decode cX0_init 5 = .ok (.iconst 5, 1) := by decide +kernel
theorem dX0_init_6 : decode cX0_init 6 = .ok (.newarray .int, 2) := by decide +kernel
theorem dX0_init_8 : decode cX0_init 8 = .ok (.putfield 9, 3) := by decide +kernel
theorem dX0_init_11 : decode cX0_init 11 = .ok (.aload_n 0, 1) := by decide +kernel
theorem dX0_init_12 : decode cX0_init 12 = .ok (.iconst 5, 1) := by decide +kernel
theorem dX0_init_13 : decode cX0_init 13 = .ok (.newarray .int, 2) := by decide +kernel
theorem dX0_init_15 : decode cX0_init 15 = .ok (.putfield 15, 3) := by decide +kernel
theorem dX0_init_18 : decode cX0_init 18 = .ok (.aload_n 0, 1) := by decide +kernel
theorem dX0_init_19 : decode cX0_init 19 = .ok (.iconst 5, 1) := by decide +kernel
theorem dX0_init_20 : decode cX0_init 20 = .ok (.newarray .long, 2) := by decide +kernel
theorem dX0_init_22 : decode cX0_init 22 = .ok (.putfield 18, 3) := by decide +kernel
theorem dX0_init_25 : decode cX0_init 25 = .ok (.aload_n 0, 1) := by decide +kernel
theorem dX0_init_26 : decode cX0_init 26 = .ok (.iconst 0, 1) := by decide +kernel
theorem dX0_init_27 : decode cX0_init 27 = .ok (.putfield 22, 3) := by decide +kernel
theorem dX0_init_30 : decode cX0_init 30 = .ok (.return_, 1) := by decide +kernel
theorem dX0_isFull_0 : decode cX0_isFull 0 = .ok (.aload_n 0, 1) := by decide +kernel
theorem dX0_isFull_1 : decode cX0_isFull 1 = .ok (.getfield 22, 3) := by decide +kernel
theorem dX0_isFull_4 : decode cX0_isFull 4 = .ok (.iconst 5, 1) := by decide +kernel
theorem dX0_isFull_5 : decode cX0_isFull 5 = .ok (.if_icmp .lt 7, 3) := by decide +kernel
theorem dX0_isFull_8 : decode cX0_isFull 8 = .ok (.iconst 1, 1) := by decide +kernel
theorem dX0_isFull_9 : decode cX0_isFull 9 = .ok (.goto 4, 3) := by decide +kernel
theorem dX0_isFull_12 : decode cX0_isFull 12 = .ok (.iconst 0, 1) := by decide +kernel
theorem dX0_isFull_13 : decode cX0_isFull 13 = .ok (.ireturn, 1) := by decide +kernel
set_option maxRecDepth 20000 in
theorem ggX0_enter_X0_isFull : GoodIn wsX0_enter wsX0_isFull := goodIn_r _ [8, 2, 9, 10, 11, 12] (by decide +kernel) (by decide +kernel)
set_option maxRecDepth 20000 in
theorem gX0_enter_X0_isFull : GoodIn wsX0_enter (wsV RX0 26 RX0 yX0_isFull wsX0_isFull) := goodIn_app (goodIn_of _ (by decide +kernel)) ggX0_enter_X0_isFull
theorem dX0_enter_0 : decode cX0_enter 0 = .ok (.aload_n 0, 1) := by decide +kernel
theorem dX0_enter_1 : decode cX0_enter 1 = .ok (.invokevirtual 26, 3) := by decide +kernel
theorem dX0_enter_4 : decode cX0_enter 4 = .ok (.ifCond .ne 33, 3) := by decide +kernel
theorem dX0_enter_7 : decode cX0_enter 7 = .ok (.aload_n 0, 1) := by decide +kernel
theorem dX0_enter_8 : decode cX0_enter 8 = .ok (.getfield 9, 3) := by decide +kernel
theorem dX0_enter_11 : decode cX0_enter 11 = .ok (.aload_n 0, 1) := by decide +kernel
theorem dX0_enter_12 : decode cX0_enter 12 = .ok (.getfield 22, 3) := by decide +kernel
theorem dX0_enter_15 : decode cX0_enter 15 = .ok (.iload_n 1, 1) := by decide +kernel
theorem dX0_enter_16 : decode cX0_enter 16 = .ok (.iastore, 1) := by decide +kernel
theorem dX0_enter_17 : decode cX0_enter 17 = .ok (.aload_n 0, 1) := by decide +kernel
theorem dX0_enter_18 : decode cX0_enter 18 = .ok (.getfield 15, 3) := by decide +kernel
theorem dX0_enter_21 : decode cX0_enter 21 = .ok (.aload_n 0, 1) := by decide +kernel
theorem dX0_enter_22 : decode cX0_enter 22 = .ok (.getfield 22, 3) := by decide +kernel
theorem dX0_enter_25 : decode cX0_enter 25 = .ok (.iload_n 2, 1) := by decide +kernel
theorem dX0_enter_26 : decode cX0_enter 26 = .ok (.iastore, 1) := by decide +kernel
theorem dX0_enter_27 : decode cX0_enter 27 = .ok (.aload_n 0, 1) := by decide +kernel
theorem dX0_enter_28 : decode cX0_enter 28 = .ok (.dup, 1) := by decide +kernel
theorem dX0_enter_29 : decode cX0_enter 29 = .ok (.getfield 22, 3) := by decide +kernel
theorem dX0_enter_32 : decode cX0_enter 32 = .ok (.iconst 1, 1) := by decide +kernel
theorem dX0_enter_33 : decode cX0_enter 33 = .ok (.iadd, 1) := by decide +kernel
theorem dX0_enter_34 : decode cX0_enter 34 = .ok (.putfield 22, 3) := by decide +kernel
theorem dX0_enter_37 : decode cX0_enter 37 = .ok (.aload_n 0, 1) := by decide +kernel
theorem dX0_enter_38 : decode cX0_enter 38 = .ok (.getfield 22, 3) := by decide +kernel
theorem dX0_enter_41 : decode cX0_enter 41 = .ok (.iconst 1, 1) := by decide +kernel
theorem dX0_enter_42 : decode cX0_enter 42 = .ok (.isub, 1) := by decide +kernel
theorem dX0_enter_43 : decode cX0_enter 43 = .ok (.ireturn, 1) := by decide +kernel
set_option maxRecDepth 20000 in
theorem ggX0_priceOf_X0_halfDeletionsPrice : GoodIn wsX0_priceOf wsX0_halfDeletionsPrice := goodIn_r _ [10] (by decide +kernel) (by decide +kernel)
set_option maxRecDepth 20000 in
theorem gX0_priceOf_X0_halfDeletionsPrice : GoodIn wsX0_priceOf (va_wsS RX0 30 yX0_halfDeletionsPrice wsX0_halfDeletionsPrice) := goodIn_app (goodIn_of _ (by decide +kernel)) ggX0_priceOf_X0_halfDeletionsPrice
theorem dX0_priceOf_0 : decode cX0_priceOf 0 = .ok (.aload_n 0, 1) := by decide +kernel
theorem dX0_priceOf_1 : decode cX0_priceOf 1 = .ok (.getfield 15, 3) := by decide +kernel
theorem dX0_priceOf_4 : decode cX0_priceOf 4 = .ok (.iload_n 1, 1) := by decide +kernel
theorem dX0_priceOf_5 : decode cX0_priceOf 5 = .ok (.iaload, 1) := by decide +kernel
theorem dX0_priceOf_6 : decode cX0_priceOf 6 = .ok (.istore 4, 2) := by decide +kernel
theorem dX0_priceOf_8 : decode cX0_priceOf 8 = .ok (.aload_n 0, 1) := by decide +kernel
theorem dX0_priceOf_9 : decode cX0_priceOf 9 = .ok (.getfield 9, 3) := by decide +kernel
theorem dX0_priceOf_12 : decode cX0_priceOf 12 = .ok (.iload_n 1, 1) := by decide +kernel
theorem dX0_priceOf_13 : decode cX0_priceOf 13 = .ok (.iaload, 1) := by decide +kernel
theorem dX0_priceOf_14 : decode cX0_priceOf 14 = .ok (.istore 5, 2) := by decide +kernel
theorem dX0_priceOf_16 : decode cX0_priceOf 16 = .ok (.iload 5, 2) := by decide +kernel
theorem dX0_priceOf_18 : decode cX0_priceOf 18 = .ok (.ifCond .ne 8, 3) := by decide +kernel
theorem dX0_priceOf_21 : decode cX0_priceOf 21 = .ok (.iload_n 3, 1) := by decide +kernel
theorem dX0_priceOf_22 : decode cX0_priceOf 22 = .ok (.iload 4, 2) := by decide +kernel
theorem dX0_priceOf_24 : decode cX0_priceOf 24 = .ok (.imul, 1) := by decide +kernel
theorem dX0_priceOf_25 : decode cX0_priceOf 25 = .ok (.ireturn, 1) := by decide +kernel
theorem dX0_priceOf_26 : decode cX0_priceOf 26 = .ok (.iload 5, 2) := by decide +kernel
theorem dX0_priceOf_28 : decode cX0_priceOf 28 = .ok (.iconst 1, 1) := by decide +kernel
theorem dX0_priceOf_29 : decode cX0_priceOf 29 = .ok (.if_icmp .ne 6, 3) := by decide +kernel
theorem dX0_priceOf_32 : decode cX0_priceOf 32 = .ok (.iload 4, 2) := by decide +kernel
theorem dX0_priceOf_34 : decode cX0_priceOf 34 = .ok (.ireturn, 1) := by decide +kernel
theorem dX0_priceOf_35 : decode cX0_priceOf 35 = .ok (.iload 5, 2) := by decide +kernel
theorem dX0_priceOf_37 : decode cX0_priceOf 37 = .ok (.iconst 2, 1) := by decide +kernel
theorem dX0_priceOf_38 : decode cX0_priceOf 38 = .ok (.if_icmp .ne 11, 3) := by decide +kernel
theorem dX0_priceOf_41 : decode cX0_priceOf 41 = .ok (.iload_n 2, 1) := by decide +kernel
theorem dX0_priceOf_42 : decode cX0_priceOf 42 = .ok (.iload_n 3, 1) := by decide +kernel
theorem dX0_priceOf_43 : decode cX0_priceOf 43 = .ok (.iload 4, 2) := by decide +kernel
theorem dX0_priceOf_45 : decode cX0_priceOf 45 = .ok (.invokestatic 30, 3) := by decide +kernel
theorem dX0_priceOf_48 : decode cX0_priceOf 48 = .ok (.ireturn, 1) := by decide +kernel
theorem dX0_priceOf_49 : decode cX0_priceOf 49 = .ok (.iload_n 3, 1) := by decide +kernel
theorem dX0_priceOf_50 : decode cX0_priceOf 50 = .ok (.iconst 2, 1) := by decide +kernel
theorem dX0_priceOf_51 : decode cX0_priceOf 51 = .ok (.invokestatic 34, 3) := by decide +kernel
theorem dX0_priceOf_54 : decode cX0_priceOf 54 = .ok (.iload 4, 2) := by decide +kernel
theorem dX0_priceOf_56 : decode cX0_priceOf 56 = .ok (.imul, 1) := by decide +kernel
theorem dX0_priceOf_57 : decode cX0_priceOf 57 = .ok (.ireturn, 1) := by decide +kernel
theorem dX0_halfDeletionsPrice_0 : decode cX0_halfDeletionsPrice 0 = .ok (.iload_n 0, 1) := by decide +kernel
theorem dX0_halfDeletionsPrice_1 : decode cX0_halfDeletionsPrice 1 = .ok (.bipush 105, 2) := by decide +kernel
theorem dX0_halfDeletionsPrice_3 : decode cX0_halfDeletionsPrice 3 = .ok (.if_icmp .ne 7, 3) := by decide +kernel
theorem dX0_halfDeletionsPrice_6 : decode cX0_halfDeletionsPrice 6 = .ok (.iload_n 1, 1) := by decide +kernel
theorem dX0_halfDeletionsPrice_7 : decode cX0_halfDeletionsPrice 7 = .ok (.iload_n 2, 1) := by decide +kernel
theorem dX0_halfDeletionsPrice_8 : decode cX0_halfDeletionsPrice 8 = .ok (.imul, 1) := by decide +kernel
theorem dX0_halfDeletionsPrice_9 : decode cX0_halfDeletionsPrice 9 = .ok (.ireturn, 1) := by decide +kernel
theorem dX0_halfDeletionsPrice_10 : decode cX0_halfDeletionsPrice 10 = .ok (.iload_n 0, 1) := by decide +kernel
theorem dX0_halfDeletionsPrice_11 : decode cX0_halfDeletionsPrice 11 = .ok (.bipush 100, 2) := by decide +kernel
theorem dX0_halfDeletionsPrice_13 : decode cX0_halfDeletionsPrice 13 = .ok (.if_icmp .ne 11, 3) := by decide +kernel
theorem dX0_halfDeletionsPrice_16 : decode cX0_halfDeletionsPrice 16 = .ok (.iload_n 1, 1) := by decide +kernel
theorem dX0_halfDeletionsPrice_17 : decode cX0_halfDeletionsPrice 17 = .ok (.iload_n 2, 1) := by decide +kernel
theorem dX0_halfDeletionsPrice_18 : decode cX0_halfDeletionsPrice 18 = .ok (.imul, 1) := by decide +kernel
theorem dX0_halfDeletionsPrice_19 : decode cX0_halfDeletionsPrice 19 = .ok (.iconst 2, 1) := by decide +kernel
theorem dX0_halfDeletionsPrice_20 : decode cX0_halfDeletionsPrice 20 = .ok (.idiv, 1) := by decide +kernel
theorem dX0_halfDeletionsPrice_21 : decode cX0_halfDeletionsPrice 21 = .ok (.goto 4, 3) := by decide +kernel
theorem dX0_halfDeletionsPrice_24 : decode cX0_halfDeletionsPrice 24 = .ok (.iconst 0, 1) := by decide +kernel
theorem dX0_halfDeletionsPrice_25 : decode cX0_halfDeletionsPrice 25 = .ok (.ireturn, 1) := by decide +kernel
theorem dX1_init_0 : decode cX1_init 0 = .ok (.aload_n 0, 1) := by decide +kernel
theorem dX1_init_1 : decode cX1_init 1 = .ok (.invokespecial 3, 3) := by decide +kernel
theorem dX1_init_4 : decode cX1_init 4 = .ok (.aload_n 0, 1) := by decide +kernel
theorem dX1_init_5 : decode cX1_init 5 = .ok (.bipush 6, 2) := by decide +kernel
theorem dX1_init_7 : decode cX1_init 7 = .ok (.newarray .int, 2) := by decide +kernel
theorem dX1_init_9 : decode cX1_init 9 = .ok (.putfield 9, 3) := by decide +kernel
theorem dX1_init_12 : decode cX1_init 12 = .ok (.aload_n 0, 1) := by decide +kernel
theorem dX1_init_13 : decode cX1_init 13 = .ok (.bipush 6, 2) := by decide +kernel
theorem dX1_init_15 : decode cX1_init 15 = .ok (.newarray .int, 2) := by decide +kernel
theorem dX1_init_17 : decode cX1_init 17 = .ok (.putfield 15, 3) := by decide +kernel
theorem dX1_init_20 : decode cX1_init 20 = .ok (.aload_n 0, 1) := by decide +kernel
theorem dX1_init_21 : decode cX1_init 21 = .ok (.bipush 6, 2) := by decide +kernel
theorem dX1_init_23 : decode cX1_init 23 = .ok (.newarray .int, 2) := by decide +kernel
theorem dX1_init_25 : decode cX1_init 25 = .ok (.putfield 18, 3) := by decide +kernel
theorem dX1_init_28 : decode cX1_init 28 = .ok (.aload_n 0, 1) := by decide +kernel
theorem dX1_init_29 : decode cX1_init 29 = .ok (.bipush 6, 2) := by decide +kernel
theorem dX1_init_31 : decode cX1_init 31 = .ok (.newarray .boolean, 2) := by decide +kernel
theorem dX1_init_33 : decode cX1_init 33 = .ok (.putfield 21, 3) := by decide +kernel
theorem dX1_init_36 : decode cX1_init 36 = .ok (.aload_n 0, 1) := by decide +kernel
theorem dX1_init_37 : decode cX1_init 37 = .ok (.iconst 0, 1) := by decide +kernel
theorem dX1_init_38 : decode cX1_init 38 = .ok (.putfield 25, 3) := by decide +kernel
theorem dX1_init_41 : decode cX1_init 41 = .ok (.return_, 1) := by decide +kernel
theorem dX1_isFull_0 : decode cX1_isFull 0 = .ok (.aload_n 0, 1) := by decide +kernel
theorem dX1_isFull_1 : decode cX1_isFull 1 = .ok (.getfield 25, 3) := by decide +kernel
theorem dX1_isFull_4 : decode cX1_isFull 4 = .ok (.bipush 6, 2) := by decide +kernel
theorem dX1_isFull_6 : decode cX1_isFull 6 = .ok (.if_icmp .lt 7, 3) := by decide +kernel
theorem dX1_isFull_9 : decode cX1_isFull 9 = .ok (.iconst 1, 1) := by decide +kernel
theorem dX1_isFull_10 : decode cX1_isFull 10 = .ok (.goto 4, 3) := by decide +kernel
theorem dX1_isFull_13 : decode cX1_isFull 13 = .ok (.iconst 0, 1) := by decide +kernel
theorem dX1_isFull_14 : decode cX1_isFull 14 = .ok (.ireturn, 1) := by decide +kernel
set_option maxRecDepth 20000 in
theorem ggX1_enter_X1_isFull : GoodIn wsX1_enter wsX1_isFull := goodIn_r _ [9, 2, 10, 11, 12, 13, 14] (by decide +kernel) (by decide +kernel)
set_option maxRecDepth 20000 in
theorem gX1_enter_X1_isFull : GoodIn wsX1_enter (wsV RX1 29 RX1 yX1_isFull wsX1_isFull) := goodIn_app (goodIn_of _ (by decide +kernel)) ggX1_enter_X1_isFull
theorem dX1_enter_0 : decode cX1_enter 0 = .ok (.aload_n 0, 1) := by decide +kernel
theorem dX1_enter_1 : decode cX1_enter 1 = .ok (.invokevirtual 29, 3) := by decide +kernel
theorem dX1_enter_4 : decode cX1_enter 4 = .ok (.ifCond .ne 43, 3) := by decide +kernel
theorem dX1_enter_7 : decode cX1_enter 7 = .ok (.aload_n 0, 1) := by decide +kernel
theorem dX1_enter_8 : decode cX1_enter 8 = .ok (.getfield 9, 3) := by decide +kernel
theorem dX1_enter_11 : decode cX1_enter 11 = .ok (.aload_n 0, 1) := by decide +kernel
theorem dX1_enter_12 : decode cX1_enter 12 = .ok (.getfield 25, 3) := by decide +kernel
theorem dX1_enter_15 : decode cX1_enter 15 = .ok (.iload_n 1, 1) := by decide +kernel
theorem dX1_enter_16 : decode cX1_enter 16 = .ok (.iastore, 1) := by decide +kernel
theorem dX1_enter_17 : decode cX1_enter 17 = .ok (.aload_n 0, 1) := by decide +kernel
theorem dX1_enter_18 : decode cX1_enter 18 = .ok (.getfield 15, 3) := by decide +kernel
theorem dX1_enter_21 : decode cX1_enter 21 = .ok (.aload_n 0, 1) := by decide +kernel
theorem dX1_enter_22 : decode cX1_enter 22 = .ok (.getfield 25, 3) := by decide +kernel
theorem dX1_enter_25 : decode cX1_enter 25 = .ok (.iload_n 2, 1) := by decide +kernel
theorem dX1_enter_26 : decode cX1_enter 26 = .ok (.iastore, 1) := by decide +kernel
theorem dX1_enter_27 : decode cX1_enter 27 = .ok (.aload_n 0, 1) := by decide +kernel
theorem dX1_enter_28 : decode cX1_enter 28 = .ok (.getfield 18, 3) := by decide +kernel
theorem dX1_enter_31 : decode cX1_enter 31 = .ok (.aload_n 0, 1) := by decide +kernel
theorem dX1_enter_32 : decode cX1_enter 32 = .ok (.getfield 25, 3) := by decide +kernel
theorem dX1_enter_35 : decode cX1_enter 35 = .ok (.iload_n 3, 1) := by decide +kernel
theorem dX1_enter_36 : decode cX1_enter 36 = .ok (.iastore, 1) := by decide +kernel
theorem dX1_enter_37 : decode cX1_enter 37 = .ok (.aload_n 0, 1) := by decide +kernel
theorem dX1_enter_38 : decode cX1_enter 38 = .ok (.dup, 1) := by decide +kernel
theorem dX1_enter_39 : decode cX1_enter 39 = .ok (.getfield 25, 3) := by decide +kernel
theorem dX1_enter_42 : decode cX1_enter 42 = .ok (.iconst 1, 1) := by decide +kernel
theorem dX1_enter_43 : decode cX1_enter 43 = .ok (.iadd, 1) := by decide +kernel
theorem dX1_enter_44 : decode cX1_enter 44 = .ok (.putfield 25, 3) := by decide +kernel
theorem dX1_enter_47 : decode cX1_enter 47 = .ok (.aload_n 0, 1) := by decide +kernel
theorem dX1_enter_48 : decode cX1_enter 48 = .ok (.getfield 25, 3) := by decide +kernel
theorem dX1_enter_51 : decode cX1_enter 51 = .ok (.iconst 1, 1) := by decide +kernel
theorem dX1_enter_52 : decode cX1_enter 52 = .ok (.isub, 1) := by decide +kernel
theorem dX1_enter_53 : decode cX1_enter 53 = .ok (.ireturn, 1) := by decide +kernel
set_option maxRecDepth 20000 in
theorem ggX1_markAgain_X4_mark : GoodIn wsX1_markAgain wsX4_mark := goodIn_ca (goodIn_r _ [9, 10, 11, 17, 18, 19, 20] (by decide +kernel) (by decide +kernel)) (goodIn_sub (fun _ h => List.mem_cons_of_mem _ (List.mem_append_right _ h)) (by decide +kernel))
set_option maxRecDepth 20000 in
theorem gX1_markAgain_X4_mark : GoodIn wsX1_markAgain (wsV RX1 33 RX4 yX4_mark wsX4_mark) := goodIn_app (goodIn_of _ (by decide +kernel)) ggX1_markAgain_X4_mark
theorem dX1_markAgain_0 : decode cX1_markAgain 0 = .ok (.iconst 0, 1) := by decide +kernel
theorem dX1_markAgain_1 : decode cX1_markAgain 1 = .ok (.istore_n 3, 1) := by decide +kernel
theorem dX1_markAgain_2 : decode cX1_markAgain 2 = .ok (.iload_n 3, 1) := by decide +kernel
theorem dX1_markAgain_3 : decode cX1_markAgain 3 = .ok (.aload_n 0, 1) := by decide +kernel
theorem dX1_markAgain_4 : decode cX1_markAgain 4 = .ok (.getfield 25, 3) := by decide +kernel
theorem dX1_markAgain_7 : decode cX1_markAgain 7 = .ok (.if_icmp .ge 36, 3) := by decide +kernel
theorem dX1_markAgain_10 : decode cX1_markAgain 10 = .ok (.aload_n 0, 1) := by decide +kernel
theorem dX1_markAgain_11 : decode cX1_markAgain 11 = .ok (.getfield 18, 3) := by decide +kernel
theorem dX1_markAgain_14 : decode cX1_markAgain 14 = .ok (.iload_n 3, 1) := by decide +kernel
theorem dX1_markAgain_15 : decode cX1_markAgain 15 = .ok (.iaload, 1) := by decide +kernel
theorem dX1_markAgain_16 : decode cX1_markAgain 16 = .ok (.iload_n 1, 1) := by decide +kernel
theorem dX1_markAgain_17 : decode cX1_markAgain 17 = .ok (.if_icmp .ne 20, 3) := by decide +kernel
theorem dX1_markAgain_20 : decode cX1_markAgain 20 = .ok (.aload_n 2, 1) := by decide +kernel
theorem dX1_markAgain_21 : decode cX1_markAgain 21 = .ok (.aload_n 0, 1) := by decide +kernel
theorem dX1_markAgain_22 : decode cX1_markAgain 22 = .ok (.getfield 9, 3) := by decide +kernel
theorem dX1_markAgain_25 : decode cX1_markAgain 25 = .ok (.iload_n 3, 1) := by decide +kernel
theorem dX1_markAgain_26 : decode cX1_markAgain 26 = .ok (.iaload, 1) := by decide +kernel
theorem dX1_markAgain_27 : decode cX1_markAgain 27 = .ok (.aload_n 0, 1) := by decide +kernel
theorem dX1_markAgain_28 : decode cX1_markAgain 28 = .ok (.getfield 15, 3) := by decide +kernel
theorem dX1_markAgain_31 : decode cX1_markAgain 31 = .ok (.iload_n 3, 1) := by decide +kernel
theorem dX1_markAgain_32 : decode cX1_markAgain 32 = .ok (.iaload, 1) := by decide +kernel
theorem dX1_markAgain_33 : decode cX1_markAgain 33 = .ok (.iload_n 3, 1) := by decide +kernel
theorem dX1_markAgain_34 : decode cX1_markAgain 34 = .ok (.invokevirtual 33, 3) := by decide +kernel
theorem dX1_markAgain_37 : decode cX1_markAgain 37 = .ok (.iinc 3 1, 3) := by decide +kernel
theorem dX1_markAgain_40 : decode cX1_markAgain 40 = .ok (.goto (-38), 3) := by decide +kernel
theorem dX1_markAgain_43 : decode cX1_markAgain 43 = .ok (.return_, 1) := by decide +kernel
theorem dX1_lowestLocked_0 : decode cX1_lowestLocked 0 = .ok (.iconst 0, 1) := by decide +kernel
theorem dX1_lowestLocked_1 : decode cX1_lowestLocked 1 = .ok (.istore_n 2, 1) := by decide +kernel
theorem dX1_lowestLocked_2 : decode cX1_lowestLocked 2 = .ok (.iload_n 2, 1) := by decide +kernel
theorem dX1_lowestLocked_3 : decode cX1_lowestLocked 3 = .ok (.aload_n 0, 1) := by decide +kernel
theorem dX1_lowestLocked_4 : decode cX1_lowestLocked 4 = .ok (.getfield 25, 3) := by decide +kernel
theorem dX1_lowestLocked_7 : decode cX1_lowestLocked 7 = .ok (.if_icmp .ge 28, 3) := by decide +kernel
theorem dX1_lowestLocked_10 : decode cX1_lowestLocked 10 = .ok (.aload_n 0, 1) := by decide +kernel
theorem dX1_lowestLocked_11 : decode cX1_lowestLocked 11 = .ok (.getfield 21, 3) := by decide +kernel
theorem dX1_lowestLocked_14 : decode cX1_lowestLocked 14 = .ok (.iload_n 2, 1) := by decide +kernel
theorem dX1_lowestLocked_15 : decode cX1_lowestLocked 15 = .ok (.baload, 1) := by decide +kernel
theorem dX1_lowestLocked_16 : decode cX1_lowestLocked 16 = .ok (.ifCond .eq 13, 3) := by decide +kernel
theorem dX1_lowestLocked_19 : decode cX1_lowestLocked 19 = .ok (.iload_n 1, 1) := by decide +kernel
theorem dX1_lowestLocked_20 : decode cX1_lowestLocked 20 = .ok (.iconst 1, 1) := by decide +kernel
theorem dX1_lowestLocked_21 : decode cX1_lowestLocked 21 = .ok (.iload_n 2, 1) := by decide +kernel
theorem dX1_lowestLocked_22 : decode cX1_lowestLocked 22 = .ok (.ishl, 1) := by decide +kernel
theorem dX1_lowestLocked_23 : decode cX1_lowestLocked 23 = .ok (.iand, 1) := by decide +kernel
theorem dX1_lowestLocked_24 : decode cX1_lowestLocked 24 = .ok (.ifCond .eq 5, 3) := by decide +kernel
theorem dX1_lowestLocked_27 : decode cX1_lowestLocked 27 = .ok (.iload_n 2, 1) := by decide +kernel
theorem dX1_lowestLocked_28 : decode cX1_lowestLocked 28 = .ok (.ireturn, 1) := by decide +kernel
theorem dX1_lowestLocked_29 : decode cX1_lowestLocked 29 = .ok (.iinc 2 1, 3) := by decide +kernel
theorem dX1_lowestLocked_32 : decode cX1_lowestLocked 32 = .ok (.goto (-30), 3) := by decide +kernel
theorem dX1_lowestLocked_35 : decode cX1_lowestLocked 35 = .ok (.iconst (-1), 1) := by decide +kernel
theorem dX1_lowestLocked_36 : decode cX1_lowestLocked 36 = .ok (.ireturn, 1) := by decide +kernel
theorem dX2_init_0 : decode cX2_init 0 = .ok (.aload_n 0, 1) := by decide +kernel
theorem dX2_init_1 : decode cX2_init 1 = .ok (.invokespecial 3, 3) := by decide +kernel
theorem dX2_init_4 : decode cX2_init 4 = .ok (.aload_n 0, 1) := by decide +kernel
theorem dX2_init_5 : decode cX2_init 5 = .ok (.bipush 40, 2) := by decide +kernel
theorem dX2_init_7 : decode cX2_init 7 = .ok (.newarray .char, 2) := by decide +kernel
theorem dX2_init_9 : decode cX2_init 9 = .ok (.putfield 9, 3) := by decide +kernel
theorem dX2_init_12 : decode cX2_init 12 = .ok (.aload_n 0, 1) := by decide +kernel
theorem dX2_init_13 : decode cX2_init 13 = .ok (.bipush 40, 2) := by decide +kernel
theorem dX2_init_15 : decode cX2_init 15 = .ok (.newarray .int, 2) := by decide +kernel
theorem dX2_init_17 : decode cX2_init 17 = .ok (.putfield 15, 3) := by decide +kernel
theorem dX2_init_20 : decode cX2_init 20 = .ok (.aload_n 0, 1) := by decide +kernel
theorem dX2_init_21 : decode cX2_init 21 = .ok (.bipush 40, 2) := by decide +kernel
theorem dX2_init_23 : decode cX2_init 23 = .ok (.newarray .int, 2) := by decide +kernel
theorem dX2_init_25 : decode cX2_init 25 = .ok (.putfield 19, 3) := by decide +kernel
theorem dX2_init_28 : decode cX2_init 28 = .ok (.aload_n 0, 1) := by decide +kernel
theorem dX2_init_29 : decode cX2_init 29 = .ok (.bipush 40, 2) := by decide +kernel
theorem dX2_init_31 : decode cX2_init 31 = .ok (.newarray .int, 2) := by decide +kernel
theorem dX2_init_33 : decode cX2_init 33 = .ok (.putfield 22, 3) := by decide +kernel
theorem dX2_init_36 : decode cX2_init 36 = .ok (.aload_n 0, 1) := by decide +kernel
theorem dX2_init_37 : decode cX2_init 37 = .ok (.bipush 40, 2) := by decide +kernel
theorem dX2_init_39 : decode cX2_init 39 = .ok (.newarray .int, 2) := by decide +kernel
theorem dX2_init_41 : decode cX2_init 41 = .ok (.putfield 25, 3) := by decide +kernel
theorem dX2_init_44 : decode cX2_init 44 = .ok (.aload_n 0, 1) := by decide +kernel
theorem dX2_init_45 : decode cX2_init 45 = .ok (.bipush 40, 2) := by decide +kernel
theorem dX2_init_47 : decode cX2_init 47 = .ok (.newarray .int, 2) := by decide +kernel
theorem dX2_init_49 : decode cX2_init 49 = .ok (.putfield 28, 3) := by decide +kernel
theorem dX2_init_52 : decode cX2_init 52 = .ok (.aload_n 0, 1) := by decide +kernel
theorem dX2_init_53 : decode cX2_init 53 = .ok (.bipush 40, 2) := by decide +kernel
theorem dX2_init_55 : decode cX2_init 55 = .ok (.newarray .int, 2) := by decide +kernel
theorem dX2_init_57 : decode cX2_init 57 = .ok (.putfield 31, 3) := by decide +kernel
theorem dX2_init_60 : decode cX2_init 60 = .ok (.aload_n 0, 1) := by decide +kernel
theorem dX2_init_61 : decode cX2_init 61 = .ok (.sipush 800, 3) := by decide +kernel
theorem dX2_init_64 : decode cX2_init 64 = .ok (.newarray .char, 2) := by decide +kernel
theorem dX2_init_66 : decode cX2_init 66 = .ok (.putfield 34, 3) := by decide +kernel
theorem dX2_init_69 : decode cX2_init 69 = .ok (.aload_n 0, 1) := by decide +kernel
theorem dX2_init_70 : decode cX2_init 70 = .ok (.bipush 40, 2) := by decide +kernel
theorem dX2_init_72 : decode cX2_init 72 = .ok (.newarray .int, 2) := by decide +kernel
theorem dX2_init_74 : decode cX2_init 74 = .ok (.putfield 37, 3) := by decide +kernel
theorem dX2_init_77 : decode cX2_init 77 = .ok (.aload_n 0, 1) := by decide +kernel
theorem dX2_init_78 : decode cX2_init 78 = .ok (.iconst 0, 1) := by decide +kernel
theorem dX2_init_79 : decode cX2_init 79 = .ok (.putfield 40, 3) := by decide +kernel
theorem dX2_init_82 : decode cX2_init 82 = .ok (.aload_n 0, 1) := by decide +kernel
theorem dX2_init_83 : decode cX2_init 83 = .ok (.iconst 0, 1) := by decide +kernel
theorem dX2_init_84 : decode cX2_init 84 = .ok (.putfield 44, 3) := by decide +kernel
theorem dX2_init_87 : decode cX2_init 87 = .ok (.return_, 1) := by decide +kernel
theorem dX2_isFull_0 : decode cX2_isFull 0 = .ok (.aload_n 0, 1) := by decide +kernel
theorem dX2_isFull_1 : decode cX2_isFull 1 = .ok (.getfield 40, 3) := by decide +kernel
theorem dX2_isFull_4 : decode cX2_isFull 4 = .ok (.bipush 40, 2) := by decide +kernel
theorem dX2_isFull_6 : decode cX2_isFull 6 = .ok (.if_icmp .lt 7, 3) := by decide +kernel
theorem dX2_isFull_9 : decode cX2_isFull 9 = .ok (.iconst 1, 1) := by decide +kernel
theorem dX2_isFull_10 : decode cX2_isFull 10 = .ok (.goto 4, 3) := by decide +kernel
theorem dX2_isFull_13 : decode cX2_isFull 13 = .ok (.iconst 0, 1) := by decide +kernel
theorem dX2_isFull_14 : decode cX2_isFull 14 = .ok (.ireturn, 1) := by decide +kernel
set_option maxRecDepth 20000 in
theorem ggX2_draft_X2_isFull : GoodIn wsX2_draft wsX2_isFull := goodIn_r _ [13, 2, 14, 15, 16, 17, 18, 19, 20, 21, 22, 23, 24] (by decide +kernel) (by decide +kernel)
set_option maxRecDepth 20000 in
theorem gX2_draft_X2_isFull : GoodIn wsX2_draft (wsV RX2 47 RX2 yX2_isFull wsX2_isFull) := goodIn_app (goodIn_of _ (by decide +kernel)) ggX2_draft_X2_isFull
theorem dX2_draft_0 : decode cX2_draft 0 = .ok (.aload_n 0, 1) := by decide +kernel
theorem dX2_draft_1 : decode cX2_draft 1 = .ok (.invokevirtual 47, 3) := by decide +kernel
theorem dX2_draft_4 : decode cX2_draft 4 = .ok (.ifCond .ne 68, 3) := by decide +kernel
theorem dX2_draft_7 : decode cX2_draft 7 = .ok (.aload_n 0, 1) := by decide +kernel
theorem dX2_draft_8 : decode cX2_draft 8 = .ok (.getfield 9, 3) := by decide +kernel
theorem dX2_draft_11 : decode cX2_draft 11 = .ok (.aload_n 0, 1) := by decide +kernel
theorem dX2_draft_12 : decode cX2_draft 12 = .ok (.getfield 40, 3) := by decide +kernel
theorem dX2_draft_15 : decode cX2_draft 15 = .ok (.iload_n 1, 1) := by decide +kernel
theorem dX2_draft_16 : decode cX2_draft 16 = .ok (.castore, 1) := by decide +kernel
theorem dX2_draft_17 : decode cX2_draft 17 = .ok (.aload_n 0, 1) := by decide +kernel
theorem dX2_draft_18 : decode cX2_draft 18 = .ok (.getfield 15, 3) := by decide +kernel
theorem dX2_draft_21 : decode cX2_draft 21 = .ok (.aload_n 0, 1) := by decide +kernel
theorem dX2_draft_22 : decode cX2_draft 22 = .ok (.getfield 40, 3) := by decide +kernel
theorem dX2_draft_25 : decode cX2_draft 25 = .ok (.iload_n 2, 1) := by decide +kernel
theorem dX2_draft_26 : decode cX2_draft 26 = .ok (.iastore, 1) := by decide +kernel
theorem dX2_draft_27 : decode cX2_draft 27 = .ok (.aload_n 0, 1) := by decide +kernel
theorem dX2_draft_28 : decode cX2_draft 28 = .ok (.getfield 19, 3) := by decide +kernel
theorem dX2_draft_31 : decode cX2_draft 31 = .ok (.aload_n 0, 1) := by decide +kernel
theorem dX2_draft_32 : decode cX2_draft 32 = .ok (.getfield 40, 3) := by decide +kernel
theorem dX2_draft_35 : decode cX2_draft 35 = .ok (.iload_n 3, 1) := by decide +kernel
theorem dX2_draft_36 : decode cX2_draft 36 = .ok (.iastore, 1) := by decide +kernel
theorem dX2_draft_37 : decode cX2_draft 37 = .ok (.aload_n 0, 1) := by decide +kernel
theorem dX2_draft_38 : decode cX2_draft 38 = .ok (.getfield 22, 3) := by decide +kernel
theorem dX2_draft_41 : decode cX2_draft 41 = .ok (.aload_n 0, 1) := by decide +kernel
theorem dX2_draft_42 : decode cX2_draft 42 = .ok (.getfield 40, 3) := by decide +kernel
theorem dX2_draft_45 : decode cX2_draft 45 = .ok (.iload 4, 2) := by decide +kernel
theorem dX2_draft_47 : decode cX2_draft 47 = .ok (.iastore, 1) := by decide +kernel
theorem dX2_draft_48 : decode cX2_draft 48 = .ok (.aload_n 0, 1) := by decide +kernel
theorem dX2_draft_49 : decode cX2_draft 49 = .ok (.getfield 25, 3) := by decide +kernel
theorem dX2_draft_52 : decode cX2_draft 52 = .ok (.aload_n 0, 1) := by decide +kernel
theorem dX2_draft_53 : decode cX2_draft 53 = .ok (.getfield 40, 3) := by decide +kernel
theorem dX2_draft_56 : decode cX2_draft 56 = .ok (.iload 5, 2) := by decide +kernel
theorem dX2_draft_58 : decode cX2_draft 58 = .ok (.iastore, 1) := by decide +kernel
theorem dX2_draft_59 : decode cX2_draft 59 = .ok (.aload_n 0, 1) := by decide +kernel
theorem dX2_draft_60 : decode cX2_draft 60 = .ok (.getfield 37, 3) := by decide +kernel
theorem dX2_draft_63 : decode cX2_draft 63 = .ok (.aload_n 0, 1) := by decide +kernel
theorem dX2_draft_64 : decode cX2_draft 64 = .ok (.getfield 40, 3) := by decide +kernel
theorem dX2_draft_67 : decode cX2_draft 67 = .ok (.aload_n 0, 1) := by decide +kernel
theorem dX2_draft_68 : decode cX2_draft 68 = .ok (.getfield 44, 3) := by decide +kernel
theorem dX2_draft_71 : decode cX2_draft 71 = .ok (.iastore, 1) := by decide +kernel
theorem dX2_draft_72 : decode cX2_draft 72 = .ok (.return_, 1) := by decide +kernel
theorem dX2_draftLetters_0 : decode cX2_draftLetters 0 = .ok (.iconst 0, 1) := by decide +kernel
theorem dX2_draftLetters_1 : decode cX2_draftLetters 1 = .ok (.istore_n 2, 1) := by decide +kernel
theorem dX2_draftLetters_2 : decode cX2_draftLetters 2 = .ok (.iload_n 2, 1) := by decide +kernel
theorem dX2_draftLetters_3 : decode cX2_draftLetters 3 = .ok (.aload_n 1, 1) := by decide +kernel
theorem dX2_draftLetters_4 : decode cX2_draftLetters 4 = .ok (.getfield 51, 3) := by decide +kernel
theorem dX2_draftLetters_7 : decode cX2_draftLetters 7 = .ok (.if_icmp .ge 40, 3) := by decide +kernel
theorem dX2_draftLetters_10 : decode cX2_draftLetters 10 = .ok (.aload_n 0, 1) := by decide +kernel
theorem dX2_draftLetters_11 : decode cX2_draftLetters 11 = .ok (.getfield 44, 3) := by decide +kernel
theorem dX2_draftLetters_14 : decode cX2_draftLetters 14 = .ok (.iload_n 2, 1) := by decide +kernel
theorem dX2_draftLetters_15 : decode cX2_draftLetters 15 = .ok (.iadd, 1) := by decide +kernel
theorem dX2_draftLetters_16 : decode cX2_draftLetters 16 = .ok (.aload_n 0, 1) := by decide +kernel
theorem dX2_draftLetters_17 : decode cX2_draftLetters 17 = .ok (.getfield 34, 3) := by decide +kernel
theorem dX2_draftLetters_20 : decode cX2_draftLetters 20 = .ok (.arraylength, 1) := by decide +kernel
theorem dX2_draftLetters_21 : decode cX2_draftLetters 21 = .ok (.if_icmp .ge 26, 3) := by decide +kernel
theorem dX2_draftLetters_24 : decode cX2_draftLetters 24 = .ok (.aload_n 0, 1) := by decide +kernel
theorem dX2_draftLetters_25 : decode cX2_draftLetters 25 = .ok (.getfield 34, 3) := by decide +kernel
theorem dX2_draftLetters_28 : decode cX2_draftLetters 28 = .ok (.aload_n 0, 1) := by decide +kernel
theorem dX2_draftLetters_29 : decode cX2_draftLetters 29 = .ok (.getfield 44, 3) := by decide +kernel
theorem dX2_draftLetters_32 : decode cX2_draftLetters 32 = .ok (.iload_n 2, 1) := by decide +kernel
theorem dX2_draftLetters_33 : decode cX2_draftLetters 33 = .ok (.iadd, 1) := by decide +kernel
theorem dX2_draftLetters_34 : decode cX2_draftLetters 34 = .ok (.aload_n 1, 1) := by decide +kernel
theorem dX2_draftLetters_35 : decode cX2_draftLetters 35 = .ok (.getfield 54, 3) := by decide +kernel
theorem dX2_draftLetters_38 : decode cX2_draftLetters 38 = .ok (.iload_n 2, 1) := by decide +kernel
theorem dX2_draftLetters_39 : decode cX2_draftLetters 39 = .ok (.caload, 1) := by decide +kernel
theorem dX2_draftLetters_40 : decode cX2_draftLetters 40 = .ok (.castore, 1) := by decide +kernel
theorem dX2_draftLetters_41 : decode cX2_draftLetters 41 = .ok (.iinc 2 1, 3) := by decide +kernel
theorem dX2_draftLetters_44 : decode cX2_draftLetters 44 = .ok (.goto (-42), 3) := by decide +kernel
theorem dX2_draftLetters_47 : decode cX2_draftLetters 47 = .ok (.return_, 1) := by decide +kernel
set_option maxRecDepth 20000 in
theorem ggX2_keepDraft_X2_isFull : GoodIn wsX2_keepDraft wsX2_isFull := goodIn_r _ [11, 2, 12, 13, 14, 15, 16, 17, 18, 19, 20, 21, 22] (by decide +kernel) (by decide +kernel)
set_option maxRecDepth 20000 in
theorem gX2_keepDraft_X2_isFull : GoodIn wsX2_keepDraft (wsV RX2 47 RX2 yX2_isFull wsX2_isFull) := goodIn_app (goodIn_of _ (by decide +kernel)) ggX2_keepDraft_X2_isFull
theorem dX2_keepDraft_0 : decode cX2_keepDraft 0 = .ok (.aload_n 0, 1) := by decide +kernel
theorem dX2_keepDraft_1 : decode cX2_keepDraft 1 = .ok (.invokevirtual 47, 3) := by decide +kernel
theorem dX2_keepDraft_4 : decode cX2_keepDraft 4 = .ok (.ifCond .ne 65, 3) := by decide +kernel
theorem dX2_keepDraft_7 : decode cX2_keepDraft 7 = .ok (.aload_n 0, 1) := by decide +kernel
theorem dX2_keepDraft_8 : decode cX2_keepDraft 8 = .ok (.getfield 28, 3) := by decide +kernel
theorem dX2_keepDraft_11 : decode cX2_keepDraft 11 = .ok (.aload_n 0, 1) := by decide +kernel
theorem dX2_keepDraft_12 : decode cX2_keepDraft 12 = .ok (.getfield 40, 3) := by decide +kernel
theorem dX2_keepDraft_15 : decode cX2_keepDraft 15 = .ok (.iload_n 1, 1) := by decide +kernel
theorem dX2_keepDraft_16 : decode cX2_keepDraft 16 = .ok (.iastore, 1) := by decide +kernel
theorem dX2_keepDraft_17 : decode cX2_keepDraft 17 = .ok (.aload_n 0, 1) := by decide +kernel
theorem dX2_keepDraft_18 : decode cX2_keepDraft 18 = .ok (.getfield 31, 3) := by decide +kernel
theorem dX2_keepDraft_21 : decode cX2_keepDraft 21 = .ok (.aload_n 0, 1) := by decide +kernel
theorem dX2_keepDraft_22 : decode cX2_keepDraft 22 = .ok (.getfield 40, 3) := by decide +kernel
theorem dX2_keepDraft_25 : decode cX2_keepDraft 25 = .ok (.iload_n 2, 1) := by decide +kernel
theorem dX2_keepDraft_26 : decode cX2_keepDraft 26 = .ok (.iastore, 1) := by decide +kernel
theorem dX2_keepDraft_27 : decode cX2_keepDraft 27 = .ok (.aload_n 0, 1) := by decide +kernel
theorem dX2_keepDraft_28 : decode cX2_keepDraft 28 = .ok (.getfield 9, 3) := by decide +kernel
theorem dX2_keepDraft_31 : decode cX2_keepDraft 31 = .ok (.aload_n 0, 1) := by decide +kernel
theorem dX2_keepDraft_32 : decode cX2_keepDraft 32 = .ok (.getfield 40, 3) := by decide +kernel
theorem dX2_keepDraft_35 : decode cX2_keepDraft 35 = .ok (.caload, 1) := by decide +kernel
theorem dX2_keepDraft_36 : decode cX2_keepDraft 36 = .ok (.bipush 105, 2) := by decide +kernel
theorem dX2_keepDraft_38 : decode cX2_keepDraft 38 = .ok (.if_icmp .ne 21, 3) := by decide +kernel
theorem dX2_keepDraft_41 : decode cX2_keepDraft 41 = .ok (.aload_n 0, 1) := by decide +kernel
theorem dX2_keepDraft_42 : decode cX2_keepDraft 42 = .ok (.dup, 1) := by decide +kernel
theorem dX2_keepDraft_43 : decode cX2_keepDraft 43 = .ok (.getfield 44, 3) := by decide +kernel
theorem dX2_keepDraft_46 : decode cX2_keepDraft 46 = .ok (.aload_n 0, 1) := by decide +kernel
theorem dX2_keepDraft_47 : decode cX2_keepDraft 47 = .ok (.getfield 22, 3) := by decide +kernel
theorem dX2_keepDraft_50 : decode cX2_keepDraft 50 = .ok (.aload_n 0, 1) := by decide +kernel
theorem dX2_keepDraft_51 : decode cX2_keepDraft 51 = .ok (.getfield 40, 3) := by decide +kernel
theorem dX2_keepDraft_54 : decode cX2_keepDraft 54 = .ok (.iaload, 1) := by decide +kernel
theorem dX2_keepDraft_55 : decode cX2_keepDraft 55 = .ok (.iadd, 1) := by decide +kernel
theorem dX2_keepDraft_56 : decode cX2_keepDraft 56 = .ok (.putfield 44, 3) := by decide +kernel
theorem dX2_keepDraft_59 : decode cX2_keepDraft 59 = .ok (.aload_n 0, 1) := by decide +kernel
theorem dX2_keepDraft_60 : decode cX2_keepDraft 60 = .ok (.dup, 1) := by decide +kernel
theorem dX2_keepDraft_61 : decode cX2_keepDraft 61 = .ok (.getfield 40, 3) := by decide +kernel
theorem dX2_keepDraft_64 : decode cX2_keepDraft 64 = .ok (.iconst 1, 1) := by decide +kernel
theorem dX2_keepDraft_65 : decode cX2_keepDraft 65 = .ok (.iadd, 1) := by decide +kernel
theorem dX2_keepDraft_66 : decode cX2_keepDraft 66 = .ok (.putfield 40, 3) := by decide +kernel
theorem dX2_keepDraft_69 : decode cX2_keepDraft 69 = .ok (.return_, 1) := by decide +kernel
set_option maxRecDepth 20000 in
theorem ggX2_perform_X4_clear : GoodIn wsX2_perform wsX4_clear := goodIn_r _ [10, 11, 59, 60, 61, 62] (by decide +kernel) (by decide +kernel)
set_option maxRecDepth 20000 in
theorem gX2_perform_X4_clear : GoodIn wsX2_perform (wsV RX2 57 RX4 yX4_clear wsX4_clear) := goodIn_app (goodIn_of _ (by decide +kernel)) ggX2_perform_X4_clear
set_option maxRecDepth 20000 in
theorem ggX2_perform_X2_performInsertion : GoodIn wsX2_perform wsX2_performInsertion := goodIn_ca (goodIn_r _ [16, 2, 17, 3, 18, 19, 4, 20, 21, 22, 9, 23, 11, 24, 25, 26, 27, 28, 29, 30, 31, 32, 33, 34, 35, 48, 49, 50, 51, 52, 53, 54, 55, 56, 57, 58, 59, 60, 61, 62] (by decide +kernel) (by decide +kernel)) (goodIn_sub (fun _ h => List.mem_cons_of_mem _ (List.mem_append_right _ h)) (by decide +kernel))
set_option maxRecDepth 20000 in
theorem gX2_perform_X2_performInsertion : GoodIn wsX2_perform (wsV RX2 62 RX2 yX2_performInsertion wsX2_performInsertion) := goodIn_app (goodIn_of _ (by decide +kernel)) ggX2_perform_X2_performInsertion
set_option maxRecDepth 20000 in
theorem ggX2_perform_X4_append : GoodIn wsX2_perform wsX4_append := goodIn_ca (goodIn_r _ [28, 11, 29, 30, 24, 31, 32, 33, 9, 34, 59, 60, 61, 62] (by decide +kernel) (by decide +kernel)) (goodIn_sub (fun _ h => List.mem_cons_of_mem _ (List.mem_append_right _ h)) (by decide +kernel))
set_option maxRecDepth 20000 in
theorem gX2_perform_X4_append : GoodIn wsX2_perform (wsV RX2 66 RX4 yX4_append wsX4_append) := goodIn_app (goodIn_of _ (by decide +kernel)) ggX2_perform_X4_append
set_option maxRecDepth 20000 in
theorem ggX2_perform_X2_performMove : GoodIn wsX2_perform wsX2_performMove := goodIn_ca (goodIn_r _ [38, 4, 25, 26, 27, 9, 28, 11, 29, 30, 24, 31, 32, 33, 34, 39, 40, 41, 42, 43, 21, 22, 23, 44, 45, 46, 47, 59, 60, 61, 62] (by decide +kernel) (by decide +kernel)) (goodIn_sub (fun _ h => List.mem_cons_of_mem _ (List.mem_append_right _ h)) (by decide +kernel))
set_option maxRecDepth 20000 in
theorem gX2_perform_X2_performMove : GoodIn wsX2_perform (va_wsS RX2 71 yX2_performMove wsX2_performMove) := goodIn_app (goodIn_of _ (by decide +kernel)) ggX2_perform_X2_performMove
theorem dX2_perform_0 : decode cX2_perform 0 = .ok (.aload_n 3, 1) := by decide +kernel
theorem dX2_perform_1 : decode cX2_perform 1 = .ok (.invokevirtual 57, 3) := by decide +kernel
theorem dX2_perform_4 : decode cX2_perform 4 = .ok (.aload_n 0, 1) := by decide +kernel
theorem dX2_perform_5 : decode cX2_perform 5 = .ok (.getfield 9, 3) := by decide +kernel
theorem dX2_perform_8 : decode cX2_perform 8 = .ok (.iload_n 1, 1) := by decide +kernel
theorem dX2_perform_9 : decode cX2_perform 9 = .ok (.caload, 1) := by decide +kernel
theorem dX2_perform_10 : decode cX2_perform 10 = .ok (.bipush 105, 2) := by decide +kernel
theorem dX2_perform_12 : decode cX2_perform 12 = .ok (.if_icmp .ne 13, 3) := by decide +kernel
theorem dX2_perform_15 : decode cX2_perform 15 = .ok (.aload_n 0, 1) := by decide +kernel
theorem dX2_perform_16 : decode cX2_perform 16 = .ok (.iload_n 1, 1) := by decide +kernel
theorem dX2_perform_17 : decode cX2_perform 17 = .ok (.aload_n 2, 1) := by decide +kernel
theorem dX2_perform_18 : decode cX2_perform 18 = .ok (.aload_n 3, 1) := by decide +kernel
theorem dX2_perform_19 : decode cX2_perform 19 = .ok (.invokevirtual 62, 3) := by decide +kernel
theorem dX2_perform_22 : decode cX2_perform 22 = .ok (.goto 74, 3) := by decide +kernel
theorem dX2_perform_25 : decode cX2_perform 25 = .ok (.aload_n 0, 1) := by decide +kernel
theorem dX2_perform_26 : decode cX2_perform 26 = .ok (.getfield 9, 3) := by decide +kernel
theorem dX2_perform_29 : decode cX2_perform 29 = .ok (.iload_n 1, 1) := by decide +kernel
theorem dX2_perform_30 : decode cX2_perform 30 = .ok (.caload, 1) := by decide +kernel
theorem dX2_perform_31 : decode cX2_perform 31 = .ok (.bipush 100, 2) := by decide +kernel
theorem dX2_perform_33 : decode cX2_perform 33 = .ok (.if_icmp .ne 40, 3) := by decide +kernel
theorem dX2_perform_36 : decode cX2_perform 36 = .ok (.aload_n 3, 1) := by decide +kernel
theorem dX2_perform_37 : decode cX2_perform 37 = .ok (.aload_n 2, 1) := by decide +kernel
theorem dX2_perform_38 : decode cX2_perform 38 = .ok (.iconst 0, 1) := by decide +kernel
theorem dX2_perform_39 : decode cX2_perform 39 = .ok (.aload_n 0, 1) := by decide +kernel
theorem dX2_perform_40 : decode cX2_perform 40 = .ok (.getfield 19, 3) := by decide +kernel
theorem dX2_perform_43 : decode cX2_perform 43 = .ok (.iload_n 1, 1) := by decide +kernel
theorem dX2_perform_44 : decode cX2_perform 44 = .ok (.iaload, 1) := by decide +kernel
theorem dX2_perform_45 : decode cX2_perform 45 = .ok (.invokevirtual 66, 3) := by decide +kernel
theorem dX2_perform_48 : decode cX2_perform 48 = .ok (.aload_n 3, 1) := by decide +kernel
theorem dX2_perform_49 : decode cX2_perform 49 = .ok (.aload_n 2, 1) := by decide +kernel
theorem dX2_perform_50 : decode cX2_perform 50 = .ok (.aload_n 0, 1) := by decide +kernel
theorem dX2_perform_51 : decode cX2_perform 51 = .ok (.getfield 19, 3) := by decide +kernel
theorem dX2_perform_54 : decode cX2_perform 54 = .ok (.iload_n 1, 1) := by decide +kernel
theorem dX2_perform_55 : decode cX2_perform 55 = .ok (.iaload, 1) := by decide +kernel
theorem dX2_perform_56 : decode cX2_perform 56 = .ok (.aload_n 0, 1) := by decide +kernel
theorem dX2_perform_57 : decode cX2_perform 57 = .ok (.getfield 22, 3) := by decide +kernel
theorem dX2_perform_60 : decode cX2_perform 60 = .ok (.iload_n 1, 1) := by decide +kernel
theorem dX2_perform_61 : decode cX2_perform 61 = .ok (.iaload, 1) := by decide +kernel
theorem dX2_perform_62 : decode cX2_perform 62 = .ok (.iadd, 1) := by decide +kernel
theorem dX2_perform_63 : decode cX2_perform 63 = .ok (.aload_n 2, 1) := by decide +kernel
theorem dX2_perform_64 : decode cX2_perform 64 = .ok (.getfield 70, 3) := by decide +kernel
theorem dX2_perform_67 : decode cX2_perform 67 = .ok (.invokevirtual 66, 3) := by decide +kernel
theorem dX2_perform_70 : decode cX2_perform 70 = .ok (.goto 26, 3) := by decide +kernel
theorem dX2_perform_73 : decode cX2_perform 73 = .ok (.aload_n 0, 1) := by decide +kernel
theorem dX2_perform_74 : decode cX2_perform 74 = .ok (.getfield 19, 3) := by decide +kernel
theorem dX2_perform_77 : decode cX2_perform 77 = .ok (.iload_n 1, 1) := by decide +kernel
theorem dX2_perform_78 : decode cX2_perform 78 = .ok (.iaload, 1) := by decide +kernel
theorem dX2_perform_79 : decode cX2_perform 79 = .ok (.aload_n 0, 1) := by decide +kernel
theorem dX2_perform_80 : decode cX2_perform 80 = .ok (.getfield 22, 3) := by decide +kernel
theorem dX2_perform_83 : decode cX2_perform 83 = .ok (.iload_n 1, 1) := by decide +kernel
theorem dX2_perform_84 : decode cX2_perform 84 = .ok (.iaload, 1) := by decide +kernel
theorem dX2_perform_85 : decode cX2_perform 85 = .ok (.aload_n 0, 1) := by decide +kernel
theorem dX2_perform_86 : decode cX2_perform 86 = .ok (.getfield 25, 3) := by decide +kernel
theorem dX2_perform_89 : decode cX2_perform 89 = .ok (.iload_n 1, 1) := by decide +kernel
theorem dX2_perform_90 : decode cX2_perform 90 = .ok (.iaload, 1) := by decide +kernel
theorem dX2_perform_91 : decode cX2_perform 91 = .ok (.aload_n 2, 1) := by decide +kernel
theorem dX2_perform_92 : decode cX2_perform 92 = .ok (.aload_n 3, 1) := by decide +kernel
theorem dX2_perform_93 : decode cX2_perform 93 = .ok (.invokestatic 71, 3) := by decide +kernel
theorem dX2_perform_96 : decode cX2_perform 96 = .ok (.return_, 1) := by decide +kernel
set_option maxRecDepth 20000 in
theorem ggX2_performInsertion_X4_clauseAround : GoodIn wsX2_performInsertion wsX4_clauseAround := goodIn_ca (goodIn_r _ [11, 12, 13, 36, 37, 38, 39] (by decide +kernel) (by decide +kernel)) (goodIn_sub (fun _ h => List.mem_cons_of_mem _ (List.mem_append_right _ h)) (by decide +kernel))
set_option maxRecDepth 20000 in
theorem gX2_performInsertion_X4_clauseAround : GoodIn wsX2_performInsertion (wsV RX2 75 RX4 yX4_clauseAround wsX4_clauseAround) := goodIn_app (goodIn_of _ (by decide +kernel)) ggX2_performInsertion_X4_clauseAround
set_option maxRecDepth 20000 in
theorem ggX2_performInsertion_X4_append : GoodIn wsX2_performInsertion wsX4_append := goodIn_ca (goodIn_r _ [17, 12, 18, 19, 13, 20, 21, 22, 10, 23, 36, 37, 38, 39] (by decide +kernel) (by decide +kernel)) (goodIn_sub (fun _ h => List.mem_cons_of_mem _ (List.mem_append_right _ h)) (by decide +kernel))
set_option maxRecDepth 20000 in
theorem gX2_performInsertion_X4_append : GoodIn wsX2_performInsertion (wsV RX2 66 RX4 yX4_append wsX4_append) := goodIn_app (goodIn_of _ (by decide +kernel)) ggX2_performInsertion_X4_append
set_option maxRecDepth 20000 in
theorem ggX2_performInsertion_X4_appendOne : GoodIn wsX2_performInsertion wsX4_appendOne := goodIn_ca (goodIn_r _ [23, 12, 18, 19, 13, 36, 37, 38, 39] (by decide +kernel) (by decide +kernel)) (goodIn_sub (fun _ h => List.mem_cons_of_mem _ (List.mem_append_right _ h)) (by decide +kernel))
set_option maxRecDepth 20000 in
theorem gX2_performInsertion_X4_appendOne : GoodIn wsX2_performInsertion (wsV RX2 79 RX4 yX4_appendOne wsX4_appendOne) := goodIn_app (goodIn_of _ (by decide +kernel)) ggX2_performInsertion_X4_appendOne
theorem dX2_performInsertion_0 : decode cX2_performInsertion 0 = .ok (.aload_n 0, 1) := by decide +kernel
theorem dX2_performInsertion_1 : decode cX2_performInsertion 1 = .ok (.getfield 19, 3) := by decide +kernel
theorem dX2_performInsertion_4 : decode cX2_performInsertion 4 = .ok (.iload_n 1, 1) := by decide +kernel
theorem dX2_performInsertion_5 : decode cX2_performInsertion 5 = .ok (.iaload, 1) := by decide +kernel
theorem dX2_performInsertion_6 : decode cX2_performInsertion 6 = .ok (.istore 4, 2) := by decide +kernel
theorem dX2_performInsertion_8 : decode cX2_performInsertion 8 = .ok (.aload_n 2, 1) := by decide +kernel
theorem dX2_performInsertion_9 : decode cX2_performInsertion 9 = .ok (.iload 4, 2) := by decide +kernel
theorem dX2_performInsertion_11 : decode cX2_performInsertion 11 = .ok (.iload 4, 2) := by decide +kernel
theorem dX2_performInsertion_13 : decode cX2_performInsertion 13 = .ok (.invokevirtual 75, 3) := by decide +kernel
theorem dX2_performInsertion_16 : decode cX2_performInsertion 16 = .ok (.istore 5, 2) := by decide +kernel
theorem dX2_performInsertion_18 : decode cX2_performInsertion 18 = .ok (.aload_n 0, 1) := by decide +kernel
theorem dX2_performInsertion_19 : decode cX2_performInsertion 19 = .ok (.getfield 37, 3) := by decide +kernel
theorem dX2_performInsertion_22 : decode cX2_performInsertion 22 = .ok (.iload_n 1, 1) := by decide +kernel
theorem dX2_performInsertion_23 : decode cX2_performInsertion 23 = .ok (.iaload, 1) := by decide +kernel
theorem dX2_performInsertion_24 : decode cX2_performInsertion 24 = .ok (.istore 6, 2) := by decide +kernel
theorem dX2_performInsertion_26 : decode cX2_performInsertion 26 = .ok (.aload_n 3, 1) := by decide +kernel
theorem dX2_performInsertion_27 : decode cX2_performInsertion 27 = .ok (.aload_n 2, 1) := by decide +kernel
theorem dX2_performInsertion_28 : decode cX2_performInsertion 28 = .ok (.iconst 0, 1) := by decide +kernel
theorem dX2_performInsertion_29 : decode cX2_performInsertion 29 = .ok (.iload 4, 2) := by decide +kernel
theorem dX2_performInsertion_31 : decode cX2_performInsertion 31 = .ok (.invokevirtual 66, 3) := by decide +kernel
theorem dX2_performInsertion_34 : decode cX2_performInsertion 34 = .ok (.iload 6, 2) := by decide +kernel
theorem dX2_performInsertion_36 : decode cX2_performInsertion 36 = .ok (.istore 7, 2) := by decide +kernel
theorem dX2_performInsertion_38 : decode cX2_performInsertion 38 = .ok (.iload 7, 2) := by decide +kernel
theorem dX2_performInsertion_40 : decode cX2_performInsertion 40 = .ok (.iload 6, 2) := by decide +kernel
theorem dX2_performInsertion_42 : decode cX2_performInsertion 42 = .ok (.aload_n 0, 1) := by decide +kernel
theorem dX2_performInsertion_43 : decode cX2_performInsertion 43 = .ok (.getfield 22, 3) := by decide +kernel
theorem dX2_performInsertion_46 : decode cX2_performInsertion 46 = .ok (.iload_n 1, 1) := by decide +kernel
theorem dX2_performInsertion_47 : decode cX2_performInsertion 47 = .ok (.iaload, 1) := by decide +kernel
theorem dX2_performInsertion_48 : decode cX2_performInsertion 48 = .ok (.iadd, 1) := by decide +kernel
theorem dX2_performInsertion_49 : decode cX2_performInsertion 49 = .ok (.if_icmp .ge 38, 3) := by decide +kernel
theorem dX2_performInsertion_52 : decode cX2_performInsertion 52 = .ok (.iload 7, 2) := by decide +kernel
theorem dX2_performInsertion_54 : decode cX2_performInsertion 54 = .ok (.aload_n 0, 1) := by decide +kernel
theorem dX2_performInsertion_55 : decode cX2_performInsertion 55 = .ok (.getfield 34, 3) := by decide +kernel
theorem dX2_performInsertion_58 : decode cX2_performInsertion 58 = .ok (.arraylength, 1) := by decide +kernel
theorem dX2_performInsertion_59 : decode cX2_performInsertion 59 = .ok (.if_icmp .ge 28, 3) := by decide +kernel
theorem dX2_performInsertion_62 : decode cX2_performInsertion 62 = .ok (.aload_n 3, 1) := by decide +kernel
theorem dX2_performInsertion_63 : decode cX2_performInsertion 63 = .ok (.aload_n 0, 1) := by decide +kernel
theorem dX2_performInsertion_64 : decode cX2_performInsertion 64 = .ok (.getfield 34, 3) := by decide +kernel
theorem dX2_performInsertion_67 : decode cX2_performInsertion 67 = .ok (.iload 7, 2) := by decide +kernel
theorem dX2_performInsertion_69 : decode cX2_performInsertion 69 = .ok (.caload, 1) := by decide +kernel
theorem dX2_performInsertion_70 : decode cX2_performInsertion 70 = .ok (.aload_n 0, 1) := by decide +kernel
theorem dX2_performInsertion_71 : decode cX2_performInsertion 71 = .ok (.getfield 15, 3) := by decide +kernel
theorem dX2_performInsertion_74 : decode cX2_performInsertion 74 = .ok (.iload_n 1, 1) := by decide +kernel
theorem dX2_performInsertion_75 : decode cX2_performInsertion 75 = .ok (.iaload, 1) := by decide +kernel
theorem dX2_performInsertion_76 : decode cX2_performInsertion 76 = .ok (.iload 5, 2) := by decide +kernel
theorem dX2_performInsertion_78 : decode cX2_performInsertion 78 = .ok (.invokevirtual 79, 3) := by decide +kernel
theorem dX2_performInsertion_81 : decode cX2_performInsertion 81 = .ok (.iinc 7 1, 3) := by decide +kernel
theorem dX2_performInsertion_84 : decode cX2_performInsertion 84 = .ok (.goto (-46), 3) := by decide +kernel
theorem dX2_performInsertion_87 : decode cX2_performInsertion 87 = .ok (.aload_n 3, 1) := by decide +kernel
theorem dX2_performInsertion_88 : decode cX2_performInsertion 88 = .ok (.aload_n 2, 1) := by decide +kernel
theorem dX2_performInsertion_89 : decode cX2_performInsertion 89 = .ok (.iload 4, 2) := by decide +kernel
theorem dX2_performInsertion_91 : decode cX2_performInsertion 91 = .ok (.aload_n 2, 1) := by decide +kernel
theorem dX2_performInsertion_92 : decode cX2_performInsertion 92 = .ok (.getfield 70, 3) := by decide +kernel
theorem dX2_performInsertion_95 : decode cX2_performInsertion 95 = .ok (.invokevirtual 66, 3) := by decide +kernel
theorem dX2_performInsertion_98 : decode cX2_performInsertion 98 = .ok (.return_, 1) := by decide +kernel
set_option maxRecDepth 20000 in
theorem ggX2_performMove_X4_append : GoodIn wsX2_performMove wsX4_append := goodIn_ca (goodIn_r _ [6, 7, 8, 9, 10, 11, 12, 13, 5, 14, 27, 28, 29, 30] (by decide +kernel) (by decide +kernel)) (goodIn_sub (fun _ h => List.mem_cons_of_mem _ (List.mem_append_right _ h)) (by decide +kernel))
set_option maxRecDepth 20000 in
theorem gX2_performMove_X4_append : GoodIn wsX2_performMove (wsV RX2 66 RX4 yX4_append wsX4_append) := goodIn_app (goodIn_of _ (by decide +kernel)) ggX2_performMove_X4_append
set_option maxRecDepth 20000 in
theorem ggX2_performMove_X4_settle : GoodIn wsX2_performMove wsX4_settle := goodIn_ca (goodIn_r _ [18, 7, 10, 19, 20, 21, 5, 22, 23, 24, 25, 26, 27, 28, 29, 30] (by decide +kernel) (by decide +kernel)) (goodIn_sub (fun _ h => List.mem_cons_of_mem _ (List.mem_append_right _ h)) (by decide +kernel))
set_option maxRecDepth 20000 in
theorem gX2_performMove_X4_settle : GoodIn wsX2_performMove (wsV RX2 83 RX4 yX4_settle wsX4_settle) := goodIn_app (goodIn_of _ (by decide +kernel)) ggX2_performMove_X4_settle
theorem dX2_performMove_0 : decode cX2_performMove 0 = .ok (.iload_n 0, 1) := by decide +kernel
theorem dX2_performMove_1 : decode cX2_performMove 1 = .ok (.iload_n 1, 1) := by decide +kernel
theorem dX2_performMove_2 : decode cX2_performMove 2 = .ok (.iadd, 1) := by decide +kernel
theorem dX2_performMove_3 : decode cX2_performMove 3 = .ok (.istore 5, 2) := by decide +kernel
theorem dX2_performMove_5 : decode cX2_performMove 5 = .ok (.iload_n 2, 1) := by decide +kernel
theorem dX2_performMove_6 : decode cX2_performMove 6 = .ok (.iload_n 0, 1) := by decide +kernel
theorem dX2_performMove_7 : decode cX2_performMove 7 = .ok (.if_icmp .gt 43, 3) := by decide +kernel
theorem dX2_performMove_10 : decode cX2_performMove 10 = .ok (.aload 4, 2) := by decide +kernel
theorem dX2_performMove_12 : decode cX2_performMove 12 = .ok (.aload_n 3, 1) := by decide +kernel
theorem dX2_performMove_13 : decode cX2_performMove 13 = .ok (.iconst 0, 1) := by decide +kernel
theorem dX2_performMove_14 : decode cX2_performMove 14 = .ok (.iload_n 2, 1) := by decide +kernel
theorem dX2_performMove_15 : decode cX2_performMove 15 = .ok (.invokevirtual 66, 3) := by decide +kernel
theorem dX2_performMove_18 : decode cX2_performMove 18 = .ok (.aload 4, 2) := by decide +kernel
theorem dX2_performMove_20 : decode cX2_performMove 20 = .ok (.aload_n 3, 1) := by decide +kernel
theorem dX2_performMove_21 : decode cX2_performMove 21 = .ok (.iload_n 0, 1) := by decide +kernel
theorem dX2_performMove_22 : decode cX2_performMove 22 = .ok (.iload 5, 2) := by decide +kernel
theorem dX2_performMove_24 : decode cX2_performMove 24 = .ok (.invokevirtual 66, 3) := by decide +kernel
theorem dX2_performMove_27 : decode cX2_performMove 27 = .ok (.aload 4, 2) := by decide +kernel
theorem dX2_performMove_29 : decode cX2_performMove 29 = .ok (.aload_n 3, 1) := by decide +kernel
theorem dX2_performMove_30 : decode cX2_performMove 30 = .ok (.iload_n 2, 1) := by decide +kernel
theorem dX2_performMove_31 : decode cX2_performMove 31 = .ok (.iload_n 0, 1) := by decide +kernel
theorem dX2_performMove_32 : decode cX2_performMove 32 = .ok (.invokevirtual 66, 3) := by decide +kernel
theorem dX2_performMove_35 : decode cX2_performMove 35 = .ok (.aload 4, 2) := by decide +kernel
theorem dX2_performMove_37 : decode cX2_performMove 37 = .ok (.aload_n 3, 1) := by decide +kernel
theorem dX2_performMove_38 : decode cX2_performMove 38 = .ok (.iload 5, 2) := by decide +kernel
theorem dX2_performMove_40 : decode cX2_performMove 40 = .ok (.aload_n 3, 1) := by decide +kernel
theorem dX2_performMove_41 : decode cX2_performMove 41 = .ok (.getfield 70, 3) := by decide +kernel
theorem dX2_performMove_44 : decode cX2_performMove 44 = .ok (.invokevirtual 66, 3) := by decide +kernel
theorem dX2_performMove_47 : decode cX2_performMove 47 = .ok (.goto 44, 3) := by decide +kernel
theorem dX2_performMove_50 : decode cX2_performMove 50 = .ok (.aload 4, 2) := by decide +kernel
theorem dX2_performMove_52 : decode cX2_performMove 52 = .ok (.aload_n 3, 1) := by decide +kernel
theorem dX2_performMove_53 : decode cX2_performMove 53 = .ok (.iconst 0, 1) := by decide +kernel
theorem dX2_performMove_54 : decode cX2_performMove 54 = .ok (.iload_n 0, 1) := by decide +kernel
theorem dX2_performMove_55 : decode cX2_performMove 55 = .ok (.invokevirtual 66, 3) := by decide +kernel
theorem dX2_performMove_58 : decode cX2_performMove 58 = .ok (.aload 4, 2) := by decide +kernel
theorem dX2_performMove_60 : decode cX2_performMove 60 = .ok (.aload_n 3, 1) := by decide +kernel
theorem dX2_performMove_61 : decode cX2_performMove 61 = .ok (.iload 5, 2) := by decide +kernel
theorem dX2_performMove_63 : decode cX2_performMove 63 = .ok (.iload_n 2, 1) := by decide +kernel
theorem dX2_performMove_64 : decode cX2_performMove 64 = .ok (.iload_n 1, 1) := by decide +kernel
theorem dX2_performMove_65 : decode cX2_performMove 65 = .ok (.iadd, 1) := by decide +kernel
theorem dX2_performMove_66 : decode cX2_performMove 66 = .ok (.invokevirtual 66, 3) := by decide +kernel
theorem dX2_performMove_69 : decode cX2_performMove 69 = .ok (.aload 4, 2) := by decide +kernel
theorem dX2_performMove_71 : decode cX2_performMove 71 = .ok (.aload_n 3, 1) := by decide +kernel
theorem dX2_performMove_72 : decode cX2_performMove 72 = .ok (.iload_n 0, 1) := by decide +kernel
theorem dX2_performMove_73 : decode cX2_performMove 73 = .ok (.iload 5, 2) := by decide +kernel
theorem dX2_performMove_75 : decode cX2_performMove 75 = .ok (.invokevirtual 66, 3) := by decide +kernel
theorem dX2_performMove_78 : decode cX2_performMove 78 = .ok (.aload 4, 2) := by decide +kernel
theorem dX2_performMove_80 : decode cX2_performMove 80 = .ok (.aload_n 3, 1) := by decide +kernel
theorem dX2_performMove_81 : decode cX2_performMove 81 = .ok (.iload_n 2, 1) := by decide +kernel
theorem dX2_performMove_82 : decode cX2_performMove 82 = .ok (.iload_n 1, 1) := by decide +kernel
theorem dX2_performMove_83 : decode cX2_performMove 83 = .ok (.iadd, 1) := by decide +kernel
theorem dX2_performMove_84 : decode cX2_performMove 84 = .ok (.aload_n 3, 1) := by decide +kernel
theorem dX2_performMove_85 : decode cX2_performMove 85 = .ok (.getfield 70, 3) := by decide +kernel
theorem dX2_performMove_88 : decode cX2_performMove 88 = .ok (.invokevirtual 66, 3) := by decide +kernel
theorem dX2_performMove_91 : decode cX2_performMove 91 = .ok (.aload 4, 2) := by decide +kernel
theorem dX2_performMove_93 : decode cX2_performMove 93 = .ok (.iload_n 2, 1) := by decide +kernel
theorem dX2_performMove_94 : decode cX2_performMove 94 = .ok (.iload_n 1, 1) := by decide +kernel
theorem dX2_performMove_95 : decode cX2_performMove 95 = .ok (.invokevirtual 83, 3) := by decide +kernel
theorem dX2_performMove_98 : decode cX2_performMove 98 = .ok (.return_, 1) := by decide +kernel
theorem dX3_init_0 : decode cX3_init 0 = .ok (.aload_n 0, 1) := by decide +kernel
theorem dX3_init_1 : decode cX3_init 1 = .ok (.invokespecial 1, 3) := by decide +kernel
theorem dX3_init_4 : decode cX3_init 4 = .ok (.aload_n 0, 1) := by decide +kernel
theorem dX3_init_5 : decode cX3_init 5 = .ok (.aload_n 1, 1) := by decide +kernel
theorem dX3_init_6 : decode cX3_init 6 = .ok (.putfield 7, 3) := by decide +kernel
theorem dX3_init_9 : decode cX3_init 9 = .ok (.aload_n 0, 1) := by decide +kernel
theorem dX3_init_10 : decode cX3_init 10 = .ok (.iconst 0, 1) := by decide +kernel
theorem dX3_init_11 : decode cX3_init 11 = .ok (.putfield 13, 3) := by decide +kernel
theorem dX3_init_14 : decode cX3_init 14 = .ok (.return_, 1) := by decide +kernel
theorem dX3_isFull_0 : decode cX3_isFull 0 = .ok (.aload_n 0, 1) := by decide +kernel
theorem dX3_isFull_1 : decode cX3_isFull 1 = .ok (.getfield 13, 3) := by decide +kernel
theorem dX3_isFull_4 : decode cX3_isFull 4 = .ok (.aload_n 0, 1) := by decide +kernel
theorem dX3_isFull_5 : decode cX3_isFull 5 = .ok (.getfield 7, 3) := by decide +kernel
theorem dX3_isFull_8 : decode cX3_isFull 8 = .ok (.arraylength, 1) := by decide +kernel
theorem dX3_isFull_9 : decode cX3_isFull 9 = .ok (.if_icmp .lt 7, 3) := by decide +kernel
theorem dX3_isFull_12 : decode cX3_isFull 12 = .ok (.iconst 1, 1) := by decide +kernel
theorem dX3_isFull_13 : decode cX3_isFull 13 = .ok (.goto 4, 3) := by decide +kernel
theorem dX3_isFull_16 : decode cX3_isFull 16 = .ok (.iconst 0, 1) := by decide +kernel
theorem dX3_isFull_17 : decode cX3_isFull 17 = .ok (.ireturn, 1) := by decide +kernel
set_option maxRecDepth 20000 in
theorem ggX3_put_X3_isFull : GoodIn wsX3_put wsX3_isFull := goodIn_r _ [7, 2, 1, 8, 9] (by decide +kernel) (by decide +kernel)
set_option maxRecDepth 20000 in
theorem gX3_put_X3_isFull : GoodIn wsX3_put (wsV RX3 17 RX3 yX3_isFull wsX3_isFull) := goodIn_app (goodIn_of _ (by decide +kernel)) ggX3_put_X3_isFull
theorem dX3_put_0 : decode cX3_put 0 = .ok (.aload_n 0, 1) := by decide +kernel
theorem dX3_put_1 : decode cX3_put 1 = .ok (.invokevirtual 17, 3) := by decide +kernel
theorem dX3_put_4 : decode cX3_put 4 = .ok (.ifCond .ne 23, 3) := by decide +kernel
theorem dX3_put_7 : decode cX3_put 7 = .ok (.aload_n 0, 1) := by decide +kernel
theorem dX3_put_8 : decode cX3_put 8 = .ok (.getfield 7, 3) := by decide +kernel
theorem dX3_put_11 : decode cX3_put 11 = .ok (.aload_n 0, 1) := by decide +kernel
theorem dX3_put_12 : decode cX3_put 12 = .ok (.getfield 13, 3) := by decide +kernel
theorem dX3_put_15 : decode cX3_put 15 = .ok (.iload_n 1, 1) := by decide +kernel
theorem dX3_put_16 : decode cX3_put 16 = .ok (.castore, 1) := by decide +kernel
theorem dX3_put_17 : decode cX3_put 17 = .ok (.aload_n 0, 1) := by decide +kernel
theorem dX3_put_18 : decode cX3_put 18 = .ok (.dup, 1) := by decide +kernel
theorem dX3_put_19 : decode cX3_put 19 = .ok (.getfield 13, 3) := by decide +kernel
theorem dX3_put_22 : decode cX3_put 22 = .ok (.iconst 1, 1) := by decide +kernel
theorem dX3_put_23 : decode cX3_put 23 = .ok (.iadd, 1) := by decide +kernel
theorem dX3_put_24 : decode cX3_put 24 = .ok (.putfield 13, 3) := by decide +kernel
theorem dX3_put_27 : decode cX3_put 27 = .ok (.return_, 1) := by decide +kernel
theorem dX3_clear_0 : decode cX3_clear 0 = .ok (.aload_n 0, 1) := by decide +kernel
theorem dX3_clear_1 : decode cX3_clear 1 = .ok (.iconst 0, 1) := by decide +kernel
theorem dX3_clear_2 : decode cX3_clear 2 = .ok (.putfield 13, 3) := by decide +kernel
theorem dX3_clear_5 : decode cX3_clear 5 = .ok (.return_, 1) := by decide +kernel
theorem dX4_init_0 : decode cX4_init 0 = .ok (.aload_n 0, 1) := by decide +kernel
theorem dX4_init_1 : decode cX4_init 1 = .ok (.invokespecial 3, 3) := by decide +kernel
theorem dX4_init_4 : decode cX4_init 4 = .ok (.aload_n 0, 1) := by decide +kernel
theorem dX4_init_5 : decode cX4_init 5 = .ok (.bipush 60, 2) := by decide +kernel
theorem dX4_init_7 : decode cX4_init 7 = .ok (.newarray .char, 2) := by decide +kernel
theorem dX4_init_9 : decode cX4_init 9 = .ok (.putfield 9, 3) := by decide +kernel
theorem dX4_init_12 : decode cX4_init 12 = .ok (.aload_n 0, 1) := by decide +kernel
theorem dX4_init_13 : decode cX4_init 13 = .ok (.bipush 60, 2) := by decide +kernel
theorem dX4_init_15 : decode cX4_init 15 = .ok (.newarray .int, 2) := by decide +kernel
theorem dX4_init_17 : decode cX4_init 17 = .ok (.putfield 15, 3) := by decide +kernel
theorem dX4_init_20 : decode cX4_init 20 = .ok (.aload_n 0, 1) := by decide +kernel
theorem dX4_init_21 : decode cX4_init 21 = .ok (.bipush 60, 2) := by decide +kernel
theorem dX4_init_23 : decode cX4_init 23 = .ok (.newarray .int, 2) := by decide +kernel
theorem dX4_init_25 : decode cX4_init 25 = .ok (.putfield 19, 3) := by decide +kernel
theorem dX4_init_28 : decode cX4_init 28 = .ok (.aload_n 0, 1) := by decide +kernel
theorem dX4_init_29 : decode cX4_init 29 = .ok (.iconst 0, 1) := by decide +kernel
theorem dX4_init_30 : decode cX4_init 30 = .ok (.putfield 22, 3) := by decide +kernel
theorem dX4_init_33 : decode cX4_init 33 = .ok (.return_, 1) := by decide +kernel
theorem dX4_clear_0 : decode cX4_clear 0 = .ok (.aload_n 0, 1) := by decide +kernel
theorem dX4_clear_1 : decode cX4_clear 1 = .ok (.iconst 0, 1) := by decide +kernel
theorem dX4_clear_2 : decode cX4_clear 2 = .ok (.putfield 22, 3) := by decide +kernel
theorem dX4_clear_5 : decode cX4_clear 5 = .ok (.return_, 1) := by decide +kernel
set_option maxRecDepth 20000 in
theorem ggX4_copyFrom_X4_clear : GoodIn wsX4_copyFrom wsX4_clear := goodIn_r _ [6, 1, 18, 19, 20, 21] (by decide +kernel) (by decide +kernel)
set_option maxRecDepth 20000 in
theorem gX4_copyFrom_X4_clear : GoodIn wsX4_copyFrom (wsV RX4 26 RX4 yX4_clear wsX4_clear) := goodIn_app (goodIn_of _ (by decide +kernel)) ggX4_copyFrom_X4_clear
set_option maxRecDepth 20000 in
theorem ggX4_copyFrom_X4_append : GoodIn wsX4_copyFrom wsX4_append := goodIn_ca (goodIn_r _ [10, 1, 11, 12, 13, 14, 15, 16, 5, 17, 18, 19, 20, 21] (by decide +kernel) (by decide +kernel)) (goodIn_sub (fun _ h => List.mem_cons_of_mem _ (List.mem_append_right _ h)) (by decide +kernel))
set_option maxRecDepth 20000 in
theorem gX4_copyFrom_X4_append : GoodIn wsX4_copyFrom (wsV RX4 29 RX4 yX4_append wsX4_append) := goodIn_app (goodIn_of _ (by decide +kernel)) ggX4_copyFrom_X4_append
theorem dX4_copyFrom_0 : decode cX4_copyFrom 0 = .ok (.aload_n 0, 1) := by decide +kernel
theorem dX4_copyFrom_1 : decode cX4_copyFrom 1 = .ok (.invokevirtual 26, 3) := by decide +kernel
theorem dX4_copyFrom_4 : decode cX4_copyFrom 4 = .ok (.aload_n 0, 1) := by decide +kernel
theorem dX4_copyFrom_5 : decode cX4_copyFrom 5 = .ok (.aload_n 1, 1) := by decide +kernel
theorem dX4_copyFrom_6 : decode cX4_copyFrom 6 = .ok (.iconst 0, 1) := by decide +kernel
theorem dX4_copyFrom_7 : decode cX4_copyFrom 7 = .ok (.aload_n 1, 1) := by decide +kernel
theorem dX4_copyFrom_8 : decode cX4_copyFrom 8 = .ok (.getfield 22, 3) := by decide +kernel
theorem dX4_copyFrom_11 : decode cX4_copyFrom 11 = .ok (.invokevirtual 29, 3) := by decide +kernel
theorem dX4_copyFrom_14 : decode cX4_copyFrom 14 = .ok (.return_, 1) := by decide +kernel
set_option maxRecDepth 20000 in
theorem ggX4_append_X4_appendOne : GoodIn wsX4_append wsX4_appendOne := goodIn_ca (goodIn_r _ [9, 1, 2, 3, 4, 10, 11, 12, 13] (by decide +kernel) (by decide +kernel)) (goodIn_sub (fun _ h => List.mem_cons_of_mem _ (List.mem_append_right _ h)) (by decide +kernel))
set_option maxRecDepth 20000 in
theorem gX4_append_X4_appendOne : GoodIn wsX4_append (wsV RX4 33 RX4 yX4_appendOne wsX4_appendOne) := goodIn_app (goodIn_of _ (by decide +kernel)) ggX4_append_X4_appendOne
theorem dX4_append_0 : decode cX4_append 0 = .ok (.iload_n 2, 1) := by decide +kernel
theorem dX4_append_1 : decode cX4_append 1 = .ok (.istore 4, 2) := by decide +kernel
theorem dX4_append_3 : decode cX4_append 3 = .ok (.iload 4, 2) := by decide +kernel
theorem dX4_append_5 : decode cX4_append 5 = .ok (.iload_n 3, 1) := by decide +kernel
theorem dX4_append_6 : decode cX4_append 6 = .ok (.if_icmp .ge 43, 3) := by decide +kernel
theorem dX4_append_9 : decode cX4_append 9 = .ok (.iload 4, 2) := by decide +kernel
theorem dX4_append_11 : decode cX4_append 11 = .ok (.aload_n 1, 1) := by decide +kernel
theorem dX4_append_12 : decode cX4_append 12 = .ok (.getfield 22, 3) := by decide +kernel
theorem dX4_append_15 : decode cX4_append 15 = .ok (.if_icmp .ge 34, 3) := by decide +kernel
theorem dX4_append_18 : decode cX4_append 18 = .ok (.aload_n 0, 1) := by decide +kernel
theorem dX4_append_19 : decode cX4_append 19 = .ok (.aload_n 1, 1) := by decide +kernel
theorem dX4_append_20 : decode cX4_append 20 = .ok (.getfield 9, 3) := by decide +kernel
theorem dX4_append_23 : decode cX4_append 23 = .ok (.iload 4, 2) := by decide +kernel
theorem dX4_append_25 : decode cX4_append 25 = .ok (.caload, 1) := by decide +kernel
theorem dX4_append_26 : decode cX4_append 26 = .ok (.aload_n 1, 1) := by decide +kernel
theorem dX4_append_27 : decode cX4_append 27 = .ok (.getfield 15, 3) := by decide +kernel
theorem dX4_append_30 : decode cX4_append 30 = .ok (.iload 4, 2) := by decide +kernel
theorem dX4_append_32 : decode cX4_append 32 = .ok (.iaload, 1) := by decide +kernel
theorem dX4_append_33 : decode cX4_append 33 = .ok (.aload_n 1, 1) := by decide +kernel
theorem dX4_append_34 : decode cX4_append 34 = .ok (.getfield 19, 3) := by decide +kernel
theorem dX4_append_37 : decode cX4_append 37 = .ok (.iload 4, 2) := by decide +kernel
theorem dX4_append_39 : decode cX4_append 39 = .ok (.iaload, 1) := by decide +kernel
theorem dX4_append_40 : decode cX4_append 40 = .ok (.invokevirtual 33, 3) := by decide +kernel
theorem dX4_append_43 : decode cX4_append 43 = .ok (.iinc 4 1, 3) := by decide +kernel
theorem dX4_append_46 : decode cX4_append 46 = .ok (.goto (-43), 3) := by decide +kernel
theorem dX4_append_49 : decode cX4_append 49 = .ok (.return_, 1) := by decide +kernel
theorem dX4_appendOne_0 : decode cX4_appendOne 0 = .ok (.aload_n 0, 1) := by decide +kernel
theorem dX4_appendOne_1 : decode cX4_appendOne 1 = .ok (.getfield 22, 3) := by decide +kernel
theorem dX4_appendOne_4 : decode cX4_appendOne 4 = .ok (.bipush 60, 2) := by decide +kernel
theorem dX4_appendOne_6 : decode cX4_appendOne 6 = .ok (.if_icmp .ge 43, 3) := by decide +kernel
theorem dX4_appendOne_9 : decode cX4_appendOne 9 = .ok (.aload_n 0, 1) := by decide +kernel
theorem dX4_appendOne_10 : decode cX4_appendOne 10 = .ok (.getfield 9, 3) := by decide +kernel
theorem dX4_appendOne_13 : decode cX4_appendOne 13 = .ok (.aload_n 0, 1) := by decide +kernel
theorem dX4_appendOne_14 : decode cX4_appendOne 14 = .ok (.getfield 22, 3) := by decide +kernel
theorem dX4_appendOne_17 : decode cX4_appendOne 17 = .ok (.iload_n 1, 1) := by decide +kernel
theorem dX4_appendOne_18 : decode cX4_appendOne 18 = .ok (.castore, 1) := by decide +kernel
theorem dX4_appendOne_19 : decode cX4_appendOne 19 = .ok (.aload_n 0, 1) := by decide +kernel
theorem dX4_appendOne_20 : decode cX4_appendOne 20 = .ok (.getfield 15, 3) := by decide +kernel
theorem dX4_appendOne_23 : decode cX4_appendOne 23 = .ok (.aload_n 0, 1) := by decide +kernel
theorem dX4_appendOne_24 : decode cX4_appendOne 24 = .ok (.getfield 22, 3) := by decide +kernel
theorem dX4_appendOne_27 : decode cX4_appendOne 27 = .ok (.iload_n 2, 1) := by decide +kernel
theorem dX4_appendOne_28 : decode cX4_appendOne 28 = .ok (.iastore, 1) := by decide +kernel
theorem dX4_appendOne_29 : decode cX4_appendOne 29 = .ok (.aload_n 0, 1) := by decide +kernel
theorem dX4_appendOne_30 : decode cX4_appendOne 30 = .ok (.getfield 19, 3) := by decide +kernel
theorem dX4_appendOne_33 : decode cX4_appendOne 33 = .ok (.aload_n 0, 1) := by decide +kernel
theorem dX4_appendOne_34 : decode cX4_appendOne 34 = .ok (.getfield 22, 3) := by decide +kernel
theorem dX4_appendOne_37 : decode cX4_appendOne 37 = .ok (.iload_n 3, 1) := by decide +kernel
theorem dX4_appendOne_38 : decode cX4_appendOne 38 = .ok (.iastore, 1) := by decide +kernel
theorem dX4_appendOne_39 : decode cX4_appendOne 39 = .ok (.aload_n 0, 1) := by decide +kernel
theorem dX4_appendOne_40 : decode cX4_appendOne 40 = .ok (.dup, 1) := by decide +kernel
theorem dX4_appendOne_41 : decode cX4_appendOne 41 = .ok (.getfield 22, 3) := by decide +kernel
theorem dX4_appendOne_44 : decode cX4_appendOne 44 = .ok (.iconst 1, 1) := by decide +kernel
theorem dX4_appendOne_45 : decode cX4_appendOne 45 = .ok (.iadd, 1) := by decide +kernel
theorem dX4_appendOne_46 : decode cX4_appendOne 46 = .ok (.putfield 22, 3) := by decide +kernel
theorem dX4_appendOne_49 : decode cX4_appendOne 49 = .ok (.return_, 1) := by decide +kernel
theorem dX4_clauseAround_0 : decode cX4_clauseAround 0 = .ok (.iload_n 1, 1) := by decide +kernel
theorem dX4_clauseAround_1 : decode cX4_clauseAround 1 = .ok (.ifCond .le 28, 3) := by decide +kernel
theorem dX4_clauseAround_4 : decode cX4_clauseAround 4 = .ok (.iload_n 2, 1) := by decide +kernel
theorem dX4_clauseAround_5 : decode cX4_clauseAround 5 = .ok (.aload_n 0, 1) := by decide +kernel
theorem dX4_clauseAround_6 : decode cX4_clauseAround 6 = .ok (.getfield 22, 3) := by decide +kernel
theorem dX4_clauseAround_9 : decode cX4_clauseAround 9 = .ok (.if_icmp .ge 20, 3) := by decide +kernel
theorem dX4_clauseAround_12 : decode cX4_clauseAround 12 = .ok (.aload_n 0, 1) := by decide +kernel
theorem dX4_clauseAround_13 : decode cX4_clauseAround 13 = .ok (.getfield 19, 3) := by decide +kernel
theorem dX4_clauseAround_16 : decode cX4_clauseAround 16 = .ok (.iload_n 1, 1) := by decide +kernel
theorem dX4_clauseAround_17 : decode cX4_clauseAround 17 = .ok (.iconst 1, 1) := by decide +kernel
theorem dX4_clauseAround_18 : decode cX4_clauseAround 18 = .ok (.isub, 1) := by decide +kernel
theorem dX4_clauseAround_19 : decode cX4_clauseAround 19 = .ok (.iaload, 1) := by decide +kernel
theorem dX4_clauseAround_20 : decode cX4_clauseAround 20 = .ok (.aload_n 0, 1) := by decide +kernel
theorem dX4_clauseAround_21 : decode cX4_clauseAround 21 = .ok (.getfield 19, 3) := by decide +kernel
theorem dX4_clauseAround_24 : decode cX4_clauseAround 24 = .ok (.iload_n 2, 1) := by decide +kernel
theorem dX4_clauseAround_25 : decode cX4_clauseAround 25 = .ok (.iaload, 1) := by decide +kernel
theorem dX4_clauseAround_26 : decode cX4_clauseAround 26 = .ok (.if_icmp .eq 5, 3) := by decide +kernel
theorem dX4_clauseAround_29 : decode cX4_clauseAround 29 = .ok (.iconst (-1), 1) := by decide +kernel
theorem dX4_clauseAround_30 : decode cX4_clauseAround 30 = .ok (.ireturn, 1) := by decide +kernel
theorem dX4_clauseAround_31 : decode cX4_clauseAround 31 = .ok (.aload_n 0, 1) := by decide +kernel
theorem dX4_clauseAround_32 : decode cX4_clauseAround 32 = .ok (.getfield 19, 3) := by decide +kernel
theorem dX4_clauseAround_35 : decode cX4_clauseAround 35 = .ok (.iload_n 2, 1) := by decide +kernel
theorem dX4_clauseAround_36 : decode cX4_clauseAround 36 = .ok (.iaload, 1) := by decide +kernel
theorem dX4_clauseAround_37 : decode cX4_clauseAround 37 = .ok (.ireturn, 1) := by decide +kernel
theorem dX4_isFree_0 : decode cX4_isFree 0 = .ok (.iload_n 1, 1) := by decide +kernel
theorem dX4_isFree_1 : decode cX4_isFree 1 = .ok (.istore_n 3, 1) := by decide +kernel
theorem dX4_isFree_2 : decode cX4_isFree 2 = .ok (.iload_n 3, 1) := by decide +kernel
theorem dX4_isFree_3 : decode cX4_isFree 3 = .ok (.iload_n 1, 1) := by decide +kernel
theorem dX4_isFree_4 : decode cX4_isFree 4 = .ok (.iload_n 2, 1) := by decide +kernel
theorem dX4_isFree_5 : decode cX4_isFree 5 = .ok (.iadd, 1) := by decide +kernel
theorem dX4_isFree_6 : decode cX4_isFree 6 = .ok (.if_icmp .ge 29, 3) := by decide +kernel
theorem dX4_isFree_9 : decode cX4_isFree 9 = .ok (.iload_n 3, 1) := by decide +kernel
theorem dX4_isFree_10 : decode cX4_isFree 10 = .ok (.aload_n 0, 1) := by decide +kernel
theorem dX4_isFree_11 : decode cX4_isFree 11 = .ok (.getfield 22, 3) := by decide +kernel
theorem dX4_isFree_14 : decode cX4_isFree 14 = .ok (.if_icmp .ge 21, 3) := by decide +kernel
theorem dX4_isFree_17 : decode cX4_isFree 17 = .ok (.aload_n 0, 1) := by decide +kernel
theorem dX4_isFree_18 : decode cX4_isFree 18 = .ok (.getfield 19, 3) := by decide +kernel
theorem dX4_isFree_21 : decode cX4_isFree 21 = .ok (.iload_n 3, 1) := by decide +kernel
theorem dX4_isFree_22 : decode cX4_isFree 22 = .ok (.iaload, 1) := by decide +kernel
theorem dX4_isFree_23 : decode cX4_isFree 23 = .ok (.iconst (-1), 1) := by decide +kernel
theorem dX4_isFree_24 : decode cX4_isFree 24 = .ok (.if_icmp .eq 5, 3) := by decide +kernel
theorem dX4_isFree_27 : decode cX4_isFree 27 = .ok (.iconst 0, 1) := by decide +kernel
theorem dX4_isFree_28 : decode cX4_isFree 28 = .ok (.ireturn, 1) := by decide +kernel
theorem dX4_isFree_29 : decode cX4_isFree 29 = .ok (.iinc 3 1, 3) := by decide +kernel
theorem dX4_isFree_32 : decode cX4_isFree 32 = .ok (.goto (-30), 3) := by decide +kernel
theorem dX4_isFree_35 : decode cX4_isFree 35 = .ok (.iconst 1, 1) := by decide +kernel
theorem dX4_isFree_36 : decode cX4_isFree 36 = .ok (.ireturn, 1) := by decide +kernel
theorem dX4_mark_0 : decode cX4_mark 0 = .ok (.iload_n 1, 1) := by decide +kernel
theorem dX4_mark_1 : decode cX4_mark 1 = .ok (.istore 4, 2) := by decide +kernel
theorem dX4_mark_3 : decode cX4_mark 3 = .ok (.iload 4, 2) := by decide +kernel
theorem dX4_mark_5 : decode cX4_mark 5 = .ok (.iload_n 1, 1) := by decide +kernel
theorem dX4_mark_6 : decode cX4_mark 6 = .ok (.iload_n 2, 1) := by decide +kernel
theorem dX4_mark_7 : decode cX4_mark 7 = .ok (.iadd, 1) := by decide +kernel
theorem dX4_mark_8 : decode cX4_mark 8 = .ok (.if_icmp .ge 26, 3) := by decide +kernel
theorem dX4_mark_11 : decode cX4_mark 11 = .ok (.iload 4, 2) := by decide +kernel
theorem dX4_mark_13 : decode cX4_mark 13 = .ok (.aload_n 0, 1) := by decide +kernel
theorem dX4_mark_14 : decode cX4_mark 14 = .ok (.getfield 22, 3) := by decide +kernel
theorem dX4_mark_17 : decode cX4_mark 17 = .ok (.if_icmp .ge 17, 3) := by decide +kernel
theorem dX4_mark_20 : decode cX4_mark 20 = .ok (.aload_n 0, 1) := by decide +kernel
theorem dX4_mark_21 : decode cX4_mark 21 = .ok (.getfield 19, 3) := by decide +kernel
theorem dX4_mark_24 : decode cX4_mark 24 = .ok (.iload 4, 2) := by decide +kernel
theorem dX4_mark_26 : decode cX4_mark 26 = .ok (.iload_n 3, 1) := by decide +kernel
theorem dX4_mark_27 : decode cX4_mark 27 = .ok (.iastore, 1) := by decide +kernel
theorem dX4_mark_28 : decode cX4_mark 28 = .ok (.iinc 4 1, 3) := by decide +kernel
theorem dX4_mark_31 : decode cX4_mark 31 = .ok (.goto (-28), 3) := by decide +kernel
theorem dX4_mark_34 : decode cX4_mark 34 = .ok (.return_, 1) := by decide +kernel
set_option maxRecDepth 20000 in
theorem ggX4_settle_X4_clauseAround : GoodIn wsX4_settle wsX4_clauseAround := goodIn_ca (goodIn_r _ [7, 1, 2, 12, 13, 14, 15] (by decide +kernel) (by decide +kernel)) (goodIn_sub (fun _ h => List.mem_cons_of_mem _ (List.mem_append_right _ h)) (by decide +kernel))
set_option maxRecDepth 20000 in
theorem gX4_settle_X4_clauseAround : GoodIn wsX4_settle (wsV RX4 37 RX4 yX4_clauseAround wsX4_clauseAround) := goodIn_app (goodIn_of _ (by decide +kernel)) ggX4_settle_X4_clauseAround
set_option maxRecDepth 20000 in
theorem ggX4_settle_X4_standsOutside : GoodIn wsX4_settle wsX4_standsOutside := goodIn_ca (goodIn_r _ [11, 1, 2, 12, 13, 14, 15] (by decide +kernel) (by decide +kernel)) (goodIn_sub (fun _ h => List.mem_cons_of_mem _ (List.mem_append_right _ h)) (by decide +kernel))
set_option maxRecDepth 20000 in
theorem gX4_settle_X4_standsOutside : GoodIn wsX4_settle (wsV RX4 41 RX4 yX4_standsOutside wsX4_standsOutside) := goodIn_app (goodIn_of _ (by decide +kernel)) ggX4_settle_X4_standsOutside
theorem dX4_settle_0 : decode cX4_settle 0 = .ok (.iload_n 1, 1) := by decide +kernel
theorem dX4_settle_1 : decode cX4_settle 1 = .ok (.iload_n 2, 1) := by decide +kernel
theorem dX4_settle_2 : decode cX4_settle 2 = .ok (.iadd, 1) := by decide +kernel
theorem dX4_settle_3 : decode cX4_settle 3 = .ok (.istore_n 3, 1) := by decide +kernel
theorem dX4_settle_4 : decode cX4_settle 4 = .ok (.aload_n 0, 1) := by decide +kernel
theorem dX4_settle_5 : decode cX4_settle 5 = .ok (.iload_n 1, 1) := by decide +kernel
theorem dX4_settle_6 : decode cX4_settle 6 = .ok (.iload_n 3, 1) := by decide +kernel
theorem dX4_settle_7 : decode cX4_settle 7 = .ok (.invokevirtual 37, 3) := by decide +kernel
theorem dX4_settle_10 : decode cX4_settle 10 = .ok (.istore 4, 2) := by decide +kernel
theorem dX4_settle_12 : decode cX4_settle 12 = .ok (.iload_n 1, 1) := by decide +kernel
theorem dX4_settle_13 : decode cX4_settle 13 = .ok (.istore 5, 2) := by decide +kernel
theorem dX4_settle_15 : decode cX4_settle 15 = .ok (.iload 5, 2) := by decide +kernel
theorem dX4_settle_17 : decode cX4_settle 17 = .ok (.iload_n 3, 1) := by decide +kernel
theorem dX4_settle_18 : decode cX4_settle 18 = .ok (.if_icmp .ge 54, 3) := by decide +kernel
theorem dX4_settle_21 : decode cX4_settle 21 = .ok (.iload 5, 2) := by decide +kernel
theorem dX4_settle_23 : decode cX4_settle 23 = .ok (.aload_n 0, 1) := by decide +kernel
theorem dX4_settle_24 : decode cX4_settle 24 = .ok (.getfield 22, 3) := by decide +kernel
theorem dX4_settle_27 : decode cX4_settle 27 = .ok (.if_icmp .ge 45, 3) := by decide +kernel
theorem dX4_settle_30 : decode cX4_settle 30 = .ok (.aload_n 0, 1) := by decide +kernel
theorem dX4_settle_31 : decode cX4_settle 31 = .ok (.getfield 19, 3) := by decide +kernel
theorem dX4_settle_34 : decode cX4_settle 34 = .ok (.iload 5, 2) := by decide +kernel
theorem dX4_settle_36 : decode cX4_settle 36 = .ok (.iaload, 1) := by decide +kernel
theorem dX4_settle_37 : decode cX4_settle 37 = .ok (.iconst (-1), 1) := by decide +kernel
theorem dX4_settle_38 : decode cX4_settle 38 = .ok (.if_icmp .eq 19, 3) := by decide +kernel
theorem dX4_settle_41 : decode cX4_settle 41 = .ok (.aload_n 0, 1) := by decide +kernel
theorem dX4_settle_42 : decode cX4_settle 42 = .ok (.aload_n 0, 1) := by decide +kernel
theorem dX4_settle_43 : decode cX4_settle 43 = .ok (.getfield 19, 3) := by decide +kernel
theorem dX4_settle_46 : decode cX4_settle 46 = .ok (.iload 5, 2) := by decide +kernel
theorem dX4_settle_48 : decode cX4_settle 48 = .ok (.iaload, 1) := by decide +kernel
theorem dX4_settle_49 : decode cX4_settle 49 = .ok (.iload_n 1, 1) := by decide +kernel
theorem dX4_settle_50 : decode cX4_settle 50 = .ok (.iload_n 3, 1) := by decide +kernel
theorem dX4_settle_51 : decode cX4_settle 51 = .ok (.invokevirtual 41, 3) := by decide +kernel
theorem dX4_settle_54 : decode cX4_settle 54 = .ok (.ifCond .eq 12, 3) := by decide +kernel
theorem dX4_settle_57 : decode cX4_settle 57 = .ok (.aload_n 0, 1) := by decide +kernel
theorem dX4_settle_58 : decode cX4_settle 58 = .ok (.getfield 19, 3) := by decide +kernel
theorem dX4_settle_61 : decode cX4_settle 61 = .ok (.iload 5, 2) := by decide +kernel
theorem dX4_settle_63 : decode cX4_settle 63 = .ok (.iload 4, 2) := by decide +kernel
theorem dX4_settle_65 : decode cX4_settle 65 = .ok (.iastore, 1) := by decide +kernel
theorem dX4_settle_66 : decode cX4_settle 66 = .ok (.iinc 5 1, 3) := by decide +kernel
theorem dX4_settle_69 : decode cX4_settle 69 = .ok (.goto (-54), 3) := by decide +kernel
theorem dX4_settle_72 : decode cX4_settle 72 = .ok (.return_, 1) := by decide +kernel
theorem dX4_standsOutside_0 : decode cX4_standsOutside 0 = .ok (.iconst 0, 1) := by decide +kernel
theorem dX4_standsOutside_1 : decode cX4_standsOutside 1 = .ok (.istore 4, 2) := by decide +kernel
theorem dX4_standsOutside_3 : decode cX4_standsOutside 3 = .ok (.iload 4, 2) := by decide +kernel
theorem dX4_standsOutside_5 : decode cX4_standsOutside 5 = .ok (.aload_n 0, 1) := by decide +kernel
theorem dX4_standsOutside_6 : decode cX4_standsOutside 6 = .ok (.getfield 22, 3) := by decide +kernel
theorem dX4_standsOutside_9 : decode cX4_standsOutside 9 = .ok (.if_icmp .ge 34, 3) := by decide +kernel
theorem dX4_standsOutside_12 : decode cX4_standsOutside 12 = .ok (.aload_n 0, 1) := by decide +kernel
theorem dX4_standsOutside_13 : decode cX4_standsOutside 13 = .ok (.getfield 19, 3) := by decide +kernel
theorem dX4_standsOutside_16 : decode cX4_standsOutside 16 = .ok (.iload 4, 2) := by decide +kernel
theorem dX4_standsOutside_18 : decode cX4_standsOutside 18 = .ok (.iaload, 1) := by decide +kernel
theorem dX4_standsOutside_19 : decode cX4_standsOutside 19 = .ok (.iload_n 1, 1) := by decide +kernel
theorem dX4_standsOutside_20 : decode cX4_standsOutside 20 = .ok (.if_icmp .ne 17, 3) := by decide +kernel
theorem dX4_standsOutside_23 : decode cX4_standsOutside 23 = .ok (.iload 4, 2) := by decide +kernel
theorem dX4_standsOutside_25 : decode cX4_standsOutside 25 = .ok (.iload_n 2, 1) := by decide +kernel
theorem dX4_standsOutside_26 : decode cX4_standsOutside 26 = .ok (.if_icmp .lt 9, 3) := by decide +kernel
theorem dX4_standsOutside_29 : decode cX4_standsOutside 29 = .ok (.iload 4, 2) := by decide +kernel
theorem dX4_standsOutside_31 : decode cX4_standsOutside 31 = .ok (.iload_n 3, 1) := by decide +kernel
theorem dX4_standsOutside_32 : decode cX4_standsOutside 32 = .ok (.if_icmp .lt 5, 3) := by decide +kernel
theorem dX4_standsOutside_35 : decode cX4_standsOutside 35 = .ok (.iconst 1, 1) := by decide +kernel
theorem dX4_standsOutside_36 : decode cX4_standsOutside 36 = .ok (.ireturn, 1) := by decide +kernel
theorem dX4_standsOutside_37 : decode cX4_standsOutside 37 = .ok (.iinc 4 1, 3) := by decide +kernel
theorem dX4_standsOutside_40 : decode cX4_standsOutside 40 = .ok (.goto (-37), 3) := by decide +kernel
theorem dX4_standsOutside_43 : decode cX4_standsOutside 43 = .ok (.iconst 0, 1) := by decide +kernel
theorem dX4_standsOutside_44 : decode cX4_standsOutside 44 = .ok (.ireturn, 1) := by decide +kernel
theorem dX4_countOfClause_0 : decode cX4_countOfClause 0 = .ok (.iconst 0, 1) := by decide +kernel
theorem dX4_countOfClause_1 : decode cX4_countOfClause 1 = .ok (.istore_n 2, 1) := by decide +kernel
theorem dX4_countOfClause_2 : decode cX4_countOfClause 2 = .ok (.iconst 0, 1) := by decide +kernel
theorem dX4_countOfClause_3 : decode cX4_countOfClause 3 = .ok (.istore_n 3, 1) := by decide +kernel
theorem dX4_countOfClause_4 : decode cX4_countOfClause 4 = .ok (.iload_n 3, 1) := by decide +kernel
theorem dX4_countOfClause_5 : decode cX4_countOfClause 5 = .ok (.aload_n 0, 1) := by decide +kernel
theorem dX4_countOfClause_6 : decode cX4_countOfClause 6 = .ok (.getfield 22, 3) := by decide +kernel
theorem dX4_countOfClause_9 : decode cX4_countOfClause 9 = .ok (.if_icmp .ge 22, 3) := by decide +kernel
theorem dX4_countOfClause_12 : decode cX4_countOfClause 12 = .ok (.aload_n 0, 1) := by decide +kernel
theorem dX4_countOfClause_13 : decode cX4_countOfClause 13 = .ok (.getfield 19, 3) := by decide +kernel
theorem dX4_countOfClause_16 : decode cX4_countOfClause 16 = .ok (.iload_n 3, 1) := by decide +kernel
theorem dX4_countOfClause_17 : decode cX4_countOfClause 17 = .ok (.iaload, 1) := by decide +kernel
theorem dX4_countOfClause_18 : decode cX4_countOfClause 18 = .ok (.iload_n 1, 1) := by decide +kernel
theorem dX4_countOfClause_19 : decode cX4_countOfClause 19 = .ok (.if_icmp .ne 6, 3) := by decide +kernel
theorem dX4_countOfClause_22 : decode cX4_countOfClause 22 = .ok (.iinc 2 1, 3) := by decide +kernel
theorem dX4_countOfClause_25 : decode cX4_countOfClause 25 = .ok (.iinc 3 1, 3) := by decide +kernel
theorem dX4_countOfClause_28 : decode cX4_countOfClause 28 = .ok (.goto (-24), 3) := by decide +kernel
theorem dX4_countOfClause_31 : decode cX4_countOfClause 31 = .ok (.iload_n 2, 1) := by decide +kernel
theorem dX4_countOfClause_32 : decode cX4_countOfClause 32 = .ok (.ireturn, 1) := by decide +kernel
set_option maxRecDepth 20000 in
theorem ggX4_clausesUnlike_X4_hasWordsOf : GoodIn wsX4_clausesUnlike wsX4_hasWordsOf := goodIn_ca (goodIn_r _ [5, 6, 7, 8, 9, 10, 11, 4, 12, 13, 14, 15, 16] (by decide +kernel) (by decide +kernel)) (goodIn_sub (fun _ h => List.mem_cons_of_mem _ (List.mem_append_right _ h)) (by decide +kernel))
set_option maxRecDepth 20000 in
theorem gX4_clausesUnlike_X4_hasWordsOf : GoodIn wsX4_clausesUnlike (wsV RX4 45 RX4 yX4_hasWordsOf wsX4_hasWordsOf) := goodIn_app (goodIn_of _ (by decide +kernel)) ggX4_clausesUnlike_X4_hasWordsOf
theorem dX4_clausesUnlike_0 : decode cX4_clausesUnlike 0 = .ok (.iconst 0, 1) := by decide +kernel
theorem dX4_clausesUnlike_1 : decode cX4_clausesUnlike 1 = .ok (.istore_n 3, 1) := by decide +kernel
theorem dX4_clausesUnlike_2 : decode cX4_clausesUnlike 2 = .ok (.iconst 0, 1) := by decide +kernel
theorem dX4_clausesUnlike_3 : decode cX4_clausesUnlike 3 = .ok (.istore 4, 2) := by decide +kernel
theorem dX4_clausesUnlike_5 : decode cX4_clausesUnlike 5 = .ok (.iload 4, 2) := by decide +kernel
theorem dX4_clausesUnlike_7 : decode cX4_clausesUnlike 7 = .ok (.iload_n 2, 1) := by decide +kernel
theorem dX4_clausesUnlike_8 : decode cX4_clausesUnlike 8 = .ok (.if_icmp .ge 26, 3) := by decide +kernel
theorem dX4_clausesUnlike_11 : decode cX4_clausesUnlike 11 = .ok (.aload_n 0, 1) := by decide +kernel
theorem dX4_clausesUnlike_12 : decode cX4_clausesUnlike 12 = .ok (.aload_n 1, 1) := by decide +kernel
theorem dX4_clausesUnlike_13 : decode cX4_clausesUnlike 13 = .ok (.iload 4, 2) := by decide +kernel
theorem dX4_clausesUnlike_15 : decode cX4_clausesUnlike 15 = .ok (.invokevirtual 45, 3) := by decide +kernel
theorem dX4_clausesUnlike_18 : decode cX4_clausesUnlike 18 = .ok (.ifCond .ne 10, 3) := by decide +kernel
theorem dX4_clausesUnlike_21 : decode cX4_clausesUnlike 21 = .ok (.iload_n 3, 1) := by decide +kernel
theorem dX4_clausesUnlike_22 : decode cX4_clausesUnlike 22 = .ok (.iconst 1, 1) := by decide +kernel
theorem dX4_clausesUnlike_23 : decode cX4_clausesUnlike 23 = .ok (.iload 4, 2) := by decide +kernel
theorem dX4_clausesUnlike_25 : decode cX4_clausesUnlike 25 = .ok (.ishl, 1) := by decide +kernel
theorem dX4_clausesUnlike_26 : decode cX4_clausesUnlike 26 = .ok (.ior, 1) := by decide +kernel
theorem dX4_clausesUnlike_27 : decode cX4_clausesUnlike 27 = .ok (.istore_n 3, 1) := by decide +kernel
theorem dX4_clausesUnlike_28 : decode cX4_clausesUnlike 28 = .ok (.iinc 4 1, 3) := by decide +kernel
theorem dX4_clausesUnlike_31 : decode cX4_clausesUnlike 31 = .ok (.goto (-26), 3) := by decide +kernel
theorem dX4_clausesUnlike_34 : decode cX4_clausesUnlike 34 = .ok (.iload_n 3, 1) := by decide +kernel
theorem dX4_clausesUnlike_35 : decode cX4_clausesUnlike 35 = .ok (.ireturn, 1) := by decide +kernel
set_option maxRecDepth 20000 in
theorem ggX4_hasWordsOf_X4_next : GoodIn wsX4_hasWordsOf wsX4_next := goodIn_ca (goodIn_r _ [8, 1, 2, 9, 10, 11, 12] (by decide +kernel) (by decide +kernel)) (goodIn_sub (fun _ h => List.mem_cons_of_mem _ (List.mem_append_right _ h)) (by decide +kernel))
set_option maxRecDepth 20000 in
theorem gX4_hasWordsOf_X4_next : GoodIn wsX4_hasWordsOf (wsV RX4 49 RX4 yX4_next wsX4_next) := goodIn_app (goodIn_of _ (by decide +kernel)) ggX4_hasWordsOf_X4_next
theorem dX4_hasWordsOf_0 : decode cX4_hasWordsOf 0 = .ok (.aload_n 0, 1) := by decide +kernel
theorem dX4_hasWordsOf_1 : decode cX4_hasWordsOf 1 = .ok (.iload_n 2, 1) := by decide +kernel
theorem dX4_hasWordsOf_2 : decode cX4_hasWordsOf 2 = .ok (.iconst 0, 1) := by decide +kernel
theorem dX4_hasWordsOf_3 : decode cX4_hasWordsOf 3 = .ok (.invokevirtual 49, 3) := by decide +kernel
theorem dX4_hasWordsOf_6 : decode cX4_hasWordsOf 6 = .ok (.istore_n 3, 1) := by decide +kernel
theorem dX4_hasWordsOf_7 : decode cX4_hasWordsOf 7 = .ok (.iconst 0, 1) := by decide +kernel
theorem dX4_hasWordsOf_8 : decode cX4_hasWordsOf 8 = .ok (.istore 4, 2) := by decide +kernel
theorem dX4_hasWordsOf_10 : decode cX4_hasWordsOf 10 = .ok (.iload 4, 2) := by decide +kernel
theorem dX4_hasWordsOf_12 : decode cX4_hasWordsOf 12 = .ok (.aload_n 1, 1) := by decide +kernel
theorem dX4_hasWordsOf_13 : decode cX4_hasWordsOf 13 = .ok (.getfield 22, 3) := by decide +kernel
theorem dX4_hasWordsOf_16 : decode cX4_hasWordsOf 16 = .ok (.if_icmp .ge 55, 3) := by decide +kernel
theorem dX4_hasWordsOf_19 : decode cX4_hasWordsOf 19 = .ok (.aload_n 1, 1) := by decide +kernel
theorem dX4_hasWordsOf_20 : decode cX4_hasWordsOf 20 = .ok (.getfield 19, 3) := by decide +kernel
theorem dX4_hasWordsOf_23 : decode cX4_hasWordsOf 23 = .ok (.iload 4, 2) := by decide +kernel
theorem dX4_hasWordsOf_25 : decode cX4_hasWordsOf 25 = .ok (.iaload, 1) := by decide +kernel
theorem dX4_hasWordsOf_26 : decode cX4_hasWordsOf 26 = .ok (.iload_n 2, 1) := by decide +kernel
theorem dX4_hasWordsOf_27 : decode cX4_hasWordsOf 27 = .ok (.if_icmp .ne 38, 3) := by decide +kernel
theorem dX4_hasWordsOf_30 : decode cX4_hasWordsOf 30 = .ok (.iload_n 3, 1) := by decide +kernel
theorem dX4_hasWordsOf_31 : decode cX4_hasWordsOf 31 = .ok (.aload_n 0, 1) := by decide +kernel
theorem dX4_hasWordsOf_32 : decode cX4_hasWordsOf 32 = .ok (.getfield 22, 3) := by decide +kernel
theorem dX4_hasWordsOf_35 : decode cX4_hasWordsOf 35 = .ok (.if_icmp .ge 19, 3) := by decide +kernel
theorem dX4_hasWordsOf_38 : decode cX4_hasWordsOf 38 = .ok (.aload_n 0, 1) := by decide +kernel
theorem dX4_hasWordsOf_39 : decode cX4_hasWordsOf 39 = .ok (.getfield 9, 3) := by decide +kernel
theorem dX4_hasWordsOf_42 : decode cX4_hasWordsOf 42 = .ok (.iload_n 3, 1) := by decide +kernel
theorem dX4_hasWordsOf_43 : decode cX4_hasWordsOf 43 = .ok (.caload, 1) := by decide +kernel
theorem dX4_hasWordsOf_44 : decode cX4_hasWordsOf 44 = .ok (.aload_n 1, 1) := by decide +kernel
theorem dX4_hasWordsOf_45 : decode cX4_hasWordsOf 45 = .ok (.getfield 9, 3) := by decide +kernel
theorem dX4_hasWordsOf_48 : decode cX4_hasWordsOf 48 = .ok (.iload 4, 2) := by decide +kernel
theorem dX4_hasWordsOf_50 : decode cX4_hasWordsOf 50 = .ok (.caload, 1) := by decide +kernel
theorem dX4_hasWordsOf_51 : decode cX4_hasWordsOf 51 = .ok (.if_icmp .eq 5, 3) := by decide +kernel
theorem dX4_hasWordsOf_54 : decode cX4_hasWordsOf 54 = .ok (.iconst 0, 1) := by decide +kernel
theorem dX4_hasWordsOf_55 : decode cX4_hasWordsOf 55 = .ok (.ireturn, 1) := by decide +kernel
theorem dX4_hasWordsOf_56 : decode cX4_hasWordsOf 56 = .ok (.aload_n 0, 1) := by decide +kernel
theorem dX4_hasWordsOf_57 : decode cX4_hasWordsOf 57 = .ok (.iload_n 2, 1) := by decide +kernel
theorem dX4_hasWordsOf_58 : decode cX4_hasWordsOf 58 = .ok (.iload_n 3, 1) := by decide +kernel
theorem dX4_hasWordsOf_59 : decode cX4_hasWordsOf 59 = .ok (.iconst 1, 1) := by decide +kernel
theorem dX4_hasWordsOf_60 : decode cX4_hasWordsOf 60 = .ok (.iadd, 1) := by decide +kernel
theorem dX4_hasWordsOf_61 : decode cX4_hasWordsOf 61 = .ok (.invokevirtual 49, 3) := by decide +kernel
theorem dX4_hasWordsOf_64 : decode cX4_hasWordsOf 64 = .ok (.istore_n 3, 1) := by decide +kernel
theorem dX4_hasWordsOf_65 : decode cX4_hasWordsOf 65 = .ok (.iinc 4 1, 3) := by decide +kernel
theorem dX4_hasWordsOf_68 : decode cX4_hasWordsOf 68 = .ok (.goto (-58), 3) := by decide +kernel
theorem dX4_hasWordsOf_71 : decode cX4_hasWordsOf 71 = .ok (.iload_n 3, 1) := by decide +kernel
theorem dX4_hasWordsOf_72 : decode cX4_hasWordsOf 72 = .ok (.aload_n 0, 1) := by decide +kernel
theorem dX4_hasWordsOf_73 : decode cX4_hasWordsOf 73 = .ok (.getfield 22, 3) := by decide +kernel
theorem dX4_hasWordsOf_76 : decode cX4_hasWordsOf 76 = .ok (.if_icmp .lt 7, 3) := by decide +kernel
theorem dX4_hasWordsOf_79 : decode cX4_hasWordsOf 79 = .ok (.iconst 1, 1) := by decide +kernel
theorem dX4_hasWordsOf_80 : decode cX4_hasWordsOf 80 = .ok (.goto 4, 3) := by decide +kernel
theorem dX4_hasWordsOf_83 : decode cX4_hasWordsOf 83 = .ok (.iconst 0, 1) := by decide +kernel
theorem dX4_hasWordsOf_84 : decode cX4_hasWordsOf 84 = .ok (.ireturn, 1) := by decide +kernel
theorem dX4_next_0 : decode cX4_next 0 = .ok (.iload_n 2, 1) := by decide +kernel
theorem dX4_next_1 : decode cX4_next 1 = .ok (.istore_n 3, 1) := by decide +kernel
theorem dX4_next_2 : decode cX4_next 2 = .ok (.iload_n 3, 1) := by decide +kernel
theorem dX4_next_3 : decode cX4_next 3 = .ok (.aload_n 0, 1) := by decide +kernel
theorem dX4_next_4 : decode cX4_next 4 = .ok (.getfield 22, 3) := by decide +kernel
theorem dX4_next_7 : decode cX4_next 7 = .ok (.if_icmp .ge 21, 3) := by decide +kernel
theorem dX4_next_10 : decode cX4_next 10 = .ok (.aload_n 0, 1) := by decide +kernel
theorem dX4_next_11 : decode cX4_next 11 = .ok (.getfield 19, 3) := by decide +kernel
theorem dX4_next_14 : decode cX4_next 14 = .ok (.iload_n 3, 1) := by decide +kernel
theorem dX4_next_15 : decode cX4_next 15 = .ok (.iaload, 1) := by decide +kernel
theorem dX4_next_16 : decode cX4_next 16 = .ok (.iload_n 1, 1) := by decide +kernel
theorem dX4_next_17 : decode cX4_next 17 = .ok (.if_icmp .ne 5, 3) := by decide +kernel
theorem dX4_next_20 : decode cX4_next 20 = .ok (.iload_n 3, 1) := by decide +kernel
theorem dX4_next_21 : decode cX4_next 21 = .ok (.ireturn, 1) := by decide +kernel
theorem dX4_next_22 : decode cX4_next 22 = .ok (.iinc 3 1, 3) := by decide +kernel
theorem dX4_next_25 : decode cX4_next 25 = .ok (.goto (-23), 3) := by decide +kernel
theorem dX4_next_28 : decode cX4_next 28 = .ok (.aload_n 0, 1) := by decide +kernel
theorem dX4_next_29 : decode cX4_next 29 = .ok (.getfield 22, 3) := by decide +kernel
theorem dX4_next_32 : decode cX4_next 32 = .ok (.ireturn, 1) := by decide +kernel
set_option maxRecDepth 20000 in
theorem ggX5_init_X4_init : GoodIn wsX5_init wsX4_init := goodIn_r _ [13, 14, 2, 3, 15, 16, 9, 17, 18, 19, 20, 21, 22, 23] (by decide +kernel) (by decide +kernel)
set_option maxRecDepth 20000 in
theorem gX5_init_X4_init : GoodIn wsX5_init (wsX4_init) := ggX5_init_X4_init
theorem dX5_init_0 : decode cX5_init 0 = .ok (.aload_n 0, 1) := by decide +kernel
theorem dX5_init_1 : decode cX5_init 1 = .ok (.invokespecial 3, 3) := by decide +kernel
theorem dX5_init_4 : decode cX5_init 4 = .ok (.aload_n 0, 1) := by decide +kernel
theorem dX5_init_5 : decode cX5_init 5 = .ok (.new 9, 3) := by decide +kernel
theorem dX5_init_8 : decode cX5_init 8 = .ok (.dup, 1) := by decide +kernel
theorem dX5_init_9 : decode cX5_init 9 = .ok (.invokespecial 11, 3) := by decide +kernel
theorem dX5_init_12 : decode cX5_init 12 = .ok (.putfield 12, 3) := by decide +kernel
theorem dX5_init_15 : decode cX5_init 15 = .ok (.aload_n 0, 1) := by decide +kernel
theorem dX5_init_16 : decode cX5_init 16 = .ok (.new 9, 3) := by decide +kernel
theorem dX5_init_19 : decode cX5_init 19 = .ok (.dup, 1) := by decide +kernel
theorem dX5_init_20 : decode cX5_init 20 = .ok (.invokespecial 11, 3) := by decide +kernel
theorem dX5_init_23 : decode cX5_init 23 = .ok (.putfield 18, 3) := by decide +kernel
theorem dX5_init_26 : decode cX5_init 26 = .ok (.aload_n 0, 1) := by decide +kernel
theorem dX5_init_27 : decode cX5_init 27 = .ok (.bipush 40, 2) := by decide +kernel
theorem dX5_init_29 : decode cX5_init 29 = .ok (.newarray .int, 2) := by decide +kernel
theorem dX5_init_31 : decode cX5_init 31 = .ok (.putfield 21, 3) := by decide +kernel
theorem dX5_init_34 : decode cX5_init 34 = .ok (.return_, 1) := by decide +kernel
set_option maxRecDepth 20000 in
theorem ggX5_run_X4_clear : GoodIn wsX5_run wsX4_clear := goodIn_r _ [10, 11, 108, 109, 110, 111] (by decide +kernel) (by decide +kernel)
set_option maxRecDepth 20000 in
theorem gX5_run_X4_clear : GoodIn wsX5_run (wsV RX5 25 RX4 yX4_clear wsX4_clear) := goodIn_app (goodIn_of _ (by decide +kernel)) ggX5_run_X4_clear
set_option maxRecDepth 20000 in
theorem ggX5_run_X1_markAgain : GoodIn wsX5_run wsX1_markAgain := goodIn_ca (goodIn_r _ [16, 17, 18, 19, 20, 21, 22, 23, 9, 24, 11, 25, 103, 104, 105, 106, 107, 108, 109, 110, 111] (by decide +kernel) (by decide +kernel)) (goodIn_sub (fun _ h => List.mem_cons_of_mem _ (List.mem_append_right _ h)) (by decide +kernel))
set_option maxRecDepth 20000 in
theorem gX5_run_X1_markAgain : GoodIn wsX5_run (wsV RX5 34 RX1 yX1_markAgain wsX1_markAgain) := goodIn_app (goodIn_of _ (by decide +kernel)) ggX5_run_X1_markAgain
set_option maxRecDepth 20000 in
theorem ggX5_run_X4_copyFrom : GoodIn wsX5_run wsX4_copyFrom := goodIn_ca (goodIn_r _ [29, 11, 30, 7, 8, 9, 10, 31, 32, 33, 34, 35, 36, 25, 37, 38, 39, 40, 108, 109, 110, 111] (by decide +kernel) (by decide +kernel)) (goodIn_sub (fun _ h => List.mem_cons_of_mem _ (List.mem_append_right _ h)) (by decide +kernel))
set_option maxRecDepth 20000 in
theorem gX5_run_X4_copyFrom : GoodIn wsX5_run (wsV RX5 40 RX4 yX4_copyFrom wsX4_copyFrom) := goodIn_app (goodIn_of _ (by decide +kernel)) ggX5_run_X4_copyFrom
set_option maxRecDepth 20000 in
theorem ggX5_run_X2_perform : GoodIn wsX5_run wsX2_perform := goodIn_ca (goodIn_r _ [45, 46, 47, 48, 49, 50, 51, 7, 8, 9, 10, 11, 52, 53, 54, 44, 55, 56, 57, 58, 59, 60, 61, 62, 25, 63, 32, 33, 34, 35, 36, 37, 38, 39, 40, 64, 65, 66, 67, 68, 69, 70, 71, 72, 73, 74, 75, 76, 92, 93, 94, 95, 96, 97, 98, 99, 100, 101, 102, 108, 109, 110, 111] (by decide +kernel) (by decide +kernel)) (goodIn_sub (fun _ h => List.mem_cons_of_mem _ (List.mem_append_right _ h)) (by decide +kernel))
set_option maxRecDepth 20000 in
theorem gX5_run_X2_perform : GoodIn wsX5_run (wsV RX5 44 RX2 yX2_perform wsX2_perform) := goodIn_app (goodIn_of _ (by decide +kernel)) ggX5_run_X2_perform
set_option maxRecDepth 20000 in
theorem ggX5_run_X4_clausesUnlike : GoodIn wsX5_run wsX4_clausesUnlike := goodIn_ca (goodIn_r _ [80, 81, 82, 83, 9, 84, 11, 25, 35, 85, 86, 87, 88, 108, 109, 110, 111] (by decide +kernel) (by decide +kernel)) (goodIn_sub (fun _ h => List.mem_cons_of_mem _ (List.mem_append_right _ h)) (by decide +kernel))
set_option maxRecDepth 20000 in
theorem gX5_run_X4_clausesUnlike : GoodIn wsX5_run (wsV RX5 49 RX4 yX4_clausesUnlike wsX4_clausesUnlike) := goodIn_app (goodIn_of _ (by decide +kernel)) ggX5_run_X4_clausesUnlike
theorem dX5_run_0 : decode cX5_run 0 = .ok (.aload_n 0, 1) := by decide +kernel
theorem dX5_run_1 : decode cX5_run 1 = .ok (.getfield 12, 3) := by decide +kernel
theorem dX5_run_4 : decode cX5_run 4 = .ok (.invokevirtual 25, 3) := by decide +kernel
theorem dX5_run_7 : decode cX5_run 7 = .ok (.iconst 0, 1) := by decide +kernel
theorem dX5_run_8 : decode cX5_run 8 = .ok (.istore_n 3, 1) := by decide +kernel
theorem dX5_run_9 : decode cX5_run 9 = .ok (.iload_n 3, 1) := by decide +kernel
theorem dX5_run_10 : decode cX5_run 10 = .ok (.aload_n 1, 1) := by decide +kernel
theorem dX5_run_11 : decode cX5_run 11 = .ok (.getfield 28, 3) := by decide +kernel
theorem dX5_run_14 : decode cX5_run 14 = .ok (.if_icmp .ge 63, 3) := by decide +kernel
theorem dX5_run_17 : decode cX5_run 17 = .ok (.aload_n 2, 1) := by decide +kernel
theorem dX5_run_18 : decode cX5_run 18 = .ok (.iload_n 3, 1) := by decide +kernel
theorem dX5_run_19 : decode cX5_run 19 = .ok (.aload_n 0, 1) := by decide +kernel
theorem dX5_run_20 : decode cX5_run 20 = .ok (.getfield 12, 3) := by decide +kernel
theorem dX5_run_23 : decode cX5_run 23 = .ok (.invokevirtual 34, 3) := by decide +kernel
theorem dX5_run_26 : decode cX5_run 26 = .ok (.aload_n 0, 1) := by decide +kernel
theorem dX5_run_27 : decode cX5_run 27 = .ok (.getfield 18, 3) := by decide +kernel
theorem dX5_run_30 : decode cX5_run 30 = .ok (.aload_n 0, 1) := by decide +kernel
theorem dX5_run_31 : decode cX5_run 31 = .ok (.getfield 12, 3) := by decide +kernel
theorem dX5_run_34 : decode cX5_run 34 = .ok (.invokevirtual 40, 3) := by decide +kernel
theorem dX5_run_37 : decode cX5_run 37 = .ok (.aload_n 1, 1) := by decide +kernel
theorem dX5_run_38 : decode cX5_run 38 = .ok (.iload_n 3, 1) := by decide +kernel
theorem dX5_run_39 : decode cX5_run 39 = .ok (.aload_n 0, 1) := by decide +kernel
theorem dX5_run_40 : decode cX5_run 40 = .ok (.getfield 18, 3) := by decide +kernel
theorem dX5_run_43 : decode cX5_run 43 = .ok (.aload_n 0, 1) := by decide +kernel
theorem dX5_run_44 : decode cX5_run 44 = .ok (.getfield 12, 3) := by decide +kernel
theorem dX5_run_47 : decode cX5_run 47 = .ok (.invokevirtual 44, 3) := by decide +kernel
theorem dX5_run_50 : decode cX5_run 50 = .ok (.aload_n 0, 1) := by decide +kernel
theorem dX5_run_51 : decode cX5_run 51 = .ok (.getfield 21, 3) := by decide +kernel
theorem dX5_run_54 : decode cX5_run 54 = .ok (.iload_n 3, 1) := by decide +kernel
theorem dX5_run_55 : decode cX5_run 55 = .ok (.aload_n 0, 1) := by decide +kernel
theorem dX5_run_56 : decode cX5_run 56 = .ok (.getfield 12, 3) := by decide +kernel
theorem dX5_run_59 : decode cX5_run 59 = .ok (.aload_n 0, 1) := by decide +kernel
theorem dX5_run_60 : decode cX5_run 60 = .ok (.getfield 18, 3) := by decide +kernel
theorem dX5_run_63 : decode cX5_run 63 = .ok (.aload_n 2, 1) := by decide +kernel
theorem dX5_run_64 : decode cX5_run 64 = .ok (.getfield 48, 3) := by decide +kernel
theorem dX5_run_67 : decode cX5_run 67 = .ok (.invokevirtual 49, 3) := by decide +kernel
theorem dX5_run_70 : decode cX5_run 70 = .ok (.iastore, 1) := by decide +kernel
theorem dX5_run_71 : decode cX5_run 71 = .ok (.iinc 3 1, 3) := by decide +kernel
theorem dX5_run_74 : decode cX5_run 74 = .ok (.goto (-65), 3) := by decide +kernel
theorem dX5_run_77 : decode cX5_run 77 = .ok (.aload_n 2, 1) := by decide +kernel
theorem dX5_run_78 : decode cX5_run 78 = .ok (.aload_n 1, 1) := by decide +kernel
theorem dX5_run_79 : decode cX5_run 79 = .ok (.getfield 28, 3) := by decide +kernel
theorem dX5_run_82 : decode cX5_run 82 = .ok (.aload_n 0, 1) := by decide +kernel
theorem dX5_run_83 : decode cX5_run 83 = .ok (.getfield 12, 3) := by decide +kernel
theorem dX5_run_86 : decode cX5_run 86 = .ok (.invokevirtual 34, 3) := by decide +kernel
theorem dX5_run_89 : decode cX5_run 89 = .ok (.return_, 1) := by decide +kernel
theorem dX6_init_0 : decode cX6_init 0 = .ok (.aload_n 0, 1) := by decide +kernel
theorem dX6_init_1 : decode cX6_init 1 = .ok (.invokespecial 3, 3) := by decide +kernel
theorem dX6_init_4 : decode cX6_init 4 = .ok (.aload_n 0, 1) := by decide +kernel
theorem dX6_init_5 : decode cX6_init 5 = .ok (.bipush 12, 2) := by decide +kernel
theorem dX6_init_7 : decode cX6_init 7 = .ok (.newarray .int, 2) := by decide +kernel
theorem dX6_init_9 : decode cX6_init 9 = .ok (.putfield 9, 3) := by decide +kernel
theorem dX6_init_12 : decode cX6_init 12 = .ok (.aload_n 0, 1) := by decide +kernel
theorem dX6_init_13 : decode cX6_init 13 = .ok (.bipush 12, 2) := by decide +kernel
theorem dX6_init_15 : decode cX6_init 15 = .ok (.newarray .int, 2) := by decide +kernel
theorem dX6_init_17 : decode cX6_init 17 = .ok (.putfield 15, 3) := by decide +kernel
theorem dX6_init_20 : decode cX6_init 20 = .ok (.aload_n 0, 1) := by decide +kernel
theorem dX6_init_21 : decode cX6_init 21 = .ok (.bipush 12, 2) := by decide +kernel
theorem dX6_init_23 : decode cX6_init 23 = .ok (.newarray .int, 2) := by decide +kernel
theorem dX6_init_25 : decode cX6_init 25 = .ok (.putfield 18, 3) := by decide +kernel
theorem dX6_init_28 : decode cX6_init 28 = .ok (.aload_n 0, 1) := by decide +kernel
theorem dX6_init_29 : decode cX6_init 29 = .ok (.bipush 12, 2) := by decide +kernel
theorem dX6_init_31 : decode cX6_init 31 = .ok (.newarray .int, 2) := by decide +kernel
theorem dX6_init_33 : decode cX6_init 33 = .ok (.putfield 21, 3) := by decide +kernel
theorem dX6_init_36 : decode cX6_init 36 = .ok (.aload_n 0, 1) := by decide +kernel
theorem dX6_init_37 : decode cX6_init 37 = .ok (.bipush 12, 2) := by decide +kernel
theorem dX6_init_39 : decode cX6_init 39 = .ok (.newarray .char, 2) := by decide +kernel
theorem dX6_init_41 : decode cX6_init 41 = .ok (.putfield 24, 3) := by decide +kernel
theorem dX6_init_44 : decode cX6_init 44 = .ok (.aload_n 0, 1) := by decide +kernel
theorem dX6_init_45 : decode cX6_init 45 = .ok (.iconst 0, 1) := by decide +kernel
theorem dX6_init_46 : decode cX6_init 46 = .ok (.putfield 28, 3) := by decide +kernel
theorem dX6_init_49 : decode cX6_init 49 = .ok (.return_, 1) := by decide +kernel
theorem dX6_isFull_0 : decode cX6_isFull 0 = .ok (.aload_n 0, 1) := by decide +kernel
theorem dX6_isFull_1 : decode cX6_isFull 1 = .ok (.getfield 28, 3) := by decide +kernel
theorem dX6_isFull_4 : decode cX6_isFull 4 = .ok (.bipush 12, 2) := by decide +kernel
theorem dX6_isFull_6 : decode cX6_isFull 6 = .ok (.if_icmp .lt 7, 3) := by decide +kernel
theorem dX6_isFull_9 : decode cX6_isFull 9 = .ok (.iconst 1, 1) := by decide +kernel
theorem dX6_isFull_10 : decode cX6_isFull 10 = .ok (.goto 4, 3) := by decide +kernel
theorem dX6_isFull_13 : decode cX6_isFull 13 = .ok (.iconst 0, 1) := by decide +kernel
theorem dX6_isFull_14 : decode cX6_isFull 14 = .ok (.ireturn, 1) := by decide +kernel
set_option maxRecDepth 20000 in
theorem ggX6_enter_X6_isFull : GoodIn wsX6_enter wsX6_isFull := goodIn_r _ [11, 2, 12, 13, 14, 15, 16, 17] (by decide +kernel) (by decide +kernel)
set_option maxRecDepth 20000 in
theorem gX6_enter_X6_isFull : GoodIn wsX6_enter (wsV RX6 32 RX6 yX6_isFull wsX6_isFull) := goodIn_app (goodIn_of _ (by decide +kernel)) ggX6_enter_X6_isFull
theorem dX6_enter_0 : decode cX6_enter 0 = .ok (.aload_n 0, 1) := by decide +kernel
theorem dX6_enter_1 : decode cX6_enter 1 = .ok (.invokevirtual 32, 3) := by decide +kernel
theorem dX6_enter_4 : decode cX6_enter 4 = .ok (.ifCond .ne 64, 3) := by decide +kernel
theorem dX6_enter_7 : decode cX6_enter 7 = .ok (.aload_n 0, 1) := by decide +kernel
theorem dX6_enter_8 : decode cX6_enter 8 = .ok (.getfield 9, 3) := by decide +kernel
theorem dX6_enter_11 : decode cX6_enter 11 = .ok (.aload_n 0, 1) := by decide +kernel
theorem dX6_enter_12 : decode cX6_enter 12 = .ok (.getfield 28, 3) := by decide +kernel
theorem dX6_enter_15 : decode cX6_enter 15 = .ok (.iload_n 1, 1) := by decide +kernel
theorem dX6_enter_16 : decode cX6_enter 16 = .ok (.iastore, 1) := by decide +kernel
theorem dX6_enter_17 : decode cX6_enter 17 = .ok (.aload_n 0, 1) := by decide +kernel
theorem dX6_enter_18 : decode cX6_enter 18 = .ok (.getfield 15, 3) := by decide +kernel
theorem dX6_enter_21 : decode cX6_enter 21 = .ok (.aload_n 0, 1) := by decide +kernel
theorem dX6_enter_22 : decode cX6_enter 22 = .ok (.getfield 28, 3) := by decide +kernel
theorem dX6_enter_25 : decode cX6_enter 25 = .ok (.iload_n 2, 1) := by decide +kernel
theorem dX6_enter_26 : decode cX6_enter 26 = .ok (.iastore, 1) := by decide +kernel
theorem dX6_enter_27 : decode cX6_enter 27 = .ok (.aload_n 0, 1) := by decide +kernel
theorem dX6_enter_28 : decode cX6_enter 28 = .ok (.getfield 18, 3) := by decide +kernel
theorem dX6_enter_31 : decode cX6_enter 31 = .ok (.aload_n 0, 1) := by decide +kernel
theorem dX6_enter_32 : decode cX6_enter 32 = .ok (.getfield 28, 3) := by decide +kernel
theorem dX6_enter_35 : decode cX6_enter 35 = .ok (.iload_n 3, 1) := by decide +kernel
theorem dX6_enter_36 : decode cX6_enter 36 = .ok (.iastore, 1) := by decide +kernel
theorem dX6_enter_37 : decode cX6_enter 37 = .ok (.aload_n 0, 1) := by decide +kernel
theorem dX6_enter_38 : decode cX6_enter 38 = .ok (.getfield 21, 3) := by decide +kernel
theorem dX6_enter_41 : decode cX6_enter 41 = .ok (.aload_n 0, 1) := by decide +kernel
theorem dX6_enter_42 : decode cX6_enter 42 = .ok (.getfield 28, 3) := by decide +kernel
theorem dX6_enter_45 : decode cX6_enter 45 = .ok (.iconst (-1), 1) := by decide +kernel
theorem dX6_enter_46 : decode cX6_enter 46 = .ok (.iastore, 1) := by decide +kernel
theorem dX6_enter_47 : decode cX6_enter 47 = .ok (.aload_n 0, 1) := by decide +kernel
theorem dX6_enter_48 : decode cX6_enter 48 = .ok (.getfield 24, 3) := by decide +kernel
theorem dX6_enter_51 : decode cX6_enter 51 = .ok (.aload_n 0, 1) := by decide +kernel
theorem dX6_enter_52 : decode cX6_enter 52 = .ok (.getfield 28, 3) := by decide +kernel
theorem dX6_enter_55 : decode cX6_enter 55 = .ok (.bipush 118, 2) := by decide +kernel
theorem dX6_enter_57 : decode cX6_enter 57 = .ok (.castore, 1) := by decide +kernel
theorem dX6_enter_58 : decode cX6_enter 58 = .ok (.aload_n 0, 1) := by decide +kernel
theorem dX6_enter_59 : decode cX6_enter 59 = .ok (.dup, 1) := by decide +kernel
theorem dX6_enter_60 : decode cX6_enter 60 = .ok (.getfield 28, 3) := by decide +kernel
theorem dX6_enter_63 : decode cX6_enter 63 = .ok (.iconst 1, 1) := by decide +kernel
theorem dX6_enter_64 : decode cX6_enter 64 = .ok (.iadd, 1) := by decide +kernel
theorem dX6_enter_65 : decode cX6_enter 65 = .ok (.putfield 28, 3) := by decide +kernel
theorem dX6_enter_68 : decode cX6_enter 68 = .ok (.aload_n 0, 1) := by decide +kernel
theorem dX6_enter_69 : decode cX6_enter 69 = .ok (.getfield 28, 3) := by decide +kernel
theorem dX6_enter_72 : decode cX6_enter 72 = .ok (.iconst 1, 1) := by decide +kernel
theorem dX6_enter_73 : decode cX6_enter 73 = .ok (.isub, 1) := by decide +kernel
theorem dX6_enter_74 : decode cX6_enter 74 = .ok (.ireturn, 1) := by decide +kernel
theorem dX6_isValidOver_0 : decode cX6_isValidOver 0 = .ok (.aload_n 0, 1) := by decide +kernel
theorem dX6_isValidOver_1 : decode cX6_isValidOver 1 = .ok (.getfield 24, 3) := by decide +kernel
theorem dX6_isValidOver_4 : decode cX6_isValidOver 4 = .ok (.iload_n 1, 1) := by decide +kernel
theorem dX6_isValidOver_5 : decode cX6_isValidOver 5 = .ok (.caload, 1) := by decide +kernel
theorem dX6_isValidOver_6 : decode cX6_isValidOver 6 = .ok (.bipush 118, 2) := by decide +kernel
theorem dX6_isValidOver_8 : decode cX6_isValidOver 8 = .ok (.if_icmp .ne 18, 3) := by decide +kernel
theorem dX6_isValidOver_11 : decode cX6_isValidOver 11 = .ok (.aload_n 0, 1) := by decide +kernel
theorem dX6_isValidOver_12 : decode cX6_isValidOver 12 = .ok (.getfield 15, 3) := by decide +kernel
theorem dX6_isValidOver_15 : decode cX6_isValidOver 15 = .ok (.iload_n 1, 1) := by decide +kernel
theorem dX6_isValidOver_16 : decode cX6_isValidOver 16 = .ok (.iaload, 1) := by decide +kernel
theorem dX6_isValidOver_17 : decode cX6_isValidOver 17 = .ok (.iload_n 2, 1) := by decide +kernel
theorem dX6_isValidOver_18 : decode cX6_isValidOver 18 = .ok (.iand, 1) := by decide +kernel
theorem dX6_isValidOver_19 : decode cX6_isValidOver 19 = .ok (.ifCond .eq 7, 3) := by decide +kernel
theorem dX6_isValidOver_22 : decode cX6_isValidOver 22 = .ok (.iconst 1, 1) := by decide +kernel
theorem dX6_isValidOver_23 : decode cX6_isValidOver 23 = .ok (.goto 4, 3) := by decide +kernel
theorem dX6_isValidOver_26 : decode cX6_isValidOver 26 = .ok (.iconst 0, 1) := by decide +kernel
theorem dX6_isValidOver_27 : decode cX6_isValidOver 27 = .ok (.ireturn, 1) := by decide +kernel
set_option maxRecDepth 20000 in
theorem ggX6_lowestValid_X6_isValidOver : GoodIn wsX6_lowestValid wsX6_isValidOver := goodIn_ca (goodIn_r _ [6, 7, 8, 9, 10, 11, 12, 13, 14] (by decide +kernel) (by decide +kernel)) (goodIn_sub (fun _ h => List.mem_cons_of_mem _ (List.mem_append_right _ h)) (by decide +kernel))
set_option maxRecDepth 20000 in
theorem gX6_lowestValid_X6_isValidOver : GoodIn wsX6_lowestValid (wsV RX6 36 RX6 yX6_isValidOver wsX6_isValidOver) := goodIn_app (goodIn_of _ (by decide +kernel)) ggX6_lowestValid_X6_isValidOver
theorem dX6_lowestValid_0 : decode cX6_lowestValid 0 = .ok (.iconst 0, 1) := by decide +kernel
theorem dX6_lowestValid_1 : decode cX6_lowestValid 1 = .ok (.istore_n 2, 1) := by decide +kernel
theorem dX6_lowestValid_2 : decode cX6_lowestValid 2 = .ok (.iload_n 2, 1) := by decide +kernel
theorem dX6_lowestValid_3 : decode cX6_lowestValid 3 = .ok (.aload_n 0, 1) := by decide +kernel
theorem dX6_lowestValid_4 : decode cX6_lowestValid 4 = .ok (.getfield 28, 3) := by decide +kernel
theorem dX6_lowestValid_7 : decode cX6_lowestValid 7 = .ok (.if_icmp .ge 20, 3) := by decide +kernel
theorem dX6_lowestValid_10 : decode cX6_lowestValid 10 = .ok (.aload_n 0, 1) := by decide +kernel
theorem dX6_lowestValid_11 : decode cX6_lowestValid 11 = .ok (.iload_n 2, 1) := by decide +kernel
theorem dX6_lowestValid_12 : decode cX6_lowestValid 12 = .ok (.iload_n 1, 1) := by decide +kernel
theorem dX6_lowestValid_13 : decode cX6_lowestValid 13 = .ok (.invokevirtual 36, 3) := by decide +kernel
theorem dX6_lowestValid_16 : decode cX6_lowestValid 16 = .ok (.ifCond .eq 5, 3) := by decide +kernel
theorem dX6_lowestValid_19 : decode cX6_lowestValid 19 = .ok (.iload_n 2, 1) := by decide +kernel
theorem dX6_lowestValid_20 : decode cX6_lowestValid 20 = .ok (.ireturn, 1) := by decide +kernel
theorem dX6_lowestValid_21 : decode cX6_lowestValid 21 = .ok (.iinc 2 1, 3) := by decide +kernel
theorem dX6_lowestValid_24 : decode cX6_lowestValid 24 = .ok (.goto (-22), 3) := by decide +kernel
theorem dX6_lowestValid_27 : decode cX6_lowestValid 27 = .ok (.iconst (-1), 1) := by decide +kernel
theorem dX6_lowestValid_28 : decode cX6_lowestValid 28 = .ok (.ireturn, 1) := by decide +kernel
set_option maxRecDepth 20000 in
theorem ggX6_makeVoid_X6_isValidOver : GoodIn wsX6_makeVoid wsX6_isValidOver := goodIn_ca (goodIn_r _ [8, 2, 9, 10, 11, 12, 13, 14, 15] (by decide +kernel) (by decide +kernel)) (goodIn_sub (fun _ h => List.mem_cons_of_mem _ (List.mem_append_right _ h)) (by decide +kernel))
set_option maxRecDepth 20000 in
theorem gX6_makeVoid_X6_isValidOver : GoodIn wsX6_makeVoid (wsV RX6 36 RX6 yX6_isValidOver wsX6_isValidOver) := goodIn_app (goodIn_of _ (by decide +kernel)) ggX6_makeVoid_X6_isValidOver
theorem dX6_makeVoid_0 : decode cX6_makeVoid 0 = .ok (.iconst 0, 1) := by decide +kernel
theorem dX6_makeVoid_1 : decode cX6_makeVoid 1 = .ok (.istore_n 3, 1) := by decide +kernel
theorem dX6_makeVoid_2 : decode cX6_makeVoid 2 = .ok (.iconst 0, 1) := by decide +kernel
theorem dX6_makeVoid_3 : decode cX6_makeVoid 3 = .ok (.istore 4, 2) := by decide +kernel
theorem dX6_makeVoid_5 : decode cX6_makeVoid 5 = .ok (.iload 4, 2) := by decide +kernel
theorem dX6_makeVoid_7 : decode cX6_makeVoid 7 = .ok (.aload_n 0, 1) := by decide +kernel
theorem dX6_makeVoid_8 : decode cX6_makeVoid 8 = .ok (.getfield 28, 3) := by decide +kernel
theorem dX6_makeVoid_11 : decode cX6_makeVoid 11 = .ok (.if_icmp .ge 39, 3) := by decide +kernel
theorem dX6_makeVoid_14 : decode cX6_makeVoid 14 = .ok (.aload_n 0, 1) := by decide +kernel
theorem dX6_makeVoid_15 : decode cX6_makeVoid 15 = .ok (.iload 4, 2) := by decide +kernel
theorem dX6_makeVoid_17 : decode cX6_makeVoid 17 = .ok (.iload_n 1, 1) := by decide +kernel
theorem dX6_makeVoid_18 : decode cX6_makeVoid 18 = .ok (.invokevirtual 36, 3) := by decide +kernel
theorem dX6_makeVoid_21 : decode cX6_makeVoid 21 = .ok (.ifCond .eq 23, 3) := by decide +kernel
theorem dX6_makeVoid_24 : decode cX6_makeVoid 24 = .ok (.aload_n 0, 1) := by decide +kernel
theorem dX6_makeVoid_25 : decode cX6_makeVoid 25 = .ok (.getfield 24, 3) := by decide +kernel
theorem dX6_makeVoid_28 : decode cX6_makeVoid 28 = .ok (.iload 4, 2) := by decide +kernel
theorem dX6_makeVoid_30 : decode cX6_makeVoid 30 = .ok (.bipush 120, 2) := by decide +kernel
theorem dX6_makeVoid_32 : decode cX6_makeVoid 32 = .ok (.castore, 1) := by decide +kernel
theorem dX6_makeVoid_33 : decode cX6_makeVoid 33 = .ok (.aload_n 0, 1) := by decide +kernel
theorem dX6_makeVoid_34 : decode cX6_makeVoid 34 = .ok (.getfield 21, 3) := by decide +kernel
theorem dX6_makeVoid_37 : decode cX6_makeVoid 37 = .ok (.iload 4, 2) := by decide +kernel
theorem dX6_makeVoid_39 : decode cX6_makeVoid 39 = .ok (.iload_n 2, 1) := by decide +kernel
theorem dX6_makeVoid_40 : decode cX6_makeVoid 40 = .ok (.iastore, 1) := by decide +kernel
theorem dX6_makeVoid_41 : decode cX6_makeVoid 41 = .ok (.iinc 3 1, 3) := by decide +kernel
theorem dX6_makeVoid_44 : decode cX6_makeVoid 44 = .ok (.iinc 4 1, 3) := by decide +kernel
theorem dX6_makeVoid_47 : decode cX6_makeVoid 47 = .ok (.goto (-42), 3) := by decide +kernel
theorem dX6_makeVoid_50 : decode cX6_makeVoid 50 = .ok (.iload_n 3, 1) := by decide +kernel
theorem dX6_makeVoid_51 : decode cX6_makeVoid 51 = .ok (.ireturn, 1) := by decide +kernel
theorem dX6_countValid_0 : decode cX6_countValid 0 = .ok (.iconst 0, 1) := by decide +kernel
theorem dX6_countValid_1 : decode cX6_countValid 1 = .ok (.istore_n 1, 1) := by decide +kernel
theorem dX6_countValid_2 : decode cX6_countValid 2 = .ok (.iconst 0, 1) := by decide +kernel
theorem dX6_countValid_3 : decode cX6_countValid 3 = .ok (.istore_n 2, 1) := by decide +kernel
theorem dX6_countValid_4 : decode cX6_countValid 4 = .ok (.iload_n 2, 1) := by decide +kernel
theorem dX6_countValid_5 : decode cX6_countValid 5 = .ok (.aload_n 0, 1) := by decide +kernel
theorem dX6_countValid_6 : decode cX6_countValid 6 = .ok (.getfield 28, 3) := by decide +kernel
theorem dX6_countValid_9 : decode cX6_countValid 9 = .ok (.if_icmp .ge 23, 3) := by decide +kernel
theorem dX6_countValid_12 : decode cX6_countValid 12 = .ok (.aload_n 0, 1) := by decide +kernel
theorem dX6_countValid_13 : decode cX6_countValid 13 = .ok (.getfield 24, 3) := by decide +kernel
theorem dX6_countValid_16 : decode cX6_countValid 16 = .ok (.iload_n 2, 1) := by decide +kernel
theorem dX6_countValid_17 : decode cX6_countValid 17 = .ok (.caload, 1) := by decide +kernel
theorem dX6_countValid_18 : decode cX6_countValid 18 = .ok (.bipush 118, 2) := by decide +kernel
theorem dX6_countValid_20 : decode cX6_countValid 20 = .ok (.if_icmp .ne 6, 3) := by decide +kernel
theorem dX6_countValid_23 : decode cX6_countValid 23 = .ok (.iinc 1 1, 3) := by decide +kernel
theorem dX6_countValid_26 : decode cX6_countValid 26 = .ok (.iinc 2 1, 3) := by decide +kernel
theorem dX6_countValid_29 : decode cX6_countValid 29 = .ok (.goto (-25), 3) := by decide +kernel
theorem dX6_countValid_32 : decode cX6_countValid 32 = .ok (.iload_n 1, 1) := by decide +kernel
theorem dX6_countValid_33 : decode cX6_countValid 33 = .ok (.ireturn, 1) := by decide +kernel
