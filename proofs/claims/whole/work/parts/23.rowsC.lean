theorem dX8_init_0 : decode cX8_init 0 = .ok (.aload_n 0, 1) := by decide +kernel
theorem dX8_init_1 : decode cX8_init 1 = .ok (.invokespecial 1, 3) := by decide +kernel
theorem dX8_init_4 : decode cX8_init 4 = .ok (.aload_n 0, 1) := by decide +kernel
theorem dX8_init_5 : decode cX8_init 5 = .ok (.bipush 60, 2) := by decide +kernel
theorem dX8_init_7 : decode cX8_init 7 = .ok (.newarray .char, 2) := by decide +kernel
theorem dX8_init_9 : decode cX8_init 9 = .ok (.putfield 7, 3) := by decide +kernel
theorem dX8_init_12 : decode cX8_init 12 = .ok (.aload_n 0, 1) := by decide +kernel
theorem dX8_init_13 : decode cX8_init 13 = .ok (.bipush 60, 2) := by decide +kernel
theorem dX8_init_15 : decode cX8_init 15 = .ok (.newarray .char, 2) := by decide +kernel
theorem dX8_init_17 : decode cX8_init 17 = .ok (.putfield 13, 3) := by decide +kernel
theorem dX8_init_20 : decode cX8_init 20 = .ok (.aload_n 0, 1) := by decide +kernel
theorem dX8_init_21 : decode cX8_init 21 = .ok (.bipush 60, 2) := by decide +kernel
theorem dX8_init_23 : decode cX8_init 23 = .ok (.newarray .int, 2) := by decide +kernel
theorem dX8_init_25 : decode cX8_init 25 = .ok (.putfield 16, 3) := by decide +kernel
theorem dX8_init_28 : decode cX8_init 28 = .ok (.aload_n 0, 1) := by decide +kernel
theorem dX8_init_29 : decode cX8_init 29 = .ok (.bipush 60, 2) := by decide +kernel
theorem dX8_init_31 : decode cX8_init 31 = .ok (.newarray .int, 2) := by decide +kernel
theorem dX8_init_33 : decode cX8_init 33 = .ok (.putfield 20, 3) := by decide +kernel
theorem dX8_init_36 : decode cX8_init 36 = .ok (.aload_n 0, 1) := by decide +kernel
theorem dX8_init_37 : decode cX8_init 37 = .ok (.bipush 60, 2) := by decide +kernel
theorem dX8_init_39 : decode cX8_init 39 = .ok (.newarray .int, 2) := by decide +kernel
theorem dX8_init_41 : decode cX8_init 41 = .ok (.putfield 23, 3) := by decide +kernel
theorem dX8_init_44 : decode cX8_init 44 = .ok (.aload_n 0, 1) := by decide +kernel
theorem dX8_init_45 : decode cX8_init 45 = .ok (.bipush 60, 2) := by decide +kernel
theorem dX8_init_47 : decode cX8_init 47 = .ok (.newarray .int, 2) := by decide +kernel
theorem dX8_init_49 : decode cX8_init 49 = .ok (.putfield 26, 3) := by decide +kernel
theorem dX8_init_52 : decode cX8_init 52 = .ok (.aload_n 0, 1) := by decide +kernel
theorem dX8_init_53 : decode cX8_init 53 = .ok (.bipush 20, 2) := by decide +kernel
theorem dX8_init_55 : decode cX8_init 55 = .ok (.newarray .char, 2) := by decide +kernel
theorem dX8_init_57 : decode cX8_init 57 = .ok (.putfield 29, 3) := by decide +kernel
theorem dX8_init_60 : decode cX8_init 60 = .ok (.aload_n 0, 1) := by decide +kernel
theorem dX8_init_61 : decode cX8_init 61 = .ok (.sipush 400, 3) := by decide +kernel
theorem dX8_init_64 : decode cX8_init 64 = .ok (.newarray .char, 2) := by decide +kernel
theorem dX8_init_66 : decode cX8_init 66 = .ok (.putfield 32, 3) := by decide +kernel
theorem dX8_init_69 : decode cX8_init 69 = .ok (.aload_n 0, 1) := by decide +kernel
theorem dX8_init_70 : decode cX8_init 70 = .ok (.bipush 40, 2) := by decide +kernel
theorem dX8_init_72 : decode cX8_init 72 = .ok (.newarray .char, 2) := by decide +kernel
theorem dX8_init_74 : decode cX8_init 74 = .ok (.putfield 35, 3) := by decide +kernel
theorem dX8_init_77 : decode cX8_init 77 = .ok (.aload_n 0, 1) := by decide +kernel
theorem dX8_init_78 : decode cX8_init 78 = .ok (.iconst 5, 1) := by decide +kernel
theorem dX8_init_79 : decode cX8_init 79 = .ok (.newarray .int, 2) := by decide +kernel
theorem dX8_init_81 : decode cX8_init 81 = .ok (.putfield 38, 3) := by decide +kernel
theorem dX8_init_84 : decode cX8_init 84 = .ok (.aload_n 0, 1) := by decide +kernel
theorem dX8_init_85 : decode cX8_init 85 = .ok (.iconst 5, 1) := by decide +kernel
theorem dX8_init_86 : decode cX8_init 86 = .ok (.newarray .int, 2) := by decide +kernel
theorem dX8_init_88 : decode cX8_init 88 = .ok (.putfield 41, 3) := by decide +kernel
theorem dX8_init_91 : decode cX8_init 91 = .ok (.aload_n 0, 1) := by decide +kernel
theorem dX8_init_92 : decode cX8_init 92 = .ok (.bipush 40, 2) := by decide +kernel
theorem dX8_init_94 : decode cX8_init 94 = .ok (.newarray .int, 2) := by decide +kernel
theorem dX8_init_96 : decode cX8_init 96 = .ok (.putfield 44, 3) := by decide +kernel
theorem dX8_init_99 : decode cX8_init 99 = .ok (.aload_n 0, 1) := by decide +kernel
theorem dX8_init_100 : decode cX8_init 100 = .ok (.bipush 40, 2) := by decide +kernel
theorem dX8_init_102 : decode cX8_init 102 = .ok (.newarray .int, 2) := by decide +kernel
theorem dX8_init_104 : decode cX8_init 104 = .ok (.putfield 47, 3) := by decide +kernel
theorem dX8_init_107 : decode cX8_init 107 = .ok (.aload_n 0, 1) := by decide +kernel
theorem dX8_init_108 : decode cX8_init 108 = .ok (.bipush 12, 2) := by decide +kernel
theorem dX8_init_110 : decode cX8_init 110 = .ok (.newarray .int, 2) := by decide +kernel
theorem dX8_init_112 : decode cX8_init 112 = .ok (.putfield 50, 3) := by decide +kernel
theorem dX8_init_115 : decode cX8_init 115 = .ok (.aload_n 0, 1) := by decide +kernel
theorem dX8_init_116 : decode cX8_init 116 = .ok (.bipush 12, 2) := by decide +kernel
theorem dX8_init_118 : decode cX8_init 118 = .ok (.newarray .int, 2) := by decide +kernel
theorem dX8_init_120 : decode cX8_init 120 = .ok (.putfield 53, 3) := by decide +kernel
theorem dX8_init_123 : decode cX8_init 123 = .ok (.aload_n 0, 1) := by decide +kernel
theorem dX8_init_124 : decode cX8_init 124 = .ok (.bipush 12, 2) := by decide +kernel
theorem dX8_init_126 : decode cX8_init 126 = .ok (.newarray .int, 2) := by decide +kernel
theorem dX8_init_128 : decode cX8_init 128 = .ok (.putfield 56, 3) := by decide +kernel
theorem dX8_init_131 : decode cX8_init 131 = .ok (.aload_n 0, 1) := by decide +kernel
theorem dX8_init_132 : decode cX8_init 132 = .ok (.iconst 5, 1) := by decide +kernel
theorem dX8_init_133 : decode cX8_init 133 = .ok (.newarray .long, 2) := by decide +kernel
theorem dX8_init_135 : decode cX8_init 135 = .ok (.putfield 59, 3) := by decide +kernel
theorem dX8_init_138 : decode cX8_init 138 = .ok (.aload_n 0, 1) := by decide +kernel
theorem dX8_init_139 : decode cX8_init 139 = .ok (.bipush 6, 2) := by decide +kernel
theorem dX8_init_141 : decode cX8_init 141 = .ok (.newarray .boolean, 2) := by decide +kernel
theorem dX8_init_143 : decode cX8_init 143 = .ok (.putfield 63, 3) := by decide +kernel
theorem dX8_init_146 : decode cX8_init 146 = .ok (.aload_n 0, 1) := by decide +kernel
theorem dX8_init_147 : decode cX8_init 147 = .ok (.bipush 12, 2) := by decide +kernel
theorem dX8_init_149 : decode cX8_init 149 = .ok (.newarray .boolean, 2) := by decide +kernel
theorem dX8_init_151 : decode cX8_init 151 = .ok (.putfield 67, 3) := by decide +kernel
theorem dX8_init_154 : decode cX8_init 154 = .ok (.aload_n 0, 1) := by decide +kernel
theorem dX8_init_155 : decode cX8_init 155 = .ok (.bipush 12, 2) := by decide +kernel
theorem dX8_init_157 : decode cX8_init 157 = .ok (.newarray .char, 2) := by decide +kernel
theorem dX8_init_159 : decode cX8_init 159 = .ok (.putfield 70, 3) := by decide +kernel
theorem dX8_init_162 : decode cX8_init 162 = .ok (.aload_n 0, 1) := by decide +kernel
theorem dX8_init_163 : decode cX8_init 163 = .ok (.bipush 45, 2) := by decide +kernel
theorem dX8_init_165 : decode cX8_init 165 = .ok (.putfield 73, 3) := by decide +kernel
theorem dX8_init_168 : decode cX8_init 168 = .ok (.return_, 1) := by decide +kernel
theorem dX8_thrown_0 : decode cX8_thrown 0 = .ok (.aload_n 0, 1) := by decide +kernel
theorem dX8_thrown_1 : decode cX8_thrown 1 = .ok (.getfield 77, 3) := by decide +kernel
theorem dX8_thrown_4 : decode cX8_thrown 4 = .ok (.ireturn, 1) := by decide +kernel
theorem dX8_isIn_0 : decode cX8_isIn 0 = .ok (.iload_n 0, 1) := by decide +kernel
theorem dX8_isIn_1 : decode cX8_isIn 1 = .ok (.iload_n 1, 1) := by decide +kernel
theorem dX8_isIn_2 : decode cX8_isIn 2 = .ok (.if_icmp .lt 12, 3) := by decide +kernel
theorem dX8_isIn_5 : decode cX8_isIn 5 = .ok (.iload_n 0, 1) := by decide +kernel
theorem dX8_isIn_6 : decode cX8_isIn 6 = .ok (.iload_n 2, 1) := by decide +kernel
theorem dX8_isIn_7 : decode cX8_isIn 7 = .ok (.if_icmp .gt 7, 3) := by decide +kernel
theorem dX8_isIn_10 : decode cX8_isIn 10 = .ok (.iconst 1, 1) := by decide +kernel
theorem dX8_isIn_11 : decode cX8_isIn 11 = .ok (.goto 4, 3) := by decide +kernel
theorem dX8_isIn_14 : decode cX8_isIn 14 = .ok (.iconst 0, 1) := by decide +kernel
theorem dX8_isIn_15 : decode cX8_isIn 15 = .ok (.ireturn, 1) := by decide +kernel
theorem dX8_isThrown_0 : decode cX8_isThrown 0 = .ok (.aload_n 0, 1) := by decide +kernel
theorem dX8_isThrown_1 : decode cX8_isThrown 1 = .ok (.iload_n 1, 1) := by decide +kernel
theorem dX8_isThrown_2 : decode cX8_isThrown 2 = .ok (.ifCond .eq 7, 3) := by decide +kernel
theorem dX8_isThrown_5 : decode cX8_isThrown 5 = .ok (.iload_n 2, 1) := by decide +kernel
theorem dX8_isThrown_6 : decode cX8_isThrown 6 = .ok (.goto 4, 3) := by decide +kernel
theorem dX8_isThrown_9 : decode cX8_isThrown 9 = .ok (.iconst 0, 1) := by decide +kernel
theorem dX8_isThrown_10 : decode cX8_isThrown 10 = .ok (.putfield 77, 3) := by decide +kernel
theorem dX8_isThrown_13 : decode cX8_isThrown 13 = .ok (.iload_n 1, 1) := by decide +kernel
theorem dX8_isThrown_14 : decode cX8_isThrown 14 = .ok (.ireturn, 1) := by decide +kernel
set_option maxRecDepth 20000 in
theorem ggX8_addAuthor_X8_isIn : GoodIn wsX8_addAuthor wsX8_isIn := goodIn_r _ [7] (by decide +kernel) (by decide +kernel)
set_option maxRecDepth 20000 in
theorem gX8_addAuthor_X8_isIn : GoodIn wsX8_addAuthor (va_wsS RX8 81 yX8_isIn wsX8_isIn) := goodIn_app (goodIn_of _ (by decide +kernel)) ggX8_addAuthor_X8_isIn
set_option maxRecDepth 20000 in
theorem ggX8_addAuthor_X8_isThrown : GoodIn wsX8_addAuthor wsX8_isThrown := goodIn_r _ [11, 12, 13, 14, 15, 16, 17, 18, 19, 20, 21, 22, 23, 24, 25, 26, 27, 28, 29, 30, 31, 32, 33, 34, 35, 36, 37, 38, 39, 40, 41, 42, 43, 44, 45] (by decide +kernel) (by decide +kernel)
set_option maxRecDepth 20000 in
theorem gX8_addAuthor_X8_isThrown : GoodIn wsX8_addAuthor (wsV RX8 85 RX8 yX8_isThrown wsX8_isThrown) := goodIn_app (goodIn_of _ (by decide +kernel)) ggX8_addAuthor_X8_isThrown
theorem dX8_addAuthor_0 : decode cX8_addAuthor 0 = .ok (.aload_n 0, 1) := by decide +kernel
theorem dX8_addAuthor_1 : decode cX8_addAuthor 1 = .ok (.iload_n 1, 1) := by decide +kernel
theorem dX8_addAuthor_2 : decode cX8_addAuthor 2 = .ok (.iconst 0, 1) := by decide +kernel
theorem dX8_addAuthor_3 : decode cX8_addAuthor 3 = .ok (.iconst 3, 1) := by decide +kernel
theorem dX8_addAuthor_4 : decode cX8_addAuthor 4 = .ok (.invokestatic 81, 3) := by decide +kernel
theorem dX8_addAuthor_7 : decode cX8_addAuthor 7 = .ok (.ifCond .eq 14, 3) := by decide +kernel
theorem dX8_addAuthor_10 : decode cX8_addAuthor 10 = .ok (.iload_n 2, 1) := by decide +kernel
theorem dX8_addAuthor_11 : decode cX8_addAuthor 11 = .ok (.iconst 0, 1) := by decide +kernel
theorem dX8_addAuthor_12 : decode cX8_addAuthor 12 = .ok (.sipush 999, 3) := by decide +kernel
theorem dX8_addAuthor_15 : decode cX8_addAuthor 15 = .ok (.invokestatic 81, 3) := by decide +kernel
theorem dX8_addAuthor_18 : decode cX8_addAuthor 18 = .ok (.ifCond .ne 7, 3) := by decide +kernel
theorem dX8_addAuthor_21 : decode cX8_addAuthor 21 = .ok (.iconst 1, 1) := by decide +kernel
theorem dX8_addAuthor_22 : decode cX8_addAuthor 22 = .ok (.goto 4, 3) := by decide +kernel
theorem dX8_addAuthor_25 : decode cX8_addAuthor 25 = .ok (.iconst 0, 1) := by decide +kernel
theorem dX8_addAuthor_26 : decode cX8_addAuthor 26 = .ok (.iconst 1, 1) := by decide +kernel
theorem dX8_addAuthor_27 : decode cX8_addAuthor 27 = .ok (.invokevirtual 85, 3) := by decide +kernel
theorem dX8_addAuthor_30 : decode cX8_addAuthor 30 = .ok (.ifCond .ne 24, 3) := by decide +kernel
theorem dX8_addAuthor_33 : decode cX8_addAuthor 33 = .ok (.aload_n 0, 1) := by decide +kernel
theorem dX8_addAuthor_34 : decode cX8_addAuthor 34 = .ok (.aload_n 0, 1) := by decide +kernel
theorem dX8_addAuthor_35 : decode cX8_addAuthor 35 = .ok (.getfield 89, 3) := by decide +kernel
theorem dX8_addAuthor_38 : decode cX8_addAuthor 38 = .ok (.iconst 5, 1) := by decide +kernel
theorem dX8_addAuthor_39 : decode cX8_addAuthor 39 = .ok (.if_icmp .ne 7, 3) := by decide +kernel
theorem dX8_addAuthor_42 : decode cX8_addAuthor 42 = .ok (.iconst 1, 1) := by decide +kernel
theorem dX8_addAuthor_43 : decode cX8_addAuthor 43 = .ok (.goto 4, 3) := by decide +kernel
theorem dX8_addAuthor_46 : decode cX8_addAuthor 46 = .ok (.iconst 0, 1) := by decide +kernel
theorem dX8_addAuthor_47 : decode cX8_addAuthor 47 = .ok (.iconst 2, 1) := by decide +kernel
theorem dX8_addAuthor_48 : decode cX8_addAuthor 48 = .ok (.invokevirtual 85, 3) := by decide +kernel
theorem dX8_addAuthor_51 : decode cX8_addAuthor 51 = .ok (.ifCond .eq 5, 3) := by decide +kernel
theorem dX8_addAuthor_54 : decode cX8_addAuthor 54 = .ok (.iconst 0, 1) := by decide +kernel
theorem dX8_addAuthor_55 : decode cX8_addAuthor 55 = .ok (.ireturn, 1) := by decide +kernel
theorem dX8_addAuthor_56 : decode cX8_addAuthor 56 = .ok (.aload_n 0, 1) := by decide +kernel
theorem dX8_addAuthor_57 : decode cX8_addAuthor 57 = .ok (.getfield 38, 3) := by decide +kernel
theorem dX8_addAuthor_60 : decode cX8_addAuthor 60 = .ok (.aload_n 0, 1) := by decide +kernel
theorem dX8_addAuthor_61 : decode cX8_addAuthor 61 = .ok (.getfield 89, 3) := by decide +kernel
theorem dX8_addAuthor_64 : decode cX8_addAuthor 64 = .ok (.iload_n 1, 1) := by decide +kernel
theorem dX8_addAuthor_65 : decode cX8_addAuthor 65 = .ok (.iastore, 1) := by decide +kernel
theorem dX8_addAuthor_66 : decode cX8_addAuthor 66 = .ok (.aload_n 0, 1) := by decide +kernel
theorem dX8_addAuthor_67 : decode cX8_addAuthor 67 = .ok (.getfield 41, 3) := by decide +kernel
theorem dX8_addAuthor_70 : decode cX8_addAuthor 70 = .ok (.aload_n 0, 1) := by decide +kernel
theorem dX8_addAuthor_71 : decode cX8_addAuthor 71 = .ok (.getfield 89, 3) := by decide +kernel
theorem dX8_addAuthor_74 : decode cX8_addAuthor 74 = .ok (.iload_n 2, 1) := by decide +kernel
theorem dX8_addAuthor_75 : decode cX8_addAuthor 75 = .ok (.iastore, 1) := by decide +kernel
theorem dX8_addAuthor_76 : decode cX8_addAuthor 76 = .ok (.aload_n 0, 1) := by decide +kernel
theorem dX8_addAuthor_77 : decode cX8_addAuthor 77 = .ok (.dup, 1) := by decide +kernel
theorem dX8_addAuthor_78 : decode cX8_addAuthor 78 = .ok (.getfield 89, 3) := by decide +kernel
theorem dX8_addAuthor_81 : decode cX8_addAuthor 81 = .ok (.iconst 1, 1) := by decide +kernel
theorem dX8_addAuthor_82 : decode cX8_addAuthor 82 = .ok (.iadd, 1) := by decide +kernel
theorem dX8_addAuthor_83 : decode cX8_addAuthor 83 = .ok (.putfield 89, 3) := by decide +kernel
theorem dX8_addAuthor_86 : decode cX8_addAuthor 86 = .ok (.aload_n 0, 1) := by decide +kernel
theorem dX8_addAuthor_87 : decode cX8_addAuthor 87 = .ok (.getfield 89, 3) := by decide +kernel
theorem dX8_addAuthor_90 : decode cX8_addAuthor 90 = .ok (.iconst 1, 1) := by decide +kernel
theorem dX8_addAuthor_91 : decode cX8_addAuthor 91 = .ok (.isub, 1) := by decide +kernel
theorem dX8_addAuthor_92 : decode cX8_addAuthor 92 = .ok (.ireturn, 1) := by decide +kernel
set_option maxRecDepth 20000 in
theorem ggX8_isNoAuthor_X8_isIn : GoodIn wsX8_isNoAuthor wsX8_isIn := goodIn_r _ [5] (by decide +kernel) (by decide +kernel)
set_option maxRecDepth 20000 in
theorem gX8_isNoAuthor_X8_isIn : GoodIn wsX8_isNoAuthor (va_wsS RX8 81 yX8_isIn wsX8_isIn) := goodIn_app (goodIn_of _ (by decide +kernel)) ggX8_isNoAuthor_X8_isIn
theorem dX8_isNoAuthor_0 : decode cX8_isNoAuthor 0 = .ok (.iload_n 1, 1) := by decide +kernel
theorem dX8_isNoAuthor_1 : decode cX8_isNoAuthor 1 = .ok (.iconst 0, 1) := by decide +kernel
theorem dX8_isNoAuthor_2 : decode cX8_isNoAuthor 2 = .ok (.aload_n 0, 1) := by decide +kernel
theorem dX8_isNoAuthor_3 : decode cX8_isNoAuthor 3 = .ok (.getfield 89, 3) := by decide +kernel
theorem dX8_isNoAuthor_6 : decode cX8_isNoAuthor 6 = .ok (.iconst 1, 1) := by decide +kernel
theorem dX8_isNoAuthor_7 : decode cX8_isNoAuthor 7 = .ok (.isub, 1) := by decide +kernel
theorem dX8_isNoAuthor_8 : decode cX8_isNoAuthor 8 = .ok (.invokestatic 81, 3) := by decide +kernel
theorem dX8_isNoAuthor_11 : decode cX8_isNoAuthor 11 = .ok (.ifCond .ne 7, 3) := by decide +kernel
theorem dX8_isNoAuthor_14 : decode cX8_isNoAuthor 14 = .ok (.iconst 1, 1) := by decide +kernel
theorem dX8_isNoAuthor_15 : decode cX8_isNoAuthor 15 = .ok (.goto 4, 3) := by decide +kernel
theorem dX8_isNoAuthor_18 : decode cX8_isNoAuthor 18 = .ok (.iconst 0, 1) := by decide +kernel
theorem dX8_isNoAuthor_19 : decode cX8_isNoAuthor 19 = .ok (.ireturn, 1) := by decide +kernel
set_option maxRecDepth 20000 in
theorem ggX8_type_X8_isIn : GoodIn wsX8_type wsX8_isIn := goodIn_r _ [6] (by decide +kernel) (by decide +kernel)
set_option maxRecDepth 20000 in
theorem gX8_type_X8_isIn : GoodIn wsX8_type (va_wsS RX8 81 yX8_isIn wsX8_isIn) := goodIn_app (goodIn_of _ (by decide +kernel)) ggX8_type_X8_isIn
set_option maxRecDepth 20000 in
theorem ggX8_type_X8_isThrown : GoodIn wsX8_type wsX8_isThrown := goodIn_r _ [10, 11, 12, 13, 14, 15, 16, 17, 18, 19, 20, 21, 22, 23, 24, 25, 26, 27, 28, 29, 30, 31, 32, 33, 34, 35, 36, 37, 38, 39, 40, 41, 42, 43, 44] (by decide +kernel) (by decide +kernel)
set_option maxRecDepth 20000 in
theorem gX8_type_X8_isThrown : GoodIn wsX8_type (wsV RX8 85 RX8 yX8_isThrown wsX8_isThrown) := goodIn_app (goodIn_of _ (by decide +kernel)) ggX8_type_X8_isThrown
theorem dX8_type_0 : decode cX8_type 0 = .ok (.aload_n 0, 1) := by decide +kernel
theorem dX8_type_1 : decode cX8_type 1 = .ok (.iload_n 1, 1) := by decide +kernel
theorem dX8_type_2 : decode cX8_type 2 = .ok (.bipush 97, 2) := by decide +kernel
theorem dX8_type_4 : decode cX8_type 4 = .ok (.bipush 122, 2) := by decide +kernel
theorem dX8_type_6 : decode cX8_type 6 = .ok (.invokestatic 81, 3) := by decide +kernel
theorem dX8_type_9 : decode cX8_type 9 = .ok (.ifCond .ne 13, 3) := by decide +kernel
theorem dX8_type_12 : decode cX8_type 12 = .ok (.iload_n 1, 1) := by decide +kernel
theorem dX8_type_13 : decode cX8_type 13 = .ok (.bipush 32, 2) := by decide +kernel
theorem dX8_type_15 : decode cX8_type 15 = .ok (.if_icmp .eq 7, 3) := by decide +kernel
theorem dX8_type_18 : decode cX8_type 18 = .ok (.iconst 1, 1) := by decide +kernel
theorem dX8_type_19 : decode cX8_type 19 = .ok (.goto 4, 3) := by decide +kernel
theorem dX8_type_22 : decode cX8_type 22 = .ok (.iconst 0, 1) := by decide +kernel
theorem dX8_type_23 : decode cX8_type 23 = .ok (.iconst 1, 1) := by decide +kernel
theorem dX8_type_24 : decode cX8_type 24 = .ok (.invokevirtual 85, 3) := by decide +kernel
theorem dX8_type_27 : decode cX8_type 27 = .ok (.ifCond .ne 25, 3) := by decide +kernel
theorem dX8_type_30 : decode cX8_type 30 = .ok (.aload_n 0, 1) := by decide +kernel
theorem dX8_type_31 : decode cX8_type 31 = .ok (.aload_n 0, 1) := by decide +kernel
theorem dX8_type_32 : decode cX8_type 32 = .ok (.getfield 92, 3) := by decide +kernel
theorem dX8_type_35 : decode cX8_type 35 = .ok (.bipush 20, 2) := by decide +kernel
theorem dX8_type_37 : decode cX8_type 37 = .ok (.if_icmp .ne 7, 3) := by decide +kernel
theorem dX8_type_40 : decode cX8_type 40 = .ok (.iconst 1, 1) := by decide +kernel
theorem dX8_type_41 : decode cX8_type 41 = .ok (.goto 4, 3) := by decide +kernel
theorem dX8_type_44 : decode cX8_type 44 = .ok (.iconst 0, 1) := by decide +kernel
theorem dX8_type_45 : decode cX8_type 45 = .ok (.iconst 2, 1) := by decide +kernel
theorem dX8_type_46 : decode cX8_type 46 = .ok (.invokevirtual 85, 3) := by decide +kernel
theorem dX8_type_49 : decode cX8_type 49 = .ok (.ifCond .eq 5, 3) := by decide +kernel
theorem dX8_type_52 : decode cX8_type 52 = .ok (.iconst 0, 1) := by decide +kernel
theorem dX8_type_53 : decode cX8_type 53 = .ok (.ireturn, 1) := by decide +kernel
theorem dX8_type_54 : decode cX8_type 54 = .ok (.aload_n 0, 1) := by decide +kernel
theorem dX8_type_55 : decode cX8_type 55 = .ok (.getfield 29, 3) := by decide +kernel
theorem dX8_type_58 : decode cX8_type 58 = .ok (.aload_n 0, 1) := by decide +kernel
theorem dX8_type_59 : decode cX8_type 59 = .ok (.getfield 92, 3) := by decide +kernel
theorem dX8_type_62 : decode cX8_type 62 = .ok (.iload_n 1, 1) := by decide +kernel
theorem dX8_type_63 : decode cX8_type 63 = .ok (.castore, 1) := by decide +kernel
theorem dX8_type_64 : decode cX8_type 64 = .ok (.aload_n 0, 1) := by decide +kernel
theorem dX8_type_65 : decode cX8_type 65 = .ok (.dup, 1) := by decide +kernel
theorem dX8_type_66 : decode cX8_type 66 = .ok (.getfield 92, 3) := by decide +kernel
theorem dX8_type_69 : decode cX8_type 69 = .ok (.iconst 1, 1) := by decide +kernel
theorem dX8_type_70 : decode cX8_type 70 = .ok (.iadd, 1) := by decide +kernel
theorem dX8_type_71 : decode cX8_type 71 = .ok (.putfield 92, 3) := by decide +kernel
theorem dX8_type_74 : decode cX8_type 74 = .ok (.aload_n 0, 1) := by decide +kernel
theorem dX8_type_75 : decode cX8_type 75 = .ok (.getfield 92, 3) := by decide +kernel
theorem dX8_type_78 : decode cX8_type 78 = .ok (.ireturn, 1) := by decide +kernel
theorem dX8_lays_0 : decode cX8_lays 0 = .ok (.aload_n 0, 1) := by decide +kernel
theorem dX8_lays_1 : decode cX8_lays 1 = .ok (.getfield 13, 3) := by decide +kernel
theorem dX8_lays_4 : decode cX8_lays 4 = .ok (.aload_n 0, 1) := by decide +kernel
theorem dX8_lays_5 : decode cX8_lays 5 = .ok (.getfield 95, 3) := by decide +kernel
theorem dX8_lays_8 : decode cX8_lays 8 = .ok (.iload_n 1, 1) := by decide +kernel
theorem dX8_lays_9 : decode cX8_lays 9 = .ok (.castore, 1) := by decide +kernel
theorem dX8_lays_10 : decode cX8_lays 10 = .ok (.aload_n 0, 1) := by decide +kernel
theorem dX8_lays_11 : decode cX8_lays 11 = .ok (.getfield 23, 3) := by decide +kernel
theorem dX8_lays_14 : decode cX8_lays 14 = .ok (.aload_n 0, 1) := by decide +kernel
theorem dX8_lays_15 : decode cX8_lays 15 = .ok (.getfield 95, 3) := by decide +kernel
theorem dX8_lays_18 : decode cX8_lays 18 = .ok (.iload_n 2, 1) := by decide +kernel
theorem dX8_lays_19 : decode cX8_lays 19 = .ok (.iastore, 1) := by decide +kernel
theorem dX8_lays_20 : decode cX8_lays 20 = .ok (.aload_n 0, 1) := by decide +kernel
theorem dX8_lays_21 : decode cX8_lays 21 = .ok (.getfield 26, 3) := by decide +kernel
theorem dX8_lays_24 : decode cX8_lays 24 = .ok (.aload_n 0, 1) := by decide +kernel
theorem dX8_lays_25 : decode cX8_lays 25 = .ok (.getfield 95, 3) := by decide +kernel
theorem dX8_lays_28 : decode cX8_lays 28 = .ok (.iload_n 3, 1) := by decide +kernel
theorem dX8_lays_29 : decode cX8_lays 29 = .ok (.iastore, 1) := by decide +kernel
theorem dX8_lays_30 : decode cX8_lays 30 = .ok (.aload_n 0, 1) := by decide +kernel
theorem dX8_lays_31 : decode cX8_lays 31 = .ok (.dup, 1) := by decide +kernel
theorem dX8_lays_32 : decode cX8_lays 32 = .ok (.getfield 95, 3) := by decide +kernel
theorem dX8_lays_35 : decode cX8_lays 35 = .ok (.iconst 1, 1) := by decide +kernel
theorem dX8_lays_36 : decode cX8_lays 36 = .ok (.iadd, 1) := by decide +kernel
theorem dX8_lays_37 : decode cX8_lays 37 = .ok (.putfield 95, 3) := by decide +kernel
theorem dX8_lays_40 : decode cX8_lays 40 = .ok (.return_, 1) := by decide +kernel
set_option maxRecDepth 20000 in
theorem ggX8_laysWithout_X8_isIn : GoodIn wsX8_laysWithout wsX8_isIn := goodIn_r _ [9] (by decide +kernel) (by decide +kernel)
set_option maxRecDepth 20000 in
theorem gX8_laysWithout_X8_isIn : GoodIn wsX8_laysWithout (va_wsS RX8 81 yX8_isIn wsX8_isIn) := goodIn_app (goodIn_of _ (by decide +kernel)) ggX8_laysWithout_X8_isIn
set_option maxRecDepth 20000 in
theorem ggX8_laysWithout_X8_lays : GoodIn wsX8_laysWithout wsX8_lays := goodIn_ca (goodIn_r _ [13, 14, 1, 15, 16, 17, 18, 19, 20, 21, 22, 23, 24, 25, 26, 27, 28, 29, 30, 31, 32, 33, 34, 35, 36, 37, 38, 39, 40, 41, 42, 43, 44, 45, 46, 47, 48, 49] (by decide +kernel) (by decide +kernel)) (goodIn_sub (fun _ h => List.mem_cons_of_mem _ (List.mem_append_right _ h)) (by decide +kernel))
set_option maxRecDepth 20000 in
theorem gX8_laysWithout_X8_lays : GoodIn wsX8_laysWithout (wsV RX8 101 RX8 yX8_lays wsX8_lays) := goodIn_app (goodIn_of _ (by decide +kernel)) ggX8_laysWithout_X8_lays
theorem dX8_laysWithout_0 : decode cX8_laysWithout 0 = .ok (.aload_n 0, 1) := by decide +kernel
theorem dX8_laysWithout_1 : decode cX8_laysWithout 1 = .ok (.iconst 0, 1) := by decide +kernel
theorem dX8_laysWithout_2 : decode cX8_laysWithout 2 = .ok (.putfield 95, 3) := by decide +kernel
theorem dX8_laysWithout_5 : decode cX8_laysWithout 5 = .ok (.iconst 0, 1) := by decide +kernel
theorem dX8_laysWithout_6 : decode cX8_laysWithout 6 = .ok (.istore_n 3, 1) := by decide +kernel
theorem dX8_laysWithout_7 : decode cX8_laysWithout 7 = .ok (.iload_n 3, 1) := by decide +kernel
theorem dX8_laysWithout_8 : decode cX8_laysWithout 8 = .ok (.aload_n 0, 1) := by decide +kernel
theorem dX8_laysWithout_9 : decode cX8_laysWithout 9 = .ok (.getfield 98, 3) := by decide +kernel
theorem dX8_laysWithout_12 : decode cX8_laysWithout 12 = .ok (.if_icmp .ge 44, 3) := by decide +kernel
theorem dX8_laysWithout_15 : decode cX8_laysWithout 15 = .ok (.iload_n 3, 1) := by decide +kernel
theorem dX8_laysWithout_16 : decode cX8_laysWithout 16 = .ok (.iload_n 1, 1) := by decide +kernel
theorem dX8_laysWithout_17 : decode cX8_laysWithout 17 = .ok (.iload_n 1, 1) := by decide +kernel
theorem dX8_laysWithout_18 : decode cX8_laysWithout 18 = .ok (.iload_n 2, 1) := by decide +kernel
theorem dX8_laysWithout_19 : decode cX8_laysWithout 19 = .ok (.iadd, 1) := by decide +kernel
theorem dX8_laysWithout_20 : decode cX8_laysWithout 20 = .ok (.iconst 1, 1) := by decide +kernel
theorem dX8_laysWithout_21 : decode cX8_laysWithout 21 = .ok (.isub, 1) := by decide +kernel
theorem dX8_laysWithout_22 : decode cX8_laysWithout 22 = .ok (.invokestatic 81, 3) := by decide +kernel
theorem dX8_laysWithout_25 : decode cX8_laysWithout 25 = .ok (.ifCond .ne 25, 3) := by decide +kernel
theorem dX8_laysWithout_28 : decode cX8_laysWithout 28 = .ok (.aload_n 0, 1) := by decide +kernel
theorem dX8_laysWithout_29 : decode cX8_laysWithout 29 = .ok (.aload_n 0, 1) := by decide +kernel
theorem dX8_laysWithout_30 : decode cX8_laysWithout 30 = .ok (.getfield 7, 3) := by decide +kernel
theorem dX8_laysWithout_33 : decode cX8_laysWithout 33 = .ok (.iload_n 3, 1) := by decide +kernel
theorem dX8_laysWithout_34 : decode cX8_laysWithout 34 = .ok (.caload, 1) := by decide +kernel
theorem dX8_laysWithout_35 : decode cX8_laysWithout 35 = .ok (.aload_n 0, 1) := by decide +kernel
theorem dX8_laysWithout_36 : decode cX8_laysWithout 36 = .ok (.getfield 16, 3) := by decide +kernel
theorem dX8_laysWithout_39 : decode cX8_laysWithout 39 = .ok (.iload_n 3, 1) := by decide +kernel
theorem dX8_laysWithout_40 : decode cX8_laysWithout 40 = .ok (.iaload, 1) := by decide +kernel
theorem dX8_laysWithout_41 : decode cX8_laysWithout 41 = .ok (.aload_n 0, 1) := by decide +kernel
theorem dX8_laysWithout_42 : decode cX8_laysWithout 42 = .ok (.getfield 20, 3) := by decide +kernel
theorem dX8_laysWithout_45 : decode cX8_laysWithout 45 = .ok (.iload_n 3, 1) := by decide +kernel
theorem dX8_laysWithout_46 : decode cX8_laysWithout 46 = .ok (.iaload, 1) := by decide +kernel
theorem dX8_laysWithout_47 : decode cX8_laysWithout 47 = .ok (.invokevirtual 101, 3) := by decide +kernel
theorem dX8_laysWithout_50 : decode cX8_laysWithout 50 = .ok (.iinc 3 1, 3) := by decide +kernel
theorem dX8_laysWithout_53 : decode cX8_laysWithout 53 = .ok (.goto (-46), 3) := by decide +kernel
theorem dX8_laysWithout_56 : decode cX8_laysWithout 56 = .ok (.return_, 1) := by decide +kernel
theorem dX8_around_0 : decode cX8_around 0 = .ok (.iload_n 1, 1) := by decide +kernel
theorem dX8_around_1 : decode cX8_around 1 = .ok (.ifCond .le 37, 3) := by decide +kernel
theorem dX8_around_4 : decode cX8_around 4 = .ok (.iload_n 1, 1) := by decide +kernel
theorem dX8_around_5 : decode cX8_around 5 = .ok (.aload_n 0, 1) := by decide +kernel
theorem dX8_around_6 : decode cX8_around 6 = .ok (.getfield 95, 3) := by decide +kernel
theorem dX8_around_9 : decode cX8_around 9 = .ok (.if_icmp .ge 29, 3) := by decide +kernel
theorem dX8_around_12 : decode cX8_around 12 = .ok (.aload_n 0, 1) := by decide +kernel
theorem dX8_around_13 : decode cX8_around 13 = .ok (.getfield 26, 3) := by decide +kernel
theorem dX8_around_16 : decode cX8_around 16 = .ok (.iload_n 1, 1) := by decide +kernel
theorem dX8_around_17 : decode cX8_around 17 = .ok (.iconst 1, 1) := by decide +kernel
theorem dX8_around_18 : decode cX8_around 18 = .ok (.isub, 1) := by decide +kernel
theorem dX8_around_19 : decode cX8_around 19 = .ok (.iaload, 1) := by decide +kernel
theorem dX8_around_20 : decode cX8_around 20 = .ok (.aload_n 0, 1) := by decide +kernel
theorem dX8_around_21 : decode cX8_around 21 = .ok (.getfield 26, 3) := by decide +kernel
theorem dX8_around_24 : decode cX8_around 24 = .ok (.iload_n 1, 1) := by decide +kernel
theorem dX8_around_25 : decode cX8_around 25 = .ok (.iaload, 1) := by decide +kernel
theorem dX8_around_26 : decode cX8_around 26 = .ok (.if_icmp .ne 12, 3) := by decide +kernel
theorem dX8_around_29 : decode cX8_around 29 = .ok (.aload_n 0, 1) := by decide +kernel
theorem dX8_around_30 : decode cX8_around 30 = .ok (.getfield 26, 3) := by decide +kernel
theorem dX8_around_33 : decode cX8_around 33 = .ok (.iload_n 1, 1) := by decide +kernel
theorem dX8_around_34 : decode cX8_around 34 = .ok (.iaload, 1) := by decide +kernel
theorem dX8_around_35 : decode cX8_around 35 = .ok (.goto 4, 3) := by decide +kernel
theorem dX8_around_38 : decode cX8_around 38 = .ok (.iconst (-1), 1) := by decide +kernel
theorem dX8_around_39 : decode cX8_around 39 = .ok (.ireturn, 1) := by decide +kernel
theorem dX8_opens_0 : decode cX8_opens 0 = .ok (.aload_n 0, 1) := by decide +kernel
theorem dX8_opens_1 : decode cX8_opens 1 = .ok (.getfield 95, 3) := by decide +kernel
theorem dX8_opens_4 : decode cX8_opens 4 = .ok (.iconst 1, 1) := by decide +kernel
theorem dX8_opens_5 : decode cX8_opens 5 = .ok (.isub, 1) := by decide +kernel
theorem dX8_opens_6 : decode cX8_opens 6 = .ok (.istore_n 3, 1) := by decide +kernel
theorem dX8_opens_7 : decode cX8_opens 7 = .ok (.iload_n 3, 1) := by decide +kernel
theorem dX8_opens_8 : decode cX8_opens 8 = .ok (.iload_n 1, 1) := by decide +kernel
theorem dX8_opens_9 : decode cX8_opens 9 = .ok (.if_icmp .lt 51, 3) := by decide +kernel
theorem dX8_opens_12 : decode cX8_opens 12 = .ok (.aload_n 0, 1) := by decide +kernel
theorem dX8_opens_13 : decode cX8_opens 13 = .ok (.getfield 13, 3) := by decide +kernel
theorem dX8_opens_16 : decode cX8_opens 16 = .ok (.iload_n 3, 1) := by decide +kernel
theorem dX8_opens_17 : decode cX8_opens 17 = .ok (.iload_n 2, 1) := by decide +kernel
theorem dX8_opens_18 : decode cX8_opens 18 = .ok (.iadd, 1) := by decide +kernel
theorem dX8_opens_19 : decode cX8_opens 19 = .ok (.aload_n 0, 1) := by decide +kernel
theorem dX8_opens_20 : decode cX8_opens 20 = .ok (.getfield 13, 3) := by decide +kernel
theorem dX8_opens_23 : decode cX8_opens 23 = .ok (.iload_n 3, 1) := by decide +kernel
theorem dX8_opens_24 : decode cX8_opens 24 = .ok (.caload, 1) := by decide +kernel
theorem dX8_opens_25 : decode cX8_opens 25 = .ok (.castore, 1) := by decide +kernel
theorem dX8_opens_26 : decode cX8_opens 26 = .ok (.aload_n 0, 1) := by decide +kernel
theorem dX8_opens_27 : decode cX8_opens 27 = .ok (.getfield 23, 3) := by decide +kernel
theorem dX8_opens_30 : decode cX8_opens 30 = .ok (.iload_n 3, 1) := by decide +kernel
theorem dX8_opens_31 : decode cX8_opens 31 = .ok (.iload_n 2, 1) := by decide +kernel
theorem dX8_opens_32 : decode cX8_opens 32 = .ok (.iadd, 1) := by decide +kernel
theorem dX8_opens_33 : decode cX8_opens 33 = .ok (.aload_n 0, 1) := by decide +kernel
theorem dX8_opens_34 : decode cX8_opens 34 = .ok (.getfield 23, 3) := by decide +kernel
theorem dX8_opens_37 : decode cX8_opens 37 = .ok (.iload_n 3, 1) := by decide +kernel
theorem dX8_opens_38 : decode cX8_opens 38 = .ok (.iaload, 1) := by decide +kernel
theorem dX8_opens_39 : decode cX8_opens 39 = .ok (.iastore, 1) := by decide +kernel
theorem dX8_opens_40 : decode cX8_opens 40 = .ok (.aload_n 0, 1) := by decide +kernel
theorem dX8_opens_41 : decode cX8_opens 41 = .ok (.getfield 26, 3) := by decide +kernel
theorem dX8_opens_44 : decode cX8_opens 44 = .ok (.iload_n 3, 1) := by decide +kernel
theorem dX8_opens_45 : decode cX8_opens 45 = .ok (.iload_n 2, 1) := by decide +kernel
theorem dX8_opens_46 : decode cX8_opens 46 = .ok (.iadd, 1) := by decide +kernel
theorem dX8_opens_47 : decode cX8_opens 47 = .ok (.aload_n 0, 1) := by decide +kernel
theorem dX8_opens_48 : decode cX8_opens 48 = .ok (.getfield 26, 3) := by decide +kernel
theorem dX8_opens_51 : decode cX8_opens 51 = .ok (.iload_n 3, 1) := by decide +kernel
theorem dX8_opens_52 : decode cX8_opens 52 = .ok (.iaload, 1) := by decide +kernel
theorem dX8_opens_53 : decode cX8_opens 53 = .ok (.iastore, 1) := by decide +kernel
theorem dX8_opens_54 : decode cX8_opens 54 = .ok (.iinc 3 (-1), 3) := by decide +kernel
theorem dX8_opens_57 : decode cX8_opens 57 = .ok (.goto (-50), 3) := by decide +kernel
theorem dX8_opens_60 : decode cX8_opens 60 = .ok (.aload_n 0, 1) := by decide +kernel
theorem dX8_opens_61 : decode cX8_opens 61 = .ok (.dup, 1) := by decide +kernel
theorem dX8_opens_62 : decode cX8_opens 62 = .ok (.getfield 95, 3) := by decide +kernel
theorem dX8_opens_65 : decode cX8_opens 65 = .ok (.iload_n 2, 1) := by decide +kernel
theorem dX8_opens_66 : decode cX8_opens 66 = .ok (.iadd, 1) := by decide +kernel
theorem dX8_opens_67 : decode cX8_opens 67 = .ok (.putfield 95, 3) := by decide +kernel
theorem dX8_opens_70 : decode cX8_opens 70 = .ok (.return_, 1) := by decide +kernel
theorem dX8_seeks_0 : decode cX8_seeks 0 = .ok (.iload_n 3, 1) := by decide +kernel
theorem dX8_seeks_1 : decode cX8_seeks 1 = .ok (.istore 4, 2) := by decide +kernel
theorem dX8_seeks_3 : decode cX8_seeks 3 = .ok (.iload 4, 2) := by decide +kernel
theorem dX8_seeks_5 : decode cX8_seeks 5 = .ok (.iload_n 1, 1) := by decide +kernel
theorem dX8_seeks_6 : decode cX8_seeks 6 = .ok (.if_icmp .ge 17, 3) := by decide +kernel
theorem dX8_seeks_9 : decode cX8_seeks 9 = .ok (.aload_n 0, 1) := by decide +kernel
theorem dX8_seeks_10 : decode cX8_seeks 10 = .ok (.iload 4, 2) := by decide +kernel
theorem dX8_seeks_12 : decode cX8_seeks 12 = .ok (.iaload, 1) := by decide +kernel
theorem dX8_seeks_13 : decode cX8_seeks 13 = .ok (.iload_n 2, 1) := by decide +kernel
theorem dX8_seeks_14 : decode cX8_seeks 14 = .ok (.if_icmp .eq 9, 3) := by decide +kernel
theorem dX8_seeks_17 : decode cX8_seeks 17 = .ok (.iinc 4 1, 3) := by decide +kernel
theorem dX8_seeks_20 : decode cX8_seeks 20 = .ok (.goto (-17), 3) := by decide +kernel
theorem dX8_seeks_23 : decode cX8_seeks 23 = .ok (.iload 4, 2) := by decide +kernel
theorem dX8_seeks_25 : decode cX8_seeks 25 = .ok (.ireturn, 1) := by decide +kernel
set_option maxRecDepth 20000 in
theorem ggX8_isChanged_X8_seeks : GoodIn wsX8_isChanged wsX8_seeks := goodIn_ca (goodIn_r _ [10] (by decide +kernel) (by decide +kernel)) (goodIn_sub (fun _ h => List.mem_cons_of_mem _ (List.mem_append_right _ h)) (by decide +kernel))
set_option maxRecDepth 20000 in
theorem gX8_isChanged_X8_seeks : GoodIn wsX8_isChanged (va_wsS RX8 105 yX8_seeks wsX8_seeks) := goodIn_app (goodIn_of _ (by decide +kernel)) ggX8_isChanged_X8_seeks
theorem dX8_isChanged_0 : decode cX8_isChanged 0 = .ok (.aload_n 0, 1) := by decide +kernel
theorem dX8_isChanged_1 : decode cX8_isChanged 1 = .ok (.getfield 20, 3) := by decide +kernel
theorem dX8_isChanged_4 : decode cX8_isChanged 4 = .ok (.aload_n 0, 1) := by decide +kernel
theorem dX8_isChanged_5 : decode cX8_isChanged 5 = .ok (.getfield 98, 3) := by decide +kernel
theorem dX8_isChanged_8 : decode cX8_isChanged 8 = .ok (.iload_n 1, 1) := by decide +kernel
theorem dX8_isChanged_9 : decode cX8_isChanged 9 = .ok (.iconst 0, 1) := by decide +kernel
theorem dX8_isChanged_10 : decode cX8_isChanged 10 = .ok (.invokestatic 105, 3) := by decide +kernel
theorem dX8_isChanged_13 : decode cX8_isChanged 13 = .ok (.istore_n 2, 1) := by decide +kernel
theorem dX8_isChanged_14 : decode cX8_isChanged 14 = .ok (.aload_n 0, 1) := by decide +kernel
theorem dX8_isChanged_15 : decode cX8_isChanged 15 = .ok (.getfield 26, 3) := by decide +kernel
theorem dX8_isChanged_18 : decode cX8_isChanged 18 = .ok (.aload_n 0, 1) := by decide +kernel
theorem dX8_isChanged_19 : decode cX8_isChanged 19 = .ok (.getfield 95, 3) := by decide +kernel
theorem dX8_isChanged_22 : decode cX8_isChanged 22 = .ok (.iload_n 1, 1) := by decide +kernel
theorem dX8_isChanged_23 : decode cX8_isChanged 23 = .ok (.iconst 0, 1) := by decide +kernel
theorem dX8_isChanged_24 : decode cX8_isChanged 24 = .ok (.invokestatic 105, 3) := by decide +kernel
theorem dX8_isChanged_27 : decode cX8_isChanged 27 = .ok (.istore_n 3, 1) := by decide +kernel
theorem dX8_isChanged_28 : decode cX8_isChanged 28 = .ok (.iload_n 2, 1) := by decide +kernel
theorem dX8_isChanged_29 : decode cX8_isChanged 29 = .ok (.aload_n 0, 1) := by decide +kernel
theorem dX8_isChanged_30 : decode cX8_isChanged 30 = .ok (.getfield 98, 3) := by decide +kernel
theorem dX8_isChanged_33 : decode cX8_isChanged 33 = .ok (.if_icmp .ge 61, 3) := by decide +kernel
theorem dX8_isChanged_36 : decode cX8_isChanged 36 = .ok (.iload_n 3, 1) := by decide +kernel
theorem dX8_isChanged_37 : decode cX8_isChanged 37 = .ok (.aload_n 0, 1) := by decide +kernel
theorem dX8_isChanged_38 : decode cX8_isChanged 38 = .ok (.getfield 95, 3) := by decide +kernel
theorem dX8_isChanged_41 : decode cX8_isChanged 41 = .ok (.if_icmp .ge 53, 3) := by decide +kernel
theorem dX8_isChanged_44 : decode cX8_isChanged 44 = .ok (.aload_n 0, 1) := by decide +kernel
theorem dX8_isChanged_45 : decode cX8_isChanged 45 = .ok (.getfield 7, 3) := by decide +kernel
theorem dX8_isChanged_48 : decode cX8_isChanged 48 = .ok (.iload_n 2, 1) := by decide +kernel
theorem dX8_isChanged_49 : decode cX8_isChanged 49 = .ok (.caload, 1) := by decide +kernel
theorem dX8_isChanged_50 : decode cX8_isChanged 50 = .ok (.aload_n 0, 1) := by decide +kernel
theorem dX8_isChanged_51 : decode cX8_isChanged 51 = .ok (.getfield 13, 3) := by decide +kernel
theorem dX8_isChanged_54 : decode cX8_isChanged 54 = .ok (.iload_n 3, 1) := by decide +kernel
theorem dX8_isChanged_55 : decode cX8_isChanged 55 = .ok (.caload, 1) := by decide +kernel
theorem dX8_isChanged_56 : decode cX8_isChanged 56 = .ok (.if_icmp .ne 38, 3) := by decide +kernel
theorem dX8_isChanged_59 : decode cX8_isChanged 59 = .ok (.aload_n 0, 1) := by decide +kernel
theorem dX8_isChanged_60 : decode cX8_isChanged 60 = .ok (.getfield 20, 3) := by decide +kernel
theorem dX8_isChanged_63 : decode cX8_isChanged 63 = .ok (.aload_n 0, 1) := by decide +kernel
theorem dX8_isChanged_64 : decode cX8_isChanged 64 = .ok (.getfield 98, 3) := by decide +kernel
theorem dX8_isChanged_67 : decode cX8_isChanged 67 = .ok (.iload_n 1, 1) := by decide +kernel
theorem dX8_isChanged_68 : decode cX8_isChanged 68 = .ok (.iload_n 2, 1) := by decide +kernel
theorem dX8_isChanged_69 : decode cX8_isChanged 69 = .ok (.iconst 1, 1) := by decide +kernel
theorem dX8_isChanged_70 : decode cX8_isChanged 70 = .ok (.iadd, 1) := by decide +kernel
theorem dX8_isChanged_71 : decode cX8_isChanged 71 = .ok (.invokestatic 105, 3) := by decide +kernel
theorem dX8_isChanged_74 : decode cX8_isChanged 74 = .ok (.istore_n 2, 1) := by decide +kernel
theorem dX8_isChanged_75 : decode cX8_isChanged 75 = .ok (.aload_n 0, 1) := by decide +kernel
theorem dX8_isChanged_76 : decode cX8_isChanged 76 = .ok (.getfield 26, 3) := by decide +kernel
theorem dX8_isChanged_79 : decode cX8_isChanged 79 = .ok (.aload_n 0, 1) := by decide +kernel
theorem dX8_isChanged_80 : decode cX8_isChanged 80 = .ok (.getfield 95, 3) := by decide +kernel
theorem dX8_isChanged_83 : decode cX8_isChanged 83 = .ok (.iload_n 1, 1) := by decide +kernel
theorem dX8_isChanged_84 : decode cX8_isChanged 84 = .ok (.iload_n 3, 1) := by decide +kernel
theorem dX8_isChanged_85 : decode cX8_isChanged 85 = .ok (.iconst 1, 1) := by decide +kernel
theorem dX8_isChanged_86 : decode cX8_isChanged 86 = .ok (.iadd, 1) := by decide +kernel
theorem dX8_isChanged_87 : decode cX8_isChanged 87 = .ok (.invokestatic 105, 3) := by decide +kernel
theorem dX8_isChanged_90 : decode cX8_isChanged 90 = .ok (.istore_n 3, 1) := by decide +kernel
theorem dX8_isChanged_91 : decode cX8_isChanged 91 = .ok (.goto (-63), 3) := by decide +kernel
theorem dX8_isChanged_94 : decode cX8_isChanged 94 = .ok (.iload_n 2, 1) := by decide +kernel
theorem dX8_isChanged_95 : decode cX8_isChanged 95 = .ok (.aload_n 0, 1) := by decide +kernel
theorem dX8_isChanged_96 : decode cX8_isChanged 96 = .ok (.getfield 98, 3) := by decide +kernel
theorem dX8_isChanged_99 : decode cX8_isChanged 99 = .ok (.if_icmp .lt 11, 3) := by decide +kernel
theorem dX8_isChanged_102 : decode cX8_isChanged 102 = .ok (.iload_n 3, 1) := by decide +kernel
theorem dX8_isChanged_103 : decode cX8_isChanged 103 = .ok (.aload_n 0, 1) := by decide +kernel
theorem dX8_isChanged_104 : decode cX8_isChanged 104 = .ok (.getfield 95, 3) := by decide +kernel
theorem dX8_isChanged_107 : decode cX8_isChanged 107 = .ok (.if_icmp .ge 7, 3) := by decide +kernel
theorem dX8_isChanged_110 : decode cX8_isChanged 110 = .ok (.iconst 1, 1) := by decide +kernel
theorem dX8_isChanged_111 : decode cX8_isChanged 111 = .ok (.goto 4, 3) := by decide +kernel
theorem dX8_isChanged_114 : decode cX8_isChanged 114 = .ok (.iconst 0, 1) := by decide +kernel
theorem dX8_isChanged_115 : decode cX8_isChanged 115 = .ok (.ireturn, 1) := by decide +kernel
set_option maxRecDepth 20000 in
theorem ggX8_changed_X8_isChanged : GoodIn wsX8_changed wsX8_isChanged := goodIn_ca (goodIn_r _ [6, 7, 8, 9, 10, 11, 12, 13, 14, 5, 15, 16, 17, 18, 19, 20, 21, 22, 23, 24, 25, 26, 27, 28, 29, 30, 31, 32, 33, 34, 35, 36, 37, 38, 39, 40, 41, 42, 43, 44, 45, 46, 47, 48] (by decide +kernel) (by decide +kernel)) (goodIn_sub (fun _ h => List.mem_cons_of_mem _ (List.mem_append_right _ h)) (by decide +kernel))
set_option maxRecDepth 20000 in
theorem gX8_changed_X8_isChanged : GoodIn wsX8_changed (wsV RX8 112 RX8 yX8_isChanged wsX8_isChanged) := goodIn_app (goodIn_of _ (by decide +kernel)) ggX8_changed_X8_isChanged
theorem dX8_changed_0 : decode cX8_changed 0 = .ok (.iconst 0, 1) := by decide +kernel
theorem dX8_changed_1 : decode cX8_changed 1 = .ok (.istore_n 1, 1) := by decide +kernel
theorem dX8_changed_2 : decode cX8_changed 2 = .ok (.iconst 0, 1) := by decide +kernel
theorem dX8_changed_3 : decode cX8_changed 3 = .ok (.istore_n 2, 1) := by decide +kernel
theorem dX8_changed_4 : decode cX8_changed 4 = .ok (.iload_n 2, 1) := by decide +kernel
theorem dX8_changed_5 : decode cX8_changed 5 = .ok (.aload_n 0, 1) := by decide +kernel
theorem dX8_changed_6 : decode cX8_changed 6 = .ok (.getfield 109, 3) := by decide +kernel
theorem dX8_changed_9 : decode cX8_changed 9 = .ok (.if_icmp .ge 27, 3) := by decide +kernel
theorem dX8_changed_12 : decode cX8_changed 12 = .ok (.iload_n 1, 1) := by decide +kernel
theorem dX8_changed_13 : decode cX8_changed 13 = .ok (.aload_n 0, 1) := by decide +kernel
theorem dX8_changed_14 : decode cX8_changed 14 = .ok (.iload_n 2, 1) := by decide +kernel
theorem dX8_changed_15 : decode cX8_changed 15 = .ok (.invokevirtual 112, 3) := by decide +kernel
theorem dX8_changed_18 : decode cX8_changed 18 = .ok (.ifCond .eq 9, 3) := by decide +kernel
theorem dX8_changed_21 : decode cX8_changed 21 = .ok (.iconst 1, 1) := by decide +kernel
theorem dX8_changed_22 : decode cX8_changed 22 = .ok (.iload_n 2, 1) := by decide +kernel
theorem dX8_changed_23 : decode cX8_changed 23 = .ok (.ishl, 1) := by decide +kernel
theorem dX8_changed_24 : decode cX8_changed 24 = .ok (.goto 4, 3) := by decide +kernel
theorem dX8_changed_27 : decode cX8_changed 27 = .ok (.iconst 0, 1) := by decide +kernel
theorem dX8_changed_28 : decode cX8_changed 28 = .ok (.ior, 1) := by decide +kernel
theorem dX8_changed_29 : decode cX8_changed 29 = .ok (.istore_n 1, 1) := by decide +kernel
theorem dX8_changed_30 : decode cX8_changed 30 = .ok (.iinc 2 1, 3) := by decide +kernel
theorem dX8_changed_33 : decode cX8_changed 33 = .ok (.goto (-29), 3) := by decide +kernel
theorem dX8_changed_36 : decode cX8_changed 36 = .ok (.iload_n 1, 1) := by decide +kernel
theorem dX8_changed_37 : decode cX8_changed 37 = .ok (.ireturn, 1) := by decide +kernel
set_option maxRecDepth 20000 in
theorem ggX8_isRefused_X8_changed : GoodIn wsX8_isRefused wsX8_changed := goodIn_ca (goodIn_r _ [13, 1, 14, 15, 16, 12, 17, 18, 19, 20, 21, 22, 23, 24, 25, 26, 27, 28, 29, 30, 31, 32, 33, 34, 35, 36, 37, 38, 39, 40, 41, 42, 43, 44, 45, 46, 47, 48, 49, 50, 51, 52, 53, 54, 55, 56, 57, 58, 59] (by decide +kernel) (by decide +kernel)) (goodIn_sub (fun _ h => List.mem_cons_of_mem _ (List.mem_append_right _ h)) (by decide +kernel))
set_option maxRecDepth 20000 in
theorem gX8_isRefused_X8_changed : GoodIn wsX8_isRefused (wsV RX8 116 RX8 yX8_changed wsX8_changed) := goodIn_app (goodIn_of _ (by decide +kernel)) ggX8_isRefused_X8_changed
theorem dX8_isRefused_0 : decode cX8_isRefused 0 = .ok (.aload_n 0, 1) := by decide +kernel
theorem dX8_isRefused_1 : decode cX8_isRefused 1 = .ok (.invokevirtual 116, 3) := by decide +kernel
theorem dX8_isRefused_4 : decode cX8_isRefused 4 = .ok (.istore_n 1, 1) := by decide +kernel
theorem dX8_isRefused_5 : decode cX8_isRefused 5 = .ok (.iconst (-1), 1) := by decide +kernel
theorem dX8_isRefused_6 : decode cX8_isRefused 6 = .ok (.istore_n 2, 1) := by decide +kernel
theorem dX8_isRefused_7 : decode cX8_isRefused 7 = .ok (.iconst (-1), 1) := by decide +kernel
theorem dX8_isRefused_8 : decode cX8_isRefused 8 = .ok (.istore_n 3, 1) := by decide +kernel
theorem dX8_isRefused_9 : decode cX8_isRefused 9 = .ok (.aload_n 0, 1) := by decide +kernel
theorem dX8_isRefused_10 : decode cX8_isRefused 10 = .ok (.getfield 109, 3) := by decide +kernel
theorem dX8_isRefused_13 : decode cX8_isRefused 13 = .ok (.iconst 1, 1) := by decide +kernel
theorem dX8_isRefused_14 : decode cX8_isRefused 14 = .ok (.isub, 1) := by decide +kernel
theorem dX8_isRefused_15 : decode cX8_isRefused 15 = .ok (.istore 4, 2) := by decide +kernel
theorem dX8_isRefused_17 : decode cX8_isRefused 17 = .ok (.iload 4, 2) := by decide +kernel
theorem dX8_isRefused_19 : decode cX8_isRefused 19 = .ok (.ifCond .lt 36, 3) := by decide +kernel
theorem dX8_isRefused_22 : decode cX8_isRefused 22 = .ok (.aload_n 0, 1) := by decide +kernel
theorem dX8_isRefused_23 : decode cX8_isRefused 23 = .ok (.getfield 63, 3) := by decide +kernel
theorem dX8_isRefused_26 : decode cX8_isRefused 26 = .ok (.iload 4, 2) := by decide +kernel
theorem dX8_isRefused_28 : decode cX8_isRefused 28 = .ok (.baload, 1) := by decide +kernel
theorem dX8_isRefused_29 : decode cX8_isRefused 29 = .ok (.ifCond .eq 18, 3) := by decide +kernel
theorem dX8_isRefused_32 : decode cX8_isRefused 32 = .ok (.iload_n 1, 1) := by decide +kernel
theorem dX8_isRefused_33 : decode cX8_isRefused 33 = .ok (.iload 4, 2) := by decide +kernel
theorem dX8_isRefused_35 : decode cX8_isRefused 35 = .ok (.ishr, 1) := by decide +kernel
theorem dX8_isRefused_36 : decode cX8_isRefused 36 = .ok (.iconst 1, 1) := by decide +kernel
theorem dX8_isRefused_37 : decode cX8_isRefused 37 = .ok (.iand, 1) := by decide +kernel
theorem dX8_isRefused_38 : decode cX8_isRefused 38 = .ok (.iconst 1, 1) := by decide +kernel
theorem dX8_isRefused_39 : decode cX8_isRefused 39 = .ok (.if_icmp .ne 8, 3) := by decide +kernel
theorem dX8_isRefused_42 : decode cX8_isRefused 42 = .ok (.iload 4, 2) := by decide +kernel
theorem dX8_isRefused_44 : decode cX8_isRefused 44 = .ok (.goto 4, 3) := by decide +kernel
theorem dX8_isRefused_47 : decode cX8_isRefused 47 = .ok (.iload_n 2, 1) := by decide +kernel
theorem dX8_isRefused_48 : decode cX8_isRefused 48 = .ok (.istore_n 2, 1) := by decide +kernel
theorem dX8_isRefused_49 : decode cX8_isRefused 49 = .ok (.iinc 4 (-1), 3) := by decide +kernel
theorem dX8_isRefused_52 : decode cX8_isRefused 52 = .ok (.goto (-35), 3) := by decide +kernel
theorem dX8_isRefused_55 : decode cX8_isRefused 55 = .ok (.aload_n 0, 1) := by decide +kernel
theorem dX8_isRefused_56 : decode cX8_isRefused 56 = .ok (.getfield 120, 3) := by decide +kernel
theorem dX8_isRefused_59 : decode cX8_isRefused 59 = .ok (.iconst 1, 1) := by decide +kernel
theorem dX8_isRefused_60 : decode cX8_isRefused 60 = .ok (.isub, 1) := by decide +kernel
theorem dX8_isRefused_61 : decode cX8_isRefused 61 = .ok (.istore 4, 2) := by decide +kernel
theorem dX8_isRefused_63 : decode cX8_isRefused 63 = .ok (.iload 4, 2) := by decide +kernel
theorem dX8_isRefused_65 : decode cX8_isRefused 65 = .ok (.ifCond .lt 47, 3) := by decide +kernel
theorem dX8_isRefused_68 : decode cX8_isRefused 68 = .ok (.aload_n 0, 1) := by decide +kernel
theorem dX8_isRefused_69 : decode cX8_isRefused 69 = .ok (.getfield 123, 3) := by decide +kernel
theorem dX8_isRefused_72 : decode cX8_isRefused 72 = .ok (.ifCond .eq 32, 3) := by decide +kernel
theorem dX8_isRefused_75 : decode cX8_isRefused 75 = .ok (.aload_n 0, 1) := by decide +kernel
theorem dX8_isRefused_76 : decode cX8_isRefused 76 = .ok (.getfield 70, 3) := by decide +kernel
theorem dX8_isRefused_79 : decode cX8_isRefused 79 = .ok (.iload 4, 2) := by decide +kernel
theorem dX8_isRefused_81 : decode cX8_isRefused 81 = .ok (.caload, 1) := by decide +kernel
theorem dX8_isRefused_82 : decode cX8_isRefused 82 = .ok (.bipush 118, 2) := by decide +kernel
theorem dX8_isRefused_84 : decode cX8_isRefused 84 = .ok (.if_icmp .ne 20, 3) := by decide +kernel
theorem dX8_isRefused_87 : decode cX8_isRefused 87 = .ok (.aload_n 0, 1) := by decide +kernel
theorem dX8_isRefused_88 : decode cX8_isRefused 88 = .ok (.getfield 53, 3) := by decide +kernel
theorem dX8_isRefused_91 : decode cX8_isRefused 91 = .ok (.iload 4, 2) := by decide +kernel
theorem dX8_isRefused_93 : decode cX8_isRefused 93 = .ok (.iaload, 1) := by decide +kernel
theorem dX8_isRefused_94 : decode cX8_isRefused 94 = .ok (.iload_n 1, 1) := by decide +kernel
theorem dX8_isRefused_95 : decode cX8_isRefused 95 = .ok (.iand, 1) := by decide +kernel
theorem dX8_isRefused_96 : decode cX8_isRefused 96 = .ok (.ifCond .eq 8, 3) := by decide +kernel
theorem dX8_isRefused_99 : decode cX8_isRefused 99 = .ok (.iload 4, 2) := by decide +kernel
theorem dX8_isRefused_101 : decode cX8_isRefused 101 = .ok (.goto 4, 3) := by decide +kernel
theorem dX8_isRefused_104 : decode cX8_isRefused 104 = .ok (.iload_n 3, 1) := by decide +kernel
theorem dX8_isRefused_105 : decode cX8_isRefused 105 = .ok (.istore_n 3, 1) := by decide +kernel
theorem dX8_isRefused_106 : decode cX8_isRefused 106 = .ok (.iinc 4 (-1), 3) := by decide +kernel
theorem dX8_isRefused_109 : decode cX8_isRefused 109 = .ok (.goto (-46), 3) := by decide +kernel
theorem dX8_isRefused_112 : decode cX8_isRefused 112 = .ok (.iload_n 2, 1) := by decide +kernel
theorem dX8_isRefused_113 : decode cX8_isRefused 113 = .ok (.ifCond .ge 9, 3) := by decide +kernel
theorem dX8_isRefused_116 : decode cX8_isRefused 116 = .ok (.iload_n 3, 1) := by decide +kernel
theorem dX8_isRefused_117 : decode cX8_isRefused 117 = .ok (.ifCond .ge 5, 3) := by decide +kernel
theorem dX8_isRefused_120 : decode cX8_isRefused 120 = .ok (.iconst 0, 1) := by decide +kernel
theorem dX8_isRefused_121 : decode cX8_isRefused 121 = .ok (.ireturn, 1) := by decide +kernel
theorem dX8_isRefused_122 : decode cX8_isRefused 122 = .ok (.aload_n 0, 1) := by decide +kernel
theorem dX8_isRefused_123 : decode cX8_isRefused 123 = .ok (.iload_n 2, 1) := by decide +kernel
theorem dX8_isRefused_124 : decode cX8_isRefused 124 = .ok (.ifCond .lt 8, 3) := by decide +kernel
theorem dX8_isRefused_127 : decode cX8_isRefused 127 = .ok (.bipush 108, 2) := by decide +kernel
theorem dX8_isRefused_129 : decode cX8_isRefused 129 = .ok (.goto 5, 3) := by decide +kernel
theorem dX8_isRefused_132 : decode cX8_isRefused 132 = .ok (.bipush 115, 2) := by decide +kernel
theorem dX8_isRefused_134 : decode cX8_isRefused 134 = .ok (.putfield 73, 3) := by decide +kernel
theorem dX8_isRefused_137 : decode cX8_isRefused 137 = .ok (.aload_n 0, 1) := by decide +kernel
theorem dX8_isRefused_138 : decode cX8_isRefused 138 = .ok (.iload_n 2, 1) := by decide +kernel
theorem dX8_isRefused_139 : decode cX8_isRefused 139 = .ok (.ifCond .lt 7, 3) := by decide +kernel
theorem dX8_isRefused_142 : decode cX8_isRefused 142 = .ok (.iload_n 2, 1) := by decide +kernel
theorem dX8_isRefused_143 : decode cX8_isRefused 143 = .ok (.goto 4, 3) := by decide +kernel
theorem dX8_isRefused_146 : decode cX8_isRefused 146 = .ok (.iload_n 3, 1) := by decide +kernel
theorem dX8_isRefused_147 : decode cX8_isRefused 147 = .ok (.putfield 127, 3) := by decide +kernel
theorem dX8_isRefused_150 : decode cX8_isRefused 150 = .ok (.iconst 1, 1) := by decide +kernel
theorem dX8_isRefused_151 : decode cX8_isRefused 151 = .ok (.ireturn, 1) := by decide +kernel
theorem dX8_amount_0 : decode cX8_amount 0 = .ok (.aload_n 0, 1) := by decide +kernel
theorem dX8_amount_1 : decode cX8_amount 1 = .ok (.getfield 41, 3) := by decide +kernel
theorem dX8_amount_4 : decode cX8_amount 4 = .ok (.iload_n 1, 1) := by decide +kernel
theorem dX8_amount_5 : decode cX8_amount 5 = .ok (.iaload, 1) := by decide +kernel
theorem dX8_amount_6 : decode cX8_amount 6 = .ok (.istore 5, 2) := by decide +kernel
theorem dX8_amount_8 : decode cX8_amount 8 = .ok (.aload_n 0, 1) := by decide +kernel
theorem dX8_amount_9 : decode cX8_amount 9 = .ok (.getfield 38, 3) := by decide +kernel
theorem dX8_amount_12 : decode cX8_amount 12 = .ok (.iload_n 1, 1) := by decide +kernel
theorem dX8_amount_13 : decode cX8_amount 13 = .ok (.iaload, 1) := by decide +kernel
theorem dX8_amount_14 : decode cX8_amount 14 = .ok (.istore 6, 2) := by decide +kernel
theorem dX8_amount_16 : decode cX8_amount 16 = .ok (.iload 6, 2) := by decide +kernel
theorem dX8_amount_18 : decode cX8_amount 18 = .ok (.ifCond .ne 15, 3) := by decide +kernel
theorem dX8_amount_21 : decode cX8_amount 21 = .ok (.iload_n 2, 1) := by decide +kernel
theorem dX8_amount_22 : decode cX8_amount 22 = .ok (.iload_n 3, 1) := by decide +kernel
theorem dX8_amount_23 : decode cX8_amount 23 = .ok (.iadd, 1) := by decide +kernel
theorem dX8_amount_24 : decode cX8_amount 24 = .ok (.iload 4, 2) := by decide +kernel
theorem dX8_amount_26 : decode cX8_amount 26 = .ok (.iadd, 1) := by decide +kernel
theorem dX8_amount_27 : decode cX8_amount 27 = .ok (.iload 5, 2) := by decide +kernel
theorem dX8_amount_29 : decode cX8_amount 29 = .ok (.imul, 1) := by decide +kernel
theorem dX8_amount_30 : decode cX8_amount 30 = .ok (.goto 57, 3) := by decide +kernel
theorem dX8_amount_33 : decode cX8_amount 33 = .ok (.iload 6, 2) := by decide +kernel
theorem dX8_amount_35 : decode cX8_amount 35 = .ok (.iconst 1, 1) := by decide +kernel
theorem dX8_amount_36 : decode cX8_amount 36 = .ok (.if_icmp .ne 8, 3) := by decide +kernel
theorem dX8_amount_39 : decode cX8_amount 39 = .ok (.iload 5, 2) := by decide +kernel
theorem dX8_amount_41 : decode cX8_amount 41 = .ok (.goto 46, 3) := by decide +kernel
theorem dX8_amount_44 : decode cX8_amount 44 = .ok (.iload 6, 2) := by decide +kernel
theorem dX8_amount_46 : decode cX8_amount 46 = .ok (.iconst 2, 1) := by decide +kernel
theorem dX8_amount_47 : decode cX8_amount 47 = .ok (.if_icmp .ne 17, 3) := by decide +kernel
theorem dX8_amount_50 : decode cX8_amount 50 = .ok (.iload_n 2, 1) := by decide +kernel
theorem dX8_amount_51 : decode cX8_amount 51 = .ok (.iload 5, 2) := by decide +kernel
theorem dX8_amount_53 : decode cX8_amount 53 = .ok (.imul, 1) := by decide +kernel
theorem dX8_amount_54 : decode cX8_amount 54 = .ok (.iload_n 3, 1) := by decide +kernel
theorem dX8_amount_55 : decode cX8_amount 55 = .ok (.iload 5, 2) := by decide +kernel
theorem dX8_amount_57 : decode cX8_amount 57 = .ok (.imul, 1) := by decide +kernel
theorem dX8_amount_58 : decode cX8_amount 58 = .ok (.iconst 2, 1) := by decide +kernel
theorem dX8_amount_59 : decode cX8_amount 59 = .ok (.idiv, 1) := by decide +kernel
theorem dX8_amount_60 : decode cX8_amount 60 = .ok (.iadd, 1) := by decide +kernel
theorem dX8_amount_61 : decode cX8_amount 61 = .ok (.goto 26, 3) := by decide +kernel
theorem dX8_amount_64 : decode cX8_amount 64 = .ok (.iload_n 2, 1) := by decide +kernel
theorem dX8_amount_65 : decode cX8_amount 65 = .ok (.iload_n 3, 1) := by decide +kernel
theorem dX8_amount_66 : decode cX8_amount 66 = .ok (.iadd, 1) := by decide +kernel
theorem dX8_amount_67 : decode cX8_amount 67 = .ok (.iload 4, 2) := by decide +kernel
theorem dX8_amount_69 : decode cX8_amount 69 = .ok (.iadd, 1) := by decide +kernel
theorem dX8_amount_70 : decode cX8_amount 70 = .ok (.iconst 2, 1) := by decide +kernel
theorem dX8_amount_71 : decode cX8_amount 71 = .ok (.if_icmp .le 12, 3) := by decide +kernel
theorem dX8_amount_74 : decode cX8_amount 74 = .ok (.iload_n 2, 1) := by decide +kernel
theorem dX8_amount_75 : decode cX8_amount 75 = .ok (.iload_n 3, 1) := by decide +kernel
theorem dX8_amount_76 : decode cX8_amount 76 = .ok (.iadd, 1) := by decide +kernel
theorem dX8_amount_77 : decode cX8_amount 77 = .ok (.iload 4, 2) := by decide +kernel
theorem dX8_amount_79 : decode cX8_amount 79 = .ok (.iadd, 1) := by decide +kernel
theorem dX8_amount_80 : decode cX8_amount 80 = .ok (.goto 4, 3) := by decide +kernel
theorem dX8_amount_83 : decode cX8_amount 83 = .ok (.iconst 2, 1) := by decide +kernel
theorem dX8_amount_84 : decode cX8_amount 84 = .ok (.iload 5, 2) := by decide +kernel
theorem dX8_amount_86 : decode cX8_amount 86 = .ok (.imul, 1) := by decide +kernel
theorem dX8_amount_87 : decode cX8_amount 87 = .ok (.ireturn, 1) := by decide +kernel
set_option maxRecDepth 20000 in
theorem ggX8_does_X8_changed : GoodIn wsX8_does wsX8_changed := goodIn_ca (goodIn_r _ [24, 25, 26, 27, 28, 23, 29, 17, 19, 18, 12, 13, 14, 30, 31, 32, 39, 40, 41, 42, 43, 44, 45, 46, 47, 48, 49, 50, 51, 52, 53, 54, 55, 56, 57, 58, 59, 60, 61, 62, 63, 64, 65, 66, 67, 68, 69, 70, 71] (by decide +kernel) (by decide +kernel)) (goodIn_sub (fun _ h => List.mem_cons_of_mem _ (List.mem_append_right _ h)) (by decide +kernel))
set_option maxRecDepth 20000 in
theorem gX8_does_X8_changed : GoodIn wsX8_does (wsV RX8 116 RX8 yX8_changed wsX8_changed) := goodIn_app (goodIn_of _ (by decide +kernel)) ggX8_does_X8_changed
set_option maxRecDepth 20000 in
theorem ggX8_does_X8_amount : GoodIn wsX8_does wsX8_amount := goodIn_ca (goodIn_r _ [36, 37, 38, 39, 40, 41, 42, 43, 44, 45, 46, 47, 48, 49, 50, 51, 52, 53, 54, 55, 56, 57, 58, 59, 60, 61, 62, 63, 64, 65, 66, 67, 68, 69, 70, 71] (by decide +kernel) (by decide +kernel)) (goodIn_sub (fun _ h => List.mem_cons_of_mem _ (List.mem_append_right _ h)) (by decide +kernel))
set_option maxRecDepth 20000 in
theorem gX8_does_X8_amount : GoodIn wsX8_does (wsV RX8 130 RX8 yX8_amount wsX8_amount) := goodIn_app (goodIn_of _ (by decide +kernel)) ggX8_does_X8_amount
theorem dX8_does_0 : decode cX8_does 0 = .ok (.aload_n 0, 1) := by decide +kernel
theorem dX8_does_1 : decode cX8_does 1 = .ok (.invokevirtual 116, 3) := by decide +kernel
theorem dX8_does_4 : decode cX8_does 4 = .ok (.istore 4, 2) := by decide +kernel
theorem dX8_does_6 : decode cX8_does 6 = .ok (.aload_n 0, 1) := by decide +kernel
theorem dX8_does_7 : decode cX8_does 7 = .ok (.iload_n 2, 1) := by decide +kernel
theorem dX8_does_8 : decode cX8_does 8 = .ok (.iload_n 1, 1) := by decide +kernel
theorem dX8_does_9 : decode cX8_does 9 = .ok (.bipush 105, 2) := by decide +kernel
theorem dX8_does_11 : decode cX8_does 11 = .ok (.if_icmp .ne 7, 3) := by decide +kernel
theorem dX8_does_14 : decode cX8_does 14 = .ok (.iload_n 3, 1) := by decide +kernel
theorem dX8_does_15 : decode cX8_does 15 = .ok (.goto 4, 3) := by decide +kernel
theorem dX8_does_18 : decode cX8_does 18 = .ok (.iconst 0, 1) := by decide +kernel
theorem dX8_does_19 : decode cX8_does 19 = .ok (.iload_n 1, 1) := by decide +kernel
theorem dX8_does_20 : decode cX8_does 20 = .ok (.bipush 100, 2) := by decide +kernel
theorem dX8_does_22 : decode cX8_does 22 = .ok (.if_icmp .ne 7, 3) := by decide +kernel
theorem dX8_does_25 : decode cX8_does 25 = .ok (.iload_n 3, 1) := by decide +kernel
theorem dX8_does_26 : decode cX8_does 26 = .ok (.goto 4, 3) := by decide +kernel
theorem dX8_does_29 : decode cX8_does 29 = .ok (.iconst 0, 1) := by decide +kernel
theorem dX8_does_30 : decode cX8_does 30 = .ok (.iload_n 1, 1) := by decide +kernel
theorem dX8_does_31 : decode cX8_does 31 = .ok (.bipush 109, 2) := by decide +kernel
theorem dX8_does_33 : decode cX8_does 33 = .ok (.if_icmp .ne 7, 3) := by decide +kernel
theorem dX8_does_36 : decode cX8_does 36 = .ok (.iload_n 3, 1) := by decide +kernel
theorem dX8_does_37 : decode cX8_does 37 = .ok (.goto 4, 3) := by decide +kernel
theorem dX8_does_40 : decode cX8_does 40 = .ok (.iconst 0, 1) := by decide +kernel
theorem dX8_does_41 : decode cX8_does 41 = .ok (.invokevirtual 130, 3) := by decide +kernel
theorem dX8_does_44 : decode cX8_does 44 = .ok (.istore 5, 2) := by decide +kernel
theorem dX8_does_46 : decode cX8_does 46 = .ok (.iconst 0, 1) := by decide +kernel
theorem dX8_does_47 : decode cX8_does 47 = .ok (.istore 6, 2) := by decide +kernel
theorem dX8_does_49 : decode cX8_does 49 = .ok (.iload 6, 2) := by decide +kernel
theorem dX8_does_51 : decode cX8_does 51 = .ok (.aload_n 0, 1) := by decide +kernel
theorem dX8_does_52 : decode cX8_does 52 = .ok (.getfield 120, 3) := by decide +kernel
theorem dX8_does_55 : decode cX8_does 55 = .ok (.if_icmp .ge 87, 3) := by decide +kernel
theorem dX8_does_58 : decode cX8_does 58 = .ok (.aload_n 0, 1) := by decide +kernel
theorem dX8_does_59 : decode cX8_does 59 = .ok (.getfield 53, 3) := by decide +kernel
theorem dX8_does_62 : decode cX8_does 62 = .ok (.iload 6, 2) := by decide +kernel
theorem dX8_does_64 : decode cX8_does 64 = .ok (.iaload, 1) := by decide +kernel
theorem dX8_does_65 : decode cX8_does 65 = .ok (.iload 4, 2) := by decide +kernel
theorem dX8_does_67 : decode cX8_does 67 = .ok (.iand, 1) := by decide +kernel
theorem dX8_does_68 : decode cX8_does 68 = .ok (.ifCond .eq 7, 3) := by decide +kernel
theorem dX8_does_71 : decode cX8_does 71 = .ok (.iconst 1, 1) := by decide +kernel
theorem dX8_does_72 : decode cX8_does 72 = .ok (.goto 4, 3) := by decide +kernel
theorem dX8_does_75 : decode cX8_does 75 = .ok (.iconst 0, 1) := by decide +kernel
theorem dX8_does_76 : decode cX8_does 76 = .ok (.istore 7, 2) := by decide +kernel
theorem dX8_does_78 : decode cX8_does 78 = .ok (.aload_n 0, 1) := by decide +kernel
theorem dX8_does_79 : decode cX8_does 79 = .ok (.getfield 67, 3) := by decide +kernel
theorem dX8_does_82 : decode cX8_does 82 = .ok (.iload 6, 2) := by decide +kernel
theorem dX8_does_84 : decode cX8_does 84 = .ok (.dup2, 1) := by decide +kernel
theorem dX8_does_85 : decode cX8_does 85 = .ok (.baload, 1) := by decide +kernel
theorem dX8_does_86 : decode cX8_does 86 = .ok (.iload 7, 2) := by decide +kernel
theorem dX8_does_88 : decode cX8_does 88 = .ok (.ior, 1) := by decide +kernel
theorem dX8_does_89 : decode cX8_does 89 = .ok (.bastore, 1) := by decide +kernel
theorem dX8_does_90 : decode cX8_does 90 = .ok (.iload 7, 2) := by decide +kernel
theorem dX8_does_92 : decode cX8_does 92 = .ok (.ifCond .eq 44, 3) := by decide +kernel
theorem dX8_does_95 : decode cX8_does 95 = .ok (.aload_n 0, 1) := by decide +kernel
theorem dX8_does_96 : decode cX8_does 96 = .ok (.getfield 70, 3) := by decide +kernel
theorem dX8_does_99 : decode cX8_does 99 = .ok (.iload 6, 2) := by decide +kernel
theorem dX8_does_101 : decode cX8_does 101 = .ok (.caload, 1) := by decide +kernel
theorem dX8_does_102 : decode cX8_does 102 = .ok (.bipush 118, 2) := by decide +kernel
theorem dX8_does_104 : decode cX8_does 104 = .ok (.if_icmp .ne 32, 3) := by decide +kernel
theorem dX8_does_107 : decode cX8_does 107 = .ok (.aload_n 0, 1) := by decide +kernel
theorem dX8_does_108 : decode cX8_does 108 = .ok (.getfield 70, 3) := by decide +kernel
theorem dX8_does_111 : decode cX8_does 111 = .ok (.iload 6, 2) := by decide +kernel
theorem dX8_does_113 : decode cX8_does 113 = .ok (.bipush 120, 2) := by decide +kernel
theorem dX8_does_115 : decode cX8_does 115 = .ok (.castore, 1) := by decide +kernel
theorem dX8_does_116 : decode cX8_does 116 = .ok (.aload_n 0, 1) := by decide +kernel
theorem dX8_does_117 : decode cX8_does 117 = .ok (.getfield 56, 3) := by decide +kernel
theorem dX8_does_120 : decode cX8_does 120 = .ok (.iload 6, 2) := by decide +kernel
theorem dX8_does_122 : decode cX8_does 122 = .ok (.aload_n 0, 1) := by decide +kernel
theorem dX8_does_123 : decode cX8_does 123 = .ok (.getfield 134, 3) := by decide +kernel
theorem dX8_does_126 : decode cX8_does 126 = .ok (.iastore, 1) := by decide +kernel
theorem dX8_does_127 : decode cX8_does 127 = .ok (.iload 5, 2) := by decide +kernel
theorem dX8_does_129 : decode cX8_does 129 = .ok (.aload_n 0, 1) := by decide +kernel
theorem dX8_does_130 : decode cX8_does 130 = .ok (.getfield 137, 3) := by decide +kernel
theorem dX8_does_133 : decode cX8_does 133 = .ok (.iadd, 1) := by decide +kernel
theorem dX8_does_134 : decode cX8_does 134 = .ok (.istore 5, 2) := by decide +kernel
theorem dX8_does_136 : decode cX8_does 136 = .ok (.iinc 6 1, 3) := by decide +kernel
theorem dX8_does_139 : decode cX8_does 139 = .ok (.goto (-90), 3) := by decide +kernel
theorem dX8_does_142 : decode cX8_does 142 = .ok (.aload_n 0, 1) := by decide +kernel
theorem dX8_does_143 : decode cX8_does 143 = .ok (.getfield 35, 3) := by decide +kernel
theorem dX8_does_146 : decode cX8_does 146 = .ok (.aload_n 0, 1) := by decide +kernel
theorem dX8_does_147 : decode cX8_does 147 = .ok (.getfield 134, 3) := by decide +kernel
theorem dX8_does_150 : decode cX8_does 150 = .ok (.iload_n 1, 1) := by decide +kernel
theorem dX8_does_151 : decode cX8_does 151 = .ok (.castore, 1) := by decide +kernel
theorem dX8_does_152 : decode cX8_does 152 = .ok (.aload_n 0, 1) := by decide +kernel
theorem dX8_does_153 : decode cX8_does 153 = .ok (.getfield 44, 3) := by decide +kernel
theorem dX8_does_156 : decode cX8_does 156 = .ok (.aload_n 0, 1) := by decide +kernel
theorem dX8_does_157 : decode cX8_does 157 = .ok (.getfield 134, 3) := by decide +kernel
theorem dX8_does_160 : decode cX8_does 160 = .ok (.iload_n 2, 1) := by decide +kernel
theorem dX8_does_161 : decode cX8_does 161 = .ok (.iastore, 1) := by decide +kernel
theorem dX8_does_162 : decode cX8_does 162 = .ok (.aload_n 0, 1) := by decide +kernel
theorem dX8_does_163 : decode cX8_does 163 = .ok (.getfield 47, 3) := by decide +kernel
theorem dX8_does_166 : decode cX8_does 166 = .ok (.aload_n 0, 1) := by decide +kernel
theorem dX8_does_167 : decode cX8_does 167 = .ok (.getfield 134, 3) := by decide +kernel
theorem dX8_does_170 : decode cX8_does 170 = .ok (.iload 5, 2) := by decide +kernel
theorem dX8_does_172 : decode cX8_does 172 = .ok (.iastore, 1) := by decide +kernel
theorem dX8_does_173 : decode cX8_does 173 = .ok (.aload_n 0, 1) := by decide +kernel
theorem dX8_does_174 : decode cX8_does 174 = .ok (.getfield 59, 3) := by decide +kernel
theorem dX8_does_177 : decode cX8_does 177 = .ok (.iload_n 2, 1) := by decide +kernel
theorem dX8_does_178 : decode cX8_does 178 = .ok (.dup2, 1) := by decide +kernel
theorem dX8_does_179 : decode cX8_does 179 = .ok (.laload, 1) := by decide +kernel
theorem dX8_does_180 : decode cX8_does 180 = .ok (.iload 5, 2) := by decide +kernel
theorem dX8_does_182 : decode cX8_does 182 = .ok (.i2l, 1) := by decide +kernel
theorem dX8_does_183 : decode cX8_does 183 = .ok (.ladd, 1) := by decide +kernel
theorem dX8_does_184 : decode cX8_does 184 = .ok (.lastore, 1) := by decide +kernel
theorem dX8_does_185 : decode cX8_does 185 = .ok (.aload_n 0, 1) := by decide +kernel
theorem dX8_does_186 : decode cX8_does 186 = .ok (.dup, 1) := by decide +kernel
theorem dX8_does_187 : decode cX8_does 187 = .ok (.getfield 134, 3) := by decide +kernel
theorem dX8_does_190 : decode cX8_does 190 = .ok (.iconst 1, 1) := by decide +kernel
theorem dX8_does_191 : decode cX8_does 191 = .ok (.iadd, 1) := by decide +kernel
theorem dX8_does_192 : decode cX8_does 192 = .ok (.putfield 134, 3) := by decide +kernel
theorem dX8_does_195 : decode cX8_does 195 = .ok (.iconst 0, 1) := by decide +kernel
theorem dX8_does_196 : decode cX8_does 196 = .ok (.istore 6, 2) := by decide +kernel
theorem dX8_does_198 : decode cX8_does 198 = .ok (.iload 6, 2) := by decide +kernel
theorem dX8_does_200 : decode cX8_does 200 = .ok (.aload_n 0, 1) := by decide +kernel
theorem dX8_does_201 : decode cX8_does 201 = .ok (.getfield 95, 3) := by decide +kernel
theorem dX8_does_204 : decode cX8_does 204 = .ok (.if_icmp .ge 51, 3) := by decide +kernel
theorem dX8_does_207 : decode cX8_does 207 = .ok (.aload_n 0, 1) := by decide +kernel
theorem dX8_does_208 : decode cX8_does 208 = .ok (.getfield 7, 3) := by decide +kernel
theorem dX8_does_211 : decode cX8_does 211 = .ok (.iload 6, 2) := by decide +kernel
theorem dX8_does_213 : decode cX8_does 213 = .ok (.aload_n 0, 1) := by decide +kernel
theorem dX8_does_214 : decode cX8_does 214 = .ok (.getfield 13, 3) := by decide +kernel
theorem dX8_does_217 : decode cX8_does 217 = .ok (.iload 6, 2) := by decide +kernel
theorem dX8_does_219 : decode cX8_does 219 = .ok (.caload, 1) := by decide +kernel
theorem dX8_does_220 : decode cX8_does 220 = .ok (.castore, 1) := by decide +kernel
theorem dX8_does_221 : decode cX8_does 221 = .ok (.aload_n 0, 1) := by decide +kernel
theorem dX8_does_222 : decode cX8_does 222 = .ok (.getfield 16, 3) := by decide +kernel
theorem dX8_does_225 : decode cX8_does 225 = .ok (.iload 6, 2) := by decide +kernel
theorem dX8_does_227 : decode cX8_does 227 = .ok (.aload_n 0, 1) := by decide +kernel
theorem dX8_does_228 : decode cX8_does 228 = .ok (.getfield 23, 3) := by decide +kernel
theorem dX8_does_231 : decode cX8_does 231 = .ok (.iload 6, 2) := by decide +kernel
theorem dX8_does_233 : decode cX8_does 233 = .ok (.iaload, 1) := by decide +kernel
theorem dX8_does_234 : decode cX8_does 234 = .ok (.iastore, 1) := by decide +kernel
theorem dX8_does_235 : decode cX8_does 235 = .ok (.aload_n 0, 1) := by decide +kernel
theorem dX8_does_236 : decode cX8_does 236 = .ok (.getfield 20, 3) := by decide +kernel
theorem dX8_does_239 : decode cX8_does 239 = .ok (.iload 6, 2) := by decide +kernel
theorem dX8_does_241 : decode cX8_does 241 = .ok (.aload_n 0, 1) := by decide +kernel
theorem dX8_does_242 : decode cX8_does 242 = .ok (.getfield 26, 3) := by decide +kernel
theorem dX8_does_245 : decode cX8_does 245 = .ok (.iload 6, 2) := by decide +kernel
theorem dX8_does_247 : decode cX8_does 247 = .ok (.iaload, 1) := by decide +kernel
theorem dX8_does_248 : decode cX8_does 248 = .ok (.iastore, 1) := by decide +kernel
theorem dX8_does_249 : decode cX8_does 249 = .ok (.iinc 6 1, 3) := by decide +kernel
theorem dX8_does_252 : decode cX8_does 252 = .ok (.goto (-54), 3) := by decide +kernel
theorem dX8_does_255 : decode cX8_does 255 = .ok (.aload_n 0, 1) := by decide +kernel
theorem dX8_does_256 : decode cX8_does 256 = .ok (.aload_n 0, 1) := by decide +kernel
theorem dX8_does_257 : decode cX8_does 257 = .ok (.getfield 95, 3) := by decide +kernel
theorem dX8_does_260 : decode cX8_does 260 = .ok (.putfield 98, 3) := by decide +kernel
theorem dX8_does_263 : decode cX8_does 263 = .ok (.return_, 1) := by decide +kernel
set_option maxRecDepth 20000 in
theorem ggX8_insert_X8_isNoAuthor : GoodIn wsX8_insert wsX8_isNoAuthor := goodIn_r _ [12, 13, 14, 15, 11, 16, 82, 83, 84, 85, 86, 87, 88, 89, 90, 91, 92, 93, 94, 95, 96, 97, 98, 99, 100, 101, 102, 103, 104, 105, 106, 107, 108, 109, 110, 111, 112, 113, 114] (by decide +kernel) (by decide +kernel)
set_option maxRecDepth 20000 in
theorem gX8_insert_X8_isNoAuthor : GoodIn wsX8_insert (wsV RX8 140 RX8 yX8_isNoAuthor wsX8_isNoAuthor) := goodIn_app (goodIn_of _ (by decide +kernel)) ggX8_insert_X8_isNoAuthor
set_option maxRecDepth 20000 in
theorem ggX8_insert_X8_isIn : GoodIn wsX8_insert wsX8_isIn := goodIn_r _ [16] (by decide +kernel) (by decide +kernel)
set_option maxRecDepth 20000 in
theorem gX8_insert_X8_isIn : GoodIn wsX8_insert (va_wsS RX8 81 yX8_isIn wsX8_isIn) := goodIn_app (goodIn_of _ (by decide +kernel)) ggX8_insert_X8_isIn
set_option maxRecDepth 20000 in
theorem ggX8_insert_X8_isThrown : GoodIn wsX8_insert wsX8_isThrown := goodIn_r _ [20, 21, 82, 83, 84, 85, 86, 87, 88, 89, 90, 91, 92, 93, 94, 95, 96, 97, 98, 99, 100, 101, 102, 103, 104, 105, 106, 107, 108, 109, 110, 111, 112, 113, 114] (by decide +kernel) (by decide +kernel)
set_option maxRecDepth 20000 in
theorem gX8_insert_X8_isThrown : GoodIn wsX8_insert (wsV RX8 85 RX8 yX8_isThrown wsX8_isThrown) := goodIn_app (goodIn_of _ (by decide +kernel)) ggX8_insert_X8_isThrown
set_option maxRecDepth 20000 in
theorem ggX8_insert_X8_laysWithout : GoodIn wsX8_insert wsX8_laysWithout := goodIn_ca (goodIn_r _ [25, 26, 1, 27, 28, 29, 14, 15, 11, 16, 30, 31, 32, 33, 4, 6, 7, 82, 83, 84, 85, 86, 87, 88, 89, 90, 91, 92, 93, 94, 95, 96, 97, 98, 99, 100, 101, 102, 103, 104, 105, 106, 107, 108, 109, 110, 111, 112, 113, 114] (by decide +kernel) (by decide +kernel)) (goodIn_sub (fun _ h => List.mem_cons_of_mem _ (List.mem_append_right _ h)) (by decide +kernel))
set_option maxRecDepth 20000 in
theorem gX8_insert_X8_laysWithout : GoodIn wsX8_insert (wsV RX8 143 RX8 yX8_laysWithout wsX8_laysWithout) := goodIn_app (goodIn_of _ (by decide +kernel)) ggX8_insert_X8_laysWithout
set_option maxRecDepth 20000 in
theorem ggX8_insert_X8_around : GoodIn wsX8_insert wsX8_around := goodIn_ca (goodIn_r _ [37, 26, 7, 82, 83, 84, 85, 86, 87, 88, 89, 90, 91, 92, 93, 94, 95, 96, 97, 98, 99, 100, 101, 102, 103, 104, 105, 106, 107, 108, 109, 110, 111, 112, 113, 114] (by decide +kernel) (by decide +kernel)) (goodIn_sub (fun _ h => List.mem_cons_of_mem _ (List.mem_append_right _ h)) (by decide +kernel))
set_option maxRecDepth 20000 in
theorem gX8_insert_X8_around : GoodIn wsX8_insert (wsV RX8 147 RX8 yX8_around wsX8_around) := goodIn_app (goodIn_of _ (by decide +kernel)) ggX8_insert_X8_around
set_option maxRecDepth 20000 in
theorem ggX8_insert_X8_opens : GoodIn wsX8_insert wsX8_opens := goodIn_ca (goodIn_r _ [41, 26, 4, 6, 7, 82, 83, 84, 85, 86, 87, 88, 89, 90, 91, 92, 93, 94, 95, 96, 97, 98, 99, 100, 101, 102, 103, 104, 105, 106, 107, 108, 109, 110, 111, 112, 113, 114] (by decide +kernel) (by decide +kernel)) (goodIn_sub (fun _ h => List.mem_cons_of_mem _ (List.mem_append_right _ h)) (by decide +kernel))
set_option maxRecDepth 20000 in
theorem gX8_insert_X8_opens : GoodIn wsX8_insert (wsV RX8 151 RX8 yX8_opens wsX8_opens) := goodIn_app (goodIn_of _ (by decide +kernel)) ggX8_insert_X8_opens
set_option maxRecDepth 20000 in
theorem ggX8_insert_X8_isRefused : GoodIn wsX8_insert wsX8_isRefused := goodIn_ca (goodIn_r _ [45, 46, 47, 48, 49, 50, 51, 52, 53, 54, 55, 56, 11, 57, 58, 59, 60, 61, 29, 1, 7, 26, 27, 4, 62, 63, 64, 82, 83, 84, 85, 86, 87, 88, 89, 90, 91, 92, 93, 94, 95, 96, 97, 98, 99, 100, 101, 102, 103, 104, 105, 106, 107, 108, 109, 110, 111, 112, 113, 114] (by decide +kernel) (by decide +kernel)) (goodIn_sub (fun _ h => List.mem_cons_of_mem _ (List.mem_append_right _ h)) (by decide +kernel))
set_option maxRecDepth 20000 in
theorem gX8_insert_X8_isRefused : GoodIn wsX8_insert (wsV RX8 154 RX8 yX8_isRefused wsX8_isRefused) := goodIn_app (goodIn_of _ (by decide +kernel)) ggX8_insert_X8_isRefused
set_option maxRecDepth 20000 in
theorem ggX8_insert_X8_does : GoodIn wsX8_insert wsX8_does := goodIn_ca (goodIn_r _ [68, 48, 51, 69, 50, 70, 3, 71, 72, 73, 74, 75, 26, 27, 4, 28, 6, 29, 7, 1, 54, 55, 56, 11, 57, 46, 58, 59, 60, 61, 62, 63, 64, 76, 77, 78, 79, 80, 81, 82, 83, 84, 85, 86, 87, 88, 89, 90, 91, 92, 93, 94, 95, 96, 97, 98, 99, 100, 101, 102, 103, 104, 105, 106, 107, 108, 109, 110, 111, 112, 113, 114] (by decide +kernel) (by decide +kernel)) (goodIn_sub (fun _ h => List.mem_cons_of_mem _ (List.mem_append_right _ h)) (by decide +kernel))
set_option maxRecDepth 20000 in
theorem gX8_insert_X8_does : GoodIn wsX8_insert (wsV RX8 158 RX8 yX8_does wsX8_does) := goodIn_app (goodIn_of _ (by decide +kernel)) ggX8_insert_X8_does
theorem dX8_insert_0 : decode cX8_insert 0 = .ok (.aload_n 0, 1) := by decide +kernel
theorem dX8_insert_1 : decode cX8_insert 1 = .ok (.aload_n 0, 1) := by decide +kernel
theorem dX8_insert_2 : decode cX8_insert 2 = .ok (.iload_n 1, 1) := by decide +kernel
theorem dX8_insert_3 : decode cX8_insert 3 = .ok (.invokevirtual 140, 3) := by decide +kernel
theorem dX8_insert_6 : decode cX8_insert 6 = .ok (.ifCond .ne 15, 3) := by decide +kernel
theorem dX8_insert_9 : decode cX8_insert 9 = .ok (.iload_n 2, 1) := by decide +kernel
theorem dX8_insert_10 : decode cX8_insert 10 = .ok (.iconst 0, 1) := by decide +kernel
theorem dX8_insert_11 : decode cX8_insert 11 = .ok (.aload_n 0, 1) := by decide +kernel
theorem dX8_insert_12 : decode cX8_insert 12 = .ok (.getfield 98, 3) := by decide +kernel
theorem dX8_insert_15 : decode cX8_insert 15 = .ok (.invokestatic 81, 3) := by decide +kernel
theorem dX8_insert_18 : decode cX8_insert 18 = .ok (.ifCond .ne 7, 3) := by decide +kernel
theorem dX8_insert_21 : decode cX8_insert 21 = .ok (.iconst 1, 1) := by decide +kernel
theorem dX8_insert_22 : decode cX8_insert 22 = .ok (.goto 4, 3) := by decide +kernel
theorem dX8_insert_25 : decode cX8_insert 25 = .ok (.iconst 0, 1) := by decide +kernel
theorem dX8_insert_26 : decode cX8_insert 26 = .ok (.iconst 1, 1) := by decide +kernel
theorem dX8_insert_27 : decode cX8_insert 27 = .ok (.invokevirtual 85, 3) := by decide +kernel
theorem dX8_insert_30 : decode cX8_insert 30 = .ok (.ifCond .ne 59, 3) := by decide +kernel
theorem dX8_insert_33 : decode cX8_insert 33 = .ok (.aload_n 0, 1) := by decide +kernel
theorem dX8_insert_34 : decode cX8_insert 34 = .ok (.aload_n 0, 1) := by decide +kernel
theorem dX8_insert_35 : decode cX8_insert 35 = .ok (.getfield 92, 3) := by decide +kernel
theorem dX8_insert_38 : decode cX8_insert 38 = .ok (.ifCond .ne 7, 3) := by decide +kernel
theorem dX8_insert_41 : decode cX8_insert 41 = .ok (.iconst 1, 1) := by decide +kernel
theorem dX8_insert_42 : decode cX8_insert 42 = .ok (.goto 4, 3) := by decide +kernel
theorem dX8_insert_45 : decode cX8_insert 45 = .ok (.iconst 0, 1) := by decide +kernel
theorem dX8_insert_46 : decode cX8_insert 46 = .ok (.iconst 2, 1) := by decide +kernel
theorem dX8_insert_47 : decode cX8_insert 47 = .ok (.invokevirtual 85, 3) := by decide +kernel
theorem dX8_insert_50 : decode cX8_insert 50 = .ok (.ifCond .ne 39, 3) := by decide +kernel
theorem dX8_insert_53 : decode cX8_insert 53 = .ok (.aload_n 0, 1) := by decide +kernel
theorem dX8_insert_54 : decode cX8_insert 54 = .ok (.aload_n 0, 1) := by decide +kernel
theorem dX8_insert_55 : decode cX8_insert 55 = .ok (.getfield 134, 3) := by decide +kernel
theorem dX8_insert_58 : decode cX8_insert 58 = .ok (.bipush 40, 2) := by decide +kernel
theorem dX8_insert_60 : decode cX8_insert 60 = .ok (.if_icmp .eq 17, 3) := by decide +kernel
theorem dX8_insert_63 : decode cX8_insert 63 = .ok (.aload_n 0, 1) := by decide +kernel
theorem dX8_insert_64 : decode cX8_insert 64 = .ok (.getfield 98, 3) := by decide +kernel
theorem dX8_insert_67 : decode cX8_insert 67 = .ok (.aload_n 0, 1) := by decide +kernel
theorem dX8_insert_68 : decode cX8_insert 68 = .ok (.getfield 92, 3) := by decide +kernel
theorem dX8_insert_71 : decode cX8_insert 71 = .ok (.iadd, 1) := by decide +kernel
theorem dX8_insert_72 : decode cX8_insert 72 = .ok (.bipush 60, 2) := by decide +kernel
theorem dX8_insert_74 : decode cX8_insert 74 = .ok (.if_icmp .le 7, 3) := by decide +kernel
theorem dX8_insert_77 : decode cX8_insert 77 = .ok (.iconst 1, 1) := by decide +kernel
theorem dX8_insert_78 : decode cX8_insert 78 = .ok (.goto 4, 3) := by decide +kernel
theorem dX8_insert_81 : decode cX8_insert 81 = .ok (.iconst 0, 1) := by decide +kernel
theorem dX8_insert_82 : decode cX8_insert 82 = .ok (.iconst 3, 1) := by decide +kernel
theorem dX8_insert_83 : decode cX8_insert 83 = .ok (.invokevirtual 85, 3) := by decide +kernel
theorem dX8_insert_86 : decode cX8_insert 86 = .ok (.ifCond .eq 5, 3) := by decide +kernel
theorem dX8_insert_89 : decode cX8_insert 89 = .ok (.iconst 0, 1) := by decide +kernel
theorem dX8_insert_90 : decode cX8_insert 90 = .ok (.ireturn, 1) := by decide +kernel
theorem dX8_insert_91 : decode cX8_insert 91 = .ok (.aload_n 0, 1) := by decide +kernel
theorem dX8_insert_92 : decode cX8_insert 92 = .ok (.iconst 0, 1) := by decide +kernel
theorem dX8_insert_93 : decode cX8_insert 93 = .ok (.iconst 0, 1) := by decide +kernel
theorem dX8_insert_94 : decode cX8_insert 94 = .ok (.invokevirtual 143, 3) := by decide +kernel
theorem dX8_insert_97 : decode cX8_insert 97 = .ok (.aload_n 0, 1) := by decide +kernel
theorem dX8_insert_98 : decode cX8_insert 98 = .ok (.iload_n 2, 1) := by decide +kernel
theorem dX8_insert_99 : decode cX8_insert 99 = .ok (.invokevirtual 147, 3) := by decide +kernel
theorem dX8_insert_102 : decode cX8_insert 102 = .ok (.istore_n 3, 1) := by decide +kernel
theorem dX8_insert_103 : decode cX8_insert 103 = .ok (.aload_n 0, 1) := by decide +kernel
theorem dX8_insert_104 : decode cX8_insert 104 = .ok (.iload_n 2, 1) := by decide +kernel
theorem dX8_insert_105 : decode cX8_insert 105 = .ok (.aload_n 0, 1) := by decide +kernel
theorem dX8_insert_106 : decode cX8_insert 106 = .ok (.getfield 92, 3) := by decide +kernel
theorem dX8_insert_109 : decode cX8_insert 109 = .ok (.invokevirtual 151, 3) := by decide +kernel
theorem dX8_insert_112 : decode cX8_insert 112 = .ok (.iconst 0, 1) := by decide +kernel
theorem dX8_insert_113 : decode cX8_insert 113 = .ok (.istore 4, 2) := by decide +kernel
theorem dX8_insert_115 : decode cX8_insert 115 = .ok (.iload 4, 2) := by decide +kernel
theorem dX8_insert_117 : decode cX8_insert 117 = .ok (.aload_n 0, 1) := by decide +kernel
theorem dX8_insert_118 : decode cX8_insert 118 = .ok (.getfield 92, 3) := by decide +kernel
theorem dX8_insert_121 : decode cX8_insert 121 = .ok (.if_icmp .ge 45, 3) := by decide +kernel
theorem dX8_insert_124 : decode cX8_insert 124 = .ok (.aload_n 0, 1) := by decide +kernel
theorem dX8_insert_125 : decode cX8_insert 125 = .ok (.getfield 13, 3) := by decide +kernel
theorem dX8_insert_128 : decode cX8_insert 128 = .ok (.iload_n 2, 1) := by decide +kernel
theorem dX8_insert_129 : decode cX8_insert 129 = .ok (.iload 4, 2) := by decide +kernel
theorem dX8_insert_131 : decode cX8_insert 131 = .ok (.iadd, 1) := by decide +kernel
theorem dX8_insert_132 : decode cX8_insert 132 = .ok (.aload_n 0, 1) := by decide +kernel
theorem dX8_insert_133 : decode cX8_insert 133 = .ok (.getfield 29, 3) := by decide +kernel
theorem dX8_insert_136 : decode cX8_insert 136 = .ok (.iload 4, 2) := by decide +kernel
theorem dX8_insert_138 : decode cX8_insert 138 = .ok (.caload, 1) := by decide +kernel
theorem dX8_insert_139 : decode cX8_insert 139 = .ok (.castore, 1) := by decide +kernel
theorem dX8_insert_140 : decode cX8_insert 140 = .ok (.aload_n 0, 1) := by decide +kernel
theorem dX8_insert_141 : decode cX8_insert 141 = .ok (.getfield 23, 3) := by decide +kernel
theorem dX8_insert_144 : decode cX8_insert 144 = .ok (.iload_n 2, 1) := by decide +kernel
theorem dX8_insert_145 : decode cX8_insert 145 = .ok (.iload 4, 2) := by decide +kernel
theorem dX8_insert_147 : decode cX8_insert 147 = .ok (.iadd, 1) := by decide +kernel
theorem dX8_insert_148 : decode cX8_insert 148 = .ok (.iload_n 1, 1) := by decide +kernel
theorem dX8_insert_149 : decode cX8_insert 149 = .ok (.iastore, 1) := by decide +kernel
theorem dX8_insert_150 : decode cX8_insert 150 = .ok (.aload_n 0, 1) := by decide +kernel
theorem dX8_insert_151 : decode cX8_insert 151 = .ok (.getfield 26, 3) := by decide +kernel
theorem dX8_insert_154 : decode cX8_insert 154 = .ok (.iload_n 2, 1) := by decide +kernel
theorem dX8_insert_155 : decode cX8_insert 155 = .ok (.iload 4, 2) := by decide +kernel
theorem dX8_insert_157 : decode cX8_insert 157 = .ok (.iadd, 1) := by decide +kernel
theorem dX8_insert_158 : decode cX8_insert 158 = .ok (.iload_n 3, 1) := by decide +kernel
theorem dX8_insert_159 : decode cX8_insert 159 = .ok (.iastore, 1) := by decide +kernel
theorem dX8_insert_160 : decode cX8_insert 160 = .ok (.iinc 4 1, 3) := by decide +kernel
theorem dX8_insert_163 : decode cX8_insert 163 = .ok (.goto (-48), 3) := by decide +kernel
theorem dX8_insert_166 : decode cX8_insert 166 = .ok (.aload_n 0, 1) := by decide +kernel
theorem dX8_insert_167 : decode cX8_insert 167 = .ok (.aload_n 0, 1) := by decide +kernel
theorem dX8_insert_168 : decode cX8_insert 168 = .ok (.invokevirtual 154, 3) := by decide +kernel
theorem dX8_insert_171 : decode cX8_insert 171 = .ok (.iconst 4, 1) := by decide +kernel
theorem dX8_insert_172 : decode cX8_insert 172 = .ok (.invokevirtual 85, 3) := by decide +kernel
theorem dX8_insert_175 : decode cX8_insert 175 = .ok (.ifCond .eq 5, 3) := by decide +kernel
theorem dX8_insert_178 : decode cX8_insert 178 = .ok (.iconst 0, 1) := by decide +kernel
theorem dX8_insert_179 : decode cX8_insert 179 = .ok (.ireturn, 1) := by decide +kernel
theorem dX8_insert_180 : decode cX8_insert 180 = .ok (.aload_n 0, 1) := by decide +kernel
theorem dX8_insert_181 : decode cX8_insert 181 = .ok (.bipush 105, 2) := by decide +kernel
theorem dX8_insert_183 : decode cX8_insert 183 = .ok (.iload_n 1, 1) := by decide +kernel
theorem dX8_insert_184 : decode cX8_insert 184 = .ok (.aload_n 0, 1) := by decide +kernel
theorem dX8_insert_185 : decode cX8_insert 185 = .ok (.getfield 92, 3) := by decide +kernel
theorem dX8_insert_188 : decode cX8_insert 188 = .ok (.invokevirtual 158, 3) := by decide +kernel
theorem dX8_insert_191 : decode cX8_insert 191 = .ok (.aload_n 0, 1) := by decide +kernel
theorem dX8_insert_192 : decode cX8_insert 192 = .ok (.iconst 0, 1) := by decide +kernel
theorem dX8_insert_193 : decode cX8_insert 193 = .ok (.putfield 92, 3) := by decide +kernel
theorem dX8_insert_196 : decode cX8_insert 196 = .ok (.aload_n 0, 1) := by decide +kernel
theorem dX8_insert_197 : decode cX8_insert 197 = .ok (.getfield 98, 3) := by decide +kernel
theorem dX8_insert_200 : decode cX8_insert 200 = .ok (.ireturn, 1) := by decide +kernel
theorem dX8_isNoStretch_0 : decode cX8_isNoStretch 0 = .ok (.iload_n 1, 1) := by decide +kernel
theorem dX8_isNoStretch_1 : decode cX8_isNoStretch 1 = .ok (.ifCond .lt 26, 3) := by decide +kernel
theorem dX8_isNoStretch_4 : decode cX8_isNoStretch 4 = .ok (.iload_n 2, 1) := by decide +kernel
theorem dX8_isNoStretch_5 : decode cX8_isNoStretch 5 = .ok (.iconst 1, 1) := by decide +kernel
theorem dX8_isNoStretch_6 : decode cX8_isNoStretch 6 = .ok (.if_icmp .lt 21, 3) := by decide +kernel
theorem dX8_isNoStretch_9 : decode cX8_isNoStretch 9 = .ok (.iload_n 1, 1) := by decide +kernel
theorem dX8_isNoStretch_10 : decode cX8_isNoStretch 10 = .ok (.aload_n 0, 1) := by decide +kernel
theorem dX8_isNoStretch_11 : decode cX8_isNoStretch 11 = .ok (.getfield 98, 3) := by decide +kernel
theorem dX8_isNoStretch_14 : decode cX8_isNoStretch 14 = .ok (.if_icmp .gt 13, 3) := by decide +kernel
theorem dX8_isNoStretch_17 : decode cX8_isNoStretch 17 = .ok (.iload_n 2, 1) := by decide +kernel
theorem dX8_isNoStretch_18 : decode cX8_isNoStretch 18 = .ok (.aload_n 0, 1) := by decide +kernel
theorem dX8_isNoStretch_19 : decode cX8_isNoStretch 19 = .ok (.getfield 98, 3) := by decide +kernel
theorem dX8_isNoStretch_22 : decode cX8_isNoStretch 22 = .ok (.iload_n 1, 1) := by decide +kernel
theorem dX8_isNoStretch_23 : decode cX8_isNoStretch 23 = .ok (.isub, 1) := by decide +kernel
theorem dX8_isNoStretch_24 : decode cX8_isNoStretch 24 = .ok (.if_icmp .le 7, 3) := by decide +kernel
theorem dX8_isNoStretch_27 : decode cX8_isNoStretch 27 = .ok (.iconst 1, 1) := by decide +kernel
theorem dX8_isNoStretch_28 : decode cX8_isNoStretch 28 = .ok (.goto 4, 3) := by decide +kernel
theorem dX8_isNoStretch_31 : decode cX8_isNoStretch 31 = .ok (.iconst 0, 1) := by decide +kernel
theorem dX8_isNoStretch_32 : decode cX8_isNoStretch 32 = .ok (.ireturn, 1) := by decide +kernel
set_option maxRecDepth 20000 in
theorem ggX8_delete_X8_isNoAuthor : GoodIn wsX8_delete wsX8_isNoAuthor := goodIn_r _ [7, 8, 9, 10, 6, 11, 76, 77, 78, 79, 80, 81, 82, 83, 84, 85, 86, 87, 88, 89, 90, 91, 92, 93, 94, 95, 96, 97, 98, 99, 100, 101, 102, 103, 104, 105, 106, 107, 108] (by decide +kernel) (by decide +kernel)
set_option maxRecDepth 20000 in
theorem gX8_delete_X8_isNoAuthor : GoodIn wsX8_delete (wsV RX8 140 RX8 yX8_isNoAuthor wsX8_isNoAuthor) := goodIn_app (goodIn_of _ (by decide +kernel)) ggX8_delete_X8_isNoAuthor
set_option maxRecDepth 20000 in
theorem ggX8_delete_X8_isNoStretch : GoodIn wsX8_delete wsX8_isNoStretch := goodIn_r _ [15, 2, 76, 77, 78, 79, 80, 81, 82, 83, 84, 85, 86, 87, 88, 89, 90, 91, 92, 93, 94, 95, 96, 97, 98, 99, 100, 101, 102, 103, 104, 105, 106, 107, 108] (by decide +kernel) (by decide +kernel)
set_option maxRecDepth 20000 in
theorem gX8_delete_X8_isNoStretch : GoodIn wsX8_delete (wsV RX8 161 RX8 yX8_isNoStretch wsX8_isNoStretch) := goodIn_app (goodIn_of _ (by decide +kernel)) ggX8_delete_X8_isNoStretch
set_option maxRecDepth 20000 in
theorem ggX8_delete_X8_isThrown : GoodIn wsX8_delete wsX8_isThrown := goodIn_r _ [19, 20, 76, 77, 78, 79, 80, 81, 82, 83, 84, 85, 86, 87, 88, 89, 90, 91, 92, 93, 94, 95, 96, 97, 98, 99, 100, 101, 102, 103, 104, 105, 106, 107, 108] (by decide +kernel) (by decide +kernel)
set_option maxRecDepth 20000 in
theorem gX8_delete_X8_isThrown : GoodIn wsX8_delete (wsV RX8 85 RX8 yX8_isThrown wsX8_isThrown) := goodIn_app (goodIn_of _ (by decide +kernel)) ggX8_delete_X8_isThrown
set_option maxRecDepth 20000 in
theorem ggX8_delete_X8_laysWithout : GoodIn wsX8_delete wsX8_laysWithout := goodIn_ca (goodIn_r _ [24, 25, 2, 26, 27, 28, 9, 10, 6, 11, 29, 30, 31, 32, 33, 34, 35, 76, 77, 78, 79, 80, 81, 82, 83, 84, 85, 86, 87, 88, 89, 90, 91, 92, 93, 94, 95, 96, 97, 98, 99, 100, 101, 102, 103, 104, 105, 106, 107, 108] (by decide +kernel) (by decide +kernel)) (goodIn_sub (fun _ h => List.mem_cons_of_mem _ (List.mem_append_right _ h)) (by decide +kernel))
set_option maxRecDepth 20000 in
theorem gX8_delete_X8_laysWithout : GoodIn wsX8_delete (wsV RX8 143 RX8 yX8_laysWithout wsX8_laysWithout) := goodIn_app (goodIn_of _ (by decide +kernel)) ggX8_delete_X8_laysWithout
set_option maxRecDepth 20000 in
theorem ggX8_delete_X8_isRefused : GoodIn wsX8_delete wsX8_isRefused := goodIn_ca (goodIn_r _ [39, 40, 41, 42, 43, 44, 45, 46, 47, 48, 49, 50, 6, 51, 52, 53, 54, 55, 28, 2, 35, 25, 26, 33, 56, 57, 58, 76, 77, 78, 79, 80, 81, 82, 83, 84, 85, 86, 87, 88, 89, 90, 91, 92, 93, 94, 95, 96, 97, 98, 99, 100, 101, 102, 103, 104, 105, 106, 107, 108] (by decide +kernel) (by decide +kernel)) (goodIn_sub (fun _ h => List.mem_cons_of_mem _ (List.mem_append_right _ h)) (by decide +kernel))
set_option maxRecDepth 20000 in
theorem gX8_delete_X8_isRefused : GoodIn wsX8_delete (wsV RX8 154 RX8 yX8_isRefused wsX8_isRefused) := goodIn_app (goodIn_of _ (by decide +kernel)) ggX8_delete_X8_isRefused
set_option maxRecDepth 20000 in
theorem ggX8_delete_X8_does : GoodIn wsX8_delete wsX8_does := goodIn_ca (goodIn_r _ [62, 42, 45, 63, 44, 64, 1, 65, 66, 67, 68, 69, 25, 26, 33, 27, 34, 28, 35, 2, 48, 49, 50, 6, 51, 40, 52, 53, 54, 55, 56, 57, 58, 70, 71, 72, 73, 74, 75, 76, 77, 78, 79, 80, 81, 82, 83, 84, 85, 86, 87, 88, 89, 90, 91, 92, 93, 94, 95, 96, 97, 98, 99, 100, 101, 102, 103, 104, 105, 106, 107, 108] (by decide +kernel) (by decide +kernel)) (goodIn_sub (fun _ h => List.mem_cons_of_mem _ (List.mem_append_right _ h)) (by decide +kernel))
set_option maxRecDepth 20000 in
theorem gX8_delete_X8_does : GoodIn wsX8_delete (wsV RX8 158 RX8 yX8_does wsX8_does) := goodIn_app (goodIn_of _ (by decide +kernel)) ggX8_delete_X8_does
theorem dX8_delete_0 : decode cX8_delete 0 = .ok (.aload_n 0, 1) := by decide +kernel
theorem dX8_delete_1 : decode cX8_delete 1 = .ok (.aload_n 0, 1) := by decide +kernel
theorem dX8_delete_2 : decode cX8_delete 2 = .ok (.iload_n 1, 1) := by decide +kernel
theorem dX8_delete_3 : decode cX8_delete 3 = .ok (.invokevirtual 140, 3) := by decide +kernel
theorem dX8_delete_6 : decode cX8_delete 6 = .ok (.ifCond .ne 12, 3) := by decide +kernel
theorem dX8_delete_9 : decode cX8_delete 9 = .ok (.aload_n 0, 1) := by decide +kernel
theorem dX8_delete_10 : decode cX8_delete 10 = .ok (.iload_n 2, 1) := by decide +kernel
theorem dX8_delete_11 : decode cX8_delete 11 = .ok (.iload_n 3, 1) := by decide +kernel
theorem dX8_delete_12 : decode cX8_delete 12 = .ok (.invokevirtual 161, 3) := by decide +kernel
theorem dX8_delete_15 : decode cX8_delete 15 = .ok (.ifCond .eq 7, 3) := by decide +kernel
theorem dX8_delete_18 : decode cX8_delete 18 = .ok (.iconst 1, 1) := by decide +kernel
theorem dX8_delete_19 : decode cX8_delete 19 = .ok (.goto 4, 3) := by decide +kernel
theorem dX8_delete_22 : decode cX8_delete 22 = .ok (.iconst 0, 1) := by decide +kernel
theorem dX8_delete_23 : decode cX8_delete 23 = .ok (.iconst 1, 1) := by decide +kernel
theorem dX8_delete_24 : decode cX8_delete 24 = .ok (.invokevirtual 85, 3) := by decide +kernel
theorem dX8_delete_27 : decode cX8_delete 27 = .ok (.ifCond .ne 25, 3) := by decide +kernel
theorem dX8_delete_30 : decode cX8_delete 30 = .ok (.aload_n 0, 1) := by decide +kernel
theorem dX8_delete_31 : decode cX8_delete 31 = .ok (.aload_n 0, 1) := by decide +kernel
theorem dX8_delete_32 : decode cX8_delete 32 = .ok (.getfield 134, 3) := by decide +kernel
theorem dX8_delete_35 : decode cX8_delete 35 = .ok (.bipush 40, 2) := by decide +kernel
theorem dX8_delete_37 : decode cX8_delete 37 = .ok (.if_icmp .ne 7, 3) := by decide +kernel
theorem dX8_delete_40 : decode cX8_delete 40 = .ok (.iconst 1, 1) := by decide +kernel
theorem dX8_delete_41 : decode cX8_delete 41 = .ok (.goto 4, 3) := by decide +kernel
theorem dX8_delete_44 : decode cX8_delete 44 = .ok (.iconst 0, 1) := by decide +kernel
theorem dX8_delete_45 : decode cX8_delete 45 = .ok (.iconst 2, 1) := by decide +kernel
theorem dX8_delete_46 : decode cX8_delete 46 = .ok (.invokevirtual 85, 3) := by decide +kernel
theorem dX8_delete_49 : decode cX8_delete 49 = .ok (.ifCond .eq 5, 3) := by decide +kernel
theorem dX8_delete_52 : decode cX8_delete 52 = .ok (.iconst 0, 1) := by decide +kernel
theorem dX8_delete_53 : decode cX8_delete 53 = .ok (.ireturn, 1) := by decide +kernel
theorem dX8_delete_54 : decode cX8_delete 54 = .ok (.aload_n 0, 1) := by decide +kernel
theorem dX8_delete_55 : decode cX8_delete 55 = .ok (.iload_n 2, 1) := by decide +kernel
theorem dX8_delete_56 : decode cX8_delete 56 = .ok (.iload_n 3, 1) := by decide +kernel
theorem dX8_delete_57 : decode cX8_delete 57 = .ok (.invokevirtual 143, 3) := by decide +kernel
theorem dX8_delete_60 : decode cX8_delete 60 = .ok (.aload_n 0, 1) := by decide +kernel
theorem dX8_delete_61 : decode cX8_delete 61 = .ok (.aload_n 0, 1) := by decide +kernel
theorem dX8_delete_62 : decode cX8_delete 62 = .ok (.invokevirtual 154, 3) := by decide +kernel
theorem dX8_delete_65 : decode cX8_delete 65 = .ok (.iconst 3, 1) := by decide +kernel
theorem dX8_delete_66 : decode cX8_delete 66 = .ok (.invokevirtual 85, 3) := by decide +kernel
theorem dX8_delete_69 : decode cX8_delete 69 = .ok (.ifCond .eq 5, 3) := by decide +kernel
theorem dX8_delete_72 : decode cX8_delete 72 = .ok (.iconst 0, 1) := by decide +kernel
theorem dX8_delete_73 : decode cX8_delete 73 = .ok (.ireturn, 1) := by decide +kernel
theorem dX8_delete_74 : decode cX8_delete 74 = .ok (.aload_n 0, 1) := by decide +kernel
theorem dX8_delete_75 : decode cX8_delete 75 = .ok (.bipush 100, 2) := by decide +kernel
theorem dX8_delete_77 : decode cX8_delete 77 = .ok (.iload_n 1, 1) := by decide +kernel
theorem dX8_delete_78 : decode cX8_delete 78 = .ok (.iload_n 3, 1) := by decide +kernel
theorem dX8_delete_79 : decode cX8_delete 79 = .ok (.invokevirtual 158, 3) := by decide +kernel
theorem dX8_delete_82 : decode cX8_delete 82 = .ok (.aload_n 0, 1) := by decide +kernel
theorem dX8_delete_83 : decode cX8_delete 83 = .ok (.getfield 98, 3) := by decide +kernel
theorem dX8_delete_86 : decode cX8_delete 86 = .ok (.ireturn, 1) := by decide +kernel
set_option maxRecDepth 20000 in
theorem ggX8_move_X8_isNoAuthor : GoodIn wsX8_move wsX8_isNoAuthor := goodIn_r _ [14, 15, 16, 17, 13, 18, 84, 85, 86, 87, 88, 89, 90, 91, 92, 93, 94, 95, 96, 97, 98, 99, 100, 101, 102, 103, 104, 105, 106, 107, 108, 109, 110, 111, 112, 113, 114, 115, 116] (by decide +kernel) (by decide +kernel)
set_option maxRecDepth 20000 in
theorem gX8_move_X8_isNoAuthor : GoodIn wsX8_move (wsV RX8 140 RX8 yX8_isNoAuthor wsX8_isNoAuthor) := goodIn_app (goodIn_of _ (by decide +kernel)) ggX8_move_X8_isNoAuthor
set_option maxRecDepth 20000 in
theorem ggX8_move_X8_isNoStretch : GoodIn wsX8_move wsX8_isNoStretch := goodIn_r _ [22, 1, 84, 85, 86, 87, 88, 89, 90, 91, 92, 93, 94, 95, 96, 97, 98, 99, 100, 101, 102, 103, 104, 105, 106, 107, 108, 109, 110, 111, 112, 113, 114, 115, 116] (by decide +kernel) (by decide +kernel)
set_option maxRecDepth 20000 in
theorem gX8_move_X8_isNoStretch : GoodIn wsX8_move (wsV RX8 161 RX8 yX8_isNoStretch wsX8_isNoStretch) := goodIn_app (goodIn_of _ (by decide +kernel)) ggX8_move_X8_isNoStretch
set_option maxRecDepth 20000 in
theorem ggX8_move_X8_isIn : GoodIn wsX8_move wsX8_isIn := goodIn_r _ [18] (by decide +kernel) (by decide +kernel)
set_option maxRecDepth 20000 in
theorem gX8_move_X8_isIn : GoodIn wsX8_move (va_wsS RX8 81 yX8_isIn wsX8_isIn) := goodIn_app (goodIn_of _ (by decide +kernel)) ggX8_move_X8_isIn
set_option maxRecDepth 20000 in
theorem ggX8_move_X8_isThrown : GoodIn wsX8_move wsX8_isThrown := goodIn_r _ [26, 27, 84, 85, 86, 87, 88, 89, 90, 91, 92, 93, 94, 95, 96, 97, 98, 99, 100, 101, 102, 103, 104, 105, 106, 107, 108, 109, 110, 111, 112, 113, 114, 115, 116] (by decide +kernel) (by decide +kernel)
set_option maxRecDepth 20000 in
theorem gX8_move_X8_isThrown : GoodIn wsX8_move (wsV RX8 85 RX8 yX8_isThrown wsX8_isThrown) := goodIn_app (goodIn_of _ (by decide +kernel)) ggX8_move_X8_isThrown
set_option maxRecDepth 20000 in
theorem ggX8_move_X8_laysWithout : GoodIn wsX8_move wsX8_laysWithout := goodIn_ca (goodIn_r _ [31, 3, 1, 7, 9, 5, 16, 17, 13, 18, 32, 33, 34, 35, 6, 8, 4, 84, 85, 86, 87, 88, 89, 90, 91, 92, 93, 94, 95, 96, 97, 98, 99, 100, 101, 102, 103, 104, 105, 106, 107, 108, 109, 110, 111, 112, 113, 114, 115, 116] (by decide +kernel) (by decide +kernel)) (goodIn_sub (fun _ h => List.mem_cons_of_mem _ (List.mem_append_right _ h)) (by decide +kernel))
set_option maxRecDepth 20000 in
theorem gX8_move_X8_laysWithout : GoodIn wsX8_move (wsV RX8 143 RX8 yX8_laysWithout wsX8_laysWithout) := goodIn_app (goodIn_of _ (by decide +kernel)) ggX8_move_X8_laysWithout
set_option maxRecDepth 20000 in
theorem ggX8_move_X8_around : GoodIn wsX8_move wsX8_around := goodIn_ca (goodIn_r _ [39, 3, 4, 84, 85, 86, 87, 88, 89, 90, 91, 92, 93, 94, 95, 96, 97, 98, 99, 100, 101, 102, 103, 104, 105, 106, 107, 108, 109, 110, 111, 112, 113, 114, 115, 116] (by decide +kernel) (by decide +kernel)) (goodIn_sub (fun _ h => List.mem_cons_of_mem _ (List.mem_append_right _ h)) (by decide +kernel))
set_option maxRecDepth 20000 in
theorem gX8_move_X8_around : GoodIn wsX8_move (wsV RX8 147 RX8 yX8_around wsX8_around) := goodIn_app (goodIn_of _ (by decide +kernel)) ggX8_move_X8_around
set_option maxRecDepth 20000 in
theorem ggX8_move_X8_opens : GoodIn wsX8_move wsX8_opens := goodIn_ca (goodIn_r _ [43, 3, 6, 8, 4, 84, 85, 86, 87, 88, 89, 90, 91, 92, 93, 94, 95, 96, 97, 98, 99, 100, 101, 102, 103, 104, 105, 106, 107, 108, 109, 110, 111, 112, 113, 114, 115, 116] (by decide +kernel) (by decide +kernel)) (goodIn_sub (fun _ h => List.mem_cons_of_mem _ (List.mem_append_right _ h)) (by decide +kernel))
set_option maxRecDepth 20000 in
theorem gX8_move_X8_opens : GoodIn wsX8_move (wsV RX8 151 RX8 yX8_opens wsX8_opens) := goodIn_app (goodIn_of _ (by decide +kernel)) ggX8_move_X8_opens
set_option maxRecDepth 20000 in
theorem ggX8_move_X8_isRefused : GoodIn wsX8_move wsX8_isRefused := goodIn_ca (goodIn_r _ [47, 48, 49, 50, 51, 52, 53, 54, 55, 56, 57, 58, 13, 59, 60, 61, 62, 63, 5, 1, 4, 3, 7, 6, 64, 65, 66, 84, 85, 86, 87, 88, 89, 90, 91, 92, 93, 94, 95, 96, 97, 98, 99, 100, 101, 102, 103, 104, 105, 106, 107, 108, 109, 110, 111, 112, 113, 114, 115, 116] (by decide +kernel) (by decide +kernel)) (goodIn_sub (fun _ h => List.mem_cons_of_mem _ (List.mem_append_right _ h)) (by decide +kernel))
set_option maxRecDepth 20000 in
theorem gX8_move_X8_isRefused : GoodIn wsX8_move (wsV RX8 154 RX8 yX8_isRefused wsX8_isRefused) := goodIn_app (goodIn_of _ (by decide +kernel)) ggX8_move_X8_isRefused
set_option maxRecDepth 20000 in
theorem ggX8_move_X8_does : GoodIn wsX8_move wsX8_does := goodIn_ca (goodIn_r _ [70, 50, 53, 71, 52, 72, 2, 73, 74, 75, 76, 77, 3, 7, 6, 9, 8, 5, 4, 1, 56, 57, 58, 13, 59, 48, 60, 61, 62, 63, 64, 65, 66, 78, 79, 80, 81, 82, 83, 84, 85, 86, 87, 88, 89, 90, 91, 92, 93, 94, 95, 96, 97, 98, 99, 100, 101, 102, 103, 104, 105, 106, 107, 108, 109, 110, 111, 112, 113, 114, 115, 116] (by decide +kernel) (by decide +kernel)) (goodIn_sub (fun _ h => List.mem_cons_of_mem _ (List.mem_append_right _ h)) (by decide +kernel))
set_option maxRecDepth 20000 in
theorem gX8_move_X8_does : GoodIn wsX8_move (wsV RX8 158 RX8 yX8_does wsX8_does) := goodIn_app (goodIn_of _ (by decide +kernel)) ggX8_move_X8_does
theorem dX8_move_0 : decode cX8_move 0 = .ok (.aload_n 0, 1) := by decide +kernel
theorem dX8_move_1 : decode cX8_move 1 = .ok (.aload_n 0, 1) := by decide +kernel
theorem dX8_move_2 : decode cX8_move 2 = .ok (.iload_n 1, 1) := by decide +kernel
theorem dX8_move_3 : decode cX8_move 3 = .ok (.invokevirtual 140, 3) := by decide +kernel
theorem dX8_move_6 : decode cX8_move 6 = .ok (.ifCond .ne 27, 3) := by decide +kernel
theorem dX8_move_9 : decode cX8_move 9 = .ok (.aload_n 0, 1) := by decide +kernel
theorem dX8_move_10 : decode cX8_move 10 = .ok (.iload_n 2, 1) := by decide +kernel
theorem dX8_move_11 : decode cX8_move 11 = .ok (.iload_n 3, 1) := by decide +kernel
theorem dX8_move_12 : decode cX8_move 12 = .ok (.invokevirtual 161, 3) := by decide +kernel
theorem dX8_move_15 : decode cX8_move 15 = .ok (.ifCond .ne 18, 3) := by decide +kernel
theorem dX8_move_18 : decode cX8_move 18 = .ok (.iload 4, 2) := by decide +kernel
theorem dX8_move_20 : decode cX8_move 20 = .ok (.iconst 0, 1) := by decide +kernel
theorem dX8_move_21 : decode cX8_move 21 = .ok (.aload_n 0, 1) := by decide +kernel
theorem dX8_move_22 : decode cX8_move 22 = .ok (.getfield 98, 3) := by decide +kernel
theorem dX8_move_25 : decode cX8_move 25 = .ok (.iload_n 3, 1) := by decide +kernel
theorem dX8_move_26 : decode cX8_move 26 = .ok (.isub, 1) := by decide +kernel
theorem dX8_move_27 : decode cX8_move 27 = .ok (.invokestatic 81, 3) := by decide +kernel
theorem dX8_move_30 : decode cX8_move 30 = .ok (.ifCond .ne 7, 3) := by decide +kernel
theorem dX8_move_33 : decode cX8_move 33 = .ok (.iconst 1, 1) := by decide +kernel
theorem dX8_move_34 : decode cX8_move 34 = .ok (.goto 4, 3) := by decide +kernel
theorem dX8_move_37 : decode cX8_move 37 = .ok (.iconst 0, 1) := by decide +kernel
theorem dX8_move_38 : decode cX8_move 38 = .ok (.iconst 1, 1) := by decide +kernel
theorem dX8_move_39 : decode cX8_move 39 = .ok (.invokevirtual 85, 3) := by decide +kernel
theorem dX8_move_42 : decode cX8_move 42 = .ok (.ifCond .ne 25, 3) := by decide +kernel
theorem dX8_move_45 : decode cX8_move 45 = .ok (.aload_n 0, 1) := by decide +kernel
theorem dX8_move_46 : decode cX8_move 46 = .ok (.aload_n 0, 1) := by decide +kernel
theorem dX8_move_47 : decode cX8_move 47 = .ok (.getfield 134, 3) := by decide +kernel
theorem dX8_move_50 : decode cX8_move 50 = .ok (.bipush 40, 2) := by decide +kernel
theorem dX8_move_52 : decode cX8_move 52 = .ok (.if_icmp .ne 7, 3) := by decide +kernel
theorem dX8_move_55 : decode cX8_move 55 = .ok (.iconst 1, 1) := by decide +kernel
theorem dX8_move_56 : decode cX8_move 56 = .ok (.goto 4, 3) := by decide +kernel
theorem dX8_move_59 : decode cX8_move 59 = .ok (.iconst 0, 1) := by decide +kernel
theorem dX8_move_60 : decode cX8_move 60 = .ok (.iconst 2, 1) := by decide +kernel
theorem dX8_move_61 : decode cX8_move 61 = .ok (.invokevirtual 85, 3) := by decide +kernel
theorem dX8_move_64 : decode cX8_move 64 = .ok (.ifCond .eq 5, 3) := by decide +kernel
theorem dX8_move_67 : decode cX8_move 67 = .ok (.iconst 0, 1) := by decide +kernel
theorem dX8_move_68 : decode cX8_move 68 = .ok (.ireturn, 1) := by decide +kernel
theorem dX8_move_69 : decode cX8_move 69 = .ok (.aload_n 0, 1) := by decide +kernel
theorem dX8_move_70 : decode cX8_move 70 = .ok (.iload_n 2, 1) := by decide +kernel
theorem dX8_move_71 : decode cX8_move 71 = .ok (.iload_n 3, 1) := by decide +kernel
theorem dX8_move_72 : decode cX8_move 72 = .ok (.invokevirtual 143, 3) := by decide +kernel
theorem dX8_move_75 : decode cX8_move 75 = .ok (.aload_n 0, 1) := by decide +kernel
theorem dX8_move_76 : decode cX8_move 76 = .ok (.iload 4, 2) := by decide +kernel
theorem dX8_move_78 : decode cX8_move 78 = .ok (.invokevirtual 147, 3) := by decide +kernel
theorem dX8_move_81 : decode cX8_move 81 = .ok (.istore 5, 2) := by decide +kernel
theorem dX8_move_83 : decode cX8_move 83 = .ok (.iconst 0, 1) := by decide +kernel
theorem dX8_move_84 : decode cX8_move 84 = .ok (.istore 6, 2) := by decide +kernel
theorem dX8_move_86 : decode cX8_move 86 = .ok (.iconst 0, 1) := by decide +kernel
theorem dX8_move_87 : decode cX8_move 87 = .ok (.istore 7, 2) := by decide +kernel
theorem dX8_move_89 : decode cX8_move 89 = .ok (.iload 7, 2) := by decide +kernel
theorem dX8_move_91 : decode cX8_move 91 = .ok (.aload_n 0, 1) := by decide +kernel
theorem dX8_move_92 : decode cX8_move 92 = .ok (.getfield 95, 3) := by decide +kernel
theorem dX8_move_95 : decode cX8_move 95 = .ok (.if_icmp .ge 37, 3) := by decide +kernel
theorem dX8_move_98 : decode cX8_move 98 = .ok (.iload 6, 2) := by decide +kernel
theorem dX8_move_100 : decode cX8_move 100 = .ok (.aload_n 0, 1) := by decide +kernel
theorem dX8_move_101 : decode cX8_move 101 = .ok (.getfield 26, 3) := by decide +kernel
theorem dX8_move_104 : decode cX8_move 104 = .ok (.iload 7, 2) := by decide +kernel
theorem dX8_move_106 : decode cX8_move 106 = .ok (.iaload, 1) := by decide +kernel
theorem dX8_move_107 : decode cX8_move 107 = .ok (.ifCond .ge 7, 3) := by decide +kernel
theorem dX8_move_110 : decode cX8_move 110 = .ok (.iconst 0, 1) := by decide +kernel
theorem dX8_move_111 : decode cX8_move 111 = .ok (.goto 12, 3) := by decide +kernel
theorem dX8_move_114 : decode cX8_move 114 = .ok (.iconst 1, 1) := by decide +kernel
theorem dX8_move_115 : decode cX8_move 115 = .ok (.aload_n 0, 1) := by decide +kernel
theorem dX8_move_116 : decode cX8_move 116 = .ok (.getfield 26, 3) := by decide +kernel
theorem dX8_move_119 : decode cX8_move 119 = .ok (.iload 7, 2) := by decide +kernel
theorem dX8_move_121 : decode cX8_move 121 = .ok (.iaload, 1) := by decide +kernel
theorem dX8_move_122 : decode cX8_move 122 = .ok (.ishl, 1) := by decide +kernel
theorem dX8_move_123 : decode cX8_move 123 = .ok (.ior, 1) := by decide +kernel
theorem dX8_move_124 : decode cX8_move 124 = .ok (.istore 6, 2) := by decide +kernel
theorem dX8_move_126 : decode cX8_move 126 = .ok (.iinc 7 1, 3) := by decide +kernel
theorem dX8_move_129 : decode cX8_move 129 = .ok (.goto (-40), 3) := by decide +kernel
theorem dX8_move_132 : decode cX8_move 132 = .ok (.aload_n 0, 1) := by decide +kernel
theorem dX8_move_133 : decode cX8_move 133 = .ok (.iload 4, 2) := by decide +kernel
theorem dX8_move_135 : decode cX8_move 135 = .ok (.iload_n 3, 1) := by decide +kernel
theorem dX8_move_136 : decode cX8_move 136 = .ok (.invokevirtual 151, 3) := by decide +kernel
theorem dX8_move_139 : decode cX8_move 139 = .ok (.iconst 0, 1) := by decide +kernel
theorem dX8_move_140 : decode cX8_move 140 = .ok (.istore 7, 2) := by decide +kernel
theorem dX8_move_142 : decode cX8_move 142 = .ok (.iload 7, 2) := by decide +kernel
theorem dX8_move_144 : decode cX8_move 144 = .ok (.iload_n 3, 1) := by decide +kernel
theorem dX8_move_145 : decode cX8_move 145 = .ok (.if_icmp .ge 90, 3) := by decide +kernel
theorem dX8_move_148 : decode cX8_move 148 = .ok (.aload_n 0, 1) := by decide +kernel
theorem dX8_move_149 : decode cX8_move 149 = .ok (.getfield 20, 3) := by decide +kernel
theorem dX8_move_152 : decode cX8_move 152 = .ok (.iload_n 2, 1) := by decide +kernel
theorem dX8_move_153 : decode cX8_move 153 = .ok (.iload 7, 2) := by decide +kernel
theorem dX8_move_155 : decode cX8_move 155 = .ok (.iadd, 1) := by decide +kernel
theorem dX8_move_156 : decode cX8_move 156 = .ok (.iaload, 1) := by decide +kernel
theorem dX8_move_157 : decode cX8_move 157 = .ok (.istore 8, 2) := by decide +kernel
theorem dX8_move_159 : decode cX8_move 159 = .ok (.aload_n 0, 1) := by decide +kernel
theorem dX8_move_160 : decode cX8_move 160 = .ok (.getfield 13, 3) := by decide +kernel
theorem dX8_move_163 : decode cX8_move 163 = .ok (.iload 4, 2) := by decide +kernel
theorem dX8_move_165 : decode cX8_move 165 = .ok (.iload 7, 2) := by decide +kernel
theorem dX8_move_167 : decode cX8_move 167 = .ok (.iadd, 1) := by decide +kernel
theorem dX8_move_168 : decode cX8_move 168 = .ok (.aload_n 0, 1) := by decide +kernel
theorem dX8_move_169 : decode cX8_move 169 = .ok (.getfield 7, 3) := by decide +kernel
theorem dX8_move_172 : decode cX8_move 172 = .ok (.iload_n 2, 1) := by decide +kernel
theorem dX8_move_173 : decode cX8_move 173 = .ok (.iload 7, 2) := by decide +kernel
theorem dX8_move_175 : decode cX8_move 175 = .ok (.iadd, 1) := by decide +kernel
theorem dX8_move_176 : decode cX8_move 176 = .ok (.caload, 1) := by decide +kernel
theorem dX8_move_177 : decode cX8_move 177 = .ok (.castore, 1) := by decide +kernel
theorem dX8_move_178 : decode cX8_move 178 = .ok (.aload_n 0, 1) := by decide +kernel
theorem dX8_move_179 : decode cX8_move 179 = .ok (.getfield 23, 3) := by decide +kernel
theorem dX8_move_182 : decode cX8_move 182 = .ok (.iload 4, 2) := by decide +kernel
theorem dX8_move_184 : decode cX8_move 184 = .ok (.iload 7, 2) := by decide +kernel
theorem dX8_move_186 : decode cX8_move 186 = .ok (.iadd, 1) := by decide +kernel
theorem dX8_move_187 : decode cX8_move 187 = .ok (.aload_n 0, 1) := by decide +kernel
theorem dX8_move_188 : decode cX8_move 188 = .ok (.getfield 16, 3) := by decide +kernel
theorem dX8_move_191 : decode cX8_move 191 = .ok (.iload_n 2, 1) := by decide +kernel
theorem dX8_move_192 : decode cX8_move 192 = .ok (.iload 7, 2) := by decide +kernel
theorem dX8_move_194 : decode cX8_move 194 = .ok (.iadd, 1) := by decide +kernel
theorem dX8_move_195 : decode cX8_move 195 = .ok (.iaload, 1) := by decide +kernel
theorem dX8_move_196 : decode cX8_move 196 = .ok (.iastore, 1) := by decide +kernel
theorem dX8_move_197 : decode cX8_move 197 = .ok (.aload_n 0, 1) := by decide +kernel
theorem dX8_move_198 : decode cX8_move 198 = .ok (.getfield 26, 3) := by decide +kernel
theorem dX8_move_201 : decode cX8_move 201 = .ok (.iload 4, 2) := by decide +kernel
theorem dX8_move_203 : decode cX8_move 203 = .ok (.iload 7, 2) := by decide +kernel
theorem dX8_move_205 : decode cX8_move 205 = .ok (.iadd, 1) := by decide +kernel
theorem dX8_move_206 : decode cX8_move 206 = .ok (.iload 8, 2) := by decide +kernel
theorem dX8_move_208 : decode cX8_move 208 = .ok (.ifCond .lt 18, 3) := by decide +kernel
theorem dX8_move_211 : decode cX8_move 211 = .ok (.iload 6, 2) := by decide +kernel
theorem dX8_move_213 : decode cX8_move 213 = .ok (.iload 8, 2) := by decide +kernel
theorem dX8_move_215 : decode cX8_move 215 = .ok (.ishr, 1) := by decide +kernel
theorem dX8_move_216 : decode cX8_move 216 = .ok (.iconst 1, 1) := by decide +kernel
theorem dX8_move_217 : decode cX8_move 217 = .ok (.iand, 1) := by decide +kernel
theorem dX8_move_218 : decode cX8_move 218 = .ok (.ifCond .ne 8, 3) := by decide +kernel
theorem dX8_move_221 : decode cX8_move 221 = .ok (.iload 8, 2) := by decide +kernel
theorem dX8_move_223 : decode cX8_move 223 = .ok (.goto 5, 3) := by decide +kernel
theorem dX8_move_226 : decode cX8_move 226 = .ok (.iload 5, 2) := by decide +kernel
theorem dX8_move_228 : decode cX8_move 228 = .ok (.iastore, 1) := by decide +kernel
theorem dX8_move_229 : decode cX8_move 229 = .ok (.iinc 7 1, 3) := by decide +kernel
theorem dX8_move_232 : decode cX8_move 232 = .ok (.goto (-90), 3) := by decide +kernel
theorem dX8_move_235 : decode cX8_move 235 = .ok (.aload_n 0, 1) := by decide +kernel
theorem dX8_move_236 : decode cX8_move 236 = .ok (.aload_n 0, 1) := by decide +kernel
theorem dX8_move_237 : decode cX8_move 237 = .ok (.invokevirtual 154, 3) := by decide +kernel
theorem dX8_move_240 : decode cX8_move 240 = .ok (.iconst 3, 1) := by decide +kernel
theorem dX8_move_241 : decode cX8_move 241 = .ok (.invokevirtual 85, 3) := by decide +kernel
theorem dX8_move_244 : decode cX8_move 244 = .ok (.ifCond .eq 5, 3) := by decide +kernel
theorem dX8_move_247 : decode cX8_move 247 = .ok (.iconst 0, 1) := by decide +kernel
theorem dX8_move_248 : decode cX8_move 248 = .ok (.ireturn, 1) := by decide +kernel
theorem dX8_move_249 : decode cX8_move 249 = .ok (.aload_n 0, 1) := by decide +kernel
theorem dX8_move_250 : decode cX8_move 250 = .ok (.bipush 109, 2) := by decide +kernel
theorem dX8_move_252 : decode cX8_move 252 = .ok (.iload_n 1, 1) := by decide +kernel
theorem dX8_move_253 : decode cX8_move 253 = .ok (.iload_n 3, 1) := by decide +kernel
theorem dX8_move_254 : decode cX8_move 254 = .ok (.invokevirtual 158, 3) := by decide +kernel
theorem dX8_move_257 : decode cX8_move 257 = .ok (.aload_n 0, 1) := by decide +kernel
theorem dX8_move_258 : decode cX8_move 258 = .ok (.getfield 134, 3) := by decide +kernel
theorem dX8_move_261 : decode cX8_move 261 = .ok (.iconst 1, 1) := by decide +kernel
theorem dX8_move_262 : decode cX8_move 262 = .ok (.isub, 1) := by decide +kernel
theorem dX8_move_263 : decode cX8_move 263 = .ok (.ireturn, 1) := by decide +kernel
theorem dX8_edits_0 : decode cX8_edits 0 = .ok (.aload_n 0, 1) := by decide +kernel
theorem dX8_edits_1 : decode cX8_edits 1 = .ok (.iconst 0, 1) := by decide +kernel
theorem dX8_edits_2 : decode cX8_edits 2 = .ok (.putfield 77, 3) := by decide +kernel
theorem dX8_edits_5 : decode cX8_edits 5 = .ok (.aload_n 0, 1) := by decide +kernel
theorem dX8_edits_6 : decode cX8_edits 6 = .ok (.getfield 134, 3) := by decide +kernel
theorem dX8_edits_9 : decode cX8_edits 9 = .ok (.ireturn, 1) := by decide +kernel
set_option maxRecDepth 20000 in
theorem ggX8_isNoEdit_X8_isIn : GoodIn wsX8_isNoEdit wsX8_isIn := goodIn_r _ [5] (by decide +kernel) (by decide +kernel)
set_option maxRecDepth 20000 in
theorem gX8_isNoEdit_X8_isIn : GoodIn wsX8_isNoEdit (va_wsS RX8 81 yX8_isIn wsX8_isIn) := goodIn_app (goodIn_of _ (by decide +kernel)) ggX8_isNoEdit_X8_isIn
set_option maxRecDepth 20000 in
theorem ggX8_isNoEdit_X8_isThrown : GoodIn wsX8_isNoEdit wsX8_isThrown := goodIn_r _ [9, 10, 11, 12, 13, 14, 15, 16, 17, 18, 19, 20, 21, 22, 23, 24, 25, 26, 27, 28, 29, 30, 31, 32, 33, 34, 35, 36, 37, 38, 39, 40, 41, 42, 43] (by decide +kernel) (by decide +kernel)
set_option maxRecDepth 20000 in
theorem gX8_isNoEdit_X8_isThrown : GoodIn wsX8_isNoEdit (wsV RX8 85 RX8 yX8_isThrown wsX8_isThrown) := goodIn_app (goodIn_of _ (by decide +kernel)) ggX8_isNoEdit_X8_isThrown
theorem dX8_isNoEdit_0 : decode cX8_isNoEdit 0 = .ok (.aload_n 0, 1) := by decide +kernel
theorem dX8_isNoEdit_1 : decode cX8_isNoEdit 1 = .ok (.iload_n 1, 1) := by decide +kernel
theorem dX8_isNoEdit_2 : decode cX8_isNoEdit 2 = .ok (.iconst 0, 1) := by decide +kernel
theorem dX8_isNoEdit_3 : decode cX8_isNoEdit 3 = .ok (.aload_n 0, 1) := by decide +kernel
theorem dX8_isNoEdit_4 : decode cX8_isNoEdit 4 = .ok (.getfield 134, 3) := by decide +kernel
theorem dX8_isNoEdit_7 : decode cX8_isNoEdit 7 = .ok (.iconst 1, 1) := by decide +kernel
theorem dX8_isNoEdit_8 : decode cX8_isNoEdit 8 = .ok (.isub, 1) := by decide +kernel
theorem dX8_isNoEdit_9 : decode cX8_isNoEdit 9 = .ok (.invokestatic 81, 3) := by decide +kernel
theorem dX8_isNoEdit_12 : decode cX8_isNoEdit 12 = .ok (.ifCond .ne 7, 3) := by decide +kernel
theorem dX8_isNoEdit_15 : decode cX8_isNoEdit 15 = .ok (.iconst 1, 1) := by decide +kernel
theorem dX8_isNoEdit_16 : decode cX8_isNoEdit 16 = .ok (.goto 4, 3) := by decide +kernel
theorem dX8_isNoEdit_19 : decode cX8_isNoEdit 19 = .ok (.iconst 0, 1) := by decide +kernel
theorem dX8_isNoEdit_20 : decode cX8_isNoEdit 20 = .ok (.iconst 1, 1) := by decide +kernel
theorem dX8_isNoEdit_21 : decode cX8_isNoEdit 21 = .ok (.invokevirtual 85, 3) := by decide +kernel
theorem dX8_isNoEdit_24 : decode cX8_isNoEdit 24 = .ok (.ireturn, 1) := by decide +kernel
set_option maxRecDepth 20000 in
theorem ggX8_editKind_X8_isNoEdit : GoodIn wsX8_editKind wsX8_isNoEdit := goodIn_r _ [6, 7, 8, 9, 5, 10, 11, 12, 13, 14, 15, 16, 17, 18, 19, 20, 21, 22, 23, 24, 25, 26, 27, 28, 29, 30, 31, 32, 33, 34, 35, 36, 37, 38, 39, 40, 41, 42, 43, 44, 45, 46, 47, 48] (by decide +kernel) (by decide +kernel)
set_option maxRecDepth 20000 in
theorem gX8_editKind_X8_isNoEdit : GoodIn wsX8_editKind (wsV RX8 165 RX8 yX8_isNoEdit wsX8_isNoEdit) := goodIn_app (goodIn_of _ (by decide +kernel)) ggX8_editKind_X8_isNoEdit
theorem dX8_editKind_0 : decode cX8_editKind 0 = .ok (.aload_n 0, 1) := by decide +kernel
theorem dX8_editKind_1 : decode cX8_editKind 1 = .ok (.iload_n 1, 1) := by decide +kernel
theorem dX8_editKind_2 : decode cX8_editKind 2 = .ok (.invokevirtual 165, 3) := by decide +kernel
theorem dX8_editKind_5 : decode cX8_editKind 5 = .ok (.ifCond .eq 8, 3) := by decide +kernel
theorem dX8_editKind_8 : decode cX8_editKind 8 = .ok (.bipush 45, 2) := by decide +kernel
theorem dX8_editKind_10 : decode cX8_editKind 10 = .ok (.goto 9, 3) := by decide +kernel
theorem dX8_editKind_13 : decode cX8_editKind 13 = .ok (.aload_n 0, 1) := by decide +kernel
theorem dX8_editKind_14 : decode cX8_editKind 14 = .ok (.getfield 35, 3) := by decide +kernel
theorem dX8_editKind_17 : decode cX8_editKind 17 = .ok (.iload_n 1, 1) := by decide +kernel
theorem dX8_editKind_18 : decode cX8_editKind 18 = .ok (.caload, 1) := by decide +kernel
theorem dX8_editKind_19 : decode cX8_editKind 19 = .ok (.ireturn, 1) := by decide +kernel
set_option maxRecDepth 20000 in
theorem ggX8_editAuthor_X8_isNoEdit : GoodIn wsX8_editAuthor wsX8_isNoEdit := goodIn_r _ [6, 7, 8, 9, 5, 10, 11, 12, 13, 14, 15, 16, 17, 18, 19, 20, 21, 22, 23, 24, 25, 26, 27, 28, 29, 30, 31, 32, 33, 34, 35, 36, 37, 38, 39, 40, 41, 42, 43, 44, 45, 46, 47, 48] (by decide +kernel) (by decide +kernel)
set_option maxRecDepth 20000 in
theorem gX8_editAuthor_X8_isNoEdit : GoodIn wsX8_editAuthor (wsV RX8 165 RX8 yX8_isNoEdit wsX8_isNoEdit) := goodIn_app (goodIn_of _ (by decide +kernel)) ggX8_editAuthor_X8_isNoEdit
theorem dX8_editAuthor_0 : decode cX8_editAuthor 0 = .ok (.aload_n 0, 1) := by decide +kernel
theorem dX8_editAuthor_1 : decode cX8_editAuthor 1 = .ok (.iload_n 1, 1) := by decide +kernel
theorem dX8_editAuthor_2 : decode cX8_editAuthor 2 = .ok (.invokevirtual 165, 3) := by decide +kernel
theorem dX8_editAuthor_5 : decode cX8_editAuthor 5 = .ok (.ifCond .eq 7, 3) := by decide +kernel
theorem dX8_editAuthor_8 : decode cX8_editAuthor 8 = .ok (.iconst 0, 1) := by decide +kernel
theorem dX8_editAuthor_9 : decode cX8_editAuthor 9 = .ok (.goto 9, 3) := by decide +kernel
theorem dX8_editAuthor_12 : decode cX8_editAuthor 12 = .ok (.aload_n 0, 1) := by decide +kernel
theorem dX8_editAuthor_13 : decode cX8_editAuthor 13 = .ok (.getfield 44, 3) := by decide +kernel
theorem dX8_editAuthor_16 : decode cX8_editAuthor 16 = .ok (.iload_n 1, 1) := by decide +kernel
theorem dX8_editAuthor_17 : decode cX8_editAuthor 17 = .ok (.iaload, 1) := by decide +kernel
theorem dX8_editAuthor_18 : decode cX8_editAuthor 18 = .ok (.ireturn, 1) := by decide +kernel
set_option maxRecDepth 20000 in
theorem ggX8_editCost_X8_isNoEdit : GoodIn wsX8_editCost wsX8_isNoEdit := goodIn_r _ [6, 7, 8, 9, 5, 10, 11, 12, 13, 14, 15, 16, 17, 18, 19, 20, 21, 22, 23, 24, 25, 26, 27, 28, 29, 30, 31, 32, 33, 34, 35, 36, 37, 38, 39, 40, 41, 42, 43, 44, 45, 46, 47, 48] (by decide +kernel) (by decide +kernel)
set_option maxRecDepth 20000 in
theorem gX8_editCost_X8_isNoEdit : GoodIn wsX8_editCost (wsV RX8 165 RX8 yX8_isNoEdit wsX8_isNoEdit) := goodIn_app (goodIn_of _ (by decide +kernel)) ggX8_editCost_X8_isNoEdit
theorem dX8_editCost_0 : decode cX8_editCost 0 = .ok (.aload_n 0, 1) := by decide +kernel
theorem dX8_editCost_1 : decode cX8_editCost 1 = .ok (.iload_n 1, 1) := by decide +kernel
theorem dX8_editCost_2 : decode cX8_editCost 2 = .ok (.invokevirtual 165, 3) := by decide +kernel
theorem dX8_editCost_5 : decode cX8_editCost 5 = .ok (.ifCond .eq 7, 3) := by decide +kernel
theorem dX8_editCost_8 : decode cX8_editCost 8 = .ok (.iconst 0, 1) := by decide +kernel
theorem dX8_editCost_9 : decode cX8_editCost 9 = .ok (.goto 9, 3) := by decide +kernel
theorem dX8_editCost_12 : decode cX8_editCost 12 = .ok (.aload_n 0, 1) := by decide +kernel
theorem dX8_editCost_13 : decode cX8_editCost 13 = .ok (.getfield 47, 3) := by decide +kernel
theorem dX8_editCost_16 : decode cX8_editCost 16 = .ok (.iload_n 1, 1) := by decide +kernel
theorem dX8_editCost_17 : decode cX8_editCost 17 = .ok (.iaload, 1) := by decide +kernel
theorem dX8_editCost_18 : decode cX8_editCost 18 = .ok (.ireturn, 1) := by decide +kernel
set_option maxRecDepth 20000 in
theorem ggX8_refusalReason_X8_isThrown : GoodIn wsX8_refusalReason wsX8_isThrown := goodIn_r _ [6, 7, 8, 9, 10, 11, 12, 13, 14, 15, 16, 17, 18, 19, 20, 21, 22, 23, 24, 25, 26, 27, 28, 29, 30, 31, 32, 33, 34, 35, 36, 37, 38, 39, 40] (by decide +kernel) (by decide +kernel)
set_option maxRecDepth 20000 in
theorem gX8_refusalReason_X8_isThrown : GoodIn wsX8_refusalReason (wsV RX8 85 RX8 yX8_isThrown wsX8_isThrown) := goodIn_app (goodIn_of _ (by decide +kernel)) ggX8_refusalReason_X8_isThrown
theorem dX8_refusalReason_0 : decode cX8_refusalReason 0 = .ok (.aload_n 0, 1) := by decide +kernel
theorem dX8_refusalReason_1 : decode cX8_refusalReason 1 = .ok (.aload_n 0, 1) := by decide +kernel
theorem dX8_refusalReason_2 : decode cX8_refusalReason 2 = .ok (.getfield 73, 3) := by decide +kernel
theorem dX8_refusalReason_5 : decode cX8_refusalReason 5 = .ok (.bipush 45, 2) := by decide +kernel
theorem dX8_refusalReason_7 : decode cX8_refusalReason 7 = .ok (.if_icmp .ne 7, 3) := by decide +kernel
theorem dX8_refusalReason_10 : decode cX8_refusalReason 10 = .ok (.iconst 1, 1) := by decide +kernel
theorem dX8_refusalReason_11 : decode cX8_refusalReason 11 = .ok (.goto 4, 3) := by decide +kernel
theorem dX8_refusalReason_14 : decode cX8_refusalReason 14 = .ok (.iconst 0, 1) := by decide +kernel
theorem dX8_refusalReason_15 : decode cX8_refusalReason 15 = .ok (.iconst 1, 1) := by decide +kernel
theorem dX8_refusalReason_16 : decode cX8_refusalReason 16 = .ok (.invokevirtual 85, 3) := by decide +kernel
theorem dX8_refusalReason_19 : decode cX8_refusalReason 19 = .ok (.ifCond .eq 8, 3) := by decide +kernel
theorem dX8_refusalReason_22 : decode cX8_refusalReason 22 = .ok (.bipush 45, 2) := by decide +kernel
theorem dX8_refusalReason_24 : decode cX8_refusalReason 24 = .ok (.goto 7, 3) := by decide +kernel
theorem dX8_refusalReason_27 : decode cX8_refusalReason 27 = .ok (.aload_n 0, 1) := by decide +kernel
theorem dX8_refusalReason_28 : decode cX8_refusalReason 28 = .ok (.getfield 73, 3) := by decide +kernel
theorem dX8_refusalReason_31 : decode cX8_refusalReason 31 = .ok (.ireturn, 1) := by decide +kernel
set_option maxRecDepth 20000 in
theorem ggX8_refusalSubject_X8_isThrown : GoodIn wsX8_refusalSubject wsX8_isThrown := goodIn_r _ [7, 8, 9, 10, 11, 12, 13, 14, 15, 16, 17, 18, 19, 20, 21, 22, 23, 24, 25, 26, 27, 28, 29, 30, 31, 32, 33, 34, 35, 36, 37, 38, 39, 40, 41] (by decide +kernel) (by decide +kernel)
set_option maxRecDepth 20000 in
theorem gX8_refusalSubject_X8_isThrown : GoodIn wsX8_refusalSubject (wsV RX8 85 RX8 yX8_isThrown wsX8_isThrown) := goodIn_app (goodIn_of _ (by decide +kernel)) ggX8_refusalSubject_X8_isThrown
theorem dX8_refusalSubject_0 : decode cX8_refusalSubject 0 = .ok (.aload_n 0, 1) := by decide +kernel
theorem dX8_refusalSubject_1 : decode cX8_refusalSubject 1 = .ok (.aload_n 0, 1) := by decide +kernel
theorem dX8_refusalSubject_2 : decode cX8_refusalSubject 2 = .ok (.getfield 73, 3) := by decide +kernel
theorem dX8_refusalSubject_5 : decode cX8_refusalSubject 5 = .ok (.bipush 45, 2) := by decide +kernel
theorem dX8_refusalSubject_7 : decode cX8_refusalSubject 7 = .ok (.if_icmp .ne 7, 3) := by decide +kernel
theorem dX8_refusalSubject_10 : decode cX8_refusalSubject 10 = .ok (.iconst 1, 1) := by decide +kernel
theorem dX8_refusalSubject_11 : decode cX8_refusalSubject 11 = .ok (.goto 4, 3) := by decide +kernel
theorem dX8_refusalSubject_14 : decode cX8_refusalSubject 14 = .ok (.iconst 0, 1) := by decide +kernel
theorem dX8_refusalSubject_15 : decode cX8_refusalSubject 15 = .ok (.iconst 1, 1) := by decide +kernel
theorem dX8_refusalSubject_16 : decode cX8_refusalSubject 16 = .ok (.invokevirtual 85, 3) := by decide +kernel
theorem dX8_refusalSubject_19 : decode cX8_refusalSubject 19 = .ok (.ifCond .eq 7, 3) := by decide +kernel
theorem dX8_refusalSubject_22 : decode cX8_refusalSubject 22 = .ok (.iconst 0, 1) := by decide +kernel
theorem dX8_refusalSubject_23 : decode cX8_refusalSubject 23 = .ok (.goto 7, 3) := by decide +kernel
theorem dX8_refusalSubject_26 : decode cX8_refusalSubject 26 = .ok (.aload_n 0, 1) := by decide +kernel
theorem dX8_refusalSubject_27 : decode cX8_refusalSubject 27 = .ok (.getfield 127, 3) := by decide +kernel
theorem dX8_refusalSubject_30 : decode cX8_refusalSubject 30 = .ok (.ireturn, 1) := by decide +kernel
theorem dX8_length_0 : decode cX8_length 0 = .ok (.aload_n 0, 1) := by decide +kernel
theorem dX8_length_1 : decode cX8_length 1 = .ok (.iconst 0, 1) := by decide +kernel
theorem dX8_length_2 : decode cX8_length 2 = .ok (.putfield 77, 3) := by decide +kernel
theorem dX8_length_5 : decode cX8_length 5 = .ok (.aload_n 0, 1) := by decide +kernel
theorem dX8_length_6 : decode cX8_length 6 = .ok (.getfield 98, 3) := by decide +kernel
theorem dX8_length_9 : decode cX8_length 9 = .ok (.ireturn, 1) := by decide +kernel
set_option maxRecDepth 20000 in
theorem ggX8_isNoPlace_X8_isIn : GoodIn wsX8_isNoPlace wsX8_isIn := goodIn_r _ [5] (by decide +kernel) (by decide +kernel)
set_option maxRecDepth 20000 in
theorem gX8_isNoPlace_X8_isIn : GoodIn wsX8_isNoPlace (va_wsS RX8 81 yX8_isIn wsX8_isIn) := goodIn_app (goodIn_of _ (by decide +kernel)) ggX8_isNoPlace_X8_isIn
set_option maxRecDepth 20000 in
theorem ggX8_isNoPlace_X8_isThrown : GoodIn wsX8_isNoPlace wsX8_isThrown := goodIn_r _ [9, 10, 11, 12, 13, 14, 15, 16, 17, 18, 19, 20, 21, 22, 23, 24, 25, 26, 27, 28, 29, 30, 31, 32, 33, 34, 35, 36, 37, 38, 39, 40, 41, 42, 43] (by decide +kernel) (by decide +kernel)
set_option maxRecDepth 20000 in
theorem gX8_isNoPlace_X8_isThrown : GoodIn wsX8_isNoPlace (wsV RX8 85 RX8 yX8_isThrown wsX8_isThrown) := goodIn_app (goodIn_of _ (by decide +kernel)) ggX8_isNoPlace_X8_isThrown
theorem dX8_isNoPlace_0 : decode cX8_isNoPlace 0 = .ok (.aload_n 0, 1) := by decide +kernel
theorem dX8_isNoPlace_1 : decode cX8_isNoPlace 1 = .ok (.iload_n 1, 1) := by decide +kernel
theorem dX8_isNoPlace_2 : decode cX8_isNoPlace 2 = .ok (.iconst 0, 1) := by decide +kernel
theorem dX8_isNoPlace_3 : decode cX8_isNoPlace 3 = .ok (.aload_n 0, 1) := by decide +kernel
theorem dX8_isNoPlace_4 : decode cX8_isNoPlace 4 = .ok (.getfield 98, 3) := by decide +kernel
theorem dX8_isNoPlace_7 : decode cX8_isNoPlace 7 = .ok (.iconst 1, 1) := by decide +kernel
theorem dX8_isNoPlace_8 : decode cX8_isNoPlace 8 = .ok (.isub, 1) := by decide +kernel
theorem dX8_isNoPlace_9 : decode cX8_isNoPlace 9 = .ok (.invokestatic 81, 3) := by decide +kernel
theorem dX8_isNoPlace_12 : decode cX8_isNoPlace 12 = .ok (.ifCond .ne 7, 3) := by decide +kernel
theorem dX8_isNoPlace_15 : decode cX8_isNoPlace 15 = .ok (.iconst 1, 1) := by decide +kernel
theorem dX8_isNoPlace_16 : decode cX8_isNoPlace 16 = .ok (.goto 4, 3) := by decide +kernel
theorem dX8_isNoPlace_19 : decode cX8_isNoPlace 19 = .ok (.iconst 0, 1) := by decide +kernel
theorem dX8_isNoPlace_20 : decode cX8_isNoPlace 20 = .ok (.iconst 1, 1) := by decide +kernel
theorem dX8_isNoPlace_21 : decode cX8_isNoPlace 21 = .ok (.invokevirtual 85, 3) := by decide +kernel
theorem dX8_isNoPlace_24 : decode cX8_isNoPlace 24 = .ok (.ireturn, 1) := by decide +kernel
set_option maxRecDepth 20000 in
theorem ggX8_charAt_X8_isNoPlace : GoodIn wsX8_charAt wsX8_isNoPlace := goodIn_r _ [6, 7, 8, 9, 5, 10, 11, 12, 13, 14, 15, 16, 17, 18, 19, 20, 21, 22, 23, 24, 25, 26, 27, 28, 29, 30, 31, 32, 33, 34, 35, 36, 37, 38, 39, 40, 41, 42, 43, 44, 45, 46, 47, 48] (by decide +kernel) (by decide +kernel)
set_option maxRecDepth 20000 in
theorem gX8_charAt_X8_isNoPlace : GoodIn wsX8_charAt (wsV RX8 168 RX8 yX8_isNoPlace wsX8_isNoPlace) := goodIn_app (goodIn_of _ (by decide +kernel)) ggX8_charAt_X8_isNoPlace
theorem dX8_charAt_0 : decode cX8_charAt 0 = .ok (.aload_n 0, 1) := by decide +kernel
theorem dX8_charAt_1 : decode cX8_charAt 1 = .ok (.iload_n 1, 1) := by decide +kernel
theorem dX8_charAt_2 : decode cX8_charAt 2 = .ok (.invokevirtual 168, 3) := by decide +kernel
theorem dX8_charAt_5 : decode cX8_charAt 5 = .ok (.ifCond .eq 8, 3) := by decide +kernel
theorem dX8_charAt_8 : decode cX8_charAt 8 = .ok (.bipush 45, 2) := by decide +kernel
theorem dX8_charAt_10 : decode cX8_charAt 10 = .ok (.goto 9, 3) := by decide +kernel
theorem dX8_charAt_13 : decode cX8_charAt 13 = .ok (.aload_n 0, 1) := by decide +kernel
theorem dX8_charAt_14 : decode cX8_charAt 14 = .ok (.getfield 7, 3) := by decide +kernel
theorem dX8_charAt_17 : decode cX8_charAt 17 = .ok (.iload_n 1, 1) := by decide +kernel
theorem dX8_charAt_18 : decode cX8_charAt 18 = .ok (.caload, 1) := by decide +kernel
theorem dX8_charAt_19 : decode cX8_charAt 19 = .ok (.ireturn, 1) := by decide +kernel
set_option maxRecDepth 20000 in
theorem ggX8_authorOf_X8_isNoPlace : GoodIn wsX8_authorOf wsX8_isNoPlace := goodIn_r _ [6, 7, 8, 9, 5, 10, 11, 12, 13, 14, 15, 16, 17, 18, 19, 20, 21, 22, 23, 24, 25, 26, 27, 28, 29, 30, 31, 32, 33, 34, 35, 36, 37, 38, 39, 40, 41, 42, 43, 44, 45, 46, 47, 48] (by decide +kernel) (by decide +kernel)
set_option maxRecDepth 20000 in
theorem gX8_authorOf_X8_isNoPlace : GoodIn wsX8_authorOf (wsV RX8 168 RX8 yX8_isNoPlace wsX8_isNoPlace) := goodIn_app (goodIn_of _ (by decide +kernel)) ggX8_authorOf_X8_isNoPlace
theorem dX8_authorOf_0 : decode cX8_authorOf 0 = .ok (.aload_n 0, 1) := by decide +kernel
theorem dX8_authorOf_1 : decode cX8_authorOf 1 = .ok (.iload_n 1, 1) := by decide +kernel
theorem dX8_authorOf_2 : decode cX8_authorOf 2 = .ok (.invokevirtual 168, 3) := by decide +kernel
theorem dX8_authorOf_5 : decode cX8_authorOf 5 = .ok (.ifCond .eq 7, 3) := by decide +kernel
theorem dX8_authorOf_8 : decode cX8_authorOf 8 = .ok (.iconst 0, 1) := by decide +kernel
theorem dX8_authorOf_9 : decode cX8_authorOf 9 = .ok (.goto 9, 3) := by decide +kernel
theorem dX8_authorOf_12 : decode cX8_authorOf 12 = .ok (.aload_n 0, 1) := by decide +kernel
theorem dX8_authorOf_13 : decode cX8_authorOf 13 = .ok (.getfield 16, 3) := by decide +kernel
theorem dX8_authorOf_16 : decode cX8_authorOf 16 = .ok (.iload_n 1, 1) := by decide +kernel
theorem dX8_authorOf_17 : decode cX8_authorOf 17 = .ok (.iaload, 1) := by decide +kernel
theorem dX8_authorOf_18 : decode cX8_authorOf 18 = .ok (.ireturn, 1) := by decide +kernel
set_option maxRecDepth 20000 in
theorem ggX8_clauseOf_X8_isNoPlace : GoodIn wsX8_clauseOf wsX8_isNoPlace := goodIn_r _ [6, 7, 8, 9, 5, 10, 11, 12, 13, 14, 15, 16, 17, 18, 19, 20, 21, 22, 23, 24, 25, 26, 27, 28, 29, 30, 31, 32, 33, 34, 35, 36, 37, 38, 39, 40, 41, 42, 43, 44, 45, 46, 47, 48] (by decide +kernel) (by decide +kernel)
set_option maxRecDepth 20000 in
theorem gX8_clauseOf_X8_isNoPlace : GoodIn wsX8_clauseOf (wsV RX8 168 RX8 yX8_isNoPlace wsX8_isNoPlace) := goodIn_app (goodIn_of _ (by decide +kernel)) ggX8_clauseOf_X8_isNoPlace
theorem dX8_clauseOf_0 : decode cX8_clauseOf 0 = .ok (.aload_n 0, 1) := by decide +kernel
theorem dX8_clauseOf_1 : decode cX8_clauseOf 1 = .ok (.iload_n 1, 1) := by decide +kernel
theorem dX8_clauseOf_2 : decode cX8_clauseOf 2 = .ok (.invokevirtual 168, 3) := by decide +kernel
theorem dX8_clauseOf_5 : decode cX8_clauseOf 5 = .ok (.ifCond .eq 7, 3) := by decide +kernel
theorem dX8_clauseOf_8 : decode cX8_clauseOf 8 = .ok (.iconst 0, 1) := by decide +kernel
theorem dX8_clauseOf_9 : decode cX8_clauseOf 9 = .ok (.goto 9, 3) := by decide +kernel
theorem dX8_clauseOf_12 : decode cX8_clauseOf 12 = .ok (.aload_n 0, 1) := by decide +kernel
theorem dX8_clauseOf_13 : decode cX8_clauseOf 13 = .ok (.getfield 20, 3) := by decide +kernel
theorem dX8_clauseOf_16 : decode cX8_clauseOf 16 = .ok (.iload_n 1, 1) := by decide +kernel
theorem dX8_clauseOf_17 : decode cX8_clauseOf 17 = .ok (.iaload, 1) := by decide +kernel
theorem dX8_clauseOf_18 : decode cX8_clauseOf 18 = .ok (.ireturn, 1) := by decide +kernel
set_option maxRecDepth 20000 in
theorem ggX8_lengthAgain_X8_length : GoodIn wsX8_lengthAgain wsX8_length := goodIn_r _ [5, 6, 7, 8, 9, 10, 11, 12, 13, 14, 15, 16, 17, 18, 19, 20, 21, 22, 23, 24, 25, 26, 27, 28, 29, 30, 31, 32, 33, 34, 35, 36, 37, 38, 39, 40] (by decide +kernel) (by decide +kernel)
set_option maxRecDepth 20000 in
theorem gX8_lengthAgain_X8_length : GoodIn wsX8_lengthAgain (wsV RX8 171 RX8 yX8_length wsX8_length) := goodIn_app (goodIn_of _ (by decide +kernel)) ggX8_lengthAgain_X8_length
theorem dX8_lengthAgain_0 : decode cX8_lengthAgain 0 = .ok (.aload_n 0, 1) := by decide +kernel
theorem dX8_lengthAgain_1 : decode cX8_lengthAgain 1 = .ok (.invokevirtual 171, 3) := by decide +kernel
theorem dX8_lengthAgain_4 : decode cX8_lengthAgain 4 = .ok (.ireturn, 1) := by decide +kernel
set_option maxRecDepth 20000 in
theorem ggX8_charAgain_X8_charAt : GoodIn wsX8_charAgain wsX8_charAt := goodIn_ca (goodIn_r _ [5, 6, 7, 8, 9, 4, 10, 11, 12, 13, 14, 15, 16, 17, 18, 19, 20, 21, 22, 23, 24, 25, 26, 27, 28, 29, 30, 31, 32, 33, 34, 35, 36, 37, 38, 39, 40, 41, 42, 43, 44, 45, 46, 47, 48, 49, 50, 51, 52] (by decide +kernel) (by decide +kernel)) (goodIn_sub (fun _ h => List.mem_cons_of_mem _ (List.mem_append_right _ h)) (by decide +kernel))
set_option maxRecDepth 20000 in
theorem gX8_charAgain_X8_charAt : GoodIn wsX8_charAgain (wsV RX8 173 RX8 yX8_charAt wsX8_charAt) := goodIn_app (goodIn_of _ (by decide +kernel)) ggX8_charAgain_X8_charAt
theorem dX8_charAgain_0 : decode cX8_charAgain 0 = .ok (.aload_n 0, 1) := by decide +kernel
theorem dX8_charAgain_1 : decode cX8_charAgain 1 = .ok (.iload_n 1, 1) := by decide +kernel
theorem dX8_charAgain_2 : decode cX8_charAgain 2 = .ok (.invokevirtual 173, 3) := by decide +kernel
theorem dX8_charAgain_5 : decode cX8_charAgain 5 = .ok (.ireturn, 1) := by decide +kernel
theorem dX8_writes_0 : decode cX8_writes 0 = .ok (.aload_n 0, 1) := by decide +kernel
theorem dX8_writes_1 : decode cX8_writes 1 = .ok (.getfield 32, 3) := by decide +kernel
theorem dX8_writes_4 : decode cX8_writes 4 = .ok (.aload_n 0, 1) := by decide +kernel
theorem dX8_writes_5 : decode cX8_writes 5 = .ok (.getfield 177, 3) := by decide +kernel
theorem dX8_writes_8 : decode cX8_writes 8 = .ok (.iload_n 1, 1) := by decide +kernel
theorem dX8_writes_9 : decode cX8_writes 9 = .ok (.castore, 1) := by decide +kernel
theorem dX8_writes_10 : decode cX8_writes 10 = .ok (.aload_n 0, 1) := by decide +kernel
theorem dX8_writes_11 : decode cX8_writes 11 = .ok (.dup, 1) := by decide +kernel
theorem dX8_writes_12 : decode cX8_writes 12 = .ok (.getfield 177, 3) := by decide +kernel
theorem dX8_writes_15 : decode cX8_writes 15 = .ok (.iconst 1, 1) := by decide +kernel
theorem dX8_writes_16 : decode cX8_writes 16 = .ok (.iadd, 1) := by decide +kernel
theorem dX8_writes_17 : decode cX8_writes 17 = .ok (.putfield 177, 3) := by decide +kernel
theorem dX8_writes_20 : decode cX8_writes 20 = .ok (.return_, 1) := by decide +kernel
set_option maxRecDepth 20000 in
theorem ggX8_writeText_X8_writes : GoodIn wsX8_writeText wsX8_writes := goodIn_ca (goodIn_r _ [10, 11, 2, 12, 13, 14, 15, 16, 17, 18, 19, 20, 21, 22, 23, 24, 25, 26, 27, 28, 29, 30, 31, 32, 33, 34, 35, 36, 37, 38, 39, 40, 41, 42, 43, 44] (by decide +kernel) (by decide +kernel)) (goodIn_sub (fun _ h => List.mem_cons_of_mem _ (List.mem_append_right _ h)) (by decide +kernel))
set_option maxRecDepth 20000 in
theorem gX8_writeText_X8_writes : GoodIn wsX8_writeText (wsV RX8 180 RX8 yX8_writes wsX8_writes) := goodIn_app (goodIn_of _ (by decide +kernel)) ggX8_writeText_X8_writes
theorem dX8_writeText_0 : decode cX8_writeText 0 = .ok (.aload_n 0, 1) := by decide +kernel
theorem dX8_writeText_1 : decode cX8_writeText 1 = .ok (.iconst 0, 1) := by decide +kernel
theorem dX8_writeText_2 : decode cX8_writeText 2 = .ok (.putfield 77, 3) := by decide +kernel
theorem dX8_writeText_5 : decode cX8_writeText 5 = .ok (.aload_n 0, 1) := by decide +kernel
theorem dX8_writeText_6 : decode cX8_writeText 6 = .ok (.iconst 0, 1) := by decide +kernel
theorem dX8_writeText_7 : decode cX8_writeText 7 = .ok (.putfield 177, 3) := by decide +kernel
theorem dX8_writeText_10 : decode cX8_writeText 10 = .ok (.iconst (-1), 1) := by decide +kernel
theorem dX8_writeText_11 : decode cX8_writeText 11 = .ok (.istore_n 1, 1) := by decide +kernel
theorem dX8_writeText_12 : decode cX8_writeText 12 = .ok (.iconst 0, 1) := by decide +kernel
theorem dX8_writeText_13 : decode cX8_writeText 13 = .ok (.istore_n 2, 1) := by decide +kernel
theorem dX8_writeText_14 : decode cX8_writeText 14 = .ok (.iload_n 2, 1) := by decide +kernel
theorem dX8_writeText_15 : decode cX8_writeText 15 = .ok (.aload_n 0, 1) := by decide +kernel
theorem dX8_writeText_16 : decode cX8_writeText 16 = .ok (.getfield 98, 3) := by decide +kernel
theorem dX8_writeText_19 : decode cX8_writeText 19 = .ok (.if_icmp .gt 93, 3) := by decide +kernel
theorem dX8_writeText_22 : decode cX8_writeText 22 = .ok (.iload_n 2, 1) := by decide +kernel
theorem dX8_writeText_23 : decode cX8_writeText 23 = .ok (.aload_n 0, 1) := by decide +kernel
theorem dX8_writeText_24 : decode cX8_writeText 24 = .ok (.getfield 98, 3) := by decide +kernel
theorem dX8_writeText_27 : decode cX8_writeText 27 = .ok (.if_icmp .ge 12, 3) := by decide +kernel
theorem dX8_writeText_30 : decode cX8_writeText 30 = .ok (.aload_n 0, 1) := by decide +kernel
theorem dX8_writeText_31 : decode cX8_writeText 31 = .ok (.getfield 20, 3) := by decide +kernel
theorem dX8_writeText_34 : decode cX8_writeText 34 = .ok (.iload_n 2, 1) := by decide +kernel
theorem dX8_writeText_35 : decode cX8_writeText 35 = .ok (.iaload, 1) := by decide +kernel
theorem dX8_writeText_36 : decode cX8_writeText 36 = .ok (.goto 4, 3) := by decide +kernel
theorem dX8_writeText_39 : decode cX8_writeText 39 = .ok (.iconst (-1), 1) := by decide +kernel
theorem dX8_writeText_40 : decode cX8_writeText 40 = .ok (.istore_n 3, 1) := by decide +kernel
theorem dX8_writeText_41 : decode cX8_writeText 41 = .ok (.iload_n 1, 1) := by decide +kernel
theorem dX8_writeText_42 : decode cX8_writeText 42 = .ok (.ifCond .lt 14, 3) := by decide +kernel
theorem dX8_writeText_45 : decode cX8_writeText 45 = .ok (.iload_n 3, 1) := by decide +kernel
theorem dX8_writeText_46 : decode cX8_writeText 46 = .ok (.iload_n 1, 1) := by decide +kernel
theorem dX8_writeText_47 : decode cX8_writeText 47 = .ok (.if_icmp .eq 9, 3) := by decide +kernel
theorem dX8_writeText_50 : decode cX8_writeText 50 = .ok (.aload_n 0, 1) := by decide +kernel
theorem dX8_writeText_51 : decode cX8_writeText 51 = .ok (.bipush 93, 2) := by decide +kernel
theorem dX8_writeText_53 : decode cX8_writeText 53 = .ok (.invokevirtual 180, 3) := by decide +kernel
theorem dX8_writeText_56 : decode cX8_writeText 56 = .ok (.iload_n 3, 1) := by decide +kernel
theorem dX8_writeText_57 : decode cX8_writeText 57 = .ok (.ifCond .lt 29, 3) := by decide +kernel
theorem dX8_writeText_60 : decode cX8_writeText 60 = .ok (.iload_n 3, 1) := by decide +kernel
theorem dX8_writeText_61 : decode cX8_writeText 61 = .ok (.iload_n 1, 1) := by decide +kernel
theorem dX8_writeText_62 : decode cX8_writeText 62 = .ok (.if_icmp .eq 24, 3) := by decide +kernel
theorem dX8_writeText_65 : decode cX8_writeText 65 = .ok (.aload_n 0, 1) := by decide +kernel
theorem dX8_writeText_66 : decode cX8_writeText 66 = .ok (.bipush 91, 2) := by decide +kernel
theorem dX8_writeText_68 : decode cX8_writeText 68 = .ok (.invokevirtual 180, 3) := by decide +kernel
theorem dX8_writeText_71 : decode cX8_writeText 71 = .ok (.aload_n 0, 1) := by decide +kernel
theorem dX8_writeText_72 : decode cX8_writeText 72 = .ok (.bipush 48, 2) := by decide +kernel
theorem dX8_writeText_74 : decode cX8_writeText 74 = .ok (.iload_n 3, 1) := by decide +kernel
theorem dX8_writeText_75 : decode cX8_writeText 75 = .ok (.iadd, 1) := by decide +kernel
theorem dX8_writeText_76 : decode cX8_writeText 76 = .ok (.i2c, 1) := by decide +kernel
theorem dX8_writeText_77 : decode cX8_writeText 77 = .ok (.invokevirtual 180, 3) := by decide +kernel
theorem dX8_writeText_80 : decode cX8_writeText 80 = .ok (.aload_n 0, 1) := by decide +kernel
theorem dX8_writeText_81 : decode cX8_writeText 81 = .ok (.bipush 58, 2) := by decide +kernel
theorem dX8_writeText_83 : decode cX8_writeText 83 = .ok (.invokevirtual 180, 3) := by decide +kernel
theorem dX8_writeText_86 : decode cX8_writeText 86 = .ok (.iload_n 2, 1) := by decide +kernel
theorem dX8_writeText_87 : decode cX8_writeText 87 = .ok (.aload_n 0, 1) := by decide +kernel
theorem dX8_writeText_88 : decode cX8_writeText 88 = .ok (.getfield 98, 3) := by decide +kernel
theorem dX8_writeText_91 : decode cX8_writeText 91 = .ok (.if_icmp .ge 13, 3) := by decide +kernel
theorem dX8_writeText_94 : decode cX8_writeText 94 = .ok (.aload_n 0, 1) := by decide +kernel
theorem dX8_writeText_95 : decode cX8_writeText 95 = .ok (.aload_n 0, 1) := by decide +kernel
theorem dX8_writeText_96 : decode cX8_writeText 96 = .ok (.getfield 7, 3) := by decide +kernel
theorem dX8_writeText_99 : decode cX8_writeText 99 = .ok (.iload_n 2, 1) := by decide +kernel
theorem dX8_writeText_100 : decode cX8_writeText 100 = .ok (.caload, 1) := by decide +kernel
theorem dX8_writeText_101 : decode cX8_writeText 101 = .ok (.invokevirtual 180, 3) := by decide +kernel
theorem dX8_writeText_104 : decode cX8_writeText 104 = .ok (.iload_n 3, 1) := by decide +kernel
theorem dX8_writeText_105 : decode cX8_writeText 105 = .ok (.istore_n 1, 1) := by decide +kernel
theorem dX8_writeText_106 : decode cX8_writeText 106 = .ok (.iinc 2 1, 3) := by decide +kernel
theorem dX8_writeText_109 : decode cX8_writeText 109 = .ok (.goto (-95), 3) := by decide +kernel
theorem dX8_writeText_112 : decode cX8_writeText 112 = .ok (.aload_n 0, 1) := by decide +kernel
theorem dX8_writeText_113 : decode cX8_writeText 113 = .ok (.getfield 177, 3) := by decide +kernel
theorem dX8_writeText_116 : decode cX8_writeText 116 = .ok (.ireturn, 1) := by decide +kernel
set_option maxRecDepth 20000 in
theorem ggX8_writeClause_X8_isNoClause : GoodIn wsX8_writeClause wsX8_isNoClause := goodIn_r _ [9, 10, 11, 12, 8, 13, 14, 15, 16, 17, 18, 24, 25, 26, 27, 28, 29, 30, 31, 32, 33, 34, 35, 36, 37, 38, 39, 40, 41, 42, 43, 44, 45, 46, 47, 48, 49, 50, 51, 52, 53, 54, 55, 56] (by decide +kernel) (by decide +kernel)
set_option maxRecDepth 20000 in
theorem gX8_writeClause_X8_isNoClause : GoodIn wsX8_writeClause (wsV RX8 184 RX8 yX8_isNoClause wsX8_isNoClause) := goodIn_app (goodIn_of _ (by decide +kernel)) ggX8_writeClause_X8_isNoClause
set_option maxRecDepth 20000 in
theorem ggX8_writeClause_X8_writes : GoodIn wsX8_writeClause wsX8_writes := goodIn_ca (goodIn_r _ [22, 23, 1, 24, 25, 26, 27, 28, 29, 30, 31, 32, 33, 34, 35, 36, 37, 38, 39, 40, 41, 42, 43, 44, 45, 46, 47, 48, 49, 50, 51, 52, 53, 54, 55, 56] (by decide +kernel) (by decide +kernel)) (goodIn_sub (fun _ h => List.mem_cons_of_mem _ (List.mem_append_right _ h)) (by decide +kernel))
set_option maxRecDepth 20000 in
theorem gX8_writeClause_X8_writes : GoodIn wsX8_writeClause (wsV RX8 180 RX8 yX8_writes wsX8_writes) := goodIn_app (goodIn_of _ (by decide +kernel)) ggX8_writeClause_X8_writes
theorem dX8_writeClause_0 : decode cX8_writeClause 0 = .ok (.aload_n 0, 1) := by decide +kernel
theorem dX8_writeClause_1 : decode cX8_writeClause 1 = .ok (.iload_n 1, 1) := by decide +kernel
theorem dX8_writeClause_2 : decode cX8_writeClause 2 = .ok (.invokevirtual 184, 3) := by decide +kernel
theorem dX8_writeClause_5 : decode cX8_writeClause 5 = .ok (.ifCond .eq 5, 3) := by decide +kernel
theorem dX8_writeClause_8 : decode cX8_writeClause 8 = .ok (.iconst 0, 1) := by decide +kernel
theorem dX8_writeClause_9 : decode cX8_writeClause 9 = .ok (.ireturn, 1) := by decide +kernel
theorem dX8_writeClause_10 : decode cX8_writeClause 10 = .ok (.aload_n 0, 1) := by decide +kernel
theorem dX8_writeClause_11 : decode cX8_writeClause 11 = .ok (.iconst 0, 1) := by decide +kernel
theorem dX8_writeClause_12 : decode cX8_writeClause 12 = .ok (.putfield 177, 3) := by decide +kernel
theorem dX8_writeClause_15 : decode cX8_writeClause 15 = .ok (.iconst 0, 1) := by decide +kernel
theorem dX8_writeClause_16 : decode cX8_writeClause 16 = .ok (.istore_n 2, 1) := by decide +kernel
theorem dX8_writeClause_17 : decode cX8_writeClause 17 = .ok (.iload_n 2, 1) := by decide +kernel
theorem dX8_writeClause_18 : decode cX8_writeClause 18 = .ok (.aload_n 0, 1) := by decide +kernel
theorem dX8_writeClause_19 : decode cX8_writeClause 19 = .ok (.getfield 98, 3) := by decide +kernel
theorem dX8_writeClause_22 : decode cX8_writeClause 22 = .ok (.if_icmp .ge 29, 3) := by decide +kernel
theorem dX8_writeClause_25 : decode cX8_writeClause 25 = .ok (.aload_n 0, 1) := by decide +kernel
theorem dX8_writeClause_26 : decode cX8_writeClause 26 = .ok (.getfield 20, 3) := by decide +kernel
theorem dX8_writeClause_29 : decode cX8_writeClause 29 = .ok (.iload_n 2, 1) := by decide +kernel
theorem dX8_writeClause_30 : decode cX8_writeClause 30 = .ok (.iaload, 1) := by decide +kernel
theorem dX8_writeClause_31 : decode cX8_writeClause 31 = .ok (.iload_n 1, 1) := by decide +kernel
theorem dX8_writeClause_32 : decode cX8_writeClause 32 = .ok (.if_icmp .ne 13, 3) := by decide +kernel
theorem dX8_writeClause_35 : decode cX8_writeClause 35 = .ok (.aload_n 0, 1) := by decide +kernel
theorem dX8_writeClause_36 : decode cX8_writeClause 36 = .ok (.aload_n 0, 1) := by decide +kernel
theorem dX8_writeClause_37 : decode cX8_writeClause 37 = .ok (.getfield 7, 3) := by decide +kernel
theorem dX8_writeClause_40 : decode cX8_writeClause 40 = .ok (.iload_n 2, 1) := by decide +kernel
theorem dX8_writeClause_41 : decode cX8_writeClause 41 = .ok (.caload, 1) := by decide +kernel
theorem dX8_writeClause_42 : decode cX8_writeClause 42 = .ok (.invokevirtual 180, 3) := by decide +kernel
theorem dX8_writeClause_45 : decode cX8_writeClause 45 = .ok (.iinc 2 1, 3) := by decide +kernel
theorem dX8_writeClause_48 : decode cX8_writeClause 48 = .ok (.goto (-31), 3) := by decide +kernel
theorem dX8_writeClause_51 : decode cX8_writeClause 51 = .ok (.aload_n 0, 1) := by decide +kernel
theorem dX8_writeClause_52 : decode cX8_writeClause 52 = .ok (.getfield 177, 3) := by decide +kernel
theorem dX8_writeClause_55 : decode cX8_writeClause 55 = .ok (.ireturn, 1) := by decide +kernel
set_option maxRecDepth 20000 in
theorem ggX8_outputAt_X8_isIn : GoodIn wsX8_outputAt wsX8_isIn := goodIn_r _ [6] (by decide +kernel) (by decide +kernel)
set_option maxRecDepth 20000 in
theorem gX8_outputAt_X8_isIn : GoodIn wsX8_outputAt (va_wsS RX8 81 yX8_isIn wsX8_isIn) := goodIn_app (goodIn_of _ (by decide +kernel)) ggX8_outputAt_X8_isIn
set_option maxRecDepth 20000 in
theorem ggX8_outputAt_X8_isThrown : GoodIn wsX8_outputAt wsX8_isThrown := goodIn_r _ [10, 11, 12, 13, 14, 15, 16, 17, 18, 19, 20, 21, 22, 23, 24, 25, 26, 27, 28, 29, 30, 31, 32, 33, 34, 35, 36, 37, 38, 39, 40, 41, 42, 43, 44] (by decide +kernel) (by decide +kernel)
set_option maxRecDepth 20000 in
theorem gX8_outputAt_X8_isThrown : GoodIn wsX8_outputAt (wsV RX8 85 RX8 yX8_isThrown wsX8_isThrown) := goodIn_app (goodIn_of _ (by decide +kernel)) ggX8_outputAt_X8_isThrown
theorem dX8_outputAt_0 : decode cX8_outputAt 0 = .ok (.aload_n 0, 1) := by decide +kernel
theorem dX8_outputAt_1 : decode cX8_outputAt 1 = .ok (.iload_n 1, 1) := by decide +kernel
theorem dX8_outputAt_2 : decode cX8_outputAt 2 = .ok (.iconst 0, 1) := by decide +kernel
theorem dX8_outputAt_3 : decode cX8_outputAt 3 = .ok (.aload_n 0, 1) := by decide +kernel
theorem dX8_outputAt_4 : decode cX8_outputAt 4 = .ok (.getfield 177, 3) := by decide +kernel
theorem dX8_outputAt_7 : decode cX8_outputAt 7 = .ok (.iconst 1, 1) := by decide +kernel
theorem dX8_outputAt_8 : decode cX8_outputAt 8 = .ok (.isub, 1) := by decide +kernel
theorem dX8_outputAt_9 : decode cX8_outputAt 9 = .ok (.invokestatic 81, 3) := by decide +kernel
theorem dX8_outputAt_12 : decode cX8_outputAt 12 = .ok (.ifCond .ne 7, 3) := by decide +kernel
theorem dX8_outputAt_15 : decode cX8_outputAt 15 = .ok (.iconst 1, 1) := by decide +kernel
theorem dX8_outputAt_16 : decode cX8_outputAt 16 = .ok (.goto 4, 3) := by decide +kernel
theorem dX8_outputAt_19 : decode cX8_outputAt 19 = .ok (.iconst 0, 1) := by decide +kernel
theorem dX8_outputAt_20 : decode cX8_outputAt 20 = .ok (.iconst 1, 1) := by decide +kernel
theorem dX8_outputAt_21 : decode cX8_outputAt 21 = .ok (.invokevirtual 85, 3) := by decide +kernel
theorem dX8_outputAt_24 : decode cX8_outputAt 24 = .ok (.ifCond .eq 8, 3) := by decide +kernel
theorem dX8_outputAt_27 : decode cX8_outputAt 27 = .ok (.bipush 45, 2) := by decide +kernel
theorem dX8_outputAt_29 : decode cX8_outputAt 29 = .ok (.goto 9, 3) := by decide +kernel
theorem dX8_outputAt_32 : decode cX8_outputAt 32 = .ok (.aload_n 0, 1) := by decide +kernel
theorem dX8_outputAt_33 : decode cX8_outputAt 33 = .ok (.getfield 32, 3) := by decide +kernel
theorem dX8_outputAt_36 : decode cX8_outputAt 36 = .ok (.iload_n 1, 1) := by decide +kernel
theorem dX8_outputAt_37 : decode cX8_outputAt 37 = .ok (.caload, 1) := by decide +kernel
theorem dX8_outputAt_38 : decode cX8_outputAt 38 = .ok (.ireturn, 1) := by decide +kernel
set_option maxRecDepth 20000 in
theorem ggX8_isNoClause_X8_isIn : GoodIn wsX8_isNoClause wsX8_isIn := goodIn_r _ [5] (by decide +kernel) (by decide +kernel)
set_option maxRecDepth 20000 in
theorem gX8_isNoClause_X8_isIn : GoodIn wsX8_isNoClause (va_wsS RX8 81 yX8_isIn wsX8_isIn) := goodIn_app (goodIn_of _ (by decide +kernel)) ggX8_isNoClause_X8_isIn
set_option maxRecDepth 20000 in
theorem ggX8_isNoClause_X8_isThrown : GoodIn wsX8_isNoClause wsX8_isThrown := goodIn_r _ [9, 10, 11, 12, 13, 14, 15, 16, 17, 18, 19, 20, 21, 22, 23, 24, 25, 26, 27, 28, 29, 30, 31, 32, 33, 34, 35, 36, 37, 38, 39, 40, 41, 42, 43] (by decide +kernel) (by decide +kernel)
set_option maxRecDepth 20000 in
theorem gX8_isNoClause_X8_isThrown : GoodIn wsX8_isNoClause (wsV RX8 85 RX8 yX8_isThrown wsX8_isThrown) := goodIn_app (goodIn_of _ (by decide +kernel)) ggX8_isNoClause_X8_isThrown
theorem dX8_isNoClause_0 : decode cX8_isNoClause 0 = .ok (.aload_n 0, 1) := by decide +kernel
theorem dX8_isNoClause_1 : decode cX8_isNoClause 1 = .ok (.iload_n 1, 1) := by decide +kernel
theorem dX8_isNoClause_2 : decode cX8_isNoClause 2 = .ok (.iconst 0, 1) := by decide +kernel
theorem dX8_isNoClause_3 : decode cX8_isNoClause 3 = .ok (.aload_n 0, 1) := by decide +kernel
theorem dX8_isNoClause_4 : decode cX8_isNoClause 4 = .ok (.getfield 109, 3) := by decide +kernel
theorem dX8_isNoClause_7 : decode cX8_isNoClause 7 = .ok (.iconst 1, 1) := by decide +kernel
theorem dX8_isNoClause_8 : decode cX8_isNoClause 8 = .ok (.isub, 1) := by decide +kernel
theorem dX8_isNoClause_9 : decode cX8_isNoClause 9 = .ok (.invokestatic 81, 3) := by decide +kernel
theorem dX8_isNoClause_12 : decode cX8_isNoClause 12 = .ok (.ifCond .ne 7, 3) := by decide +kernel
theorem dX8_isNoClause_15 : decode cX8_isNoClause 15 = .ok (.iconst 1, 1) := by decide +kernel
theorem dX8_isNoClause_16 : decode cX8_isNoClause 16 = .ok (.goto 4, 3) := by decide +kernel
theorem dX8_isNoClause_19 : decode cX8_isNoClause 19 = .ok (.iconst 0, 1) := by decide +kernel
theorem dX8_isNoClause_20 : decode cX8_isNoClause 20 = .ok (.iconst 1, 1) := by decide +kernel
theorem dX8_isNoClause_21 : decode cX8_isNoClause 21 = .ok (.invokevirtual 85, 3) := by decide +kernel
theorem dX8_isNoClause_24 : decode cX8_isNoClause 24 = .ok (.ireturn, 1) := by decide +kernel
set_option maxRecDepth 20000 in
theorem ggX8_addClause_X8_isNoStretch : GoodIn wsX8_addClause wsX8_isNoStretch := goodIn_r _ [7, 8, 14, 15, 16, 17, 18, 19, 20, 21, 22, 23, 24, 25, 26, 27, 28, 29, 30, 31, 32, 33, 34, 35, 36, 37, 38, 39, 40, 41, 42, 43, 44, 45, 46] (by decide +kernel) (by decide +kernel)
set_option maxRecDepth 20000 in
theorem gX8_addClause_X8_isNoStretch : GoodIn wsX8_addClause (wsV RX8 161 RX8 yX8_isNoStretch wsX8_isNoStretch) := goodIn_app (goodIn_of _ (by decide +kernel)) ggX8_addClause_X8_isNoStretch
set_option maxRecDepth 20000 in
theorem ggX8_addClause_X8_isThrown : GoodIn wsX8_addClause wsX8_isThrown := goodIn_r _ [12, 13, 14, 15, 16, 17, 18, 19, 20, 21, 22, 23, 24, 25, 26, 27, 28, 29, 30, 31, 32, 33, 34, 35, 36, 37, 38, 39, 40, 41, 42, 43, 44, 45, 46] (by decide +kernel) (by decide +kernel)
set_option maxRecDepth 20000 in
theorem gX8_addClause_X8_isThrown : GoodIn wsX8_addClause (wsV RX8 85 RX8 yX8_isThrown wsX8_isThrown) := goodIn_app (goodIn_of _ (by decide +kernel)) ggX8_addClause_X8_isThrown
theorem dX8_addClause_0 : decode cX8_addClause 0 = .ok (.aload_n 0, 1) := by decide +kernel
theorem dX8_addClause_1 : decode cX8_addClause 1 = .ok (.aload_n 0, 1) := by decide +kernel
theorem dX8_addClause_2 : decode cX8_addClause 2 = .ok (.iload_n 1, 1) := by decide +kernel
theorem dX8_addClause_3 : decode cX8_addClause 3 = .ok (.iload_n 2, 1) := by decide +kernel
theorem dX8_addClause_4 : decode cX8_addClause 4 = .ok (.invokevirtual 161, 3) := by decide +kernel
theorem dX8_addClause_7 : decode cX8_addClause 7 = .ok (.iconst 1, 1) := by decide +kernel
theorem dX8_addClause_8 : decode cX8_addClause 8 = .ok (.invokevirtual 85, 3) := by decide +kernel
theorem dX8_addClause_11 : decode cX8_addClause 11 = .ok (.ifCond .eq 5, 3) := by decide +kernel
theorem dX8_addClause_14 : decode cX8_addClause 14 = .ok (.iconst 0, 1) := by decide +kernel
theorem dX8_addClause_15 : decode cX8_addClause 15 = .ok (.ireturn, 1) := by decide +kernel
theorem dX8_addClause_16 : decode cX8_addClause 16 = .ok (.iconst 0, 1) := by decide +kernel
theorem dX8_addClause_17 : decode cX8_addClause 17 = .ok (.istore_n 3, 1) := by decide +kernel
theorem dX8_addClause_18 : decode cX8_addClause 18 = .ok (.iload_n 1, 1) := by decide +kernel
theorem dX8_addClause_19 : decode cX8_addClause 19 = .ok (.istore 4, 2) := by decide +kernel
theorem dX8_addClause_21 : decode cX8_addClause 21 = .ok (.iload 4, 2) := by decide +kernel
theorem dX8_addClause_23 : decode cX8_addClause 23 = .ok (.iload_n 1, 1) := by decide +kernel
theorem dX8_addClause_24 : decode cX8_addClause 24 = .ok (.iload_n 2, 1) := by decide +kernel
theorem dX8_addClause_25 : decode cX8_addClause 25 = .ok (.iadd, 1) := by decide +kernel
theorem dX8_addClause_26 : decode cX8_addClause 26 = .ok (.if_icmp .ge 27, 3) := by decide +kernel
theorem dX8_addClause_29 : decode cX8_addClause 29 = .ok (.iload_n 3, 1) := by decide +kernel
theorem dX8_addClause_30 : decode cX8_addClause 30 = .ok (.aload_n 0, 1) := by decide +kernel
theorem dX8_addClause_31 : decode cX8_addClause 31 = .ok (.getfield 20, 3) := by decide +kernel
theorem dX8_addClause_34 : decode cX8_addClause 34 = .ok (.iload 4, 2) := by decide +kernel
theorem dX8_addClause_36 : decode cX8_addClause 36 = .ok (.iaload, 1) := by decide +kernel
theorem dX8_addClause_37 : decode cX8_addClause 37 = .ok (.ifCond .lt 7, 3) := by decide +kernel
theorem dX8_addClause_40 : decode cX8_addClause 40 = .ok (.iconst 1, 1) := by decide +kernel
theorem dX8_addClause_41 : decode cX8_addClause 41 = .ok (.goto 4, 3) := by decide +kernel
theorem dX8_addClause_44 : decode cX8_addClause 44 = .ok (.iconst 0, 1) := by decide +kernel
theorem dX8_addClause_45 : decode cX8_addClause 45 = .ok (.ior, 1) := by decide +kernel
theorem dX8_addClause_46 : decode cX8_addClause 46 = .ok (.istore_n 3, 1) := by decide +kernel
theorem dX8_addClause_47 : decode cX8_addClause 47 = .ok (.iinc 4 1, 3) := by decide +kernel
theorem dX8_addClause_50 : decode cX8_addClause 50 = .ok (.goto (-29), 3) := by decide +kernel
theorem dX8_addClause_53 : decode cX8_addClause 53 = .ok (.aload_n 0, 1) := by decide +kernel
theorem dX8_addClause_54 : decode cX8_addClause 54 = .ok (.aload_n 0, 1) := by decide +kernel
theorem dX8_addClause_55 : decode cX8_addClause 55 = .ok (.getfield 109, 3) := by decide +kernel
theorem dX8_addClause_58 : decode cX8_addClause 58 = .ok (.bipush 6, 2) := by decide +kernel
theorem dX8_addClause_60 : decode cX8_addClause 60 = .ok (.if_icmp .eq 7, 3) := by decide +kernel
theorem dX8_addClause_63 : decode cX8_addClause 63 = .ok (.iload_n 3, 1) := by decide +kernel
theorem dX8_addClause_64 : decode cX8_addClause 64 = .ok (.ifCond .eq 7, 3) := by decide +kernel
theorem dX8_addClause_67 : decode cX8_addClause 67 = .ok (.iconst 1, 1) := by decide +kernel
theorem dX8_addClause_68 : decode cX8_addClause 68 = .ok (.goto 4, 3) := by decide +kernel
theorem dX8_addClause_71 : decode cX8_addClause 71 = .ok (.iconst 0, 1) := by decide +kernel
theorem dX8_addClause_72 : decode cX8_addClause 72 = .ok (.iconst 2, 1) := by decide +kernel
theorem dX8_addClause_73 : decode cX8_addClause 73 = .ok (.invokevirtual 85, 3) := by decide +kernel
theorem dX8_addClause_76 : decode cX8_addClause 76 = .ok (.ifCond .eq 5, 3) := by decide +kernel
theorem dX8_addClause_79 : decode cX8_addClause 79 = .ok (.iconst 0, 1) := by decide +kernel
theorem dX8_addClause_80 : decode cX8_addClause 80 = .ok (.ireturn, 1) := by decide +kernel
theorem dX8_addClause_81 : decode cX8_addClause 81 = .ok (.iload_n 1, 1) := by decide +kernel
theorem dX8_addClause_82 : decode cX8_addClause 82 = .ok (.istore 4, 2) := by decide +kernel
theorem dX8_addClause_84 : decode cX8_addClause 84 = .ok (.iload 4, 2) := by decide +kernel
theorem dX8_addClause_86 : decode cX8_addClause 86 = .ok (.iload_n 1, 1) := by decide +kernel
theorem dX8_addClause_87 : decode cX8_addClause 87 = .ok (.iload_n 2, 1) := by decide +kernel
theorem dX8_addClause_88 : decode cX8_addClause 88 = .ok (.iadd, 1) := by decide +kernel
theorem dX8_addClause_89 : decode cX8_addClause 89 = .ok (.if_icmp .ge 20, 3) := by decide +kernel
theorem dX8_addClause_92 : decode cX8_addClause 92 = .ok (.aload_n 0, 1) := by decide +kernel
theorem dX8_addClause_93 : decode cX8_addClause 93 = .ok (.getfield 20, 3) := by decide +kernel
theorem dX8_addClause_96 : decode cX8_addClause 96 = .ok (.iload 4, 2) := by decide +kernel
theorem dX8_addClause_98 : decode cX8_addClause 98 = .ok (.aload_n 0, 1) := by decide +kernel
theorem dX8_addClause_99 : decode cX8_addClause 99 = .ok (.getfield 109, 3) := by decide +kernel
theorem dX8_addClause_102 : decode cX8_addClause 102 = .ok (.iastore, 1) := by decide +kernel
theorem dX8_addClause_103 : decode cX8_addClause 103 = .ok (.iinc 4 1, 3) := by decide +kernel
theorem dX8_addClause_106 : decode cX8_addClause 106 = .ok (.goto (-22), 3) := by decide +kernel
theorem dX8_addClause_109 : decode cX8_addClause 109 = .ok (.aload_n 0, 1) := by decide +kernel
theorem dX8_addClause_110 : decode cX8_addClause 110 = .ok (.dup, 1) := by decide +kernel
theorem dX8_addClause_111 : decode cX8_addClause 111 = .ok (.getfield 109, 3) := by decide +kernel
theorem dX8_addClause_114 : decode cX8_addClause 114 = .ok (.iconst 1, 1) := by decide +kernel
theorem dX8_addClause_115 : decode cX8_addClause 115 = .ok (.iadd, 1) := by decide +kernel
theorem dX8_addClause_116 : decode cX8_addClause 116 = .ok (.putfield 109, 3) := by decide +kernel
theorem dX8_addClause_119 : decode cX8_addClause 119 = .ok (.aload_n 0, 1) := by decide +kernel
theorem dX8_addClause_120 : decode cX8_addClause 120 = .ok (.getfield 109, 3) := by decide +kernel
theorem dX8_addClause_123 : decode cX8_addClause 123 = .ok (.iconst 1, 1) := by decide +kernel
theorem dX8_addClause_124 : decode cX8_addClause 124 = .ok (.isub, 1) := by decide +kernel
theorem dX8_addClause_125 : decode cX8_addClause 125 = .ok (.ireturn, 1) := by decide +kernel
theorem dX8_clauses_0 : decode cX8_clauses 0 = .ok (.aload_n 0, 1) := by decide +kernel
theorem dX8_clauses_1 : decode cX8_clauses 1 = .ok (.iconst 0, 1) := by decide +kernel
theorem dX8_clauses_2 : decode cX8_clauses 2 = .ok (.putfield 77, 3) := by decide +kernel
theorem dX8_clauses_5 : decode cX8_clauses 5 = .ok (.aload_n 0, 1) := by decide +kernel
theorem dX8_clauses_6 : decode cX8_clauses 6 = .ok (.getfield 109, 3) := by decide +kernel
theorem dX8_clauses_9 : decode cX8_clauses 9 = .ok (.ireturn, 1) := by decide +kernel
set_option maxRecDepth 20000 in
theorem ggX8_clauseLength_X8_isNoClause : GoodIn wsX8_clauseLength wsX8_isNoClause := goodIn_r _ [7, 8, 9, 10, 6, 11, 12, 13, 14, 15, 16, 17, 18, 19, 20, 21, 22, 23, 24, 25, 26, 27, 28, 29, 30, 31, 32, 33, 34, 35, 36, 37, 38, 39, 40, 41, 42, 43, 44, 45, 46, 47, 48, 49] (by decide +kernel) (by decide +kernel)
set_option maxRecDepth 20000 in
theorem gX8_clauseLength_X8_isNoClause : GoodIn wsX8_clauseLength (wsV RX8 184 RX8 yX8_isNoClause wsX8_isNoClause) := goodIn_app (goodIn_of _ (by decide +kernel)) ggX8_clauseLength_X8_isNoClause
theorem dX8_clauseLength_0 : decode cX8_clauseLength 0 = .ok (.aload_n 0, 1) := by decide +kernel
theorem dX8_clauseLength_1 : decode cX8_clauseLength 1 = .ok (.iload_n 1, 1) := by decide +kernel
theorem dX8_clauseLength_2 : decode cX8_clauseLength 2 = .ok (.invokevirtual 184, 3) := by decide +kernel
theorem dX8_clauseLength_5 : decode cX8_clauseLength 5 = .ok (.ifCond .eq 5, 3) := by decide +kernel
theorem dX8_clauseLength_8 : decode cX8_clauseLength 8 = .ok (.iconst 0, 1) := by decide +kernel
theorem dX8_clauseLength_9 : decode cX8_clauseLength 9 = .ok (.ireturn, 1) := by decide +kernel
theorem dX8_clauseLength_10 : decode cX8_clauseLength 10 = .ok (.iconst 0, 1) := by decide +kernel
theorem dX8_clauseLength_11 : decode cX8_clauseLength 11 = .ok (.istore_n 2, 1) := by decide +kernel
theorem dX8_clauseLength_12 : decode cX8_clauseLength 12 = .ok (.iconst 0, 1) := by decide +kernel
theorem dX8_clauseLength_13 : decode cX8_clauseLength 13 = .ok (.istore_n 3, 1) := by decide +kernel
theorem dX8_clauseLength_14 : decode cX8_clauseLength 14 = .ok (.iload_n 3, 1) := by decide +kernel
theorem dX8_clauseLength_15 : decode cX8_clauseLength 15 = .ok (.aload_n 0, 1) := by decide +kernel
theorem dX8_clauseLength_16 : decode cX8_clauseLength 16 = .ok (.getfield 98, 3) := by decide +kernel
theorem dX8_clauseLength_19 : decode cX8_clauseLength 19 = .ok (.if_icmp .ge 27, 3) := by decide +kernel
theorem dX8_clauseLength_22 : decode cX8_clauseLength 22 = .ok (.iload_n 2, 1) := by decide +kernel
theorem dX8_clauseLength_23 : decode cX8_clauseLength 23 = .ok (.aload_n 0, 1) := by decide +kernel
theorem dX8_clauseLength_24 : decode cX8_clauseLength 24 = .ok (.getfield 20, 3) := by decide +kernel
theorem dX8_clauseLength_27 : decode cX8_clauseLength 27 = .ok (.iload_n 3, 1) := by decide +kernel
theorem dX8_clauseLength_28 : decode cX8_clauseLength 28 = .ok (.iaload, 1) := by decide +kernel
theorem dX8_clauseLength_29 : decode cX8_clauseLength 29 = .ok (.iload_n 1, 1) := by decide +kernel
theorem dX8_clauseLength_30 : decode cX8_clauseLength 30 = .ok (.if_icmp .ne 7, 3) := by decide +kernel
theorem dX8_clauseLength_33 : decode cX8_clauseLength 33 = .ok (.iconst 1, 1) := by decide +kernel
theorem dX8_clauseLength_34 : decode cX8_clauseLength 34 = .ok (.goto 4, 3) := by decide +kernel
theorem dX8_clauseLength_37 : decode cX8_clauseLength 37 = .ok (.iconst 0, 1) := by decide +kernel
theorem dX8_clauseLength_38 : decode cX8_clauseLength 38 = .ok (.iadd, 1) := by decide +kernel
theorem dX8_clauseLength_39 : decode cX8_clauseLength 39 = .ok (.istore_n 2, 1) := by decide +kernel
theorem dX8_clauseLength_40 : decode cX8_clauseLength 40 = .ok (.iinc 3 1, 3) := by decide +kernel
theorem dX8_clauseLength_43 : decode cX8_clauseLength 43 = .ok (.goto (-29), 3) := by decide +kernel
theorem dX8_clauseLength_46 : decode cX8_clauseLength 46 = .ok (.iload_n 2, 1) := by decide +kernel
theorem dX8_clauseLength_47 : decode cX8_clauseLength 47 = .ok (.ireturn, 1) := by decide +kernel
set_option maxRecDepth 20000 in
theorem ggX8_lock_X8_isNoClause : GoodIn wsX8_lock wsX8_isNoClause := goodIn_r _ [6, 7, 8, 9, 5, 10, 11, 12, 13, 14, 15, 16, 17, 18, 19, 20, 21, 22, 23, 24, 25, 26, 27, 28, 29, 30, 31, 32, 33, 34, 35, 36, 37, 38, 39, 40, 41, 42, 43, 44, 45, 46, 47, 48] (by decide +kernel) (by decide +kernel)
set_option maxRecDepth 20000 in
theorem gX8_lock_X8_isNoClause : GoodIn wsX8_lock (wsV RX8 184 RX8 yX8_isNoClause wsX8_isNoClause) := goodIn_app (goodIn_of _ (by decide +kernel)) ggX8_lock_X8_isNoClause
theorem dX8_lock_0 : decode cX8_lock 0 = .ok (.aload_n 0, 1) := by decide +kernel
theorem dX8_lock_1 : decode cX8_lock 1 = .ok (.iload_n 1, 1) := by decide +kernel
theorem dX8_lock_2 : decode cX8_lock 2 = .ok (.invokevirtual 184, 3) := by decide +kernel
theorem dX8_lock_5 : decode cX8_lock 5 = .ok (.ifCond .eq 5, 3) := by decide +kernel
theorem dX8_lock_8 : decode cX8_lock 8 = .ok (.iconst 0, 1) := by decide +kernel
theorem dX8_lock_9 : decode cX8_lock 9 = .ok (.ireturn, 1) := by decide +kernel
theorem dX8_lock_10 : decode cX8_lock 10 = .ok (.aload_n 0, 1) := by decide +kernel
theorem dX8_lock_11 : decode cX8_lock 11 = .ok (.getfield 63, 3) := by decide +kernel
theorem dX8_lock_14 : decode cX8_lock 14 = .ok (.iload_n 1, 1) := by decide +kernel
theorem dX8_lock_15 : decode cX8_lock 15 = .ok (.baload, 1) := by decide +kernel
theorem dX8_lock_16 : decode cX8_lock 16 = .ok (.istore_n 3, 1) := by decide +kernel
theorem dX8_lock_17 : decode cX8_lock 17 = .ok (.aload_n 0, 1) := by decide +kernel
theorem dX8_lock_18 : decode cX8_lock 18 = .ok (.getfield 63, 3) := by decide +kernel
theorem dX8_lock_21 : decode cX8_lock 21 = .ok (.iload_n 1, 1) := by decide +kernel
theorem dX8_lock_22 : decode cX8_lock 22 = .ok (.iload_n 2, 1) := by decide +kernel
theorem dX8_lock_23 : decode cX8_lock 23 = .ok (.bastore, 1) := by decide +kernel
theorem dX8_lock_24 : decode cX8_lock 24 = .ok (.iload_n 3, 1) := by decide +kernel
theorem dX8_lock_25 : decode cX8_lock 25 = .ok (.ireturn, 1) := by decide +kernel
set_option maxRecDepth 20000 in
theorem ggX8_signers_X8_isNoClause : GoodIn wsX8_signers wsX8_isNoClause := goodIn_r _ [9, 10, 11, 12, 8, 13, 14, 15, 16, 17, 18, 19, 20, 21, 22, 23, 24, 25, 26, 27, 28, 29, 30, 31, 32, 33, 34, 35, 36, 37, 38, 39, 40, 41, 42, 43, 44, 45, 46, 47, 48, 49, 50, 51] (by decide +kernel) (by decide +kernel)
set_option maxRecDepth 20000 in
theorem gX8_signers_X8_isNoClause : GoodIn wsX8_signers (wsV RX8 184 RX8 yX8_isNoClause wsX8_isNoClause) := goodIn_app (goodIn_of _ (by decide +kernel)) ggX8_signers_X8_isNoClause
theorem dX8_signers_0 : decode cX8_signers 0 = .ok (.aload_n 0, 1) := by decide +kernel
theorem dX8_signers_1 : decode cX8_signers 1 = .ok (.iload_n 1, 1) := by decide +kernel
theorem dX8_signers_2 : decode cX8_signers 2 = .ok (.invokevirtual 184, 3) := by decide +kernel
theorem dX8_signers_5 : decode cX8_signers 5 = .ok (.ifCond .eq 5, 3) := by decide +kernel
theorem dX8_signers_8 : decode cX8_signers 8 = .ok (.iconst 0, 1) := by decide +kernel
theorem dX8_signers_9 : decode cX8_signers 9 = .ok (.ireturn, 1) := by decide +kernel
theorem dX8_signers_10 : decode cX8_signers 10 = .ok (.iconst 0, 1) := by decide +kernel
theorem dX8_signers_11 : decode cX8_signers 11 = .ok (.istore_n 2, 1) := by decide +kernel
theorem dX8_signers_12 : decode cX8_signers 12 = .ok (.iconst 0, 1) := by decide +kernel
theorem dX8_signers_13 : decode cX8_signers 13 = .ok (.istore_n 3, 1) := by decide +kernel
theorem dX8_signers_14 : decode cX8_signers 14 = .ok (.iload_n 3, 1) := by decide +kernel
theorem dX8_signers_15 : decode cX8_signers 15 = .ok (.aload_n 0, 1) := by decide +kernel
theorem dX8_signers_16 : decode cX8_signers 16 = .ok (.getfield 120, 3) := by decide +kernel
theorem dX8_signers_19 : decode cX8_signers 19 = .ok (.if_icmp .ge 49, 3) := by decide +kernel
theorem dX8_signers_22 : decode cX8_signers 22 = .ok (.iload_n 2, 1) := by decide +kernel
theorem dX8_signers_23 : decode cX8_signers 23 = .ok (.aload_n 0, 1) := by decide +kernel
theorem dX8_signers_24 : decode cX8_signers 24 = .ok (.getfield 70, 3) := by decide +kernel
theorem dX8_signers_27 : decode cX8_signers 27 = .ok (.iload_n 3, 1) := by decide +kernel
theorem dX8_signers_28 : decode cX8_signers 28 = .ok (.caload, 1) := by decide +kernel
theorem dX8_signers_29 : decode cX8_signers 29 = .ok (.bipush 118, 2) := by decide +kernel
theorem dX8_signers_31 : decode cX8_signers 31 = .ok (.if_icmp .ne 28, 3) := by decide +kernel
theorem dX8_signers_34 : decode cX8_signers 34 = .ok (.aload_n 0, 1) := by decide +kernel
theorem dX8_signers_35 : decode cX8_signers 35 = .ok (.getfield 53, 3) := by decide +kernel
theorem dX8_signers_38 : decode cX8_signers 38 = .ok (.iload_n 3, 1) := by decide +kernel
theorem dX8_signers_39 : decode cX8_signers 39 = .ok (.iaload, 1) := by decide +kernel
theorem dX8_signers_40 : decode cX8_signers 40 = .ok (.iload_n 1, 1) := by decide +kernel
theorem dX8_signers_41 : decode cX8_signers 41 = .ok (.ishr, 1) := by decide +kernel
theorem dX8_signers_42 : decode cX8_signers 42 = .ok (.iconst 1, 1) := by decide +kernel
theorem dX8_signers_43 : decode cX8_signers 43 = .ok (.iand, 1) := by decide +kernel
theorem dX8_signers_44 : decode cX8_signers 44 = .ok (.iconst 1, 1) := by decide +kernel
theorem dX8_signers_45 : decode cX8_signers 45 = .ok (.if_icmp .ne 14, 3) := by decide +kernel
theorem dX8_signers_48 : decode cX8_signers 48 = .ok (.iconst 1, 1) := by decide +kernel
theorem dX8_signers_49 : decode cX8_signers 49 = .ok (.aload_n 0, 1) := by decide +kernel
theorem dX8_signers_50 : decode cX8_signers 50 = .ok (.getfield 50, 3) := by decide +kernel
theorem dX8_signers_53 : decode cX8_signers 53 = .ok (.iload_n 3, 1) := by decide +kernel
theorem dX8_signers_54 : decode cX8_signers 54 = .ok (.iaload, 1) := by decide +kernel
theorem dX8_signers_55 : decode cX8_signers 55 = .ok (.ishl, 1) := by decide +kernel
theorem dX8_signers_56 : decode cX8_signers 56 = .ok (.goto 4, 3) := by decide +kernel
theorem dX8_signers_59 : decode cX8_signers 59 = .ok (.iconst 0, 1) := by decide +kernel
theorem dX8_signers_60 : decode cX8_signers 60 = .ok (.ior, 1) := by decide +kernel
theorem dX8_signers_61 : decode cX8_signers 61 = .ok (.istore_n 2, 1) := by decide +kernel
theorem dX8_signers_62 : decode cX8_signers 62 = .ok (.iinc 3 1, 3) := by decide +kernel
theorem dX8_signers_65 : decode cX8_signers 65 = .ok (.goto (-51), 3) := by decide +kernel
theorem dX8_signers_68 : decode cX8_signers 68 = .ok (.iload_n 2, 1) := by decide +kernel
theorem dX8_signers_69 : decode cX8_signers 69 = .ok (.ireturn, 1) := by decide +kernel
set_option maxRecDepth 20000 in
theorem ggX8_sign_X8_isNoAuthor : GoodIn wsX8_sign wsX8_isNoAuthor := goodIn_r _ [10, 11, 12, 13, 9, 14, 20, 21, 22, 23, 24, 25, 26, 27, 28, 29, 30, 31, 32, 33, 34, 35, 36, 37, 38, 39, 40, 41, 42, 43, 44, 45, 46, 47, 48, 49, 50, 51, 52] (by decide +kernel) (by decide +kernel)
set_option maxRecDepth 20000 in
theorem gX8_sign_X8_isNoAuthor : GoodIn wsX8_sign (wsV RX8 140 RX8 yX8_isNoAuthor wsX8_isNoAuthor) := goodIn_app (goodIn_of _ (by decide +kernel)) ggX8_sign_X8_isNoAuthor
set_option maxRecDepth 20000 in
theorem ggX8_sign_X8_isThrown : GoodIn wsX8_sign wsX8_isThrown := goodIn_r _ [18, 19, 20, 21, 22, 23, 24, 25, 26, 27, 28, 29, 30, 31, 32, 33, 34, 35, 36, 37, 38, 39, 40, 41, 42, 43, 44, 45, 46, 47, 48, 49, 50, 51, 52] (by decide +kernel) (by decide +kernel)
set_option maxRecDepth 20000 in
theorem gX8_sign_X8_isThrown : GoodIn wsX8_sign (wsV RX8 85 RX8 yX8_isThrown wsX8_isThrown) := goodIn_app (goodIn_of _ (by decide +kernel)) ggX8_sign_X8_isThrown
theorem dX8_sign_0 : decode cX8_sign 0 = .ok (.aload_n 0, 1) := by decide +kernel
theorem dX8_sign_1 : decode cX8_sign 1 = .ok (.aload_n 0, 1) := by decide +kernel
theorem dX8_sign_2 : decode cX8_sign 2 = .ok (.iload_n 1, 1) := by decide +kernel
theorem dX8_sign_3 : decode cX8_sign 3 = .ok (.invokevirtual 140, 3) := by decide +kernel
theorem dX8_sign_6 : decode cX8_sign 6 = .ok (.iconst 1, 1) := by decide +kernel
theorem dX8_sign_7 : decode cX8_sign 7 = .ok (.invokevirtual 85, 3) := by decide +kernel
theorem dX8_sign_10 : decode cX8_sign 10 = .ok (.ifCond .ne 53, 3) := by decide +kernel
theorem dX8_sign_13 : decode cX8_sign 13 = .ok (.aload_n 0, 1) := by decide +kernel
theorem dX8_sign_14 : decode cX8_sign 14 = .ok (.iload_n 2, 1) := by decide +kernel
theorem dX8_sign_15 : decode cX8_sign 15 = .ok (.iconst 1, 1) := by decide +kernel
theorem dX8_sign_16 : decode cX8_sign 16 = .ok (.if_icmp .lt 13, 3) := by decide +kernel
theorem dX8_sign_19 : decode cX8_sign 19 = .ok (.iload_n 2, 1) := by decide +kernel
theorem dX8_sign_20 : decode cX8_sign 20 = .ok (.iconst 1, 1) := by decide +kernel
theorem dX8_sign_21 : decode cX8_sign 21 = .ok (.aload_n 0, 1) := by decide +kernel
theorem dX8_sign_22 : decode cX8_sign 22 = .ok (.getfield 109, 3) := by decide +kernel
theorem dX8_sign_25 : decode cX8_sign 25 = .ok (.ishl, 1) := by decide +kernel
theorem dX8_sign_26 : decode cX8_sign 26 = .ok (.if_icmp .lt 7, 3) := by decide +kernel
theorem dX8_sign_29 : decode cX8_sign 29 = .ok (.iconst 1, 1) := by decide +kernel
theorem dX8_sign_30 : decode cX8_sign 30 = .ok (.goto 4, 3) := by decide +kernel
theorem dX8_sign_33 : decode cX8_sign 33 = .ok (.iconst 0, 1) := by decide +kernel
theorem dX8_sign_34 : decode cX8_sign 34 = .ok (.iconst 2, 1) := by decide +kernel
theorem dX8_sign_35 : decode cX8_sign 35 = .ok (.invokevirtual 85, 3) := by decide +kernel
theorem dX8_sign_38 : decode cX8_sign 38 = .ok (.ifCond .ne 25, 3) := by decide +kernel
theorem dX8_sign_41 : decode cX8_sign 41 = .ok (.aload_n 0, 1) := by decide +kernel
theorem dX8_sign_42 : decode cX8_sign 42 = .ok (.aload_n 0, 1) := by decide +kernel
theorem dX8_sign_43 : decode cX8_sign 43 = .ok (.getfield 120, 3) := by decide +kernel
theorem dX8_sign_46 : decode cX8_sign 46 = .ok (.bipush 12, 2) := by decide +kernel
theorem dX8_sign_48 : decode cX8_sign 48 = .ok (.if_icmp .ne 7, 3) := by decide +kernel
theorem dX8_sign_51 : decode cX8_sign 51 = .ok (.iconst 1, 1) := by decide +kernel
theorem dX8_sign_52 : decode cX8_sign 52 = .ok (.goto 4, 3) := by decide +kernel
theorem dX8_sign_55 : decode cX8_sign 55 = .ok (.iconst 0, 1) := by decide +kernel
theorem dX8_sign_56 : decode cX8_sign 56 = .ok (.iconst 3, 1) := by decide +kernel
theorem dX8_sign_57 : decode cX8_sign 57 = .ok (.invokevirtual 85, 3) := by decide +kernel
theorem dX8_sign_60 : decode cX8_sign 60 = .ok (.ifCond .eq 5, 3) := by decide +kernel
theorem dX8_sign_63 : decode cX8_sign 63 = .ok (.iconst 0, 1) := by decide +kernel
theorem dX8_sign_64 : decode cX8_sign 64 = .ok (.ireturn, 1) := by decide +kernel
theorem dX8_sign_65 : decode cX8_sign 65 = .ok (.aload_n 0, 1) := by decide +kernel
theorem dX8_sign_66 : decode cX8_sign 66 = .ok (.getfield 50, 3) := by decide +kernel
theorem dX8_sign_69 : decode cX8_sign 69 = .ok (.aload_n 0, 1) := by decide +kernel
theorem dX8_sign_70 : decode cX8_sign 70 = .ok (.getfield 120, 3) := by decide +kernel
theorem dX8_sign_73 : decode cX8_sign 73 = .ok (.iload_n 1, 1) := by decide +kernel
theorem dX8_sign_74 : decode cX8_sign 74 = .ok (.iastore, 1) := by decide +kernel
theorem dX8_sign_75 : decode cX8_sign 75 = .ok (.aload_n 0, 1) := by decide +kernel
theorem dX8_sign_76 : decode cX8_sign 76 = .ok (.getfield 53, 3) := by decide +kernel
theorem dX8_sign_79 : decode cX8_sign 79 = .ok (.aload_n 0, 1) := by decide +kernel
theorem dX8_sign_80 : decode cX8_sign 80 = .ok (.getfield 120, 3) := by decide +kernel
theorem dX8_sign_83 : decode cX8_sign 83 = .ok (.iload_n 2, 1) := by decide +kernel
theorem dX8_sign_84 : decode cX8_sign 84 = .ok (.iastore, 1) := by decide +kernel
theorem dX8_sign_85 : decode cX8_sign 85 = .ok (.aload_n 0, 1) := by decide +kernel
theorem dX8_sign_86 : decode cX8_sign 86 = .ok (.getfield 70, 3) := by decide +kernel
theorem dX8_sign_89 : decode cX8_sign 89 = .ok (.aload_n 0, 1) := by decide +kernel
theorem dX8_sign_90 : decode cX8_sign 90 = .ok (.getfield 120, 3) := by decide +kernel
theorem dX8_sign_93 : decode cX8_sign 93 = .ok (.bipush 118, 2) := by decide +kernel
theorem dX8_sign_95 : decode cX8_sign 95 = .ok (.castore, 1) := by decide +kernel
theorem dX8_sign_96 : decode cX8_sign 96 = .ok (.aload_n 0, 1) := by decide +kernel
theorem dX8_sign_97 : decode cX8_sign 97 = .ok (.dup, 1) := by decide +kernel
theorem dX8_sign_98 : decode cX8_sign 98 = .ok (.getfield 120, 3) := by decide +kernel
theorem dX8_sign_101 : decode cX8_sign 101 = .ok (.iconst 1, 1) := by decide +kernel
theorem dX8_sign_102 : decode cX8_sign 102 = .ok (.iadd, 1) := by decide +kernel
theorem dX8_sign_103 : decode cX8_sign 103 = .ok (.putfield 120, 3) := by decide +kernel
theorem dX8_sign_106 : decode cX8_sign 106 = .ok (.aload_n 0, 1) := by decide +kernel
theorem dX8_sign_107 : decode cX8_sign 107 = .ok (.getfield 120, 3) := by decide +kernel
theorem dX8_sign_110 : decode cX8_sign 110 = .ok (.iconst 1, 1) := by decide +kernel
theorem dX8_sign_111 : decode cX8_sign 111 = .ok (.isub, 1) := by decide +kernel
theorem dX8_sign_112 : decode cX8_sign 112 = .ok (.ireturn, 1) := by decide +kernel
set_option maxRecDepth 20000 in
theorem ggX8_isNoSignature_X8_isIn : GoodIn wsX8_isNoSignature wsX8_isIn := goodIn_r _ [5] (by decide +kernel) (by decide +kernel)
set_option maxRecDepth 20000 in
theorem gX8_isNoSignature_X8_isIn : GoodIn wsX8_isNoSignature (va_wsS RX8 81 yX8_isIn wsX8_isIn) := goodIn_app (goodIn_of _ (by decide +kernel)) ggX8_isNoSignature_X8_isIn
set_option maxRecDepth 20000 in
theorem ggX8_isNoSignature_X8_isThrown : GoodIn wsX8_isNoSignature wsX8_isThrown := goodIn_r _ [9, 10, 11, 12, 13, 14, 15, 16, 17, 18, 19, 20, 21, 22, 23, 24, 25, 26, 27, 28, 29, 30, 31, 32, 33, 34, 35, 36, 37, 38, 39, 40, 41, 42, 43] (by decide +kernel) (by decide +kernel)
set_option maxRecDepth 20000 in
theorem gX8_isNoSignature_X8_isThrown : GoodIn wsX8_isNoSignature (wsV RX8 85 RX8 yX8_isThrown wsX8_isThrown) := goodIn_app (goodIn_of _ (by decide +kernel)) ggX8_isNoSignature_X8_isThrown
theorem dX8_isNoSignature_0 : decode cX8_isNoSignature 0 = .ok (.aload_n 0, 1) := by decide +kernel
theorem dX8_isNoSignature_1 : decode cX8_isNoSignature 1 = .ok (.iload_n 1, 1) := by decide +kernel
theorem dX8_isNoSignature_2 : decode cX8_isNoSignature 2 = .ok (.iconst 0, 1) := by decide +kernel
theorem dX8_isNoSignature_3 : decode cX8_isNoSignature 3 = .ok (.aload_n 0, 1) := by decide +kernel
theorem dX8_isNoSignature_4 : decode cX8_isNoSignature 4 = .ok (.getfield 120, 3) := by decide +kernel
theorem dX8_isNoSignature_7 : decode cX8_isNoSignature 7 = .ok (.iconst 1, 1) := by decide +kernel
theorem dX8_isNoSignature_8 : decode cX8_isNoSignature 8 = .ok (.isub, 1) := by decide +kernel
theorem dX8_isNoSignature_9 : decode cX8_isNoSignature 9 = .ok (.invokestatic 81, 3) := by decide +kernel
theorem dX8_isNoSignature_12 : decode cX8_isNoSignature 12 = .ok (.ifCond .ne 7, 3) := by decide +kernel
theorem dX8_isNoSignature_15 : decode cX8_isNoSignature 15 = .ok (.iconst 1, 1) := by decide +kernel
theorem dX8_isNoSignature_16 : decode cX8_isNoSignature 16 = .ok (.goto 4, 3) := by decide +kernel
theorem dX8_isNoSignature_19 : decode cX8_isNoSignature 19 = .ok (.iconst 0, 1) := by decide +kernel
theorem dX8_isNoSignature_20 : decode cX8_isNoSignature 20 = .ok (.iconst 1, 1) := by decide +kernel
theorem dX8_isNoSignature_21 : decode cX8_isNoSignature 21 = .ok (.invokevirtual 85, 3) := by decide +kernel
theorem dX8_isNoSignature_24 : decode cX8_isNoSignature 24 = .ok (.ireturn, 1) := by decide +kernel
set_option maxRecDepth 20000 in
theorem ggX8_withdraw_X8_isNoSignature : GoodIn wsX8_withdraw wsX8_isNoSignature := goodIn_r _ [7, 2, 8, 9, 6, 10, 11, 12, 13, 14, 15, 16, 17, 18, 19, 20, 21, 22, 23, 24, 25, 26, 27, 28, 29, 30, 31, 32, 33, 34, 35, 36, 37, 38, 39, 40, 41, 42, 43, 44, 45, 46, 47, 48] (by decide +kernel) (by decide +kernel)
set_option maxRecDepth 20000 in
theorem gX8_withdraw_X8_isNoSignature : GoodIn wsX8_withdraw (wsV RX8 187 RX8 yX8_isNoSignature wsX8_isNoSignature) := goodIn_app (goodIn_of _ (by decide +kernel)) ggX8_withdraw_X8_isNoSignature
set_option maxRecDepth 20000 in
theorem ggX8_withdraw_X8_isThrown : GoodIn wsX8_withdraw wsX8_isThrown := goodIn_r _ [14, 15, 16, 17, 18, 19, 20, 21, 22, 23, 24, 25, 26, 27, 28, 29, 30, 31, 32, 33, 34, 35, 36, 37, 38, 39, 40, 41, 42, 43, 44, 45, 46, 47, 48] (by decide +kernel) (by decide +kernel)
set_option maxRecDepth 20000 in
theorem gX8_withdraw_X8_isThrown : GoodIn wsX8_withdraw (wsV RX8 85 RX8 yX8_isThrown wsX8_isThrown) := goodIn_app (goodIn_of _ (by decide +kernel)) ggX8_withdraw_X8_isThrown
theorem dX8_withdraw_0 : decode cX8_withdraw 0 = .ok (.aload_n 0, 1) := by decide +kernel
theorem dX8_withdraw_1 : decode cX8_withdraw 1 = .ok (.iload_n 1, 1) := by decide +kernel
theorem dX8_withdraw_2 : decode cX8_withdraw 2 = .ok (.invokevirtual 187, 3) := by decide +kernel
theorem dX8_withdraw_5 : decode cX8_withdraw 5 = .ok (.ifCond .ne 27, 3) := by decide +kernel
theorem dX8_withdraw_8 : decode cX8_withdraw 8 = .ok (.aload_n 0, 1) := by decide +kernel
theorem dX8_withdraw_9 : decode cX8_withdraw 9 = .ok (.aload_n 0, 1) := by decide +kernel
theorem dX8_withdraw_10 : decode cX8_withdraw 10 = .ok (.getfield 70, 3) := by decide +kernel
theorem dX8_withdraw_13 : decode cX8_withdraw 13 = .ok (.iload_n 1, 1) := by decide +kernel
theorem dX8_withdraw_14 : decode cX8_withdraw 14 = .ok (.caload, 1) := by decide +kernel
theorem dX8_withdraw_15 : decode cX8_withdraw 15 = .ok (.bipush 118, 2) := by decide +kernel
theorem dX8_withdraw_17 : decode cX8_withdraw 17 = .ok (.if_icmp .eq 7, 3) := by decide +kernel
theorem dX8_withdraw_20 : decode cX8_withdraw 20 = .ok (.iconst 1, 1) := by decide +kernel
theorem dX8_withdraw_21 : decode cX8_withdraw 21 = .ok (.goto 4, 3) := by decide +kernel
theorem dX8_withdraw_24 : decode cX8_withdraw 24 = .ok (.iconst 0, 1) := by decide +kernel
theorem dX8_withdraw_25 : decode cX8_withdraw 25 = .ok (.iconst 2, 1) := by decide +kernel
theorem dX8_withdraw_26 : decode cX8_withdraw 26 = .ok (.invokevirtual 85, 3) := by decide +kernel
theorem dX8_withdraw_29 : decode cX8_withdraw 29 = .ok (.ifCond .eq 5, 3) := by decide +kernel
theorem dX8_withdraw_32 : decode cX8_withdraw 32 = .ok (.iconst 0, 1) := by decide +kernel
theorem dX8_withdraw_33 : decode cX8_withdraw 33 = .ok (.ireturn, 1) := by decide +kernel
theorem dX8_withdraw_34 : decode cX8_withdraw 34 = .ok (.aload_n 0, 1) := by decide +kernel
theorem dX8_withdraw_35 : decode cX8_withdraw 35 = .ok (.getfield 70, 3) := by decide +kernel
theorem dX8_withdraw_38 : decode cX8_withdraw 38 = .ok (.iload_n 1, 1) := by decide +kernel
theorem dX8_withdraw_39 : decode cX8_withdraw 39 = .ok (.bipush 119, 2) := by decide +kernel
theorem dX8_withdraw_41 : decode cX8_withdraw 41 = .ok (.castore, 1) := by decide +kernel
theorem dX8_withdraw_42 : decode cX8_withdraw 42 = .ok (.iconst 0, 1) := by decide +kernel
theorem dX8_withdraw_43 : decode cX8_withdraw 43 = .ok (.istore_n 2, 1) := by decide +kernel
theorem dX8_withdraw_44 : decode cX8_withdraw 44 = .ok (.iconst 0, 1) := by decide +kernel
theorem dX8_withdraw_45 : decode cX8_withdraw 45 = .ok (.istore_n 3, 1) := by decide +kernel
theorem dX8_withdraw_46 : decode cX8_withdraw 46 = .ok (.iload_n 3, 1) := by decide +kernel
theorem dX8_withdraw_47 : decode cX8_withdraw 47 = .ok (.aload_n 0, 1) := by decide +kernel
theorem dX8_withdraw_48 : decode cX8_withdraw 48 = .ok (.getfield 120, 3) := by decide +kernel
theorem dX8_withdraw_51 : decode cX8_withdraw 51 = .ok (.if_icmp .ge 28, 3) := by decide +kernel
theorem dX8_withdraw_54 : decode cX8_withdraw 54 = .ok (.iload_n 2, 1) := by decide +kernel
theorem dX8_withdraw_55 : decode cX8_withdraw 55 = .ok (.aload_n 0, 1) := by decide +kernel
theorem dX8_withdraw_56 : decode cX8_withdraw 56 = .ok (.getfield 70, 3) := by decide +kernel
theorem dX8_withdraw_59 : decode cX8_withdraw 59 = .ok (.iload_n 3, 1) := by decide +kernel
theorem dX8_withdraw_60 : decode cX8_withdraw 60 = .ok (.caload, 1) := by decide +kernel
theorem dX8_withdraw_61 : decode cX8_withdraw 61 = .ok (.bipush 118, 2) := by decide +kernel
theorem dX8_withdraw_63 : decode cX8_withdraw 63 = .ok (.if_icmp .ne 7, 3) := by decide +kernel
theorem dX8_withdraw_66 : decode cX8_withdraw 66 = .ok (.iconst 1, 1) := by decide +kernel
theorem dX8_withdraw_67 : decode cX8_withdraw 67 = .ok (.goto 4, 3) := by decide +kernel
theorem dX8_withdraw_70 : decode cX8_withdraw 70 = .ok (.iconst 0, 1) := by decide +kernel
theorem dX8_withdraw_71 : decode cX8_withdraw 71 = .ok (.iadd, 1) := by decide +kernel
theorem dX8_withdraw_72 : decode cX8_withdraw 72 = .ok (.istore_n 2, 1) := by decide +kernel
theorem dX8_withdraw_73 : decode cX8_withdraw 73 = .ok (.iinc 3 1, 3) := by decide +kernel
theorem dX8_withdraw_76 : decode cX8_withdraw 76 = .ok (.goto (-30), 3) := by decide +kernel
theorem dX8_withdraw_79 : decode cX8_withdraw 79 = .ok (.iload_n 2, 1) := by decide +kernel
theorem dX8_withdraw_80 : decode cX8_withdraw 80 = .ok (.ireturn, 1) := by decide +kernel
theorem dX8_signatures_0 : decode cX8_signatures 0 = .ok (.aload_n 0, 1) := by decide +kernel
theorem dX8_signatures_1 : decode cX8_signatures 1 = .ok (.iconst 0, 1) := by decide +kernel
theorem dX8_signatures_2 : decode cX8_signatures 2 = .ok (.putfield 77, 3) := by decide +kernel
theorem dX8_signatures_5 : decode cX8_signatures 5 = .ok (.aload_n 0, 1) := by decide +kernel
theorem dX8_signatures_6 : decode cX8_signatures 6 = .ok (.getfield 120, 3) := by decide +kernel
theorem dX8_signatures_9 : decode cX8_signatures 9 = .ok (.ireturn, 1) := by decide +kernel
set_option maxRecDepth 20000 in
theorem ggX8_state_X8_isNoSignature : GoodIn wsX8_state wsX8_isNoSignature := goodIn_r _ [6, 7, 8, 9, 5, 10, 11, 12, 13, 14, 15, 16, 17, 18, 19, 20, 21, 22, 23, 24, 25, 26, 27, 28, 29, 30, 31, 32, 33, 34, 35, 36, 37, 38, 39, 40, 41, 42, 43, 44, 45, 46, 47, 48] (by decide +kernel) (by decide +kernel)
set_option maxRecDepth 20000 in
theorem gX8_state_X8_isNoSignature : GoodIn wsX8_state (wsV RX8 187 RX8 yX8_isNoSignature wsX8_isNoSignature) := goodIn_app (goodIn_of _ (by decide +kernel)) ggX8_state_X8_isNoSignature
theorem dX8_state_0 : decode cX8_state 0 = .ok (.aload_n 0, 1) := by decide +kernel
theorem dX8_state_1 : decode cX8_state 1 = .ok (.iload_n 1, 1) := by decide +kernel
theorem dX8_state_2 : decode cX8_state 2 = .ok (.invokevirtual 187, 3) := by decide +kernel
theorem dX8_state_5 : decode cX8_state 5 = .ok (.ifCond .eq 8, 3) := by decide +kernel
theorem dX8_state_8 : decode cX8_state 8 = .ok (.bipush 45, 2) := by decide +kernel
theorem dX8_state_10 : decode cX8_state 10 = .ok (.goto 9, 3) := by decide +kernel
theorem dX8_state_13 : decode cX8_state 13 = .ok (.aload_n 0, 1) := by decide +kernel
theorem dX8_state_14 : decode cX8_state 14 = .ok (.getfield 70, 3) := by decide +kernel
theorem dX8_state_17 : decode cX8_state 17 = .ok (.iload_n 1, 1) := by decide +kernel
theorem dX8_state_18 : decode cX8_state 18 = .ok (.caload, 1) := by decide +kernel
theorem dX8_state_19 : decode cX8_state 19 = .ok (.ireturn, 1) := by decide +kernel
set_option maxRecDepth 20000 in
theorem ggX8_isUntouched_X8_isNoSignature : GoodIn wsX8_isUntouched wsX8_isNoSignature := goodIn_r _ [6, 7, 8, 9, 5, 10, 11, 12, 13, 14, 15, 16, 17, 18, 19, 20, 21, 22, 23, 24, 25, 26, 27, 28, 29, 30, 31, 32, 33, 34, 35, 36, 37, 38, 39, 40, 41, 42, 43, 44, 45, 46, 47, 48] (by decide +kernel) (by decide +kernel)
set_option maxRecDepth 20000 in
theorem gX8_isUntouched_X8_isNoSignature : GoodIn wsX8_isUntouched (wsV RX8 187 RX8 yX8_isNoSignature wsX8_isNoSignature) := goodIn_app (goodIn_of _ (by decide +kernel)) ggX8_isUntouched_X8_isNoSignature
theorem dX8_isUntouched_0 : decode cX8_isUntouched 0 = .ok (.aload_n 0, 1) := by decide +kernel
theorem dX8_isUntouched_1 : decode cX8_isUntouched 1 = .ok (.iload_n 1, 1) := by decide +kernel
theorem dX8_isUntouched_2 : decode cX8_isUntouched 2 = .ok (.invokevirtual 187, 3) := by decide +kernel
theorem dX8_isUntouched_5 : decode cX8_isUntouched 5 = .ok (.ifCond .ne 16, 3) := by decide +kernel
theorem dX8_isUntouched_8 : decode cX8_isUntouched 8 = .ok (.aload_n 0, 1) := by decide +kernel
theorem dX8_isUntouched_9 : decode cX8_isUntouched 9 = .ok (.getfield 67, 3) := by decide +kernel
theorem dX8_isUntouched_12 : decode cX8_isUntouched 12 = .ok (.iload_n 1, 1) := by decide +kernel
theorem dX8_isUntouched_13 : decode cX8_isUntouched 13 = .ok (.baload, 1) := by decide +kernel
theorem dX8_isUntouched_14 : decode cX8_isUntouched 14 = .ok (.ifCond .ne 7, 3) := by decide +kernel
theorem dX8_isUntouched_17 : decode cX8_isUntouched 17 = .ok (.iconst 1, 1) := by decide +kernel
theorem dX8_isUntouched_18 : decode cX8_isUntouched 18 = .ok (.goto 4, 3) := by decide +kernel
theorem dX8_isUntouched_21 : decode cX8_isUntouched 21 = .ok (.iconst 0, 1) := by decide +kernel
theorem dX8_isUntouched_22 : decode cX8_isUntouched 22 = .ok (.ireturn, 1) := by decide +kernel
set_option maxRecDepth 20000 in
theorem ggX8_voidedBy_X8_isNoSignature : GoodIn wsX8_voidedBy wsX8_isNoSignature := goodIn_r _ [7, 8, 9, 10, 6, 11, 12, 13, 14, 15, 16, 17, 18, 19, 20, 21, 22, 23, 24, 25, 26, 27, 28, 29, 30, 31, 32, 33, 34, 35, 36, 37, 38, 39, 40, 41, 42, 43, 44, 45, 46, 47, 48, 49] (by decide +kernel) (by decide +kernel)
set_option maxRecDepth 20000 in
theorem gX8_voidedBy_X8_isNoSignature : GoodIn wsX8_voidedBy (wsV RX8 187 RX8 yX8_isNoSignature wsX8_isNoSignature) := goodIn_app (goodIn_of _ (by decide +kernel)) ggX8_voidedBy_X8_isNoSignature
set_option maxRecDepth 20000 in
theorem ggX8_voidedBy_X8_isThrown : GoodIn wsX8_voidedBy wsX8_isThrown := goodIn_r _ [15, 16, 17, 18, 19, 20, 21, 22, 23, 24, 25, 26, 27, 28, 29, 30, 31, 32, 33, 34, 35, 36, 37, 38, 39, 40, 41, 42, 43, 44, 45, 46, 47, 48, 49] (by decide +kernel) (by decide +kernel)
set_option maxRecDepth 20000 in
theorem gX8_voidedBy_X8_isThrown : GoodIn wsX8_voidedBy (wsV RX8 85 RX8 yX8_isThrown wsX8_isThrown) := goodIn_app (goodIn_of _ (by decide +kernel)) ggX8_voidedBy_X8_isThrown
theorem dX8_voidedBy_0 : decode cX8_voidedBy 0 = .ok (.aload_n 0, 1) := by decide +kernel
theorem dX8_voidedBy_1 : decode cX8_voidedBy 1 = .ok (.iload_n 1, 1) := by decide +kernel
theorem dX8_voidedBy_2 : decode cX8_voidedBy 2 = .ok (.invokevirtual 187, 3) := by decide +kernel
theorem dX8_voidedBy_5 : decode cX8_voidedBy 5 = .ok (.ifCond .ne 27, 3) := by decide +kernel
theorem dX8_voidedBy_8 : decode cX8_voidedBy 8 = .ok (.aload_n 0, 1) := by decide +kernel
theorem dX8_voidedBy_9 : decode cX8_voidedBy 9 = .ok (.aload_n 0, 1) := by decide +kernel
theorem dX8_voidedBy_10 : decode cX8_voidedBy 10 = .ok (.getfield 70, 3) := by decide +kernel
theorem dX8_voidedBy_13 : decode cX8_voidedBy 13 = .ok (.iload_n 1, 1) := by decide +kernel
theorem dX8_voidedBy_14 : decode cX8_voidedBy 14 = .ok (.caload, 1) := by decide +kernel
theorem dX8_voidedBy_15 : decode cX8_voidedBy 15 = .ok (.bipush 120, 2) := by decide +kernel
theorem dX8_voidedBy_17 : decode cX8_voidedBy 17 = .ok (.if_icmp .eq 7, 3) := by decide +kernel
theorem dX8_voidedBy_20 : decode cX8_voidedBy 20 = .ok (.iconst 1, 1) := by decide +kernel
theorem dX8_voidedBy_21 : decode cX8_voidedBy 21 = .ok (.goto 4, 3) := by decide +kernel
theorem dX8_voidedBy_24 : decode cX8_voidedBy 24 = .ok (.iconst 0, 1) := by decide +kernel
theorem dX8_voidedBy_25 : decode cX8_voidedBy 25 = .ok (.iconst 2, 1) := by decide +kernel
theorem dX8_voidedBy_26 : decode cX8_voidedBy 26 = .ok (.invokevirtual 85, 3) := by decide +kernel
theorem dX8_voidedBy_29 : decode cX8_voidedBy 29 = .ok (.ifCond .eq 7, 3) := by decide +kernel
theorem dX8_voidedBy_32 : decode cX8_voidedBy 32 = .ok (.iconst 0, 1) := by decide +kernel
theorem dX8_voidedBy_33 : decode cX8_voidedBy 33 = .ok (.goto 9, 3) := by decide +kernel
theorem dX8_voidedBy_36 : decode cX8_voidedBy 36 = .ok (.aload_n 0, 1) := by decide +kernel
theorem dX8_voidedBy_37 : decode cX8_voidedBy 37 = .ok (.getfield 56, 3) := by decide +kernel
theorem dX8_voidedBy_40 : decode cX8_voidedBy 40 = .ok (.iload_n 1, 1) := by decide +kernel
theorem dX8_voidedBy_41 : decode cX8_voidedBy 41 = .ok (.iaload, 1) := by decide +kernel
theorem dX8_voidedBy_42 : decode cX8_voidedBy 42 = .ok (.ireturn, 1) := by decide +kernel
theorem dX8_setStrict_0 : decode cX8_setStrict 0 = .ok (.aload_n 0, 1) := by decide +kernel
theorem dX8_setStrict_1 : decode cX8_setStrict 1 = .ok (.iconst 0, 1) := by decide +kernel
theorem dX8_setStrict_2 : decode cX8_setStrict 2 = .ok (.putfield 77, 3) := by decide +kernel
theorem dX8_setStrict_5 : decode cX8_setStrict 5 = .ok (.aload_n 0, 1) := by decide +kernel
theorem dX8_setStrict_6 : decode cX8_setStrict 6 = .ok (.getfield 123, 3) := by decide +kernel
theorem dX8_setStrict_9 : decode cX8_setStrict 9 = .ok (.istore_n 2, 1) := by decide +kernel
theorem dX8_setStrict_10 : decode cX8_setStrict 10 = .ok (.aload_n 0, 1) := by decide +kernel
theorem dX8_setStrict_11 : decode cX8_setStrict 11 = .ok (.iload_n 1, 1) := by decide +kernel
theorem dX8_setStrict_12 : decode cX8_setStrict 12 = .ok (.putfield 123, 3) := by decide +kernel
theorem dX8_setStrict_15 : decode cX8_setStrict 15 = .ok (.iload_n 2, 1) := by decide +kernel
theorem dX8_setStrict_16 : decode cX8_setStrict 16 = .ok (.ireturn, 1) := by decide +kernel
set_option maxRecDepth 20000 in
theorem ggX8_setFee_X8_isIn : GoodIn wsX8_setFee wsX8_isIn := goodIn_r _ [5] (by decide +kernel) (by decide +kernel)
set_option maxRecDepth 20000 in
theorem gX8_setFee_X8_isIn : GoodIn wsX8_setFee (va_wsS RX8 81 yX8_isIn wsX8_isIn) := goodIn_app (goodIn_of _ (by decide +kernel)) ggX8_setFee_X8_isIn
set_option maxRecDepth 20000 in
theorem ggX8_setFee_X8_isThrown : GoodIn wsX8_setFee wsX8_isThrown := goodIn_r _ [9, 10, 11, 12, 13, 14, 15, 16, 17, 18, 19, 20, 21, 22, 23, 24, 25, 26, 27, 28, 29, 30, 31, 32, 33, 34, 35, 36, 37, 38, 39, 40, 41, 42, 43] (by decide +kernel) (by decide +kernel)
set_option maxRecDepth 20000 in
theorem gX8_setFee_X8_isThrown : GoodIn wsX8_setFee (wsV RX8 85 RX8 yX8_isThrown wsX8_isThrown) := goodIn_app (goodIn_of _ (by decide +kernel)) ggX8_setFee_X8_isThrown
theorem dX8_setFee_0 : decode cX8_setFee 0 = .ok (.aload_n 0, 1) := by decide +kernel
theorem dX8_setFee_1 : decode cX8_setFee 1 = .ok (.iload_n 1, 1) := by decide +kernel
theorem dX8_setFee_2 : decode cX8_setFee 2 = .ok (.iconst 0, 1) := by decide +kernel
theorem dX8_setFee_3 : decode cX8_setFee 3 = .ok (.sipush 999, 3) := by decide +kernel
theorem dX8_setFee_6 : decode cX8_setFee 6 = .ok (.invokestatic 81, 3) := by decide +kernel
theorem dX8_setFee_9 : decode cX8_setFee 9 = .ok (.ifCond .ne 7, 3) := by decide +kernel
theorem dX8_setFee_12 : decode cX8_setFee 12 = .ok (.iconst 1, 1) := by decide +kernel
theorem dX8_setFee_13 : decode cX8_setFee 13 = .ok (.goto 4, 3) := by decide +kernel
theorem dX8_setFee_16 : decode cX8_setFee 16 = .ok (.iconst 0, 1) := by decide +kernel
theorem dX8_setFee_17 : decode cX8_setFee 17 = .ok (.iconst 1, 1) := by decide +kernel
theorem dX8_setFee_18 : decode cX8_setFee 18 = .ok (.invokevirtual 85, 3) := by decide +kernel
theorem dX8_setFee_21 : decode cX8_setFee 21 = .ok (.ifCond .eq 5, 3) := by decide +kernel
theorem dX8_setFee_24 : decode cX8_setFee 24 = .ok (.iconst 0, 1) := by decide +kernel
theorem dX8_setFee_25 : decode cX8_setFee 25 = .ok (.ireturn, 1) := by decide +kernel
theorem dX8_setFee_26 : decode cX8_setFee 26 = .ok (.aload_n 0, 1) := by decide +kernel
theorem dX8_setFee_27 : decode cX8_setFee 27 = .ok (.getfield 137, 3) := by decide +kernel
theorem dX8_setFee_30 : decode cX8_setFee 30 = .ok (.istore_n 2, 1) := by decide +kernel
theorem dX8_setFee_31 : decode cX8_setFee 31 = .ok (.aload_n 0, 1) := by decide +kernel
theorem dX8_setFee_32 : decode cX8_setFee 32 = .ok (.iload_n 1, 1) := by decide +kernel
theorem dX8_setFee_33 : decode cX8_setFee 33 = .ok (.putfield 137, 3) := by decide +kernel
theorem dX8_setFee_36 : decode cX8_setFee 36 = .ok (.iload_n 2, 1) := by decide +kernel
theorem dX8_setFee_37 : decode cX8_setFee 37 = .ok (.ireturn, 1) := by decide +kernel
set_option maxRecDepth 20000 in
theorem ggX8_bill_X8_isNoAuthor : GoodIn wsX8_bill wsX8_isNoAuthor := goodIn_r _ [6, 7, 8, 9, 5, 10, 16, 17, 18, 19, 20, 21, 22, 23, 24, 25, 26, 27, 28, 29, 30, 31, 32, 33, 34, 35, 36, 37, 38, 39, 40, 41, 42, 43, 44, 45, 46, 47, 48] (by decide +kernel) (by decide +kernel)
set_option maxRecDepth 20000 in
theorem gX8_bill_X8_isNoAuthor : GoodIn wsX8_bill (wsV RX8 140 RX8 yX8_isNoAuthor wsX8_isNoAuthor) := goodIn_app (goodIn_of _ (by decide +kernel)) ggX8_bill_X8_isNoAuthor
set_option maxRecDepth 20000 in
theorem ggX8_bill_X8_isThrown : GoodIn wsX8_bill wsX8_isThrown := goodIn_r _ [14, 15, 16, 17, 18, 19, 20, 21, 22, 23, 24, 25, 26, 27, 28, 29, 30, 31, 32, 33, 34, 35, 36, 37, 38, 39, 40, 41, 42, 43, 44, 45, 46, 47, 48] (by decide +kernel) (by decide +kernel)
set_option maxRecDepth 20000 in
theorem gX8_bill_X8_isThrown : GoodIn wsX8_bill (wsV RX8 85 RX8 yX8_isThrown wsX8_isThrown) := goodIn_app (goodIn_of _ (by decide +kernel)) ggX8_bill_X8_isThrown
theorem dX8_bill_0 : decode cX8_bill 0 = .ok (.aload_n 0, 1) := by decide +kernel
theorem dX8_bill_1 : decode cX8_bill 1 = .ok (.aload_n 0, 1) := by decide +kernel
theorem dX8_bill_2 : decode cX8_bill 2 = .ok (.iload_n 1, 1) := by decide +kernel
theorem dX8_bill_3 : decode cX8_bill 3 = .ok (.invokevirtual 140, 3) := by decide +kernel
theorem dX8_bill_6 : decode cX8_bill 6 = .ok (.iconst 1, 1) := by decide +kernel
theorem dX8_bill_7 : decode cX8_bill 7 = .ok (.invokevirtual 85, 3) := by decide +kernel
theorem dX8_bill_10 : decode cX8_bill 10 = .ok (.ifCond .eq 7, 3) := by decide +kernel
theorem dX8_bill_13 : decode cX8_bill 13 = .ok (.lconst 0, 1) := by decide +kernel
theorem dX8_bill_14 : decode cX8_bill 14 = .ok (.goto 9, 3) := by decide +kernel
theorem dX8_bill_17 : decode cX8_bill 17 = .ok (.aload_n 0, 1) := by decide +kernel
theorem dX8_bill_18 : decode cX8_bill 18 = .ok (.getfield 59, 3) := by decide +kernel
theorem dX8_bill_21 : decode cX8_bill 21 = .ok (.iload_n 1, 1) := by decide +kernel
theorem dX8_bill_22 : decode cX8_bill 22 = .ok (.laload, 1) := by decide +kernel
theorem dX8_bill_23 : decode cX8_bill 23 = .ok (.lreturn, 1) := by decide +kernel
set_option maxRecDepth 20000 in
theorem ggX8_billAgain_X8_bill : GoodIn wsX8_billAgain wsX8_bill := goodIn_ca (goodIn_r _ [5, 6, 7, 8, 9, 4, 10, 11, 12, 13, 14, 15, 16, 17, 18, 19, 20, 21, 22, 23, 24, 25, 26, 27, 28, 29, 30, 31, 32, 33, 34, 35, 36, 37, 38, 39, 40, 41, 42, 43, 44, 45, 46, 47, 48, 49, 50, 51, 52] (by decide +kernel) (by decide +kernel)) (goodIn_sub (fun _ h => List.mem_cons_of_mem _ (List.mem_append_right _ h)) (by decide +kernel))
set_option maxRecDepth 20000 in
theorem gX8_billAgain_X8_bill : GoodIn wsX8_billAgain (wsV RX8 190 RX8 yX8_bill wsX8_bill) := goodIn_app (goodIn_of _ (by decide +kernel)) ggX8_billAgain_X8_bill
theorem dX8_billAgain_0 : decode cX8_billAgain 0 = .ok (.aload_n 0, 1) := by decide +kernel
theorem dX8_billAgain_1 : decode cX8_billAgain 1 = .ok (.iload_n 1, 1) := by decide +kernel
theorem dX8_billAgain_2 : decode cX8_billAgain 2 = .ok (.invokevirtual 190, 3) := by decide +kernel
theorem dX8_billAgain_5 : decode cX8_billAgain 5 = .ok (.lreturn, 1) := by decide +kernel
set_option maxRecDepth 20000 in
theorem ggX8_share_X8_isNoAuthor : GoodIn wsX8_share wsX8_isNoAuthor := goodIn_r _ [7, 8, 9, 10, 6, 11, 17, 18, 19, 20, 21, 22, 23, 24, 25, 26, 27, 28, 29, 30, 31, 32, 33, 34, 35, 36, 37, 38, 39, 40, 41, 42, 43, 44, 45, 46, 47, 48, 49] (by decide +kernel) (by decide +kernel)
set_option maxRecDepth 20000 in
theorem gX8_share_X8_isNoAuthor : GoodIn wsX8_share (wsV RX8 140 RX8 yX8_isNoAuthor wsX8_isNoAuthor) := goodIn_app (goodIn_of _ (by decide +kernel)) ggX8_share_X8_isNoAuthor
set_option maxRecDepth 20000 in
theorem ggX8_share_X8_isThrown : GoodIn wsX8_share wsX8_isThrown := goodIn_r _ [15, 16, 17, 18, 19, 20, 21, 22, 23, 24, 25, 26, 27, 28, 29, 30, 31, 32, 33, 34, 35, 36, 37, 38, 39, 40, 41, 42, 43, 44, 45, 46, 47, 48, 49] (by decide +kernel) (by decide +kernel)
set_option maxRecDepth 20000 in
theorem gX8_share_X8_isThrown : GoodIn wsX8_share (wsV RX8 85 RX8 yX8_isThrown wsX8_isThrown) := goodIn_app (goodIn_of _ (by decide +kernel)) ggX8_share_X8_isThrown
theorem dX8_share_0 : decode cX8_share 0 = .ok (.aload_n 0, 1) := by decide +kernel
theorem dX8_share_1 : decode cX8_share 1 = .ok (.aload_n 0, 1) := by decide +kernel
theorem dX8_share_2 : decode cX8_share 2 = .ok (.iload_n 1, 1) := by decide +kernel
theorem dX8_share_3 : decode cX8_share 3 = .ok (.invokevirtual 140, 3) := by decide +kernel
theorem dX8_share_6 : decode cX8_share 6 = .ok (.iconst 1, 1) := by decide +kernel
theorem dX8_share_7 : decode cX8_share 7 = .ok (.invokevirtual 85, 3) := by decide +kernel
theorem dX8_share_10 : decode cX8_share 10 = .ok (.ifCond .ne 23, 3) := by decide +kernel
theorem dX8_share_13 : decode cX8_share 13 = .ok (.aload_n 0, 1) := by decide +kernel
theorem dX8_share_14 : decode cX8_share 14 = .ok (.aload_n 0, 1) := by decide +kernel
theorem dX8_share_15 : decode cX8_share 15 = .ok (.getfield 98, 3) := by decide +kernel
theorem dX8_share_18 : decode cX8_share 18 = .ok (.ifCond .ne 7, 3) := by decide +kernel
theorem dX8_share_21 : decode cX8_share 21 = .ok (.iconst 1, 1) := by decide +kernel
theorem dX8_share_22 : decode cX8_share 22 = .ok (.goto 4, 3) := by decide +kernel
theorem dX8_share_25 : decode cX8_share 25 = .ok (.iconst 0, 1) := by decide +kernel
theorem dX8_share_26 : decode cX8_share 26 = .ok (.iconst 2, 1) := by decide +kernel
theorem dX8_share_27 : decode cX8_share 27 = .ok (.invokevirtual 85, 3) := by decide +kernel
theorem dX8_share_30 : decode cX8_share 30 = .ok (.ifCond .eq 5, 3) := by decide +kernel
theorem dX8_share_33 : decode cX8_share 33 = .ok (.fconst 0, 1) := by decide +kernel
theorem dX8_share_34 : decode cX8_share 34 = .ok (.freturn, 1) := by decide +kernel
theorem dX8_share_35 : decode cX8_share 35 = .ok (.iconst 0, 1) := by decide +kernel
theorem dX8_share_36 : decode cX8_share 36 = .ok (.istore_n 2, 1) := by decide +kernel
theorem dX8_share_37 : decode cX8_share 37 = .ok (.iconst 0, 1) := by decide +kernel
theorem dX8_share_38 : decode cX8_share 38 = .ok (.istore_n 3, 1) := by decide +kernel
theorem dX8_share_39 : decode cX8_share 39 = .ok (.iload_n 3, 1) := by decide +kernel
theorem dX8_share_40 : decode cX8_share 40 = .ok (.aload_n 0, 1) := by decide +kernel
theorem dX8_share_41 : decode cX8_share 41 = .ok (.getfield 98, 3) := by decide +kernel
theorem dX8_share_44 : decode cX8_share 44 = .ok (.if_icmp .ge 27, 3) := by decide +kernel
theorem dX8_share_47 : decode cX8_share 47 = .ok (.iload_n 2, 1) := by decide +kernel
theorem dX8_share_48 : decode cX8_share 48 = .ok (.aload_n 0, 1) := by decide +kernel
theorem dX8_share_49 : decode cX8_share 49 = .ok (.getfield 16, 3) := by decide +kernel
theorem dX8_share_52 : decode cX8_share 52 = .ok (.iload_n 3, 1) := by decide +kernel
theorem dX8_share_53 : decode cX8_share 53 = .ok (.iaload, 1) := by decide +kernel
theorem dX8_share_54 : decode cX8_share 54 = .ok (.iload_n 1, 1) := by decide +kernel
theorem dX8_share_55 : decode cX8_share 55 = .ok (.if_icmp .ne 7, 3) := by decide +kernel
theorem dX8_share_58 : decode cX8_share 58 = .ok (.iconst 1, 1) := by decide +kernel
theorem dX8_share_59 : decode cX8_share 59 = .ok (.goto 4, 3) := by decide +kernel
theorem dX8_share_62 : decode cX8_share 62 = .ok (.iconst 0, 1) := by decide +kernel
theorem dX8_share_63 : decode cX8_share 63 = .ok (.iadd, 1) := by decide +kernel
theorem dX8_share_64 : decode cX8_share 64 = .ok (.istore_n 2, 1) := by decide +kernel
theorem dX8_share_65 : decode cX8_share 65 = .ok (.iinc 3 1, 3) := by decide +kernel
theorem dX8_share_68 : decode cX8_share 68 = .ok (.goto (-29), 3) := by decide +kernel
theorem dX8_share_71 : decode cX8_share 71 = .ok (.iload_n 2, 1) := by decide +kernel
theorem dX8_share_72 : decode cX8_share 72 = .ok (.i2f, 1) := by decide +kernel
theorem dX8_share_73 : decode cX8_share 73 = .ok (.aload_n 0, 1) := by decide +kernel
theorem dX8_share_74 : decode cX8_share 74 = .ok (.getfield 98, 3) := by decide +kernel
theorem dX8_share_77 : decode cX8_share 77 = .ok (.i2f, 1) := by decide +kernel
theorem dX8_share_78 : decode cX8_share 78 = .ok (.fdiv, 1) := by decide +kernel
theorem dX8_share_79 : decode cX8_share 79 = .ok (.freturn, 1) := by decide +kernel
set_option maxRecDepth 20000 in
theorem ggX8_meanCost_X8_isThrown : GoodIn wsX8_meanCost wsX8_isThrown := goodIn_r _ [7, 8, 9, 10, 11, 12, 13, 14, 15, 16, 17, 18, 19, 20, 21, 22, 23, 24, 25, 26, 27, 28, 29, 30, 31, 32, 33, 34, 35, 36, 37, 38, 39, 40, 41] (by decide +kernel) (by decide +kernel)
set_option maxRecDepth 20000 in
theorem gX8_meanCost_X8_isThrown : GoodIn wsX8_meanCost (wsV RX8 85 RX8 yX8_isThrown wsX8_isThrown) := goodIn_app (goodIn_of _ (by decide +kernel)) ggX8_meanCost_X8_isThrown
theorem dX8_meanCost_0 : decode cX8_meanCost 0 = .ok (.iconst 0, 1) := by decide +kernel
theorem dX8_meanCost_1 : decode cX8_meanCost 1 = .ok (.istore_n 1, 1) := by decide +kernel
theorem dX8_meanCost_2 : decode cX8_meanCost 2 = .ok (.iconst 0, 1) := by decide +kernel
theorem dX8_meanCost_3 : decode cX8_meanCost 3 = .ok (.istore_n 2, 1) := by decide +kernel
theorem dX8_meanCost_4 : decode cX8_meanCost 4 = .ok (.iload_n 2, 1) := by decide +kernel
theorem dX8_meanCost_5 : decode cX8_meanCost 5 = .ok (.aload_n 0, 1) := by decide +kernel
theorem dX8_meanCost_6 : decode cX8_meanCost 6 = .ok (.getfield 134, 3) := by decide +kernel
theorem dX8_meanCost_9 : decode cX8_meanCost 9 = .ok (.if_icmp .ge 18, 3) := by decide +kernel
theorem dX8_meanCost_12 : decode cX8_meanCost 12 = .ok (.iload_n 1, 1) := by decide +kernel
theorem dX8_meanCost_13 : decode cX8_meanCost 13 = .ok (.aload_n 0, 1) := by decide +kernel
theorem dX8_meanCost_14 : decode cX8_meanCost 14 = .ok (.getfield 47, 3) := by decide +kernel
theorem dX8_meanCost_17 : decode cX8_meanCost 17 = .ok (.iload_n 2, 1) := by decide +kernel
theorem dX8_meanCost_18 : decode cX8_meanCost 18 = .ok (.iaload, 1) := by decide +kernel
theorem dX8_meanCost_19 : decode cX8_meanCost 19 = .ok (.iadd, 1) := by decide +kernel
theorem dX8_meanCost_20 : decode cX8_meanCost 20 = .ok (.istore_n 1, 1) := by decide +kernel
theorem dX8_meanCost_21 : decode cX8_meanCost 21 = .ok (.iinc 2 1, 3) := by decide +kernel
theorem dX8_meanCost_24 : decode cX8_meanCost 24 = .ok (.goto (-20), 3) := by decide +kernel
theorem dX8_meanCost_27 : decode cX8_meanCost 27 = .ok (.aload_n 0, 1) := by decide +kernel
theorem dX8_meanCost_28 : decode cX8_meanCost 28 = .ok (.aload_n 0, 1) := by decide +kernel
theorem dX8_meanCost_29 : decode cX8_meanCost 29 = .ok (.getfield 134, 3) := by decide +kernel
theorem dX8_meanCost_32 : decode cX8_meanCost 32 = .ok (.ifCond .ne 7, 3) := by decide +kernel
theorem dX8_meanCost_35 : decode cX8_meanCost 35 = .ok (.iconst 1, 1) := by decide +kernel
theorem dX8_meanCost_36 : decode cX8_meanCost 36 = .ok (.goto 4, 3) := by decide +kernel
theorem dX8_meanCost_39 : decode cX8_meanCost 39 = .ok (.iconst 0, 1) := by decide +kernel
theorem dX8_meanCost_40 : decode cX8_meanCost 40 = .ok (.iconst 1, 1) := by decide +kernel
theorem dX8_meanCost_41 : decode cX8_meanCost 41 = .ok (.invokevirtual 85, 3) := by decide +kernel
theorem dX8_meanCost_44 : decode cX8_meanCost 44 = .ok (.ifCond .eq 7, 3) := by decide +kernel
theorem dX8_meanCost_47 : decode cX8_meanCost 47 = .ok (.dconst 0, 1) := by decide +kernel
theorem dX8_meanCost_48 : decode cX8_meanCost 48 = .ok (.goto 11, 3) := by decide +kernel
theorem dX8_meanCost_51 : decode cX8_meanCost 51 = .ok (.iload_n 1, 1) := by decide +kernel
theorem dX8_meanCost_52 : decode cX8_meanCost 52 = .ok (.i2d, 1) := by decide +kernel
theorem dX8_meanCost_53 : decode cX8_meanCost 53 = .ok (.aload_n 0, 1) := by decide +kernel
theorem dX8_meanCost_54 : decode cX8_meanCost 54 = .ok (.getfield 134, 3) := by decide +kernel
theorem dX8_meanCost_57 : decode cX8_meanCost 57 = .ok (.i2d, 1) := by decide +kernel
theorem dX8_meanCost_58 : decode cX8_meanCost 58 = .ok (.ddiv, 1) := by decide +kernel
theorem dX8_meanCost_59 : decode cX8_meanCost 59 = .ok (.dreturn, 1) := by decide +kernel
theorem dX8_isConsistent_0 : decode cX8_isConsistent 0 = .ok (.aload_n 0, 1) := by decide +kernel
theorem dX8_isConsistent_1 : decode cX8_isConsistent 1 = .ok (.iconst 0, 1) := by decide +kernel
theorem dX8_isConsistent_2 : decode cX8_isConsistent 2 = .ok (.putfield 77, 3) := by decide +kernel
theorem dX8_isConsistent_5 : decode cX8_isConsistent 5 = .ok (.iconst 1, 1) := by decide +kernel
theorem dX8_isConsistent_6 : decode cX8_isConsistent 6 = .ok (.ireturn, 1) := by decide +kernel
theorem dJx00060_init_a7421_0 : decode cJx00060_init_a7421 0 = .ok (.aload_n 0, 1) := by decide +kernel
theorem dJx00060_init_a7421_1 : decode cJx00060_init_a7421 1 = .ok (.aload_n 1, 1) := by decide +kernel
theorem dJx00060_init_a7421_2 : decode cJx00060_init_a7421 2 = .ok (.invokespecial 7, 3) := by decide +kernel
theorem dJx00060_init_a7421_5 : decode cJx00060_init_a7421 5 = .ok (.return_, 1) := by decide +kernel
theorem dJ9_max_7cf53_0 : decode cJ9_max_7cf53 0 = .ok (.iload_n 0, 1) := by decide +kernel
theorem dJ9_max_7cf53_1 : decode cJ9_max_7cf53 1 = .ok (.iload_n 1, 1) := by decide +kernel
theorem dJ9_max_7cf53_2 : decode cJ9_max_7cf53 2 = .ok (.if_icmp .lt 7, 3) := by decide +kernel
theorem dJ9_max_7cf53_5 : decode cJ9_max_7cf53 5 = .ok (.iload_n 0, 1) := by decide +kernel
theorem dJ9_max_7cf53_6 : decode cJ9_max_7cf53 6 = .ok (.goto 4, 3) := by decide +kernel
theorem dJ9_max_7cf53_9 : decode cJ9_max_7cf53 9 = .ok (.iload_n 1, 1) := by decide +kernel
theorem dJ9_max_7cf53_10 : decode cJ9_max_7cf53 10 = .ok (.ireturn, 1) := by decide +kernel
