theorem dX5_clerkOf_178 : decode cX5_clerkOf 178 = .ok (.ifCond .ne 8, 3) := by decide +kernel
theorem dX5_clerkOf_181 : decode cX5_clerkOf 181 = .ok (.bipush (-4), 2) := by decide +kernel
theorem dX5_clerkOf_183 : decode cX5_clerkOf 183 = .ok (.goto 12, 3) := by decide +kernel
theorem dX5_clerkOf_186 : decode cX5_clerkOf 186 = .ok (.aload_n 0, 1) := by decide +kernel
theorem dX5_clerkOf_187 : decode cX5_clerkOf 187 = .ok (.getfield 7, 3) := by decide +kernel
theorem dX5_clerkOf_190 : decode cX5_clerkOf 190 = .ok (.iload_n 3, 1) := by decide +kernel
theorem dX5_clerkOf_191 : decode cX5_clerkOf 191 = .ok (.bipush 6, 2) := by decide +kernel
theorem dX5_clerkOf_193 : decode cX5_clerkOf 193 = .ok (.iadd, 1) := by decide +kernel
theorem dX5_clerkOf_194 : decode cX5_clerkOf 194 = .ok (.iaload, 1) := by decide +kernel
theorem dX5_clerkOf_195 : decode cX5_clerkOf 195 = .ok (.ireturn, 1) := by decide +kernel
set_option maxRecDepth 20000 in
theorem ggX5_goesOn_X5_n : GoodIn wsX5_goesOn wsX5_n := goodIn_r _ [5] (by decide +kernel) (by decide +kernel)
set_option maxRecDepth 20000 in
theorem gX5_goesOn_X5_n : GoodIn wsX5_goesOn (va_wsS RX5 22 yX5_n wsX5_n) := goodIn_app (goodIn_of _ (by decide +kernel)) ggX5_goesOn_X5_n
theorem dX5_goesOn_0 : decode cX5_goesOn 0 = .ok (.iload_n 1, 1) := by decide +kernel
theorem dX5_goesOn_1 : decode cX5_goesOn 1 = .ok (.iconst 1, 1) := by decide +kernel
theorem dX5_goesOn_2 : decode cX5_goesOn 2 = .ok (.if_icmp .le 39, 3) := by decide +kernel
theorem dX5_goesOn_5 : decode cX5_goesOn 5 = .ok (.aload_n 0, 1) := by decide +kernel
theorem dX5_goesOn_6 : decode cX5_goesOn 6 = .ok (.getfield 7, 3) := by decide +kernel
theorem dX5_goesOn_9 : decode cX5_goesOn 9 = .ok (.iload_n 1, 1) := by decide +kernel
theorem dX5_goesOn_10 : decode cX5_goesOn 10 = .ok (.invokestatic 22, 3) := by decide +kernel
theorem dX5_goesOn_13 : decode cX5_goesOn 13 = .ok (.iconst 0, 1) := by decide +kernel
theorem dX5_goesOn_14 : decode cX5_goesOn 14 = .ok (.iadd, 1) := by decide +kernel
theorem dX5_goesOn_15 : decode cX5_goesOn 15 = .ok (.iaload, 1) := by decide +kernel
theorem dX5_goesOn_16 : decode cX5_goesOn 16 = .ok (.iload_n 2, 1) := by decide +kernel
theorem dX5_goesOn_17 : decode cX5_goesOn 17 = .ok (.if_icmp .ne 24, 3) := by decide +kernel
theorem dX5_goesOn_20 : decode cX5_goesOn 20 = .ok (.aload_n 0, 1) := by decide +kernel
theorem dX5_goesOn_21 : decode cX5_goesOn 21 = .ok (.getfield 7, 3) := by decide +kernel
theorem dX5_goesOn_24 : decode cX5_goesOn 24 = .ok (.iload_n 1, 1) := by decide +kernel
theorem dX5_goesOn_25 : decode cX5_goesOn 25 = .ok (.iconst 1, 1) := by decide +kernel
theorem dX5_goesOn_26 : decode cX5_goesOn 26 = .ok (.isub, 1) := by decide +kernel
theorem dX5_goesOn_27 : decode cX5_goesOn 27 = .ok (.invokestatic 22, 3) := by decide +kernel
theorem dX5_goesOn_30 : decode cX5_goesOn 30 = .ok (.iconst 0, 1) := by decide +kernel
theorem dX5_goesOn_31 : decode cX5_goesOn 31 = .ok (.iadd, 1) := by decide +kernel
theorem dX5_goesOn_32 : decode cX5_goesOn 32 = .ok (.iaload, 1) := by decide +kernel
theorem dX5_goesOn_33 : decode cX5_goesOn 33 = .ok (.iload_n 2, 1) := by decide +kernel
theorem dX5_goesOn_34 : decode cX5_goesOn 34 = .ok (.if_icmp .ne 7, 3) := by decide +kernel
theorem dX5_goesOn_37 : decode cX5_goesOn 37 = .ok (.iconst 1, 1) := by decide +kernel
theorem dX5_goesOn_38 : decode cX5_goesOn 38 = .ok (.goto 4, 3) := by decide +kernel
theorem dX5_goesOn_41 : decode cX5_goesOn 41 = .ok (.iconst 0, 1) := by decide +kernel
theorem dX5_goesOn_42 : decode cX5_goesOn 42 = .ok (.istore_n 3, 1) := by decide +kernel
theorem dX5_goesOn_43 : decode cX5_goesOn 43 = .ok (.iload_n 3, 1) := by decide +kernel
theorem dX5_goesOn_44 : decode cX5_goesOn 44 = .ok (.ifCond .eq 66, 3) := by decide +kernel
theorem dX5_goesOn_47 : decode cX5_goesOn 47 = .ok (.iload_n 2, 1) := by decide +kernel
theorem dX5_goesOn_48 : decode cX5_goesOn 48 = .ok (.iconst 3, 1) := by decide +kernel
theorem dX5_goesOn_49 : decode cX5_goesOn 49 = .ok (.if_icmp .eq 57, 3) := by decide +kernel
theorem dX5_goesOn_52 : decode cX5_goesOn 52 = .ok (.aload_n 0, 1) := by decide +kernel
theorem dX5_goesOn_53 : decode cX5_goesOn 53 = .ok (.getfield 7, 3) := by decide +kernel
theorem dX5_goesOn_56 : decode cX5_goesOn 56 = .ok (.iload_n 1, 1) := by decide +kernel
theorem dX5_goesOn_57 : decode cX5_goesOn 57 = .ok (.invokestatic 22, 3) := by decide +kernel
theorem dX5_goesOn_60 : decode cX5_goesOn 60 = .ok (.iconst 4, 1) := by decide +kernel
theorem dX5_goesOn_61 : decode cX5_goesOn 61 = .ok (.iadd, 1) := by decide +kernel
theorem dX5_goesOn_62 : decode cX5_goesOn 62 = .ok (.iaload, 1) := by decide +kernel
theorem dX5_goesOn_63 : decode cX5_goesOn 63 = .ok (.aload_n 0, 1) := by decide +kernel
theorem dX5_goesOn_64 : decode cX5_goesOn 64 = .ok (.getfield 7, 3) := by decide +kernel
theorem dX5_goesOn_67 : decode cX5_goesOn 67 = .ok (.iload_n 1, 1) := by decide +kernel
theorem dX5_goesOn_68 : decode cX5_goesOn 68 = .ok (.iconst 1, 1) := by decide +kernel
theorem dX5_goesOn_69 : decode cX5_goesOn 69 = .ok (.isub, 1) := by decide +kernel
theorem dX5_goesOn_70 : decode cX5_goesOn 70 = .ok (.invokestatic 22, 3) := by decide +kernel
theorem dX5_goesOn_73 : decode cX5_goesOn 73 = .ok (.iconst 4, 1) := by decide +kernel
theorem dX5_goesOn_74 : decode cX5_goesOn 74 = .ok (.iadd, 1) := by decide +kernel
theorem dX5_goesOn_75 : decode cX5_goesOn 75 = .ok (.iaload, 1) := by decide +kernel
theorem dX5_goesOn_76 : decode cX5_goesOn 76 = .ok (.if_icmp .ne 34, 3) := by decide +kernel
theorem dX5_goesOn_79 : decode cX5_goesOn 79 = .ok (.aload_n 0, 1) := by decide +kernel
theorem dX5_goesOn_80 : decode cX5_goesOn 80 = .ok (.getfield 7, 3) := by decide +kernel
theorem dX5_goesOn_83 : decode cX5_goesOn 83 = .ok (.iload_n 1, 1) := by decide +kernel
theorem dX5_goesOn_84 : decode cX5_goesOn 84 = .ok (.invokestatic 22, 3) := by decide +kernel
theorem dX5_goesOn_87 : decode cX5_goesOn 87 = .ok (.iconst 1, 1) := by decide +kernel
theorem dX5_goesOn_88 : decode cX5_goesOn 88 = .ok (.iadd, 1) := by decide +kernel
theorem dX5_goesOn_89 : decode cX5_goesOn 89 = .ok (.iaload, 1) := by decide +kernel
theorem dX5_goesOn_90 : decode cX5_goesOn 90 = .ok (.aload_n 0, 1) := by decide +kernel
theorem dX5_goesOn_91 : decode cX5_goesOn 91 = .ok (.getfield 7, 3) := by decide +kernel
theorem dX5_goesOn_94 : decode cX5_goesOn 94 = .ok (.iload_n 1, 1) := by decide +kernel
theorem dX5_goesOn_95 : decode cX5_goesOn 95 = .ok (.iconst 1, 1) := by decide +kernel
theorem dX5_goesOn_96 : decode cX5_goesOn 96 = .ok (.isub, 1) := by decide +kernel
theorem dX5_goesOn_97 : decode cX5_goesOn 97 = .ok (.invokestatic 22, 3) := by decide +kernel
theorem dX5_goesOn_100 : decode cX5_goesOn 100 = .ok (.iconst 1, 1) := by decide +kernel
theorem dX5_goesOn_101 : decode cX5_goesOn 101 = .ok (.iadd, 1) := by decide +kernel
theorem dX5_goesOn_102 : decode cX5_goesOn 102 = .ok (.iaload, 1) := by decide +kernel
theorem dX5_goesOn_103 : decode cX5_goesOn 103 = .ok (.if_icmp .ne 7, 3) := by decide +kernel
theorem dX5_goesOn_106 : decode cX5_goesOn 106 = .ok (.iconst 1, 1) := by decide +kernel
theorem dX5_goesOn_107 : decode cX5_goesOn 107 = .ok (.goto 4, 3) := by decide +kernel
theorem dX5_goesOn_110 : decode cX5_goesOn 110 = .ok (.iconst 0, 1) := by decide +kernel
theorem dX5_goesOn_111 : decode cX5_goesOn 111 = .ok (.ireturn, 1) := by decide +kernel
set_option maxRecDepth 20000 in
theorem ggX5_rowAt_X5_n : GoodIn wsX5_rowAt wsX5_n := goodIn_r _ [5] (by decide +kernel) (by decide +kernel)
set_option maxRecDepth 20000 in
theorem gX5_rowAt_X5_n : GoodIn wsX5_rowAt (va_wsS RX5 22 yX5_n wsX5_n) := goodIn_app (goodIn_of _ (by decide +kernel)) ggX5_rowAt_X5_n
set_option maxRecDepth 20000 in
theorem ggX5_rowAt_X5_goesOn : GoodIn wsX5_rowAt wsX5_goesOn := goodIn_r _ [9, 1, 2, 3, 4, 5, 10, 11, 12, 13, 14, 15, 16, 17, 18, 19, 20] (by decide +kernel) (by decide +kernel)
set_option maxRecDepth 20000 in
theorem gX5_rowAt_X5_goesOn : GoodIn wsX5_rowAt (wsV RX5 97 RX5 yX5_goesOn wsX5_goesOn) := goodIn_app (goodIn_of _ (by decide +kernel)) ggX5_rowAt_X5_goesOn
theorem dX5_rowAt_0 : decode cX5_rowAt 0 = .ok (.iload_n 1, 1) := by decide +kernel
theorem dX5_rowAt_1 : decode cX5_rowAt 1 = .ok (.istore_n 3, 1) := by decide +kernel
theorem dX5_rowAt_2 : decode cX5_rowAt 2 = .ok (.iconst 1, 1) := by decide +kernel
theorem dX5_rowAt_3 : decode cX5_rowAt 3 = .ok (.istore 4, 2) := by decide +kernel
theorem dX5_rowAt_5 : decode cX5_rowAt 5 = .ok (.iload 4, 2) := by decide +kernel
theorem dX5_rowAt_7 : decode cX5_rowAt 7 = .ok (.sipush 600, 3) := by decide +kernel
theorem dX5_rowAt_10 : decode cX5_rowAt 10 = .ok (.if_icmp .gt 45, 3) := by decide +kernel
theorem dX5_rowAt_13 : decode cX5_rowAt 13 = .ok (.aload_n 0, 1) := by decide +kernel
theorem dX5_rowAt_14 : decode cX5_rowAt 14 = .ok (.getfield 7, 3) := by decide +kernel
theorem dX5_rowAt_17 : decode cX5_rowAt 17 = .ok (.iload 4, 2) := by decide +kernel
theorem dX5_rowAt_19 : decode cX5_rowAt 19 = .ok (.invokestatic 22, 3) := by decide +kernel
theorem dX5_rowAt_22 : decode cX5_rowAt 22 = .ok (.iconst 0, 1) := by decide +kernel
theorem dX5_rowAt_23 : decode cX5_rowAt 23 = .ok (.iadd, 1) := by decide +kernel
theorem dX5_rowAt_24 : decode cX5_rowAt 24 = .ok (.iaload, 1) := by decide +kernel
theorem dX5_rowAt_25 : decode cX5_rowAt 25 = .ok (.iload_n 2, 1) := by decide +kernel
theorem dX5_rowAt_26 : decode cX5_rowAt 26 = .ok (.if_icmp .ne 23, 3) := by decide +kernel
theorem dX5_rowAt_29 : decode cX5_rowAt 29 = .ok (.aload_n 0, 1) := by decide +kernel
theorem dX5_rowAt_30 : decode cX5_rowAt 30 = .ok (.iload 4, 2) := by decide +kernel
theorem dX5_rowAt_32 : decode cX5_rowAt 32 = .ok (.iload_n 2, 1) := by decide +kernel
theorem dX5_rowAt_33 : decode cX5_rowAt 33 = .ok (.invokevirtual 97, 3) := by decide +kernel
theorem dX5_rowAt_36 : decode cX5_rowAt 36 = .ok (.ifCond .ne 13, 3) := by decide +kernel
theorem dX5_rowAt_39 : decode cX5_rowAt 39 = .ok (.iload_n 3, 1) := by decide +kernel
theorem dX5_rowAt_40 : decode cX5_rowAt 40 = .ok (.ifCond .ne 6, 3) := by decide +kernel
theorem dX5_rowAt_43 : decode cX5_rowAt 43 = .ok (.iload 4, 2) := by decide +kernel
theorem dX5_rowAt_45 : decode cX5_rowAt 45 = .ok (.ireturn, 1) := by decide +kernel
theorem dX5_rowAt_46 : decode cX5_rowAt 46 = .ok (.iinc 3 (-1), 3) := by decide +kernel
theorem dX5_rowAt_49 : decode cX5_rowAt 49 = .ok (.iinc 4 1, 3) := by decide +kernel
theorem dX5_rowAt_52 : decode cX5_rowAt 52 = .ok (.goto (-47), 3) := by decide +kernel
theorem dX5_rowAt_55 : decode cX5_rowAt 55 = .ok (.sipush 601, 3) := by decide +kernel
theorem dX5_rowAt_58 : decode cX5_rowAt 58 = .ok (.ireturn, 1) := by decide +kernel
set_option maxRecDepth 20000 in
theorem ggX5_endOf_X5_goesOn : GoodIn wsX5_endOf wsX5_goesOn := goodIn_r _ [5, 6, 7, 8, 4, 9, 10, 11, 12, 13, 14, 15, 16, 17, 18, 19, 20] (by decide +kernel) (by decide +kernel)
set_option maxRecDepth 20000 in
theorem gX5_endOf_X5_goesOn : GoodIn wsX5_endOf (wsV RX5 97 RX5 yX5_goesOn wsX5_goesOn) := goodIn_app (goodIn_of _ (by decide +kernel)) ggX5_endOf_X5_goesOn
theorem dX5_endOf_0 : decode cX5_endOf 0 = .ok (.iload_n 1, 1) := by decide +kernel
theorem dX5_endOf_1 : decode cX5_endOf 1 = .ok (.istore_n 3, 1) := by decide +kernel
theorem dX5_endOf_2 : decode cX5_endOf 2 = .ok (.iload_n 3, 1) := by decide +kernel
theorem dX5_endOf_3 : decode cX5_endOf 3 = .ok (.sipush 600, 3) := by decide +kernel
theorem dX5_endOf_6 : decode cX5_endOf 6 = .ok (.if_icmp .ge 20, 3) := by decide +kernel
theorem dX5_endOf_9 : decode cX5_endOf 9 = .ok (.aload_n 0, 1) := by decide +kernel
theorem dX5_endOf_10 : decode cX5_endOf 10 = .ok (.iload_n 3, 1) := by decide +kernel
theorem dX5_endOf_11 : decode cX5_endOf 11 = .ok (.iconst 1, 1) := by decide +kernel
theorem dX5_endOf_12 : decode cX5_endOf 12 = .ok (.iadd, 1) := by decide +kernel
theorem dX5_endOf_13 : decode cX5_endOf 13 = .ok (.iload_n 2, 1) := by decide +kernel
theorem dX5_endOf_14 : decode cX5_endOf 14 = .ok (.invokevirtual 97, 3) := by decide +kernel
theorem dX5_endOf_17 : decode cX5_endOf 17 = .ok (.ifCond .eq 9, 3) := by decide +kernel
theorem dX5_endOf_20 : decode cX5_endOf 20 = .ok (.iinc 3 1, 3) := by decide +kernel
theorem dX5_endOf_23 : decode cX5_endOf 23 = .ok (.goto (-21), 3) := by decide +kernel
theorem dX5_endOf_26 : decode cX5_endOf 26 = .ok (.iload_n 3, 1) := by decide +kernel
theorem dX5_endOf_27 : decode cX5_endOf 27 = .ok (.ireturn, 1) := by decide +kernel
set_option maxRecDepth 20000 in
theorem ggX5_holesAt_X5_in : GoodIn wsX5_holesAt wsX5_in := goodIn_r _ [5] (by decide +kernel) (by decide +kernel)
set_option maxRecDepth 20000 in
theorem gX5_holesAt_X5_in : GoodIn wsX5_holesAt (va_wsS RX5 30 yX5_in wsX5_in) := goodIn_app (goodIn_of _ (by decide +kernel)) ggX5_holesAt_X5_in
set_option maxRecDepth 20000 in
theorem ggX5_holesAt_X5_rowAt : GoodIn wsX5_holesAt wsX5_rowAt := goodIn_r _ [9, 1, 10, 11, 4, 12, 13, 14, 15, 16, 21, 22, 23, 24, 25, 26, 27, 28, 29, 30, 31] (by decide +kernel) (by decide +kernel)
set_option maxRecDepth 20000 in
theorem gX5_holesAt_X5_rowAt : GoodIn wsX5_holesAt (wsV RX5 100 RX5 yX5_rowAt wsX5_rowAt) := goodIn_app (goodIn_of _ (by decide +kernel)) ggX5_holesAt_X5_rowAt
set_option maxRecDepth 20000 in
theorem ggX5_holesAt_X5_endOf : GoodIn wsX5_holesAt wsX5_endOf := goodIn_r _ [20, 13, 14, 15, 4, 16, 1, 10, 11, 12, 21, 22, 23, 24, 25, 26, 27, 28, 29, 30, 31] (by decide +kernel) (by decide +kernel)
set_option maxRecDepth 20000 in
theorem gX5_holesAt_X5_endOf : GoodIn wsX5_holesAt (wsV RX5 103 RX5 yX5_endOf wsX5_endOf) := goodIn_app (goodIn_of _ (by decide +kernel)) ggX5_holesAt_X5_endOf
set_option maxRecDepth 20000 in
theorem ggX5_holesAt_X5_n : GoodIn wsX5_holesAt wsX5_n := goodIn_r _ [12] (by decide +kernel) (by decide +kernel)
set_option maxRecDepth 20000 in
theorem gX5_holesAt_X5_n : GoodIn wsX5_holesAt (va_wsS RX5 22 yX5_n wsX5_n) := goodIn_app (goodIn_of _ (by decide +kernel)) ggX5_holesAt_X5_n
theorem dX5_holesAt_0 : decode cX5_holesAt 0 = .ok (.iload_n 1, 1) := by decide +kernel
theorem dX5_holesAt_1 : decode cX5_holesAt 1 = .ok (.ifCond .lt 12, 3) := by decide +kernel
theorem dX5_holesAt_4 : decode cX5_holesAt 4 = .ok (.iload_n 2, 1) := by decide +kernel
theorem dX5_holesAt_5 : decode cX5_holesAt 5 = .ok (.iconst 0, 1) := by decide +kernel
theorem dX5_holesAt_6 : decode cX5_holesAt 6 = .ok (.iconst 3, 1) := by decide +kernel
theorem dX5_holesAt_7 : decode cX5_holesAt 7 = .ok (.invokestatic 30, 3) := by decide +kernel
theorem dX5_holesAt_10 : decode cX5_holesAt 10 = .ok (.ifCond .ne 5, 3) := by decide +kernel
theorem dX5_holesAt_13 : decode cX5_holesAt 13 = .ok (.iconst (-1), 1) := by decide +kernel
theorem dX5_holesAt_14 : decode cX5_holesAt 14 = .ok (.ireturn, 1) := by decide +kernel
theorem dX5_holesAt_15 : decode cX5_holesAt 15 = .ok (.aload_n 0, 1) := by decide +kernel
theorem dX5_holesAt_16 : decode cX5_holesAt 16 = .ok (.iload_n 1, 1) := by decide +kernel
theorem dX5_holesAt_17 : decode cX5_holesAt 17 = .ok (.iconst 4, 1) := by decide +kernel
theorem dX5_holesAt_18 : decode cX5_holesAt 18 = .ok (.invokevirtual 100, 3) := by decide +kernel
theorem dX5_holesAt_21 : decode cX5_holesAt 21 = .ok (.istore_n 3, 1) := by decide +kernel
theorem dX5_holesAt_22 : decode cX5_holesAt 22 = .ok (.iload_n 3, 1) := by decide +kernel
theorem dX5_holesAt_23 : decode cX5_holesAt 23 = .ok (.sipush 600, 3) := by decide +kernel
theorem dX5_holesAt_26 : decode cX5_holesAt 26 = .ok (.if_icmp .le 6, 3) := by decide +kernel
theorem dX5_holesAt_29 : decode cX5_holesAt 29 = .ok (.bipush (-4), 2) := by decide +kernel
theorem dX5_holesAt_31 : decode cX5_holesAt 31 = .ok (.ireturn, 1) := by decide +kernel
theorem dX5_holesAt_32 : decode cX5_holesAt 32 = .ok (.iload_n 2, 1) := by decide +kernel
theorem dX5_holesAt_33 : decode cX5_holesAt 33 = .ok (.tableswitch 48 0 2 #[27, 29, 36], 27) := by decide +kernel
theorem dX5_holesAt_60 : decode cX5_holesAt 60 = .ok (.iload_n 3, 1) := by decide +kernel
theorem dX5_holesAt_61 : decode cX5_holesAt 61 = .ok (.ireturn, 1) := by decide +kernel
theorem dX5_holesAt_62 : decode cX5_holesAt 62 = .ok (.aload_n 0, 1) := by decide +kernel
theorem dX5_holesAt_63 : decode cX5_holesAt 63 = .ok (.iload_n 3, 1) := by decide +kernel
theorem dX5_holesAt_64 : decode cX5_holesAt 64 = .ok (.iconst 4, 1) := by decide +kernel
theorem dX5_holesAt_65 : decode cX5_holesAt 65 = .ok (.invokevirtual 103, 3) := by decide +kernel
theorem dX5_holesAt_68 : decode cX5_holesAt 68 = .ok (.ireturn, 1) := by decide +kernel
theorem dX5_holesAt_69 : decode cX5_holesAt 69 = .ok (.aload_n 0, 1) := by decide +kernel
theorem dX5_holesAt_70 : decode cX5_holesAt 70 = .ok (.getfield 7, 3) := by decide +kernel
theorem dX5_holesAt_73 : decode cX5_holesAt 73 = .ok (.iload_n 3, 1) := by decide +kernel
theorem dX5_holesAt_74 : decode cX5_holesAt 74 = .ok (.invokestatic 22, 3) := by decide +kernel
theorem dX5_holesAt_77 : decode cX5_holesAt 77 = .ok (.iconst 4, 1) := by decide +kernel
theorem dX5_holesAt_78 : decode cX5_holesAt 78 = .ok (.iadd, 1) := by decide +kernel
theorem dX5_holesAt_79 : decode cX5_holesAt 79 = .ok (.iaload, 1) := by decide +kernel
theorem dX5_holesAt_80 : decode cX5_holesAt 80 = .ok (.ireturn, 1) := by decide +kernel
theorem dX5_holesAt_81 : decode cX5_holesAt 81 = .ok (.aload_n 0, 1) := by decide +kernel
theorem dX5_holesAt_82 : decode cX5_holesAt 82 = .ok (.getfield 7, 3) := by decide +kernel
theorem dX5_holesAt_85 : decode cX5_holesAt 85 = .ok (.iload_n 3, 1) := by decide +kernel
theorem dX5_holesAt_86 : decode cX5_holesAt 86 = .ok (.invokestatic 22, 3) := by decide +kernel
theorem dX5_holesAt_89 : decode cX5_holesAt 89 = .ok (.iconst 1, 1) := by decide +kernel
theorem dX5_holesAt_90 : decode cX5_holesAt 90 = .ok (.iadd, 1) := by decide +kernel
theorem dX5_holesAt_91 : decode cX5_holesAt 91 = .ok (.iaload, 1) := by decide +kernel
theorem dX5_holesAt_92 : decode cX5_holesAt 92 = .ok (.ifCond .ge 8, 3) := by decide +kernel
theorem dX5_holesAt_95 : decode cX5_holesAt 95 = .ok (.bipush (-4), 2) := by decide +kernel
theorem dX5_holesAt_97 : decode cX5_holesAt 97 = .ok (.goto 14, 3) := by decide +kernel
theorem dX5_holesAt_100 : decode cX5_holesAt 100 = .ok (.aload_n 0, 1) := by decide +kernel
theorem dX5_holesAt_101 : decode cX5_holesAt 101 = .ok (.getfield 7, 3) := by decide +kernel
theorem dX5_holesAt_104 : decode cX5_holesAt 104 = .ok (.iload_n 3, 1) := by decide +kernel
theorem dX5_holesAt_105 : decode cX5_holesAt 105 = .ok (.invokestatic 22, 3) := by decide +kernel
theorem dX5_holesAt_108 : decode cX5_holesAt 108 = .ok (.iconst 1, 1) := by decide +kernel
theorem dX5_holesAt_109 : decode cX5_holesAt 109 = .ok (.iadd, 1) := by decide +kernel
theorem dX5_holesAt_110 : decode cX5_holesAt 110 = .ok (.iaload, 1) := by decide +kernel
theorem dX5_holesAt_111 : decode cX5_holesAt 111 = .ok (.ireturn, 1) := by decide +kernel
set_option maxRecDepth 20000 in
theorem ggX5_freeAt_X5_in : GoodIn wsX5_freeAt wsX5_in := goodIn_r _ [4] (by decide +kernel) (by decide +kernel)
set_option maxRecDepth 20000 in
theorem gX5_freeAt_X5_in : GoodIn wsX5_freeAt (va_wsS RX5 30 yX5_in wsX5_in) := goodIn_app (goodIn_of _ (by decide +kernel)) ggX5_freeAt_X5_in
set_option maxRecDepth 20000 in
theorem ggX5_freeAt_X5_rowAt : GoodIn wsX5_freeAt wsX5_rowAt := goodIn_r _ [8, 9, 10, 11, 3, 12, 13, 14, 15, 16, 21, 22, 23, 24, 25, 26, 27, 28, 29, 30, 31] (by decide +kernel) (by decide +kernel)
set_option maxRecDepth 20000 in
theorem gX5_freeAt_X5_rowAt : GoodIn wsX5_freeAt (wsV RX5 100 RX5 yX5_rowAt wsX5_rowAt) := goodIn_app (goodIn_of _ (by decide +kernel)) ggX5_freeAt_X5_rowAt
set_option maxRecDepth 20000 in
theorem ggX5_freeAt_X5_endOf : GoodIn wsX5_freeAt wsX5_endOf := goodIn_r _ [20, 13, 14, 15, 3, 16, 9, 10, 11, 12, 21, 22, 23, 24, 25, 26, 27, 28, 29, 30, 31] (by decide +kernel) (by decide +kernel)
set_option maxRecDepth 20000 in
theorem gX5_freeAt_X5_endOf : GoodIn wsX5_freeAt (wsV RX5 103 RX5 yX5_endOf wsX5_endOf) := goodIn_app (goodIn_of _ (by decide +kernel)) ggX5_freeAt_X5_endOf
theorem dX5_freeAt_0 : decode cX5_freeAt 0 = .ok (.iload_n 1, 1) := by decide +kernel
theorem dX5_freeAt_1 : decode cX5_freeAt 1 = .ok (.ifCond .lt 12, 3) := by decide +kernel
theorem dX5_freeAt_4 : decode cX5_freeAt 4 = .ok (.iload_n 2, 1) := by decide +kernel
theorem dX5_freeAt_5 : decode cX5_freeAt 5 = .ok (.iconst 0, 1) := by decide +kernel
theorem dX5_freeAt_6 : decode cX5_freeAt 6 = .ok (.iconst 1, 1) := by decide +kernel
theorem dX5_freeAt_7 : decode cX5_freeAt 7 = .ok (.invokestatic 30, 3) := by decide +kernel
theorem dX5_freeAt_10 : decode cX5_freeAt 10 = .ok (.ifCond .ne 5, 3) := by decide +kernel
theorem dX5_freeAt_13 : decode cX5_freeAt 13 = .ok (.iconst (-1), 1) := by decide +kernel
theorem dX5_freeAt_14 : decode cX5_freeAt 14 = .ok (.ireturn, 1) := by decide +kernel
theorem dX5_freeAt_15 : decode cX5_freeAt 15 = .ok (.aload_n 0, 1) := by decide +kernel
theorem dX5_freeAt_16 : decode cX5_freeAt 16 = .ok (.iload_n 1, 1) := by decide +kernel
theorem dX5_freeAt_17 : decode cX5_freeAt 17 = .ok (.iconst 3, 1) := by decide +kernel
theorem dX5_freeAt_18 : decode cX5_freeAt 18 = .ok (.invokevirtual 100, 3) := by decide +kernel
theorem dX5_freeAt_21 : decode cX5_freeAt 21 = .ok (.istore_n 3, 1) := by decide +kernel
theorem dX5_freeAt_22 : decode cX5_freeAt 22 = .ok (.iload_n 3, 1) := by decide +kernel
theorem dX5_freeAt_23 : decode cX5_freeAt 23 = .ok (.sipush 600, 3) := by decide +kernel
theorem dX5_freeAt_26 : decode cX5_freeAt 26 = .ok (.if_icmp .le 8, 3) := by decide +kernel
theorem dX5_freeAt_29 : decode cX5_freeAt 29 = .ok (.bipush (-4), 2) := by decide +kernel
theorem dX5_freeAt_31 : decode cX5_freeAt 31 = .ok (.goto 17, 3) := by decide +kernel
theorem dX5_freeAt_34 : decode cX5_freeAt 34 = .ok (.iload_n 2, 1) := by decide +kernel
theorem dX5_freeAt_35 : decode cX5_freeAt 35 = .ok (.ifCond .ne 7, 3) := by decide +kernel
theorem dX5_freeAt_38 : decode cX5_freeAt 38 = .ok (.iload_n 3, 1) := by decide +kernel
theorem dX5_freeAt_39 : decode cX5_freeAt 39 = .ok (.goto 9, 3) := by decide +kernel
theorem dX5_freeAt_42 : decode cX5_freeAt 42 = .ok (.aload_n 0, 1) := by decide +kernel
theorem dX5_freeAt_43 : decode cX5_freeAt 43 = .ok (.iload_n 3, 1) := by decide +kernel
theorem dX5_freeAt_44 : decode cX5_freeAt 44 = .ok (.iconst 3, 1) := by decide +kernel
theorem dX5_freeAt_45 : decode cX5_freeAt 45 = .ok (.invokevirtual 103, 3) := by decide +kernel
theorem dX5_freeAt_48 : decode cX5_freeAt 48 = .ok (.ireturn, 1) := by decide +kernel
set_option maxRecDepth 20000 in
theorem ggX5_turnAt_X5_n : GoodIn wsX5_turnAt wsX5_n := goodIn_r _ [5] (by decide +kernel) (by decide +kernel)
set_option maxRecDepth 20000 in
theorem gX5_turnAt_X5_n : GoodIn wsX5_turnAt (va_wsS RX5 22 yX5_n wsX5_n) := goodIn_app (goodIn_of _ (by decide +kernel)) ggX5_turnAt_X5_n
theorem dX5_turnAt_0 : decode cX5_turnAt 0 = .ok (.iload_n 1, 1) := by decide +kernel
theorem dX5_turnAt_1 : decode cX5_turnAt 1 = .ok (.ifCond .ge 5, 3) := by decide +kernel
theorem dX5_turnAt_4 : decode cX5_turnAt 4 = .ok (.iconst (-1), 1) := by decide +kernel
theorem dX5_turnAt_5 : decode cX5_turnAt 5 = .ok (.ireturn, 1) := by decide +kernel
theorem dX5_turnAt_6 : decode cX5_turnAt 6 = .ok (.iconst 1, 1) := by decide +kernel
theorem dX5_turnAt_7 : decode cX5_turnAt 7 = .ok (.istore_n 2, 1) := by decide +kernel
theorem dX5_turnAt_8 : decode cX5_turnAt 8 = .ok (.iload_n 2, 1) := by decide +kernel
theorem dX5_turnAt_9 : decode cX5_turnAt 9 = .ok (.sipush 600, 3) := by decide +kernel
theorem dX5_turnAt_12 : decode cX5_turnAt 12 = .ok (.if_icmp .gt 26, 3) := by decide +kernel
theorem dX5_turnAt_15 : decode cX5_turnAt 15 = .ok (.aload_n 0, 1) := by decide +kernel
theorem dX5_turnAt_16 : decode cX5_turnAt 16 = .ok (.getfield 7, 3) := by decide +kernel
theorem dX5_turnAt_19 : decode cX5_turnAt 19 = .ok (.iload_n 2, 1) := by decide +kernel
theorem dX5_turnAt_20 : decode cX5_turnAt 20 = .ok (.invokestatic 22, 3) := by decide +kernel
theorem dX5_turnAt_23 : decode cX5_turnAt 23 = .ok (.iconst 2, 1) := by decide +kernel
theorem dX5_turnAt_24 : decode cX5_turnAt 24 = .ok (.iadd, 1) := by decide +kernel
theorem dX5_turnAt_25 : decode cX5_turnAt 25 = .ok (.iaload, 1) := by decide +kernel
theorem dX5_turnAt_26 : decode cX5_turnAt 26 = .ok (.iload_n 1, 1) := by decide +kernel
theorem dX5_turnAt_27 : decode cX5_turnAt 27 = .ok (.if_icmp .ne 5, 3) := by decide +kernel
theorem dX5_turnAt_30 : decode cX5_turnAt 30 = .ok (.iload_n 2, 1) := by decide +kernel
theorem dX5_turnAt_31 : decode cX5_turnAt 31 = .ok (.ireturn, 1) := by decide +kernel
theorem dX5_turnAt_32 : decode cX5_turnAt 32 = .ok (.iinc 2 1, 3) := by decide +kernel
theorem dX5_turnAt_35 : decode cX5_turnAt 35 = .ok (.goto (-27), 3) := by decide +kernel
theorem dX5_turnAt_38 : decode cX5_turnAt 38 = .ok (.bipush (-4), 2) := by decide +kernel
theorem dX5_turnAt_40 : decode cX5_turnAt 40 = .ok (.ireturn, 1) := by decide +kernel
set_option maxRecDepth 20000 in
theorem ggX5_among_X5_isNumber : GoodIn wsX5_among wsX5_isNumber := goodIn_r _ [5, 6, 7, 4, 8] (by decide +kernel) (by decide +kernel)
set_option maxRecDepth 20000 in
theorem gX5_among_X5_isNumber : GoodIn wsX5_among (va_wsS RX5 85 yX5_isNumber wsX5_isNumber) := goodIn_app (goodIn_of _ (by decide +kernel)) ggX5_among_X5_isNumber
set_option maxRecDepth 20000 in
theorem ggX5_among_X5_in : GoodIn wsX5_among wsX5_in := goodIn_r _ [8] (by decide +kernel) (by decide +kernel)
set_option maxRecDepth 20000 in
theorem gX5_among_X5_in : GoodIn wsX5_among (va_wsS RX5 30 yX5_in wsX5_in) := goodIn_app (goodIn_of _ (by decide +kernel)) ggX5_among_X5_in
set_option maxRecDepth 20000 in
theorem ggX5_among_X5_n : GoodIn wsX5_among wsX5_n := goodIn_r _ [11] (by decide +kernel) (by decide +kernel)
set_option maxRecDepth 20000 in
theorem gX5_among_X5_n : GoodIn wsX5_among (va_wsS RX5 22 yX5_n wsX5_n) := goodIn_app (goodIn_of _ (by decide +kernel)) ggX5_among_X5_n
theorem dX5_among_0 : decode cX5_among 0 = .ok (.iload_n 1, 1) := by decide +kernel
theorem dX5_among_1 : decode cX5_among 1 = .ok (.invokestatic 85, 3) := by decide +kernel
theorem dX5_among_4 : decode cX5_among 4 = .ok (.ifCond .eq 34, 3) := by decide +kernel
theorem dX5_among_7 : decode cX5_among 7 = .ok (.iload_n 2, 1) := by decide +kernel
theorem dX5_among_8 : decode cX5_among 8 = .ok (.iload_n 1, 1) := by decide +kernel
theorem dX5_among_9 : decode cX5_among 9 = .ok (.sipush 600, 3) := by decide +kernel
theorem dX5_among_12 : decode cX5_among 12 = .ok (.invokestatic 30, 3) := by decide +kernel
theorem dX5_among_15 : decode cX5_among 15 = .ok (.ifCond .eq 23, 3) := by decide +kernel
theorem dX5_among_18 : decode cX5_among 18 = .ok (.iload_n 3, 1) := by decide +kernel
theorem dX5_among_19 : decode cX5_among 19 = .ok (.iconst 0, 1) := by decide +kernel
theorem dX5_among_20 : decode cX5_among 20 = .ok (.iconst 4, 1) := by decide +kernel
theorem dX5_among_21 : decode cX5_among 21 = .ok (.invokestatic 30, 3) := by decide +kernel
theorem dX5_among_24 : decode cX5_among 24 = .ok (.ifCond .ne 16, 3) := by decide +kernel
theorem dX5_among_27 : decode cX5_among 27 = .ok (.iload_n 3, 1) := by decide +kernel
theorem dX5_among_28 : decode cX5_among 28 = .ok (.bipush 10, 2) := by decide +kernel
theorem dX5_among_30 : decode cX5_among 30 = .ok (.bipush 13, 2) := by decide +kernel
theorem dX5_among_32 : decode cX5_among 32 = .ok (.invokestatic 30, 3) := by decide +kernel
theorem dX5_among_35 : decode cX5_among 35 = .ok (.ifCond .ne 5, 3) := by decide +kernel
theorem dX5_among_38 : decode cX5_among 38 = .ok (.iconst (-1), 1) := by decide +kernel
theorem dX5_among_39 : decode cX5_among 39 = .ok (.ireturn, 1) := by decide +kernel
theorem dX5_among_40 : decode cX5_among 40 = .ok (.iconst 0, 1) := by decide +kernel
theorem dX5_among_41 : decode cX5_among 41 = .ok (.istore 4, 2) := by decide +kernel
theorem dX5_among_43 : decode cX5_among 43 = .ok (.iload_n 1, 1) := by decide +kernel
theorem dX5_among_44 : decode cX5_among 44 = .ok (.istore 5, 2) := by decide +kernel
theorem dX5_among_46 : decode cX5_among 46 = .ok (.iload 5, 2) := by decide +kernel
theorem dX5_among_48 : decode cX5_among 48 = .ok (.iload_n 2, 1) := by decide +kernel
theorem dX5_among_49 : decode cX5_among 49 = .ok (.if_icmp .gt 78, 3) := by decide +kernel
theorem dX5_among_52 : decode cX5_among 52 = .ok (.aload_n 0, 1) := by decide +kernel
theorem dX5_among_53 : decode cX5_among 53 = .ok (.getfield 7, 3) := by decide +kernel
theorem dX5_among_56 : decode cX5_among 56 = .ok (.iload 5, 2) := by decide +kernel
theorem dX5_among_58 : decode cX5_among 58 = .ok (.invokestatic 22, 3) := by decide +kernel
theorem dX5_among_61 : decode cX5_among 61 = .ok (.iconst 0, 1) := by decide +kernel
theorem dX5_among_62 : decode cX5_among 62 = .ok (.iadd, 1) := by decide +kernel
theorem dX5_among_63 : decode cX5_among 63 = .ok (.iaload, 1) := by decide +kernel
theorem dX5_among_64 : decode cX5_among 64 = .ok (.istore 6, 2) := by decide +kernel
theorem dX5_among_66 : decode cX5_among 66 = .ok (.iload 4, 2) := by decide +kernel
theorem dX5_among_68 : decode cX5_among 68 = .ok (.iload_n 3, 1) := by decide +kernel
theorem dX5_among_69 : decode cX5_among 69 = .ok (.bipush 10, 2) := by decide +kernel
theorem dX5_among_71 : decode cX5_among 71 = .ok (.if_icmp .ge 17, 3) := by decide +kernel
theorem dX5_among_74 : decode cX5_among 74 = .ok (.iload 6, 2) := by decide +kernel
theorem dX5_among_76 : decode cX5_among 76 = .ok (.iload_n 3, 1) := by decide +kernel
theorem dX5_among_77 : decode cX5_among 77 = .ok (.if_icmp .ne 7, 3) := by decide +kernel
theorem dX5_among_80 : decode cX5_among 80 = .ok (.iconst 1, 1) := by decide +kernel
theorem dX5_among_81 : decode cX5_among 81 = .ok (.goto 37, 3) := by decide +kernel
theorem dX5_among_84 : decode cX5_among 84 = .ok (.iconst 0, 1) := by decide +kernel
theorem dX5_among_85 : decode cX5_among 85 = .ok (.goto 33, 3) := by decide +kernel
theorem dX5_among_88 : decode cX5_among 88 = .ok (.iload 6, 2) := by decide +kernel
theorem dX5_among_90 : decode cX5_among 90 = .ok (.iconst 4, 1) := by decide +kernel
theorem dX5_among_91 : decode cX5_among 91 = .ok (.if_icmp .ne 26, 3) := by decide +kernel
theorem dX5_among_94 : decode cX5_among 94 = .ok (.aload_n 0, 1) := by decide +kernel
theorem dX5_among_95 : decode cX5_among 95 = .ok (.getfield 7, 3) := by decide +kernel
theorem dX5_among_98 : decode cX5_among 98 = .ok (.iload 5, 2) := by decide +kernel
theorem dX5_among_100 : decode cX5_among 100 = .ok (.invokestatic 22, 3) := by decide +kernel
theorem dX5_among_103 : decode cX5_among 103 = .ok (.iconst 4, 1) := by decide +kernel
theorem dX5_among_104 : decode cX5_among 104 = .ok (.iadd, 1) := by decide +kernel
theorem dX5_among_105 : decode cX5_among 105 = .ok (.iaload, 1) := by decide +kernel
theorem dX5_among_106 : decode cX5_among 106 = .ok (.iload_n 3, 1) := by decide +kernel
theorem dX5_among_107 : decode cX5_among 107 = .ok (.bipush 10, 2) := by decide +kernel
theorem dX5_among_109 : decode cX5_among 109 = .ok (.isub, 1) := by decide +kernel
theorem dX5_among_110 : decode cX5_among 110 = .ok (.if_icmp .ne 7, 3) := by decide +kernel
theorem dX5_among_113 : decode cX5_among 113 = .ok (.iconst 1, 1) := by decide +kernel
theorem dX5_among_114 : decode cX5_among 114 = .ok (.goto 4, 3) := by decide +kernel
theorem dX5_among_117 : decode cX5_among 117 = .ok (.iconst 0, 1) := by decide +kernel
theorem dX5_among_118 : decode cX5_among 118 = .ok (.iadd, 1) := by decide +kernel
theorem dX5_among_119 : decode cX5_among 119 = .ok (.istore 4, 2) := by decide +kernel
theorem dX5_among_121 : decode cX5_among 121 = .ok (.iinc 5 1, 3) := by decide +kernel
theorem dX5_among_124 : decode cX5_among 124 = .ok (.goto (-78), 3) := by decide +kernel
theorem dX5_among_127 : decode cX5_among 127 = .ok (.iload 4, 2) := by decide +kernel
theorem dX5_among_129 : decode cX5_among 129 = .ok (.ireturn, 1) := by decide +kernel
set_option maxRecDepth 20000 in
theorem ggX5_lateMany_X5_n : GoodIn wsX5_lateMany wsX5_n := goodIn_r _ [5] (by decide +kernel) (by decide +kernel)
set_option maxRecDepth 20000 in
theorem gX5_lateMany_X5_n : GoodIn wsX5_lateMany (va_wsS RX5 22 yX5_n wsX5_n) := goodIn_app (goodIn_of _ (by decide +kernel)) ggX5_lateMany_X5_n
theorem dX5_lateMany_0 : decode cX5_lateMany 0 = .ok (.iconst 0, 1) := by decide +kernel
theorem dX5_lateMany_1 : decode cX5_lateMany 1 = .ok (.istore_n 1, 1) := by decide +kernel
theorem dX5_lateMany_2 : decode cX5_lateMany 2 = .ok (.aload_n 0, 1) := by decide +kernel
theorem dX5_lateMany_3 : decode cX5_lateMany 3 = .ok (.getfield 7, 3) := by decide +kernel
theorem dX5_lateMany_6 : decode cX5_lateMany 6 = .ok (.iconst 5, 1) := by decide +kernel
theorem dX5_lateMany_7 : decode cX5_lateMany 7 = .ok (.iaload, 1) := by decide +kernel
theorem dX5_lateMany_8 : decode cX5_lateMany 8 = .ok (.istore_n 2, 1) := by decide +kernel
theorem dX5_lateMany_9 : decode cX5_lateMany 9 = .ok (.sipush 600, 3) := by decide +kernel
theorem dX5_lateMany_12 : decode cX5_lateMany 12 = .ok (.istore_n 3, 1) := by decide +kernel
theorem dX5_lateMany_13 : decode cX5_lateMany 13 = .ok (.iload_n 3, 1) := by decide +kernel
theorem dX5_lateMany_14 : decode cX5_lateMany 14 = .ok (.ifCond .le 54, 3) := by decide +kernel
theorem dX5_lateMany_17 : decode cX5_lateMany 17 = .ok (.aload_n 0, 1) := by decide +kernel
theorem dX5_lateMany_18 : decode cX5_lateMany 18 = .ok (.getfield 7, 3) := by decide +kernel
theorem dX5_lateMany_21 : decode cX5_lateMany 21 = .ok (.iload_n 3, 1) := by decide +kernel
theorem dX5_lateMany_22 : decode cX5_lateMany 22 = .ok (.invokestatic 22, 3) := by decide +kernel
theorem dX5_lateMany_25 : decode cX5_lateMany 25 = .ok (.iconst 2, 1) := by decide +kernel
theorem dX5_lateMany_26 : decode cX5_lateMany 26 = .ok (.iadd, 1) := by decide +kernel
theorem dX5_lateMany_27 : decode cX5_lateMany 27 = .ok (.iaload, 1) := by decide +kernel
theorem dX5_lateMany_28 : decode cX5_lateMany 28 = .ok (.istore 4, 2) := by decide +kernel
theorem dX5_lateMany_30 : decode cX5_lateMany 30 = .ok (.iload_n 1, 1) := by decide +kernel
theorem dX5_lateMany_31 : decode cX5_lateMany 31 = .ok (.iload 4, 2) := by decide +kernel
theorem dX5_lateMany_33 : decode cX5_lateMany 33 = .ok (.iload_n 2, 1) := by decide +kernel
theorem dX5_lateMany_34 : decode cX5_lateMany 34 = .ok (.if_icmp .le 7, 3) := by decide +kernel
theorem dX5_lateMany_37 : decode cX5_lateMany 37 = .ok (.iconst 1, 1) := by decide +kernel
theorem dX5_lateMany_38 : decode cX5_lateMany 38 = .ok (.goto 4, 3) := by decide +kernel
theorem dX5_lateMany_41 : decode cX5_lateMany 41 = .ok (.iconst 0, 1) := by decide +kernel
theorem dX5_lateMany_42 : decode cX5_lateMany 42 = .ok (.iadd, 1) := by decide +kernel
theorem dX5_lateMany_43 : decode cX5_lateMany 43 = .ok (.istore_n 1, 1) := by decide +kernel
theorem dX5_lateMany_44 : decode cX5_lateMany 44 = .ok (.iload 4, 2) := by decide +kernel
theorem dX5_lateMany_46 : decode cX5_lateMany 46 = .ok (.ifCond .lt 14, 3) := by decide +kernel
theorem dX5_lateMany_49 : decode cX5_lateMany 49 = .ok (.iload 4, 2) := by decide +kernel
theorem dX5_lateMany_51 : decode cX5_lateMany 51 = .ok (.iload_n 2, 1) := by decide +kernel
theorem dX5_lateMany_52 : decode cX5_lateMany 52 = .ok (.if_icmp .ge 8, 3) := by decide +kernel
theorem dX5_lateMany_55 : decode cX5_lateMany 55 = .ok (.iload 4, 2) := by decide +kernel
theorem dX5_lateMany_57 : decode cX5_lateMany 57 = .ok (.goto 4, 3) := by decide +kernel
theorem dX5_lateMany_60 : decode cX5_lateMany 60 = .ok (.iload_n 2, 1) := by decide +kernel
theorem dX5_lateMany_61 : decode cX5_lateMany 61 = .ok (.istore_n 2, 1) := by decide +kernel
theorem dX5_lateMany_62 : decode cX5_lateMany 62 = .ok (.iinc 3 (-1), 3) := by decide +kernel
theorem dX5_lateMany_65 : decode cX5_lateMany 65 = .ok (.goto (-52), 3) := by decide +kernel
theorem dX5_lateMany_68 : decode cX5_lateMany 68 = .ok (.iload_n 1, 1) := by decide +kernel
theorem dX5_lateMany_69 : decode cX5_lateMany 69 = .ok (.ireturn, 1) := by decide +kernel
set_option maxRecDepth 20000 in
theorem ggX5_rows_X5_n : GoodIn wsX5_rows wsX5_n := goodIn_r _ [5] (by decide +kernel) (by decide +kernel)
set_option maxRecDepth 20000 in
theorem gX5_rows_X5_n : GoodIn wsX5_rows (va_wsS RX5 22 yX5_n wsX5_n) := goodIn_app (goodIn_of _ (by decide +kernel)) ggX5_rows_X5_n
set_option maxRecDepth 20000 in
theorem ggX5_rows_X5_goesOn : GoodIn wsX5_rows wsX5_goesOn := goodIn_r _ [9, 1, 2, 3, 4, 5, 10, 11, 12, 13, 14, 15, 16, 17, 18, 19, 20] (by decide +kernel) (by decide +kernel)
set_option maxRecDepth 20000 in
theorem gX5_rows_X5_goesOn : GoodIn wsX5_rows (wsV RX5 97 RX5 yX5_goesOn wsX5_goesOn) := goodIn_app (goodIn_of _ (by decide +kernel)) ggX5_rows_X5_goesOn
theorem dX5_rows_0 : decode cX5_rows 0 = .ok (.iconst 0, 1) := by decide +kernel
theorem dX5_rows_1 : decode cX5_rows 1 = .ok (.istore_n 1, 1) := by decide +kernel
theorem dX5_rows_2 : decode cX5_rows 2 = .ok (.iconst 1, 1) := by decide +kernel
theorem dX5_rows_3 : decode cX5_rows 3 = .ok (.istore_n 2, 1) := by decide +kernel
theorem dX5_rows_4 : decode cX5_rows 4 = .ok (.iload_n 2, 1) := by decide +kernel
theorem dX5_rows_5 : decode cX5_rows 5 = .ok (.sipush 600, 3) := by decide +kernel
theorem dX5_rows_8 : decode cX5_rows 8 = .ok (.if_icmp .gt 41, 3) := by decide +kernel
theorem dX5_rows_11 : decode cX5_rows 11 = .ok (.iload_n 1, 1) := by decide +kernel
theorem dX5_rows_12 : decode cX5_rows 12 = .ok (.aload_n 0, 1) := by decide +kernel
theorem dX5_rows_13 : decode cX5_rows 13 = .ok (.getfield 7, 3) := by decide +kernel
theorem dX5_rows_16 : decode cX5_rows 16 = .ok (.iload_n 2, 1) := by decide +kernel
theorem dX5_rows_17 : decode cX5_rows 17 = .ok (.invokestatic 22, 3) := by decide +kernel
theorem dX5_rows_20 : decode cX5_rows 20 = .ok (.iconst 0, 1) := by decide +kernel
theorem dX5_rows_21 : decode cX5_rows 21 = .ok (.iadd, 1) := by decide +kernel
theorem dX5_rows_22 : decode cX5_rows 22 = .ok (.iaload, 1) := by decide +kernel
theorem dX5_rows_23 : decode cX5_rows 23 = .ok (.iconst 4, 1) := by decide +kernel
theorem dX5_rows_24 : decode cX5_rows 24 = .ok (.if_icmp .ne 16, 3) := by decide +kernel
theorem dX5_rows_27 : decode cX5_rows 27 = .ok (.aload_n 0, 1) := by decide +kernel
theorem dX5_rows_28 : decode cX5_rows 28 = .ok (.iload_n 2, 1) := by decide +kernel
theorem dX5_rows_29 : decode cX5_rows 29 = .ok (.iconst 4, 1) := by decide +kernel
theorem dX5_rows_30 : decode cX5_rows 30 = .ok (.invokevirtual 97, 3) := by decide +kernel
theorem dX5_rows_33 : decode cX5_rows 33 = .ok (.ifCond .ne 7, 3) := by decide +kernel
theorem dX5_rows_36 : decode cX5_rows 36 = .ok (.iconst 1, 1) := by decide +kernel
theorem dX5_rows_37 : decode cX5_rows 37 = .ok (.goto 4, 3) := by decide +kernel
theorem dX5_rows_40 : decode cX5_rows 40 = .ok (.iconst 0, 1) := by decide +kernel
theorem dX5_rows_41 : decode cX5_rows 41 = .ok (.iadd, 1) := by decide +kernel
theorem dX5_rows_42 : decode cX5_rows 42 = .ok (.istore_n 1, 1) := by decide +kernel
theorem dX5_rows_43 : decode cX5_rows 43 = .ok (.iinc 2 1, 3) := by decide +kernel
theorem dX5_rows_46 : decode cX5_rows 46 = .ok (.goto (-42), 3) := by decide +kernel
theorem dX5_rows_49 : decode cX5_rows 49 = .ok (.iload_n 1, 1) := by decide +kernel
theorem dX5_rows_50 : decode cX5_rows 50 = .ok (.ireturn, 1) := by decide +kernel
set_option maxRecDepth 20000 in
theorem ggX5_whole_X5_n : GoodIn wsX5_whole wsX5_n := goodIn_r _ [5] (by decide +kernel) (by decide +kernel)
set_option maxRecDepth 20000 in
theorem gX5_whole_X5_n : GoodIn wsX5_whole (va_wsS RX5 22 yX5_n wsX5_n) := goodIn_app (goodIn_of _ (by decide +kernel)) ggX5_whole_X5_n
theorem dX5_whole_0 : decode cX5_whole 0 = .ok (.iconst 1, 1) := by decide +kernel
theorem dX5_whole_1 : decode cX5_whole 1 = .ok (.istore_n 1, 1) := by decide +kernel
theorem dX5_whole_2 : decode cX5_whole 2 = .ok (.iload_n 1, 1) := by decide +kernel
theorem dX5_whole_3 : decode cX5_whole 3 = .ok (.sipush 600, 3) := by decide +kernel
theorem dX5_whole_6 : decode cX5_whole 6 = .ok (.if_icmp .gt 24, 3) := by decide +kernel
theorem dX5_whole_9 : decode cX5_whole 9 = .ok (.aload_n 0, 1) := by decide +kernel
theorem dX5_whole_10 : decode cX5_whole 10 = .ok (.getfield 7, 3) := by decide +kernel
theorem dX5_whole_13 : decode cX5_whole 13 = .ok (.iload_n 1, 1) := by decide +kernel
theorem dX5_whole_14 : decode cX5_whole 14 = .ok (.invokestatic 22, 3) := by decide +kernel
theorem dX5_whole_17 : decode cX5_whole 17 = .ok (.iconst 0, 1) := by decide +kernel
theorem dX5_whole_18 : decode cX5_whole 18 = .ok (.iadd, 1) := by decide +kernel
theorem dX5_whole_19 : decode cX5_whole 19 = .ok (.iaload, 1) := by decide +kernel
theorem dX5_whole_20 : decode cX5_whole 20 = .ok (.iconst 2, 1) := by decide +kernel
theorem dX5_whole_21 : decode cX5_whole 21 = .ok (.if_icmp .ne 9, 3) := by decide +kernel
theorem dX5_whole_24 : decode cX5_whole 24 = .ok (.iinc 1 1, 3) := by decide +kernel
theorem dX5_whole_27 : decode cX5_whole 27 = .ok (.goto (-25), 3) := by decide +kernel
theorem dX5_whole_30 : decode cX5_whole 30 = .ok (.iload_n 1, 1) := by decide +kernel
theorem dX5_whole_31 : decode cX5_whole 31 = .ok (.iconst 1, 1) := by decide +kernel
theorem dX5_whole_32 : decode cX5_whole 32 = .ok (.isub, 1) := by decide +kernel
theorem dX5_whole_33 : decode cX5_whole 33 = .ok (.ireturn, 1) := by decide +kernel
set_option maxRecDepth 20000 in
theorem ggX5_count_X5_many : GoodIn wsX5_count wsX5_many := goodIn_r _ [8, 1, 9, 10, 7, 11, 35, 36, 37, 38, 39, 40, 41, 42, 43, 44, 45] (by decide +kernel) (by decide +kernel)
set_option maxRecDepth 20000 in
theorem gX5_count_X5_many : GoodIn wsX5_count (wsV RX5 57 RX5 yX5_many wsX5_many) := goodIn_app (goodIn_of _ (by decide +kernel)) ggX5_count_X5_many
set_option maxRecDepth 20000 in
theorem ggX5_count_X5_lowest : GoodIn wsX5_count wsX5_lowest := goodIn_r _ [15, 1, 9, 10, 7, 11, 35, 36, 37, 38, 39, 40, 41, 42, 43, 44, 45] (by decide +kernel) (by decide +kernel)
set_option maxRecDepth 20000 in
theorem gX5_count_X5_lowest : GoodIn wsX5_count (wsV RX5 43 RX5 yX5_lowest wsX5_lowest) := goodIn_app (goodIn_of _ (by decide +kernel)) ggX5_count_X5_lowest
set_option maxRecDepth 20000 in
theorem ggX5_count_X5_lateMany : GoodIn wsX5_count wsX5_lateMany := goodIn_r _ [19, 1, 9, 10, 7, 11, 35, 36, 37, 38, 39, 40, 41, 42, 43, 44, 45] (by decide +kernel) (by decide +kernel)
set_option maxRecDepth 20000 in
theorem gX5_count_X5_lateMany : GoodIn wsX5_count (wsV RX5 106 RX5 yX5_lateMany wsX5_lateMany) := goodIn_app (goodIn_of _ (by decide +kernel)) ggX5_count_X5_lateMany
set_option maxRecDepth 20000 in
theorem ggX5_count_X5_whole : GoodIn wsX5_count wsX5_whole := goodIn_r _ [23, 1, 9, 10, 7, 11, 35, 36, 37, 38, 39, 40, 41, 42, 43, 44, 45] (by decide +kernel) (by decide +kernel)
set_option maxRecDepth 20000 in
theorem gX5_count_X5_whole : GoodIn wsX5_count (wsV RX5 109 RX5 yX5_whole wsX5_whole) := goodIn_app (goodIn_of _ (by decide +kernel)) ggX5_count_X5_whole
set_option maxRecDepth 20000 in
theorem ggX5_count_X5_rows : GoodIn wsX5_count wsX5_rows := goodIn_r _ [27, 1, 9, 10, 7, 11, 28, 29, 30, 31, 35, 36, 37, 38, 39, 40, 41, 42, 43, 44, 45] (by decide +kernel) (by decide +kernel)
set_option maxRecDepth 20000 in
theorem gX5_count_X5_rows : GoodIn wsX5_count (wsV RX5 112 RX5 yX5_rows wsX5_rows) := goodIn_app (goodIn_of _ (by decide +kernel)) ggX5_count_X5_rows
set_option maxRecDepth 20000 in
theorem ggX5_count_X5_in : GoodIn wsX5_count wsX5_in := goodIn_r _ [34] (by decide +kernel) (by decide +kernel)
set_option maxRecDepth 20000 in
theorem gX5_count_X5_in : GoodIn wsX5_count (va_wsS RX5 30 yX5_in wsX5_in) := goodIn_app (goodIn_of _ (by decide +kernel)) ggX5_count_X5_in
theorem dX5_count_0 : decode cX5_count 0 = .ok (.iload_n 1, 1) := by decide +kernel
theorem dX5_count_1 : decode cX5_count 1 = .ok (.tableswitch 133 0 11 #[63, 70, 77, 84, 90, 96, 102, 108, 113, 118, 123, 128], 63) := by decide +kernel
theorem dX5_count_64 : decode cX5_count 64 = .ok (.aload_n 0, 1) := by decide +kernel
theorem dX5_count_65 : decode cX5_count 65 = .ok (.getfield 7, 3) := by decide +kernel
theorem dX5_count_68 : decode cX5_count 68 = .ok (.iconst 3, 1) := by decide +kernel
theorem dX5_count_69 : decode cX5_count 69 = .ok (.iaload, 1) := by decide +kernel
theorem dX5_count_70 : decode cX5_count 70 = .ok (.ireturn, 1) := by decide +kernel
theorem dX5_count_71 : decode cX5_count 71 = .ok (.aload_n 0, 1) := by decide +kernel
theorem dX5_count_72 : decode cX5_count 72 = .ok (.getfield 7, 3) := by decide +kernel
theorem dX5_count_75 : decode cX5_count 75 = .ok (.iconst 4, 1) := by decide +kernel
theorem dX5_count_76 : decode cX5_count 76 = .ok (.iaload, 1) := by decide +kernel
theorem dX5_count_77 : decode cX5_count 77 = .ok (.ireturn, 1) := by decide +kernel
theorem dX5_count_78 : decode cX5_count 78 = .ok (.aload_n 0, 1) := by decide +kernel
theorem dX5_count_79 : decode cX5_count 79 = .ok (.getfield 7, 3) := by decide +kernel
theorem dX5_count_82 : decode cX5_count 82 = .ok (.iconst 5, 1) := by decide +kernel
theorem dX5_count_83 : decode cX5_count 83 = .ok (.iaload, 1) := by decide +kernel
theorem dX5_count_84 : decode cX5_count 84 = .ok (.ireturn, 1) := by decide +kernel
theorem dX5_count_85 : decode cX5_count 85 = .ok (.aload_n 0, 1) := by decide +kernel
theorem dX5_count_86 : decode cX5_count 86 = .ok (.iconst 1, 1) := by decide +kernel
theorem dX5_count_87 : decode cX5_count 87 = .ok (.invokevirtual 57, 3) := by decide +kernel
theorem dX5_count_90 : decode cX5_count 90 = .ok (.ireturn, 1) := by decide +kernel
theorem dX5_count_91 : decode cX5_count 91 = .ok (.aload_n 0, 1) := by decide +kernel
theorem dX5_count_92 : decode cX5_count 92 = .ok (.iconst 3, 1) := by decide +kernel
theorem dX5_count_93 : decode cX5_count 93 = .ok (.invokevirtual 57, 3) := by decide +kernel
theorem dX5_count_96 : decode cX5_count 96 = .ok (.ireturn, 1) := by decide +kernel
theorem dX5_count_97 : decode cX5_count 97 = .ok (.aload_n 0, 1) := by decide +kernel
theorem dX5_count_98 : decode cX5_count 98 = .ok (.iconst 4, 1) := by decide +kernel
theorem dX5_count_99 : decode cX5_count 99 = .ok (.invokevirtual 57, 3) := by decide +kernel
theorem dX5_count_102 : decode cX5_count 102 = .ok (.ireturn, 1) := by decide +kernel
theorem dX5_count_103 : decode cX5_count 103 = .ok (.aload_n 0, 1) := by decide +kernel
theorem dX5_count_104 : decode cX5_count 104 = .ok (.iconst 0, 1) := by decide +kernel
theorem dX5_count_105 : decode cX5_count 105 = .ok (.invokevirtual 43, 3) := by decide +kernel
theorem dX5_count_108 : decode cX5_count 108 = .ok (.ireturn, 1) := by decide +kernel
theorem dX5_count_109 : decode cX5_count 109 = .ok (.aload_n 0, 1) := by decide +kernel
theorem dX5_count_110 : decode cX5_count 110 = .ok (.invokevirtual 106, 3) := by decide +kernel
theorem dX5_count_113 : decode cX5_count 113 = .ok (.ireturn, 1) := by decide +kernel
theorem dX5_count_114 : decode cX5_count 114 = .ok (.aload_n 0, 1) := by decide +kernel
theorem dX5_count_115 : decode cX5_count 115 = .ok (.invokevirtual 109, 3) := by decide +kernel
theorem dX5_count_118 : decode cX5_count 118 = .ok (.ireturn, 1) := by decide +kernel
theorem dX5_count_119 : decode cX5_count 119 = .ok (.aload_n 0, 1) := by decide +kernel
theorem dX5_count_120 : decode cX5_count 120 = .ok (.invokevirtual 112, 3) := by decide +kernel
theorem dX5_count_123 : decode cX5_count 123 = .ok (.ireturn, 1) := by decide +kernel
theorem dX5_count_124 : decode cX5_count 124 = .ok (.aload_n 0, 1) := by decide +kernel
theorem dX5_count_125 : decode cX5_count 125 = .ok (.getfield 26, 3) := by decide +kernel
theorem dX5_count_128 : decode cX5_count 128 = .ok (.ireturn, 1) := by decide +kernel
theorem dX5_count_129 : decode cX5_count 129 = .ok (.aload_n 0, 1) := by decide +kernel
theorem dX5_count_130 : decode cX5_count 130 = .ok (.getfield 115, 3) := by decide +kernel
theorem dX5_count_133 : decode cX5_count 133 = .ok (.ireturn, 1) := by decide +kernel
theorem dX5_count_134 : decode cX5_count 134 = .ok (.iload_n 1, 1) := by decide +kernel
theorem dX5_count_135 : decode cX5_count 135 = .ok (.bipush 20, 2) := by decide +kernel
theorem dX5_count_137 : decode cX5_count 137 = .ok (.bipush 22, 2) := by decide +kernel
theorem dX5_count_139 : decode cX5_count 139 = .ok (.invokestatic 30, 3) := by decide +kernel
theorem dX5_count_142 : decode cX5_count 142 = .ok (.ifCond .eq 15, 3) := by decide +kernel
theorem dX5_count_145 : decode cX5_count 145 = .ok (.aload_n 0, 1) := by decide +kernel
theorem dX5_count_146 : decode cX5_count 146 = .ok (.getfield 7, 3) := by decide +kernel
theorem dX5_count_149 : decode cX5_count 149 = .ok (.iload_n 1, 1) := by decide +kernel
theorem dX5_count_150 : decode cX5_count 150 = .ok (.bipush 20, 2) := by decide +kernel
theorem dX5_count_152 : decode cX5_count 152 = .ok (.isub, 1) := by decide +kernel
theorem dX5_count_153 : decode cX5_count 153 = .ok (.iaload, 1) := by decide +kernel
theorem dX5_count_154 : decode cX5_count 154 = .ok (.goto 4, 3) := by decide +kernel
theorem dX5_count_157 : decode cX5_count 157 = .ok (.iconst (-1), 1) := by decide +kernel
theorem dX5_count_158 : decode cX5_count 158 = .ok (.ireturn, 1) := by decide +kernel
set_option maxRecDepth 20000 in
theorem ggX5_next_X5_isClerk : GoodIn wsX5_next wsX5_isClerk := goodIn_r _ [6, 1, 7, 8, 5, 9, 28, 29, 30, 31, 32, 33, 34, 35, 36, 37, 38] (by decide +kernel) (by decide +kernel)
set_option maxRecDepth 20000 in
theorem gX5_next_X5_isClerk : GoodIn wsX5_next (wsV RX5 63 RX5 yX5_isClerk wsX5_isClerk) := goodIn_app (goodIn_of _ (by decide +kernel)) ggX5_next_X5_isClerk
set_option maxRecDepth 20000 in
theorem ggX5_next_X5_holds : GoodIn wsX5_next wsX5_holds := goodIn_r _ [13, 1, 14, 15, 5, 16, 28, 29, 30, 31, 32, 33, 34, 35, 36, 37, 38] (by decide +kernel) (by decide +kernel)
set_option maxRecDepth 20000 in
theorem gX5_next_X5_holds : GoodIn wsX5_next (wsV RX5 50 RX5 yX5_holds wsX5_holds) := goodIn_app (goodIn_of _ (by decide +kernel)) ggX5_next_X5_holds
set_option maxRecDepth 20000 in
theorem ggX5_next_X5_c : GoodIn wsX5_next wsX5_c := goodIn_r _ [16] (by decide +kernel) (by decide +kernel)
set_option maxRecDepth 20000 in
theorem gX5_next_X5_c : GoodIn wsX5_next (va_wsS RX5 34 yX5_c wsX5_c) := goodIn_app (goodIn_of _ (by decide +kernel)) ggX5_next_X5_c
set_option maxRecDepth 20000 in
theorem ggX5_next_X5_blockFrom : GoodIn wsX5_next wsX5_blockFrom := goodIn_r _ [20, 1, 21, 22, 23, 5, 24, 25, 26, 27, 28, 29, 30, 31, 32, 33, 34, 35, 36, 37, 38] (by decide +kernel) (by decide +kernel)
set_option maxRecDepth 20000 in
theorem gX5_next_X5_blockFrom : GoodIn wsX5_next (wsV RX5 46 RX5 yX5_blockFrom wsX5_blockFrom) := goodIn_app (goodIn_of _ (by decide +kernel)) ggX5_next_X5_blockFrom
theorem dX5_next_0 : decode cX5_next 0 = .ok (.aload_n 0, 1) := by decide +kernel
theorem dX5_next_1 : decode cX5_next 1 = .ok (.iload_n 1, 1) := by decide +kernel
theorem dX5_next_2 : decode cX5_next 2 = .ok (.invokevirtual 63, 3) := by decide +kernel
theorem dX5_next_5 : decode cX5_next 5 = .ok (.ifCond .ne 5, 3) := by decide +kernel
theorem dX5_next_8 : decode cX5_next 8 = .ok (.iconst (-1), 1) := by decide +kernel
theorem dX5_next_9 : decode cX5_next 9 = .ok (.ireturn, 1) := by decide +kernel
theorem dX5_next_10 : decode cX5_next 10 = .ok (.aload_n 0, 1) := by decide +kernel
theorem dX5_next_11 : decode cX5_next 11 = .ok (.iload_n 1, 1) := by decide +kernel
theorem dX5_next_12 : decode cX5_next 12 = .ok (.invokevirtual 50, 3) := by decide +kernel
theorem dX5_next_15 : decode cX5_next 15 = .ok (.ifCond .le 17, 3) := by decide +kernel
theorem dX5_next_18 : decode cX5_next 18 = .ok (.aload_n 0, 1) := by decide +kernel
theorem dX5_next_19 : decode cX5_next 19 = .ok (.getfield 7, 3) := by decide +kernel
theorem dX5_next_22 : decode cX5_next 22 = .ok (.iload_n 1, 1) := by decide +kernel
theorem dX5_next_23 : decode cX5_next 23 = .ok (.invokestatic 34, 3) := by decide +kernel
theorem dX5_next_26 : decode cX5_next 26 = .ok (.iconst 1, 1) := by decide +kernel
theorem dX5_next_27 : decode cX5_next 27 = .ok (.iadd, 1) := by decide +kernel
theorem dX5_next_28 : decode cX5_next 28 = .ok (.iaload, 1) := by decide +kernel
theorem dX5_next_29 : decode cX5_next 29 = .ok (.goto 7, 3) := by decide +kernel
theorem dX5_next_32 : decode cX5_next 32 = .ok (.aload_n 0, 1) := by decide +kernel
theorem dX5_next_33 : decode cX5_next 33 = .ok (.invokevirtual 46, 3) := by decide +kernel
theorem dX5_next_36 : decode cX5_next 36 = .ok (.istore_n 2, 1) := by decide +kernel
theorem dX5_next_37 : decode cX5_next 37 = .ok (.iload_n 2, 1) := by decide +kernel
theorem dX5_next_38 : decode cX5_next 38 = .ok (.sipush 600, 3) := by decide +kernel
theorem dX5_next_41 : decode cX5_next 41 = .ok (.if_icmp .le 8, 3) := by decide +kernel
theorem dX5_next_44 : decode cX5_next 44 = .ok (.bipush (-3), 2) := by decide +kernel
theorem dX5_next_46 : decode cX5_next 46 = .ok (.goto 4, 3) := by decide +kernel
theorem dX5_next_49 : decode cX5_next 49 = .ok (.iload_n 2, 1) := by decide +kernel
theorem dX5_next_50 : decode cX5_next 50 = .ok (.ireturn, 1) := by decide +kernel
set_option maxRecDepth 20000 in
theorem ggX5_cost_X5_isClerk : GoodIn wsX5_cost wsX5_isClerk := goodIn_r _ [5, 6, 7, 8, 4, 9, 65, 66, 67, 68, 69, 70, 71, 72, 73, 74, 75] (by decide +kernel) (by decide +kernel)
set_option maxRecDepth 20000 in
theorem gX5_cost_X5_isClerk : GoodIn wsX5_cost (wsV RX5 63 RX5 yX5_isClerk wsX5_isClerk) := goodIn_app (goodIn_of _ (by decide +kernel)) ggX5_cost_X5_isClerk
set_option maxRecDepth 20000 in
theorem ggX5_cost_X5_in : GoodIn wsX5_cost wsX5_in := goodIn_r _ [9] (by decide +kernel) (by decide +kernel)
set_option maxRecDepth 20000 in
theorem gX5_cost_X5_in : GoodIn wsX5_cost (va_wsS RX5 30 yX5_in wsX5_in) := goodIn_app (goodIn_of _ (by decide +kernel)) ggX5_cost_X5_in
set_option maxRecDepth 20000 in
theorem ggX5_cost_X5_canAsk : GoodIn wsX5_cost wsX5_canAsk := goodIn_r _ [13, 6, 14, 15, 16, 4, 17, 18, 19, 20, 21, 22, 23, 24, 25, 26, 27, 65, 66, 67, 68, 69, 70, 71, 72, 73, 74, 75] (by decide +kernel) (by decide +kernel)
set_option maxRecDepth 20000 in
theorem gX5_cost_X5_canAsk : GoodIn wsX5_cost (wsV RX5 67 RX5 yX5_canAsk wsX5_canAsk) := goodIn_app (goodIn_of _ (by decide +kernel)) ggX5_cost_X5_canAsk
set_option maxRecDepth 20000 in
theorem ggX5_cost_X5_layAside : GoodIn wsX5_cost wsX5_layAside := goodIn_r _ [31, 32, 6, 65, 66, 67, 68, 69, 70, 71, 72, 73, 74, 75] (by decide +kernel) (by decide +kernel)
set_option maxRecDepth 20000 in
theorem gX5_cost_X5_layAside : GoodIn wsX5_cost (wsV RX5 118 RX5 yX5_layAside wsX5_layAside) := goodIn_app (goodIn_of _ (by decide +kernel)) ggX5_cost_X5_layAside
set_option maxRecDepth 20000 in
theorem ggX5_cost_X5_goAsk : GoodIn wsX5_cost wsX5_goAsk := goodIn_r _ [36, 6, 37, 38, 39, 4, 40, 18, 19, 20, 14, 15, 16, 17, 41, 42, 43, 44, 45, 46, 47, 48, 49, 50, 51, 52, 25, 26, 27, 65, 66, 67, 68, 69, 70, 71, 72, 73, 74, 75] (by decide +kernel) (by decide +kernel)
set_option maxRecDepth 20000 in
theorem gX5_cost_X5_goAsk : GoodIn wsX5_cost (wsV RX5 71 RX5 yX5_goAsk wsX5_goAsk) := goodIn_app (goodIn_of _ (by decide +kernel)) ggX5_cost_X5_goAsk
set_option maxRecDepth 20000 in
theorem ggX5_cost_X5_goForget : GoodIn wsX5_cost wsX5_goForget := goodIn_r _ [56, 6, 18, 19, 4, 20, 14, 15, 16, 17, 57, 58, 59, 60, 25, 26, 27, 65, 66, 67, 68, 69, 70, 71, 72, 73, 74, 75] (by decide +kernel) (by decide +kernel)
set_option maxRecDepth 20000 in
theorem gX5_cost_X5_goForget : GoodIn wsX5_cost (wsV RX5 79 RX5 yX5_goForget wsX5_goForget) := goodIn_app (goodIn_of _ (by decide +kernel)) ggX5_cost_X5_goForget
set_option maxRecDepth 20000 in
theorem ggX5_cost_X5_layBack : GoodIn wsX5_cost wsX5_layBack := goodIn_r _ [64, 6, 32, 65, 66, 67, 68, 69, 70, 71, 72, 73, 74, 75] (by decide +kernel) (by decide +kernel)
set_option maxRecDepth 20000 in
theorem gX5_cost_X5_layBack : GoodIn wsX5_cost (wsV RX5 121 RX5 yX5_layBack wsX5_layBack) := goodIn_app (goodIn_of _ (by decide +kernel)) ggX5_cost_X5_layBack
theorem dX5_cost_0 : decode cX5_cost 0 = .ok (.aload_n 0, 1) := by decide +kernel
theorem dX5_cost_1 : decode cX5_cost 1 = .ok (.iload_n 1, 1) := by decide +kernel
theorem dX5_cost_2 : decode cX5_cost 2 = .ok (.invokevirtual 63, 3) := by decide +kernel
theorem dX5_cost_5 : decode cX5_cost 5 = .ok (.ifCond .eq 13, 3) := by decide +kernel
theorem dX5_cost_8 : decode cX5_cost 8 = .ok (.iload_n 2, 1) := by decide +kernel
theorem dX5_cost_9 : decode cX5_cost 9 = .ok (.iconst 0, 1) := by decide +kernel
theorem dX5_cost_10 : decode cX5_cost 10 = .ok (.bipush 50, 2) := by decide +kernel
theorem dX5_cost_12 : decode cX5_cost 12 = .ok (.invokestatic 30, 3) := by decide +kernel
theorem dX5_cost_15 : decode cX5_cost 15 = .ok (.ifCond .ne 5, 3) := by decide +kernel
theorem dX5_cost_18 : decode cX5_cost 18 = .ok (.iconst (-1), 1) := by decide +kernel
theorem dX5_cost_19 : decode cX5_cost 19 = .ok (.ireturn, 1) := by decide +kernel
theorem dX5_cost_20 : decode cX5_cost 20 = .ok (.aload_n 0, 1) := by decide +kernel
theorem dX5_cost_21 : decode cX5_cost 21 = .ok (.iload_n 1, 1) := by decide +kernel
theorem dX5_cost_22 : decode cX5_cost 22 = .ok (.iload_n 2, 1) := by decide +kernel
theorem dX5_cost_23 : decode cX5_cost 23 = .ok (.invokevirtual 67, 3) := by decide +kernel
theorem dX5_cost_26 : decode cX5_cost 26 = .ok (.ifCond .ne 6, 3) := by decide +kernel
theorem dX5_cost_29 : decode cX5_cost 29 = .ok (.bipush (-3), 2) := by decide +kernel
theorem dX5_cost_31 : decode cX5_cost 31 = .ok (.ireturn, 1) := by decide +kernel
theorem dX5_cost_32 : decode cX5_cost 32 = .ok (.aload_n 0, 1) := by decide +kernel
theorem dX5_cost_33 : decode cX5_cost 33 = .ok (.invokevirtual 118, 3) := by decide +kernel
theorem dX5_cost_36 : decode cX5_cost 36 = .ok (.aload_n 0, 1) := by decide +kernel
theorem dX5_cost_37 : decode cX5_cost 37 = .ok (.iload_n 1, 1) := by decide +kernel
theorem dX5_cost_38 : decode cX5_cost 38 = .ok (.iload_n 2, 1) := by decide +kernel
theorem dX5_cost_39 : decode cX5_cost 39 = .ok (.invokevirtual 71, 3) := by decide +kernel
theorem dX5_cost_42 : decode cX5_cost 42 = .ok (.pop, 1) := by decide +kernel
theorem dX5_cost_43 : decode cX5_cost 43 = .ok (.aload_n 0, 1) := by decide +kernel
theorem dX5_cost_44 : decode cX5_cost 44 = .ok (.iload_n 1, 1) := by decide +kernel
theorem dX5_cost_45 : decode cX5_cost 45 = .ok (.invokevirtual 79, 3) := by decide +kernel
theorem dX5_cost_48 : decode cX5_cost 48 = .ok (.istore_n 3, 1) := by decide +kernel
theorem dX5_cost_49 : decode cX5_cost 49 = .ok (.aload_n 0, 1) := by decide +kernel
theorem dX5_cost_50 : decode cX5_cost 50 = .ok (.invokevirtual 121, 3) := by decide +kernel
theorem dX5_cost_53 : decode cX5_cost 53 = .ok (.iload_n 3, 1) := by decide +kernel
theorem dX5_cost_54 : decode cX5_cost 54 = .ok (.ireturn, 1) := by decide +kernel
set_option maxRecDepth 20000 in
theorem ggX5_forgets_X5_c : GoodIn wsX5_forgets wsX5_c := goodIn_r _ [5] (by decide +kernel) (by decide +kernel)
set_option maxRecDepth 20000 in
theorem gX5_forgets_X5_c : GoodIn wsX5_forgets (va_wsS RX5 34 yX5_c wsX5_c) := goodIn_app (goodIn_of _ (by decide +kernel)) ggX5_forgets_X5_c
set_option maxRecDepth 20000 in
theorem ggX5_forgets_X5_holds : GoodIn wsX5_forgets wsX5_holds := goodIn_r _ [9, 1, 2, 3, 4, 5, 10, 11, 12, 13, 14, 15, 16, 17, 18, 19, 20] (by decide +kernel) (by decide +kernel)
set_option maxRecDepth 20000 in
theorem gX5_forgets_X5_holds : GoodIn wsX5_forgets (wsV RX5 50 RX5 yX5_holds wsX5_holds) := goodIn_app (goodIn_of _ (by decide +kernel)) ggX5_forgets_X5_holds
theorem dX5_forgets_0 : decode cX5_forgets 0 = .ok (.iload_n 1, 1) := by decide +kernel
theorem dX5_forgets_1 : decode cX5_forgets 1 = .ok (.invokestatic 34, 3) := by decide +kernel
theorem dX5_forgets_4 : decode cX5_forgets 4 = .ok (.istore_n 2, 1) := by decide +kernel
theorem dX5_forgets_5 : decode cX5_forgets 5 = .ok (.aload_n 0, 1) := by decide +kernel
theorem dX5_forgets_6 : decode cX5_forgets 6 = .ok (.getfield 7, 3) := by decide +kernel
theorem dX5_forgets_9 : decode cX5_forgets 9 = .ok (.iload_n 2, 1) := by decide +kernel
theorem dX5_forgets_10 : decode cX5_forgets 10 = .ok (.iconst 3, 1) := by decide +kernel
theorem dX5_forgets_11 : decode cX5_forgets 11 = .ok (.iadd, 1) := by decide +kernel
theorem dX5_forgets_12 : decode cX5_forgets 12 = .ok (.iaload, 1) := by decide +kernel
theorem dX5_forgets_13 : decode cX5_forgets 13 = .ok (.aload_n 0, 1) := by decide +kernel
theorem dX5_forgets_14 : decode cX5_forgets 14 = .ok (.getfield 7, 3) := by decide +kernel
theorem dX5_forgets_17 : decode cX5_forgets 17 = .ok (.iload_n 2, 1) := by decide +kernel
theorem dX5_forgets_18 : decode cX5_forgets 18 = .ok (.iconst 2, 1) := by decide +kernel
theorem dX5_forgets_19 : decode cX5_forgets 19 = .ok (.iadd, 1) := by decide +kernel
theorem dX5_forgets_20 : decode cX5_forgets 20 = .ok (.iaload, 1) := by decide +kernel
theorem dX5_forgets_21 : decode cX5_forgets 21 = .ok (.if_icmp .ge 14, 3) := by decide +kernel
theorem dX5_forgets_24 : decode cX5_forgets 24 = .ok (.aload_n 0, 1) := by decide +kernel
theorem dX5_forgets_25 : decode cX5_forgets 25 = .ok (.getfield 7, 3) := by decide +kernel
theorem dX5_forgets_28 : decode cX5_forgets 28 = .ok (.iload_n 2, 1) := by decide +kernel
theorem dX5_forgets_29 : decode cX5_forgets 29 = .ok (.iconst 3, 1) := by decide +kernel
theorem dX5_forgets_30 : decode cX5_forgets 30 = .ok (.iadd, 1) := by decide +kernel
theorem dX5_forgets_31 : decode cX5_forgets 31 = .ok (.iaload, 1) := by decide +kernel
theorem dX5_forgets_32 : decode cX5_forgets 32 = .ok (.goto 11, 3) := by decide +kernel
theorem dX5_forgets_35 : decode cX5_forgets 35 = .ok (.aload_n 0, 1) := by decide +kernel
theorem dX5_forgets_36 : decode cX5_forgets 36 = .ok (.getfield 7, 3) := by decide +kernel
theorem dX5_forgets_39 : decode cX5_forgets 39 = .ok (.iload_n 2, 1) := by decide +kernel
theorem dX5_forgets_40 : decode cX5_forgets 40 = .ok (.iconst 2, 1) := by decide +kernel
theorem dX5_forgets_41 : decode cX5_forgets 41 = .ok (.iadd, 1) := by decide +kernel
theorem dX5_forgets_42 : decode cX5_forgets 42 = .ok (.iaload, 1) := by decide +kernel
theorem dX5_forgets_43 : decode cX5_forgets 43 = .ok (.istore_n 3, 1) := by decide +kernel
theorem dX5_forgets_44 : decode cX5_forgets 44 = .ok (.aload_n 0, 1) := by decide +kernel
theorem dX5_forgets_45 : decode cX5_forgets 45 = .ok (.iload_n 1, 1) := by decide +kernel
theorem dX5_forgets_46 : decode cX5_forgets 46 = .ok (.invokevirtual 50, 3) := by decide +kernel
theorem dX5_forgets_49 : decode cX5_forgets 49 = .ok (.ifCond .eq 15, 3) := by decide +kernel
theorem dX5_forgets_52 : decode cX5_forgets 52 = .ok (.iload_n 3, 1) := by decide +kernel
theorem dX5_forgets_53 : decode cX5_forgets 53 = .ok (.aload_n 0, 1) := by decide +kernel
theorem dX5_forgets_54 : decode cX5_forgets 54 = .ok (.getfield 7, 3) := by decide +kernel
theorem dX5_forgets_57 : decode cX5_forgets 57 = .ok (.iload_n 2, 1) := by decide +kernel
theorem dX5_forgets_58 : decode cX5_forgets 58 = .ok (.iconst 1, 1) := by decide +kernel
theorem dX5_forgets_59 : decode cX5_forgets 59 = .ok (.iadd, 1) := by decide +kernel
theorem dX5_forgets_60 : decode cX5_forgets 60 = .ok (.iaload, 1) := by decide +kernel
theorem dX5_forgets_61 : decode cX5_forgets 61 = .ok (.if_icmp .ge 7, 3) := by decide +kernel
theorem dX5_forgets_64 : decode cX5_forgets 64 = .ok (.iconst 0, 1) := by decide +kernel
theorem dX5_forgets_65 : decode cX5_forgets 65 = .ok (.goto 15, 3) := by decide +kernel
theorem dX5_forgets_68 : decode cX5_forgets 68 = .ok (.iload_n 3, 1) := by decide +kernel
theorem dX5_forgets_69 : decode cX5_forgets 69 = .ok (.aload_n 0, 1) := by decide +kernel
theorem dX5_forgets_70 : decode cX5_forgets 70 = .ok (.getfield 7, 3) := by decide +kernel
theorem dX5_forgets_73 : decode cX5_forgets 73 = .ok (.iload_n 2, 1) := by decide +kernel
theorem dX5_forgets_74 : decode cX5_forgets 74 = .ok (.iconst 1, 1) := by decide +kernel
theorem dX5_forgets_75 : decode cX5_forgets 75 = .ok (.iadd, 1) := by decide +kernel
theorem dX5_forgets_76 : decode cX5_forgets 76 = .ok (.iaload, 1) := by decide +kernel
theorem dX5_forgets_77 : decode cX5_forgets 77 = .ok (.isub, 1) := by decide +kernel
theorem dX5_forgets_78 : decode cX5_forgets 78 = .ok (.iconst 1, 1) := by decide +kernel
theorem dX5_forgets_79 : decode cX5_forgets 79 = .ok (.iadd, 1) := by decide +kernel
theorem dX5_forgets_80 : decode cX5_forgets 80 = .ok (.ireturn, 1) := by decide +kernel
set_option maxRecDepth 20000 in
theorem ggX5_worst_X5_forgets : GoodIn wsX5_worst wsX5_forgets := goodIn_r _ [6, 1, 7, 8, 5, 9, 10, 11, 12, 13, 14, 15, 16, 17, 18, 19, 20, 21, 22, 23, 24] (by decide +kernel) (by decide +kernel)
set_option maxRecDepth 20000 in
theorem gX5_worst_X5_forgets : GoodIn wsX5_worst (wsV RX5 124 RX5 yX5_forgets wsX5_forgets) := goodIn_app (goodIn_of _ (by decide +kernel)) ggX5_worst_X5_forgets
theorem dX5_worst_0 : decode cX5_worst 0 = .ok (.bipush (-4), 2) := by decide +kernel
theorem dX5_worst_2 : decode cX5_worst 2 = .ok (.istore_n 1, 1) := by decide +kernel
theorem dX5_worst_3 : decode cX5_worst 3 = .ok (.iconst 0, 1) := by decide +kernel
theorem dX5_worst_4 : decode cX5_worst 4 = .ok (.istore_n 2, 1) := by decide +kernel
theorem dX5_worst_5 : decode cX5_worst 5 = .ok (.iconst 0, 1) := by decide +kernel
theorem dX5_worst_6 : decode cX5_worst 6 = .ok (.istore_n 3, 1) := by decide +kernel
theorem dX5_worst_7 : decode cX5_worst 7 = .ok (.iload_n 3, 1) := by decide +kernel
theorem dX5_worst_8 : decode cX5_worst 8 = .ok (.aload_n 0, 1) := by decide +kernel
theorem dX5_worst_9 : decode cX5_worst 9 = .ok (.getfield 7, 3) := by decide +kernel
theorem dX5_worst_12 : decode cX5_worst 12 = .ok (.iconst 3, 1) := by decide +kernel
theorem dX5_worst_13 : decode cX5_worst 13 = .ok (.iaload, 1) := by decide +kernel
theorem dX5_worst_14 : decode cX5_worst 14 = .ok (.if_icmp .ge 43, 3) := by decide +kernel
theorem dX5_worst_17 : decode cX5_worst 17 = .ok (.aload_n 0, 1) := by decide +kernel
theorem dX5_worst_18 : decode cX5_worst 18 = .ok (.iload_n 3, 1) := by decide +kernel
theorem dX5_worst_19 : decode cX5_worst 19 = .ok (.invokevirtual 124, 3) := by decide +kernel
theorem dX5_worst_22 : decode cX5_worst 22 = .ok (.iload_n 2, 1) := by decide +kernel
theorem dX5_worst_23 : decode cX5_worst 23 = .ok (.if_icmp .le 7, 3) := by decide +kernel
theorem dX5_worst_26 : decode cX5_worst 26 = .ok (.iload_n 3, 1) := by decide +kernel
theorem dX5_worst_27 : decode cX5_worst 27 = .ok (.goto 4, 3) := by decide +kernel
theorem dX5_worst_30 : decode cX5_worst 30 = .ok (.iload_n 1, 1) := by decide +kernel
theorem dX5_worst_31 : decode cX5_worst 31 = .ok (.istore_n 1, 1) := by decide +kernel
theorem dX5_worst_32 : decode cX5_worst 32 = .ok (.aload_n 0, 1) := by decide +kernel
theorem dX5_worst_33 : decode cX5_worst 33 = .ok (.iload_n 3, 1) := by decide +kernel
theorem dX5_worst_34 : decode cX5_worst 34 = .ok (.invokevirtual 124, 3) := by decide +kernel
theorem dX5_worst_37 : decode cX5_worst 37 = .ok (.iload_n 2, 1) := by decide +kernel
theorem dX5_worst_38 : decode cX5_worst 38 = .ok (.if_icmp .le 11, 3) := by decide +kernel
theorem dX5_worst_41 : decode cX5_worst 41 = .ok (.aload_n 0, 1) := by decide +kernel
theorem dX5_worst_42 : decode cX5_worst 42 = .ok (.iload_n 3, 1) := by decide +kernel
theorem dX5_worst_43 : decode cX5_worst 43 = .ok (.invokevirtual 124, 3) := by decide +kernel
theorem dX5_worst_46 : decode cX5_worst 46 = .ok (.goto 4, 3) := by decide +kernel
theorem dX5_worst_49 : decode cX5_worst 49 = .ok (.iload_n 2, 1) := by decide +kernel
theorem dX5_worst_50 : decode cX5_worst 50 = .ok (.istore_n 2, 1) := by decide +kernel
theorem dX5_worst_51 : decode cX5_worst 51 = .ok (.iinc 3 1, 3) := by decide +kernel
theorem dX5_worst_54 : decode cX5_worst 54 = .ok (.goto (-47), 3) := by decide +kernel
theorem dX5_worst_57 : decode cX5_worst 57 = .ok (.iload_n 1, 1) := by decide +kernel
theorem dX5_worst_58 : decode cX5_worst 58 = .ok (.ireturn, 1) := by decide +kernel
theorem dX5_undo_0 : decode cX5_undo 0 = .ok (.aload_n 0, 1) := by decide +kernel
theorem dX5_undo_1 : decode cX5_undo 1 = .ok (.getfield 26, 3) := by decide +kernel
theorem dX5_undo_4 : decode cX5_undo 4 = .ok (.ifCond .ne 6, 3) := by decide +kernel
theorem dX5_undo_7 : decode cX5_undo 7 = .ok (.bipush (-2), 2) := by decide +kernel
theorem dX5_undo_9 : decode cX5_undo 9 = .ok (.ireturn, 1) := by decide +kernel
theorem dX5_undo_10 : decode cX5_undo 10 = .ok (.aload_n 0, 1) := by decide +kernel
theorem dX5_undo_11 : decode cX5_undo 11 = .ok (.dup, 1) := by decide +kernel
theorem dX5_undo_12 : decode cX5_undo 12 = .ok (.getfield 26, 3) := by decide +kernel
theorem dX5_undo_15 : decode cX5_undo 15 = .ok (.iconst 1, 1) := by decide +kernel
theorem dX5_undo_16 : decode cX5_undo 16 = .ok (.isub, 1) := by decide +kernel
theorem dX5_undo_17 : decode cX5_undo 17 = .ok (.putfield 26, 3) := by decide +kernel
theorem dX5_undo_20 : decode cX5_undo 20 = .ok (.iconst 0, 1) := by decide +kernel
theorem dX5_undo_21 : decode cX5_undo 21 = .ok (.istore_n 1, 1) := by decide +kernel
theorem dX5_undo_22 : decode cX5_undo 22 = .ok (.iload_n 1, 1) := by decide +kernel
theorem dX5_undo_23 : decode cX5_undo 23 = .ok (.sipush 3053, 3) := by decide +kernel
theorem dX5_undo_26 : decode cX5_undo 26 = .ok (.if_icmp .ge 30, 3) := by decide +kernel
theorem dX5_undo_29 : decode cX5_undo 29 = .ok (.aload_n 0, 1) := by decide +kernel
theorem dX5_undo_30 : decode cX5_undo 30 = .ok (.getfield 7, 3) := by decide +kernel
theorem dX5_undo_33 : decode cX5_undo 33 = .ok (.iload_n 1, 1) := by decide +kernel
theorem dX5_undo_34 : decode cX5_undo 34 = .ok (.aload_n 0, 1) := by decide +kernel
theorem dX5_undo_35 : decode cX5_undo 35 = .ok (.getfield 13, 3) := by decide +kernel
theorem dX5_undo_38 : decode cX5_undo 38 = .ok (.sipush 3053, 3) := by decide +kernel
theorem dX5_undo_41 : decode cX5_undo 41 = .ok (.aload_n 0, 1) := by decide +kernel
theorem dX5_undo_42 : decode cX5_undo 42 = .ok (.getfield 26, 3) := by decide +kernel
theorem dX5_undo_45 : decode cX5_undo 45 = .ok (.imul, 1) := by decide +kernel
theorem dX5_undo_46 : decode cX5_undo 46 = .ok (.iload_n 1, 1) := by decide +kernel
theorem dX5_undo_47 : decode cX5_undo 47 = .ok (.iadd, 1) := by decide +kernel
theorem dX5_undo_48 : decode cX5_undo 48 = .ok (.iaload, 1) := by decide +kernel
theorem dX5_undo_49 : decode cX5_undo 49 = .ok (.iastore, 1) := by decide +kernel
theorem dX5_undo_50 : decode cX5_undo 50 = .ok (.iinc 1 1, 3) := by decide +kernel
theorem dX5_undo_53 : decode cX5_undo 53 = .ok (.goto (-31), 3) := by decide +kernel
theorem dX5_undo_56 : decode cX5_undo 56 = .ok (.aload_n 0, 1) := by decide +kernel
theorem dX5_undo_57 : decode cX5_undo 57 = .ok (.getfield 26, 3) := by decide +kernel
theorem dX5_undo_60 : decode cX5_undo 60 = .ok (.ireturn, 1) := by decide +kernel
set_option maxRecDepth 20000 in
theorem ggX5_type_X5_in : GoodIn wsX5_type wsX5_in := goodIn_r _ [6] (by decide +kernel) (by decide +kernel)
set_option maxRecDepth 20000 in
theorem gX5_type_X5_in : GoodIn wsX5_type (va_wsS RX5 30 yX5_in wsX5_in) := goodIn_app (goodIn_of _ (by decide +kernel)) ggX5_type_X5_in
theorem dX5_type_0 : decode cX5_type 0 = .ok (.iload_n 1, 1) := by decide +kernel
theorem dX5_type_1 : decode cX5_type 1 = .ok (.bipush 32, 2) := by decide +kernel
theorem dX5_type_3 : decode cX5_type 3 = .ok (.bipush 126, 2) := by decide +kernel
theorem dX5_type_5 : decode cX5_type 5 = .ok (.invokestatic 30, 3) := by decide +kernel
theorem dX5_type_8 : decode cX5_type 8 = .ok (.ifCond .ne 5, 3) := by decide +kernel
theorem dX5_type_11 : decode cX5_type 11 = .ok (.iconst (-1), 1) := by decide +kernel
theorem dX5_type_12 : decode cX5_type 12 = .ok (.ireturn, 1) := by decide +kernel
theorem dX5_type_13 : decode cX5_type 13 = .ok (.aload_n 0, 1) := by decide +kernel
theorem dX5_type_14 : decode cX5_type 14 = .ok (.getfield 115, 3) := by decide +kernel
theorem dX5_type_17 : decode cX5_type 17 = .ok (.bipush 80, 2) := by decide +kernel
theorem dX5_type_19 : decode cX5_type 19 = .ok (.if_icmp .ne 6, 3) := by decide +kernel
theorem dX5_type_22 : decode cX5_type 22 = .ok (.bipush (-3), 2) := by decide +kernel
theorem dX5_type_24 : decode cX5_type 24 = .ok (.ireturn, 1) := by decide +kernel
theorem dX5_type_25 : decode cX5_type 25 = .ok (.aload_n 0, 1) := by decide +kernel
theorem dX5_type_26 : decode cX5_type 26 = .ok (.getfield 19, 3) := by decide +kernel
theorem dX5_type_29 : decode cX5_type 29 = .ok (.aload_n 0, 1) := by decide +kernel
theorem dX5_type_30 : decode cX5_type 30 = .ok (.getfield 115, 3) := by decide +kernel
theorem dX5_type_33 : decode cX5_type 33 = .ok (.iload_n 1, 1) := by decide +kernel
theorem dX5_type_34 : decode cX5_type 34 = .ok (.iastore, 1) := by decide +kernel
theorem dX5_type_35 : decode cX5_type 35 = .ok (.aload_n 0, 1) := by decide +kernel
theorem dX5_type_36 : decode cX5_type 36 = .ok (.dup, 1) := by decide +kernel
theorem dX5_type_37 : decode cX5_type 37 = .ok (.getfield 115, 3) := by decide +kernel
theorem dX5_type_40 : decode cX5_type 40 = .ok (.iconst 1, 1) := by decide +kernel
theorem dX5_type_41 : decode cX5_type 41 = .ok (.iadd, 1) := by decide +kernel
theorem dX5_type_42 : decode cX5_type 42 = .ok (.putfield 115, 3) := by decide +kernel
theorem dX5_type_45 : decode cX5_type 45 = .ok (.aload_n 0, 1) := by decide +kernel
theorem dX5_type_46 : decode cX5_type 46 = .ok (.getfield 115, 3) := by decide +kernel
theorem dX5_type_49 : decode cX5_type 49 = .ok (.ireturn, 1) := by decide +kernel
theorem dX5_clearText_0 : decode cX5_clearText 0 = .ok (.aload_n 0, 1) := by decide +kernel
theorem dX5_clearText_1 : decode cX5_clearText 1 = .ok (.getfield 115, 3) := by decide +kernel
theorem dX5_clearText_4 : decode cX5_clearText 4 = .ok (.istore_n 1, 1) := by decide +kernel
theorem dX5_clearText_5 : decode cX5_clearText 5 = .ok (.aload_n 0, 1) := by decide +kernel
theorem dX5_clearText_6 : decode cX5_clearText 6 = .ok (.iconst 0, 1) := by decide +kernel
theorem dX5_clearText_7 : decode cX5_clearText 7 = .ok (.putfield 115, 3) := by decide +kernel
theorem dX5_clearText_10 : decode cX5_clearText 10 = .ok (.iload_n 1, 1) := by decide +kernel
theorem dX5_clearText_11 : decode cX5_clearText 11 = .ok (.ireturn, 1) := by decide +kernel
theorem dX5_has_0 : decode cX5_has 0 = .ok (.iload_n 2, 1) := by decide +kernel
theorem dX5_has_1 : decode cX5_has 1 = .ok (.ifCond .eq 31, 3) := by decide +kernel
theorem dX5_has_4 : decode cX5_has 4 = .ok (.aload_n 0, 1) := by decide +kernel
theorem dX5_has_5 : decode cX5_has 5 = .ok (.getfield 127, 3) := by decide +kernel
theorem dX5_has_8 : decode cX5_has 8 = .ok (.iload_n 1, 1) := by decide +kernel
theorem dX5_has_9 : decode cX5_has 9 = .ok (.iadd, 1) := by decide +kernel
theorem dX5_has_10 : decode cX5_has 10 = .ok (.aload_n 0, 1) := by decide +kernel
theorem dX5_has_11 : decode cX5_has 11 = .ok (.getfield 115, 3) := by decide +kernel
theorem dX5_has_14 : decode cX5_has 14 = .ok (.if_icmp .ge 22, 3) := by decide +kernel
theorem dX5_has_17 : decode cX5_has 17 = .ok (.aload_n 0, 1) := by decide +kernel
theorem dX5_has_18 : decode cX5_has 18 = .ok (.getfield 19, 3) := by decide +kernel
theorem dX5_has_21 : decode cX5_has 21 = .ok (.aload_n 0, 1) := by decide +kernel
theorem dX5_has_22 : decode cX5_has 22 = .ok (.getfield 127, 3) := by decide +kernel
theorem dX5_has_25 : decode cX5_has 25 = .ok (.iload_n 1, 1) := by decide +kernel
theorem dX5_has_26 : decode cX5_has 26 = .ok (.iadd, 1) := by decide +kernel
theorem dX5_has_27 : decode cX5_has 27 = .ok (.iaload, 1) := by decide +kernel
theorem dX5_has_28 : decode cX5_has 28 = .ok (.iload_n 2, 1) := by decide +kernel
theorem dX5_has_29 : decode cX5_has 29 = .ok (.if_icmp .ne 7, 3) := by decide +kernel
theorem dX5_has_32 : decode cX5_has 32 = .ok (.iconst 1, 1) := by decide +kernel
theorem dX5_has_33 : decode cX5_has 33 = .ok (.goto 4, 3) := by decide +kernel
theorem dX5_has_36 : decode cX5_has 36 = .ok (.iconst 0, 1) := by decide +kernel
theorem dX5_has_37 : decode cX5_has 37 = .ok (.ireturn, 1) := by decide +kernel
theorem dX5_one_0 : decode cX5_one 0 = .ok (.iload_n 0, 1) := by decide +kernel
theorem dX5_one_1 : decode cX5_one 1 = .ok (.ifCond .ne 7, 3) := by decide +kernel
theorem dX5_one_4 : decode cX5_one 4 = .ok (.iconst 0, 1) := by decide +kernel
theorem dX5_one_5 : decode cX5_one 5 = .ok (.goto 4, 3) := by decide +kernel
theorem dX5_one_8 : decode cX5_one 8 = .ok (.iconst 1, 1) := by decide +kernel
theorem dX5_one_9 : decode cX5_one 9 = .ok (.ireturn, 1) := by decide +kernel
set_option maxRecDepth 20000 in
theorem ggX5_sees_X5_has : GoodIn wsX5_sees wsX5_has := goodIn_r _ [6, 1, 7, 8, 12, 13, 14, 15, 16, 17, 18, 19, 20, 21, 22] (by decide +kernel) (by decide +kernel)
set_option maxRecDepth 20000 in
theorem gX5_sees_X5_has : GoodIn wsX5_sees (wsV RX5 130 RX5 yX5_has wsX5_has) := goodIn_app (goodIn_of _ (by decide +kernel)) ggX5_sees_X5_has
set_option maxRecDepth 20000 in
theorem ggX5_sees_X5_one : GoodIn wsX5_sees wsX5_one := goodIn_r _ [11] (by decide +kernel) (by decide +kernel)
set_option maxRecDepth 20000 in
theorem gX5_sees_X5_one : GoodIn wsX5_sees (va_wsS RX5 133 yX5_one wsX5_one) := goodIn_app (goodIn_of _ (by decide +kernel)) ggX5_sees_X5_one
theorem dX5_sees_0 : decode cX5_sees 0 = .ok (.aload_n 0, 1) := by decide +kernel
theorem dX5_sees_1 : decode cX5_sees 1 = .ok (.iconst 0, 1) := by decide +kernel
theorem dX5_sees_2 : decode cX5_sees 2 = .ok (.iload_n 1, 1) := by decide +kernel
theorem dX5_sees_3 : decode cX5_sees 3 = .ok (.invokevirtual 130, 3) := by decide +kernel
theorem dX5_sees_6 : decode cX5_sees 6 = .ok (.ifCond .eq 66, 3) := by decide +kernel
theorem dX5_sees_9 : decode cX5_sees 9 = .ok (.aload_n 0, 1) := by decide +kernel
theorem dX5_sees_10 : decode cX5_sees 10 = .ok (.iconst 1, 1) := by decide +kernel
theorem dX5_sees_11 : decode cX5_sees 11 = .ok (.iload_n 2, 1) := by decide +kernel
theorem dX5_sees_12 : decode cX5_sees 12 = .ok (.invokevirtual 130, 3) := by decide +kernel
theorem dX5_sees_15 : decode cX5_sees 15 = .ok (.ifCond .eq 57, 3) := by decide +kernel
theorem dX5_sees_18 : decode cX5_sees 18 = .ok (.aload_n 0, 1) := by decide +kernel
theorem dX5_sees_19 : decode cX5_sees 19 = .ok (.iconst 2, 1) := by decide +kernel
theorem dX5_sees_20 : decode cX5_sees 20 = .ok (.iload_n 3, 1) := by decide +kernel
theorem dX5_sees_21 : decode cX5_sees 21 = .ok (.invokevirtual 130, 3) := by decide +kernel
theorem dX5_sees_24 : decode cX5_sees 24 = .ok (.ifCond .eq 48, 3) := by decide +kernel
theorem dX5_sees_27 : decode cX5_sees 27 = .ok (.aload_n 0, 1) := by decide +kernel
theorem dX5_sees_28 : decode cX5_sees 28 = .ok (.iconst 3, 1) := by decide +kernel
theorem dX5_sees_29 : decode cX5_sees 29 = .ok (.iload 4, 2) := by decide +kernel
theorem dX5_sees_31 : decode cX5_sees 31 = .ok (.invokevirtual 130, 3) := by decide +kernel
theorem dX5_sees_34 : decode cX5_sees 34 = .ok (.ifCond .eq 38, 3) := by decide +kernel
theorem dX5_sees_37 : decode cX5_sees 37 = .ok (.aload_n 0, 1) := by decide +kernel
theorem dX5_sees_38 : decode cX5_sees 38 = .ok (.iconst 4, 1) := by decide +kernel
theorem dX5_sees_39 : decode cX5_sees 39 = .ok (.iload 5, 2) := by decide +kernel
theorem dX5_sees_41 : decode cX5_sees 41 = .ok (.invokevirtual 130, 3) := by decide +kernel
theorem dX5_sees_44 : decode cX5_sees 44 = .ok (.ifCond .eq 28, 3) := by decide +kernel
theorem dX5_sees_47 : decode cX5_sees 47 = .ok (.aload_n 0, 1) := by decide +kernel
theorem dX5_sees_48 : decode cX5_sees 48 = .ok (.iconst 5, 1) := by decide +kernel
theorem dX5_sees_49 : decode cX5_sees 49 = .ok (.iload 6, 2) := by decide +kernel
theorem dX5_sees_51 : decode cX5_sees 51 = .ok (.invokevirtual 130, 3) := by decide +kernel
theorem dX5_sees_54 : decode cX5_sees 54 = .ok (.ifCond .eq 18, 3) := by decide +kernel
theorem dX5_sees_57 : decode cX5_sees 57 = .ok (.aload_n 0, 1) := by decide +kernel
theorem dX5_sees_58 : decode cX5_sees 58 = .ok (.bipush 6, 2) := by decide +kernel
theorem dX5_sees_60 : decode cX5_sees 60 = .ok (.iload 7, 2) := by decide +kernel
theorem dX5_sees_62 : decode cX5_sees 62 = .ok (.invokevirtual 130, 3) := by decide +kernel
theorem dX5_sees_65 : decode cX5_sees 65 = .ok (.ifCond .eq 7, 3) := by decide +kernel
theorem dX5_sees_68 : decode cX5_sees 68 = .ok (.iconst 1, 1) := by decide +kernel
theorem dX5_sees_69 : decode cX5_sees 69 = .ok (.goto 4, 3) := by decide +kernel
theorem dX5_sees_72 : decode cX5_sees 72 = .ok (.iconst 0, 1) := by decide +kernel
theorem dX5_sees_73 : decode cX5_sees 73 = .ok (.istore 8, 2) := by decide +kernel
theorem dX5_sees_75 : decode cX5_sees 75 = .ok (.aload_n 0, 1) := by decide +kernel
theorem dX5_sees_76 : decode cX5_sees 76 = .ok (.dup, 1) := by decide +kernel
theorem dX5_sees_77 : decode cX5_sees 77 = .ok (.getfield 127, 3) := by decide +kernel
theorem dX5_sees_80 : decode cX5_sees 80 = .ok (.iload 8, 2) := by decide +kernel
theorem dX5_sees_82 : decode cX5_sees 82 = .ok (.ifCond .eq 44, 3) := by decide +kernel
theorem dX5_sees_85 : decode cX5_sees 85 = .ok (.iload_n 1, 1) := by decide +kernel
theorem dX5_sees_86 : decode cX5_sees 86 = .ok (.invokestatic 133, 3) := by decide +kernel
theorem dX5_sees_89 : decode cX5_sees 89 = .ok (.iload_n 2, 1) := by decide +kernel
theorem dX5_sees_90 : decode cX5_sees 90 = .ok (.invokestatic 133, 3) := by decide +kernel
theorem dX5_sees_93 : decode cX5_sees 93 = .ok (.iadd, 1) := by decide +kernel
theorem dX5_sees_94 : decode cX5_sees 94 = .ok (.iload_n 3, 1) := by decide +kernel
theorem dX5_sees_95 : decode cX5_sees 95 = .ok (.invokestatic 133, 3) := by decide +kernel
theorem dX5_sees_98 : decode cX5_sees 98 = .ok (.iadd, 1) := by decide +kernel
theorem dX5_sees_99 : decode cX5_sees 99 = .ok (.iload 4, 2) := by decide +kernel
theorem dX5_sees_101 : decode cX5_sees 101 = .ok (.invokestatic 133, 3) := by decide +kernel
theorem dX5_sees_104 : decode cX5_sees 104 = .ok (.iadd, 1) := by decide +kernel
theorem dX5_sees_105 : decode cX5_sees 105 = .ok (.iload 5, 2) := by decide +kernel
theorem dX5_sees_107 : decode cX5_sees 107 = .ok (.invokestatic 133, 3) := by decide +kernel
theorem dX5_sees_110 : decode cX5_sees 110 = .ok (.iadd, 1) := by decide +kernel
theorem dX5_sees_111 : decode cX5_sees 111 = .ok (.iload 6, 2) := by decide +kernel
theorem dX5_sees_113 : decode cX5_sees 113 = .ok (.invokestatic 133, 3) := by decide +kernel
theorem dX5_sees_116 : decode cX5_sees 116 = .ok (.iadd, 1) := by decide +kernel
theorem dX5_sees_117 : decode cX5_sees 117 = .ok (.iload 7, 2) := by decide +kernel
theorem dX5_sees_119 : decode cX5_sees 119 = .ok (.invokestatic 133, 3) := by decide +kernel
theorem dX5_sees_122 : decode cX5_sees 122 = .ok (.iadd, 1) := by decide +kernel
theorem dX5_sees_123 : decode cX5_sees 123 = .ok (.goto 4, 3) := by decide +kernel
theorem dX5_sees_126 : decode cX5_sees 126 = .ok (.iconst 0, 1) := by decide +kernel
theorem dX5_sees_127 : decode cX5_sees 127 = .ok (.iadd, 1) := by decide +kernel
theorem dX5_sees_128 : decode cX5_sees 128 = .ok (.putfield 127, 3) := by decide +kernel
theorem dX5_sees_131 : decode cX5_sees 131 = .ok (.iload 8, 2) := by decide +kernel
theorem dX5_sees_133 : decode cX5_sees 133 = .ok (.ireturn, 1) := by decide +kernel
set_option maxRecDepth 20000 in
theorem ggX5_number_X5_in : GoodIn wsX5_number wsX5_in := goodIn_r _ [7] (by decide +kernel) (by decide +kernel)
set_option maxRecDepth 20000 in
theorem gX5_number_X5_in : GoodIn wsX5_number (va_wsS RX5 30 yX5_in wsX5_in) := goodIn_app (goodIn_of _ (by decide +kernel)) ggX5_number_X5_in
theorem dX5_number_0 : decode cX5_number 0 = .ok (.iconst (-1), 1) := by decide +kernel
theorem dX5_number_1 : decode cX5_number 1 = .ok (.istore_n 1, 1) := by decide +kernel
theorem dX5_number_2 : decode cX5_number 2 = .ok (.iconst 0, 1) := by decide +kernel
theorem dX5_number_3 : decode cX5_number 3 = .ok (.istore_n 2, 1) := by decide +kernel
theorem dX5_number_4 : decode cX5_number 4 = .ok (.iload_n 2, 1) := by decide +kernel
theorem dX5_number_5 : decode cX5_number 5 = .ok (.iconst 3, 1) := by decide +kernel
theorem dX5_number_6 : decode cX5_number 6 = .ok (.if_icmp .ge 75, 3) := by decide +kernel
theorem dX5_number_9 : decode cX5_number 9 = .ok (.aload_n 0, 1) := by decide +kernel
theorem dX5_number_10 : decode cX5_number 10 = .ok (.getfield 127, 3) := by decide +kernel
theorem dX5_number_13 : decode cX5_number 13 = .ok (.aload_n 0, 1) := by decide +kernel
theorem dX5_number_14 : decode cX5_number 14 = .ok (.getfield 115, 3) := by decide +kernel
theorem dX5_number_17 : decode cX5_number 17 = .ok (.if_icmp .ge 64, 3) := by decide +kernel
theorem dX5_number_20 : decode cX5_number 20 = .ok (.aload_n 0, 1) := by decide +kernel
theorem dX5_number_21 : decode cX5_number 21 = .ok (.getfield 19, 3) := by decide +kernel
theorem dX5_number_24 : decode cX5_number 24 = .ok (.aload_n 0, 1) := by decide +kernel
theorem dX5_number_25 : decode cX5_number 25 = .ok (.getfield 127, 3) := by decide +kernel
theorem dX5_number_28 : decode cX5_number 28 = .ok (.iaload, 1) := by decide +kernel
theorem dX5_number_29 : decode cX5_number 29 = .ok (.bipush 48, 2) := by decide +kernel
theorem dX5_number_31 : decode cX5_number 31 = .ok (.bipush 57, 2) := by decide +kernel
theorem dX5_number_33 : decode cX5_number 33 = .ok (.invokestatic 30, 3) := by decide +kernel
theorem dX5_number_36 : decode cX5_number 36 = .ok (.ifCond .eq 45, 3) := by decide +kernel
theorem dX5_number_39 : decode cX5_number 39 = .ok (.iload_n 1, 1) := by decide +kernel
theorem dX5_number_40 : decode cX5_number 40 = .ok (.ifCond .ge 7, 3) := by decide +kernel
theorem dX5_number_43 : decode cX5_number 43 = .ok (.iconst 0, 1) := by decide +kernel
theorem dX5_number_44 : decode cX5_number 44 = .ok (.goto 7, 3) := by decide +kernel
theorem dX5_number_47 : decode cX5_number 47 = .ok (.bipush 10, 2) := by decide +kernel
theorem dX5_number_49 : decode cX5_number 49 = .ok (.iload_n 1, 1) := by decide +kernel
theorem dX5_number_50 : decode cX5_number 50 = .ok (.imul, 1) := by decide +kernel
theorem dX5_number_51 : decode cX5_number 51 = .ok (.aload_n 0, 1) := by decide +kernel
theorem dX5_number_52 : decode cX5_number 52 = .ok (.getfield 19, 3) := by decide +kernel
theorem dX5_number_55 : decode cX5_number 55 = .ok (.aload_n 0, 1) := by decide +kernel
theorem dX5_number_56 : decode cX5_number 56 = .ok (.getfield 127, 3) := by decide +kernel
theorem dX5_number_59 : decode cX5_number 59 = .ok (.iaload, 1) := by decide +kernel
theorem dX5_number_60 : decode cX5_number 60 = .ok (.iadd, 1) := by decide +kernel
theorem dX5_number_61 : decode cX5_number 61 = .ok (.bipush 48, 2) := by decide +kernel
theorem dX5_number_63 : decode cX5_number 63 = .ok (.isub, 1) := by decide +kernel
theorem dX5_number_64 : decode cX5_number 64 = .ok (.istore_n 1, 1) := by decide +kernel
theorem dX5_number_65 : decode cX5_number 65 = .ok (.aload_n 0, 1) := by decide +kernel
theorem dX5_number_66 : decode cX5_number 66 = .ok (.dup, 1) := by decide +kernel
theorem dX5_number_67 : decode cX5_number 67 = .ok (.getfield 127, 3) := by decide +kernel
theorem dX5_number_70 : decode cX5_number 70 = .ok (.iconst 1, 1) := by decide +kernel
theorem dX5_number_71 : decode cX5_number 71 = .ok (.iadd, 1) := by decide +kernel
theorem dX5_number_72 : decode cX5_number 72 = .ok (.putfield 127, 3) := by decide +kernel
theorem dX5_number_75 : decode cX5_number 75 = .ok (.iinc 2 1, 3) := by decide +kernel
theorem dX5_number_78 : decode cX5_number 78 = .ok (.goto (-74), 3) := by decide +kernel
theorem dX5_number_81 : decode cX5_number 81 = .ok (.iload_n 1, 1) := by decide +kernel
theorem dX5_number_82 : decode cX5_number 82 = .ok (.ireturn, 1) := by decide +kernel
set_option maxRecDepth 20000 in
theorem ggX5_wordAt_X5_sees : GoodIn wsX5_wordAt wsX5_sees := goodIn_r _ [5, 6, 7, 8, 9, 4, 10, 11, 12, 13, 14, 15, 16, 17, 18, 19, 20, 21, 22, 23, 24, 25, 26] (by decide +kernel) (by decide +kernel)
set_option maxRecDepth 20000 in
theorem gX5_wordAt_X5_sees : GoodIn wsX5_wordAt (wsV RX5 136 RX5 yX5_sees wsX5_sees) := goodIn_app (goodIn_of _ (by decide +kernel)) ggX5_wordAt_X5_sees
theorem dX5_wordAt_0 : decode cX5_wordAt 0 = .ok (.aload_n 0, 1) := by decide +kernel
theorem dX5_wordAt_1 : decode cX5_wordAt 1 = .ok (.bipush 99, 2) := by decide +kernel
theorem dX5_wordAt_3 : decode cX5_wordAt 3 = .ok (.bipush 108, 2) := by decide +kernel
theorem dX5_wordAt_5 : decode cX5_wordAt 5 = .ok (.bipush 101, 2) := by decide +kernel
theorem dX5_wordAt_7 : decode cX5_wordAt 7 = .ok (.bipush 114, 2) := by decide +kernel
theorem dX5_wordAt_9 : decode cX5_wordAt 9 = .ok (.bipush 107, 2) := by decide +kernel
theorem dX5_wordAt_11 : decode cX5_wordAt 11 = .ok (.bipush 32, 2) := by decide +kernel
theorem dX5_wordAt_13 : decode cX5_wordAt 13 = .ok (.iconst 0, 1) := by decide +kernel
theorem dX5_wordAt_14 : decode cX5_wordAt 14 = .ok (.invokevirtual 136, 3) := by decide +kernel
theorem dX5_wordAt_17 : decode cX5_wordAt 17 = .ok (.ifCond .eq 5, 3) := by decide +kernel
theorem dX5_wordAt_20 : decode cX5_wordAt 20 = .ok (.iconst 0, 1) := by decide +kernel
theorem dX5_wordAt_21 : decode cX5_wordAt 21 = .ok (.ireturn, 1) := by decide +kernel
theorem dX5_wordAt_22 : decode cX5_wordAt 22 = .ok (.aload_n 0, 1) := by decide +kernel
theorem dX5_wordAt_23 : decode cX5_wordAt 23 = .ok (.bipush 97, 2) := by decide +kernel
theorem dX5_wordAt_25 : decode cX5_wordAt 25 = .ok (.bipush 115, 2) := by decide +kernel
theorem dX5_wordAt_27 : decode cX5_wordAt 27 = .ok (.bipush 107, 2) := by decide +kernel
theorem dX5_wordAt_29 : decode cX5_wordAt 29 = .ok (.bipush 32, 2) := by decide +kernel
theorem dX5_wordAt_31 : decode cX5_wordAt 31 = .ok (.iconst 0, 1) := by decide +kernel
theorem dX5_wordAt_32 : decode cX5_wordAt 32 = .ok (.iconst 0, 1) := by decide +kernel
theorem dX5_wordAt_33 : decode cX5_wordAt 33 = .ok (.iconst 0, 1) := by decide +kernel
theorem dX5_wordAt_34 : decode cX5_wordAt 34 = .ok (.invokevirtual 136, 3) := by decide +kernel
theorem dX5_wordAt_37 : decode cX5_wordAt 37 = .ok (.ifCond .eq 5, 3) := by decide +kernel
theorem dX5_wordAt_40 : decode cX5_wordAt 40 = .ok (.iconst 1, 1) := by decide +kernel
theorem dX5_wordAt_41 : decode cX5_wordAt 41 = .ok (.ireturn, 1) := by decide +kernel
theorem dX5_wordAt_42 : decode cX5_wordAt 42 = .ok (.aload_n 0, 1) := by decide +kernel
theorem dX5_wordAt_43 : decode cX5_wordAt 43 = .ok (.bipush 102, 2) := by decide +kernel
theorem dX5_wordAt_45 : decode cX5_wordAt 45 = .ok (.bipush 111, 2) := by decide +kernel
theorem dX5_wordAt_47 : decode cX5_wordAt 47 = .ok (.bipush 114, 2) := by decide +kernel
theorem dX5_wordAt_49 : decode cX5_wordAt 49 = .ok (.bipush 103, 2) := by decide +kernel
theorem dX5_wordAt_51 : decode cX5_wordAt 51 = .ok (.bipush 101, 2) := by decide +kernel
theorem dX5_wordAt_53 : decode cX5_wordAt 53 = .ok (.bipush 116, 2) := by decide +kernel
theorem dX5_wordAt_55 : decode cX5_wordAt 55 = .ok (.bipush 32, 2) := by decide +kernel
theorem dX5_wordAt_57 : decode cX5_wordAt 57 = .ok (.invokevirtual 136, 3) := by decide +kernel
theorem dX5_wordAt_60 : decode cX5_wordAt 60 = .ok (.ifCond .eq 5, 3) := by decide +kernel
theorem dX5_wordAt_63 : decode cX5_wordAt 63 = .ok (.iconst 2, 1) := by decide +kernel
theorem dX5_wordAt_64 : decode cX5_wordAt 64 = .ok (.ireturn, 1) := by decide +kernel
theorem dX5_wordAt_65 : decode cX5_wordAt 65 = .ok (.aload_n 0, 1) := by decide +kernel
theorem dX5_wordAt_66 : decode cX5_wordAt 66 = .ok (.bipush 98, 2) := by decide +kernel
theorem dX5_wordAt_68 : decode cX5_wordAt 68 = .ok (.bipush 97, 2) := by decide +kernel
theorem dX5_wordAt_70 : decode cX5_wordAt 70 = .ok (.bipush 99, 2) := by decide +kernel
theorem dX5_wordAt_72 : decode cX5_wordAt 72 = .ok (.bipush 107, 2) := by decide +kernel
theorem dX5_wordAt_74 : decode cX5_wordAt 74 = .ok (.bipush 32, 2) := by decide +kernel
theorem dX5_wordAt_76 : decode cX5_wordAt 76 = .ok (.iconst 0, 1) := by decide +kernel
theorem dX5_wordAt_77 : decode cX5_wordAt 77 = .ok (.iconst 0, 1) := by decide +kernel
theorem dX5_wordAt_78 : decode cX5_wordAt 78 = .ok (.invokevirtual 136, 3) := by decide +kernel
theorem dX5_wordAt_81 : decode cX5_wordAt 81 = .ok (.ifCond .eq 5, 3) := by decide +kernel
theorem dX5_wordAt_84 : decode cX5_wordAt 84 = .ok (.iconst 3, 1) := by decide +kernel
theorem dX5_wordAt_85 : decode cX5_wordAt 85 = .ok (.ireturn, 1) := by decide +kernel
theorem dX5_wordAt_86 : decode cX5_wordAt 86 = .ok (.aload_n 0, 1) := by decide +kernel
theorem dX5_wordAt_87 : decode cX5_wordAt 87 = .ok (.bipush 118, 2) := by decide +kernel
theorem dX5_wordAt_89 : decode cX5_wordAt 89 = .ok (.bipush 111, 2) := by decide +kernel
theorem dX5_wordAt_91 : decode cX5_wordAt 91 = .ok (.bipush 105, 2) := by decide +kernel
theorem dX5_wordAt_93 : decode cX5_wordAt 93 = .ok (.bipush 100, 2) := by decide +kernel
theorem dX5_wordAt_95 : decode cX5_wordAt 95 = .ok (.bipush 32, 2) := by decide +kernel
theorem dX5_wordAt_97 : decode cX5_wordAt 97 = .ok (.iconst 0, 1) := by decide +kernel
theorem dX5_wordAt_98 : decode cX5_wordAt 98 = .ok (.iconst 0, 1) := by decide +kernel
theorem dX5_wordAt_99 : decode cX5_wordAt 99 = .ok (.invokevirtual 136, 3) := by decide +kernel
theorem dX5_wordAt_102 : decode cX5_wordAt 102 = .ok (.ifCond .eq 5, 3) := by decide +kernel
theorem dX5_wordAt_105 : decode cX5_wordAt 105 = .ok (.iconst 4, 1) := by decide +kernel
theorem dX5_wordAt_106 : decode cX5_wordAt 106 = .ok (.ireturn, 1) := by decide +kernel
theorem dX5_wordAt_107 : decode cX5_wordAt 107 = .ok (.aload_n 0, 1) := by decide +kernel
theorem dX5_wordAt_108 : decode cX5_wordAt 108 = .ok (.bipush 99, 2) := by decide +kernel
theorem dX5_wordAt_110 : decode cX5_wordAt 110 = .ok (.bipush 108, 2) := by decide +kernel
theorem dX5_wordAt_112 : decode cX5_wordAt 112 = .ok (.bipush 111, 2) := by decide +kernel
theorem dX5_wordAt_114 : decode cX5_wordAt 114 = .ok (.bipush 115, 2) := by decide +kernel
theorem dX5_wordAt_116 : decode cX5_wordAt 116 = .ok (.bipush 101, 2) := by decide +kernel
theorem dX5_wordAt_118 : decode cX5_wordAt 118 = .ok (.iconst 0, 1) := by decide +kernel
theorem dX5_wordAt_119 : decode cX5_wordAt 119 = .ok (.iconst 0, 1) := by decide +kernel
theorem dX5_wordAt_120 : decode cX5_wordAt 120 = .ok (.invokevirtual 136, 3) := by decide +kernel
theorem dX5_wordAt_123 : decode cX5_wordAt 123 = .ok (.ifCond .eq 7, 3) := by decide +kernel
theorem dX5_wordAt_126 : decode cX5_wordAt 126 = .ok (.iconst 5, 1) := by decide +kernel
theorem dX5_wordAt_127 : decode cX5_wordAt 127 = .ok (.goto 4, 3) := by decide +kernel
theorem dX5_wordAt_130 : decode cX5_wordAt 130 = .ok (.iconst (-1), 1) := by decide +kernel
theorem dX5_wordAt_131 : decode cX5_wordAt 131 = .ok (.ireturn, 1) := by decide +kernel
set_option maxRecDepth 20000 in
theorem ggX5_kindAt_X5_sees : GoodIn wsX5_kindAt wsX5_sees := goodIn_r _ [5, 6, 7, 8, 9, 4, 10, 11, 12, 13, 14, 15, 16, 17, 18, 19, 20, 21, 22, 23, 24, 25, 26] (by decide +kernel) (by decide +kernel)
set_option maxRecDepth 20000 in
theorem gX5_kindAt_X5_sees : GoodIn wsX5_kindAt (wsV RX5 136 RX5 yX5_sees wsX5_sees) := goodIn_app (goodIn_of _ (by decide +kernel)) ggX5_kindAt_X5_sees
theorem dX5_kindAt_0 : decode cX5_kindAt 0 = .ok (.aload_n 0, 1) := by decide +kernel
theorem dX5_kindAt_1 : decode cX5_kindAt 1 = .ok (.bipush 99, 2) := by decide +kernel
theorem dX5_kindAt_3 : decode cX5_kindAt 3 = .ok (.bipush 97, 2) := by decide +kernel
theorem dX5_kindAt_5 : decode cX5_kindAt 5 = .ok (.bipush 114, 2) := by decide +kernel
theorem dX5_kindAt_7 : decode cX5_kindAt 7 = .ok (.bipush 101, 2) := by decide +kernel
theorem dX5_kindAt_9 : decode cX5_kindAt 9 = .ok (.bipush 102, 2) := by decide +kernel
theorem dX5_kindAt_11 : decode cX5_kindAt 11 = .ok (.bipush 117, 2) := by decide +kernel
theorem dX5_kindAt_13 : decode cX5_kindAt 13 = .ok (.bipush 108, 2) := by decide +kernel
theorem dX5_kindAt_15 : decode cX5_kindAt 15 = .ok (.invokevirtual 136, 3) := by decide +kernel
theorem dX5_kindAt_18 : decode cX5_kindAt 18 = .ok (.ifCond .eq 5, 3) := by decide +kernel
theorem dX5_kindAt_21 : decode cX5_kindAt 21 = .ok (.iconst 0, 1) := by decide +kernel
theorem dX5_kindAt_22 : decode cX5_kindAt 22 = .ok (.ireturn, 1) := by decide +kernel
theorem dX5_kindAt_23 : decode cX5_kindAt 23 = .ok (.aload_n 0, 1) := by decide +kernel
theorem dX5_kindAt_24 : decode cX5_kindAt 24 = .ok (.bipush 108, 2) := by decide +kernel
theorem dX5_kindAt_26 : decode cX5_kindAt 26 = .ok (.bipush 97, 2) := by decide +kernel
theorem dX5_kindAt_28 : decode cX5_kindAt 28 = .ok (.bipush 122, 2) := by decide +kernel
theorem dX5_kindAt_30 : decode cX5_kindAt 30 = .ok (.bipush 121, 2) := by decide +kernel
theorem dX5_kindAt_32 : decode cX5_kindAt 32 = .ok (.iconst 0, 1) := by decide +kernel
theorem dX5_kindAt_33 : decode cX5_kindAt 33 = .ok (.iconst 0, 1) := by decide +kernel
theorem dX5_kindAt_34 : decode cX5_kindAt 34 = .ok (.iconst 0, 1) := by decide +kernel
theorem dX5_kindAt_35 : decode cX5_kindAt 35 = .ok (.invokevirtual 136, 3) := by decide +kernel
theorem dX5_kindAt_38 : decode cX5_kindAt 38 = .ok (.ifCond .eq 5, 3) := by decide +kernel
theorem dX5_kindAt_41 : decode cX5_kindAt 41 = .ok (.iconst 1, 1) := by decide +kernel
theorem dX5_kindAt_42 : decode cX5_kindAt 42 = .ok (.ireturn, 1) := by decide +kernel
theorem dX5_kindAt_43 : decode cX5_kindAt 43 = .ok (.aload_n 0, 1) := by decide +kernel
theorem dX5_kindAt_44 : decode cX5_kindAt 44 = .ok (.bipush 100, 2) := by decide +kernel
theorem dX5_kindAt_46 : decode cX5_kindAt 46 = .ok (.bipush 114, 2) := by decide +kernel
theorem dX5_kindAt_48 : decode cX5_kindAt 48 = .ok (.bipush 101, 2) := by decide +kernel
theorem dX5_kindAt_50 : decode cX5_kindAt 50 = .ok (.bipush 97, 2) := by decide +kernel
theorem dX5_kindAt_52 : decode cX5_kindAt 52 = .ok (.bipush 109, 2) := by decide +kernel
theorem dX5_kindAt_54 : decode cX5_kindAt 54 = .ok (.bipush 121, 2) := by decide +kernel
theorem dX5_kindAt_56 : decode cX5_kindAt 56 = .ok (.iconst 0, 1) := by decide +kernel
theorem dX5_kindAt_57 : decode cX5_kindAt 57 = .ok (.invokevirtual 136, 3) := by decide +kernel
theorem dX5_kindAt_60 : decode cX5_kindAt 60 = .ok (.ifCond .eq 7, 3) := by decide +kernel
theorem dX5_kindAt_63 : decode cX5_kindAt 63 = .ok (.iconst 2, 1) := by decide +kernel
theorem dX5_kindAt_64 : decode cX5_kindAt 64 = .ok (.goto 4, 3) := by decide +kernel
theorem dX5_kindAt_67 : decode cX5_kindAt 67 = .ok (.iconst (-1), 1) := by decide +kernel
theorem dX5_kindAt_68 : decode cX5_kindAt 68 = .ok (.ireturn, 1) := by decide +kernel
set_option maxRecDepth 20000 in
theorem ggX5_isForm_X5_wordAt : GoodIn wsX5_isForm wsX5_wordAt := goodIn_r _ [8, 9, 10, 11, 7, 12, 13, 14, 15, 16, 17, 18, 19, 20, 21, 22, 34, 35, 36, 37, 38, 39, 40, 41, 42, 43, 44] (by decide +kernel) (by decide +kernel)
set_option maxRecDepth 20000 in
theorem gX5_isForm_X5_wordAt : GoodIn wsX5_isForm (wsV RX5 140 RX5 yX5_wordAt wsX5_wordAt) := goodIn_app (goodIn_of _ (by decide +kernel)) ggX5_isForm_X5_wordAt
set_option maxRecDepth 20000 in
theorem ggX5_isForm_X5_kindAt : GoodIn wsX5_isForm wsX5_kindAt := goodIn_r _ [26, 9, 10, 11, 7, 12, 13, 14, 15, 16, 17, 18, 19, 20, 21, 22, 34, 35, 36, 37, 38, 39, 40, 41, 42, 43, 44] (by decide +kernel) (by decide +kernel)
set_option maxRecDepth 20000 in
theorem gX5_isForm_X5_kindAt : GoodIn wsX5_isForm (wsV RX5 152 RX5 yX5_kindAt wsX5_kindAt) := goodIn_app (goodIn_of _ (by decide +kernel)) ggX5_isForm_X5_kindAt
set_option maxRecDepth 20000 in
theorem ggX5_isForm_X5_number : GoodIn wsX5_isForm wsX5_number := goodIn_r _ [30, 13, 18, 19, 31, 32, 7, 33, 34, 35, 36, 37, 38, 39, 40, 41, 42, 43, 44] (by decide +kernel) (by decide +kernel)
set_option maxRecDepth 20000 in
theorem gX5_isForm_X5_number : GoodIn wsX5_isForm (wsV RX5 155 RX5 yX5_number wsX5_number) := goodIn_app (goodIn_of _ (by decide +kernel)) ggX5_isForm_X5_number
set_option maxRecDepth 20000 in
theorem ggX5_isForm_X5_sees : GoodIn wsX5_isForm wsX5_sees := goodIn_r _ [12, 13, 14, 15, 16, 7, 17, 18, 19, 20, 21, 22, 34, 35, 36, 37, 38, 39, 40, 41, 42, 43, 44] (by decide +kernel) (by decide +kernel)
set_option maxRecDepth 20000 in
theorem gX5_isForm_X5_sees : GoodIn wsX5_isForm (wsV RX5 136 RX5 yX5_sees wsX5_sees) := goodIn_app (goodIn_of _ (by decide +kernel)) ggX5_isForm_X5_sees
theorem dX5_isForm_0 : decode cX5_isForm 0 = .ok (.aload_n 0, 1) := by decide +kernel
theorem dX5_isForm_1 : decode cX5_isForm 1 = .ok (.aload_n 0, 1) := by decide +kernel
theorem dX5_isForm_2 : decode cX5_isForm 2 = .ok (.invokevirtual 140, 3) := by decide +kernel
theorem dX5_isForm_5 : decode cX5_isForm 5 = .ok (.putfield 143, 3) := by decide +kernel
theorem dX5_isForm_8 : decode cX5_isForm 8 = .ok (.aload_n 0, 1) := by decide +kernel
theorem dX5_isForm_9 : decode cX5_isForm 9 = .ok (.iconst 0, 1) := by decide +kernel
theorem dX5_isForm_10 : decode cX5_isForm 10 = .ok (.putfield 146, 3) := by decide +kernel
theorem dX5_isForm_13 : decode cX5_isForm 13 = .ok (.aload_n 0, 1) := by decide +kernel
theorem dX5_isForm_14 : decode cX5_isForm 14 = .ok (.iconst 1, 1) := by decide +kernel
theorem dX5_isForm_15 : decode cX5_isForm 15 = .ok (.putfield 149, 3) := by decide +kernel
theorem dX5_isForm_18 : decode cX5_isForm 18 = .ok (.aload_n 0, 1) := by decide +kernel
theorem dX5_isForm_19 : decode cX5_isForm 19 = .ok (.getfield 143, 3) := by decide +kernel
theorem dX5_isForm_22 : decode cX5_isForm 22 = .ok (.ifCond .ge 5, 3) := by decide +kernel
theorem dX5_isForm_25 : decode cX5_isForm 25 = .ok (.iconst 0, 1) := by decide +kernel
theorem dX5_isForm_26 : decode cX5_isForm 26 = .ok (.ireturn, 1) := by decide +kernel
theorem dX5_isForm_27 : decode cX5_isForm 27 = .ok (.aload_n 0, 1) := by decide +kernel
theorem dX5_isForm_28 : decode cX5_isForm 28 = .ok (.getfield 143, 3) := by decide +kernel
theorem dX5_isForm_31 : decode cX5_isForm 31 = .ok (.ifCond .ne 14, 3) := by decide +kernel
theorem dX5_isForm_34 : decode cX5_isForm 34 = .ok (.aload_n 0, 1) := by decide +kernel
theorem dX5_isForm_35 : decode cX5_isForm 35 = .ok (.aload_n 0, 1) := by decide +kernel
theorem dX5_isForm_36 : decode cX5_isForm 36 = .ok (.invokevirtual 152, 3) := by decide +kernel
theorem dX5_isForm_39 : decode cX5_isForm 39 = .ok (.putfield 146, 3) := by decide +kernel
theorem dX5_isForm_42 : decode cX5_isForm 42 = .ok (.goto 19, 3) := by decide +kernel
theorem dX5_isForm_45 : decode cX5_isForm 45 = .ok (.aload_n 0, 1) := by decide +kernel
theorem dX5_isForm_46 : decode cX5_isForm 46 = .ok (.getfield 143, 3) := by decide +kernel
theorem dX5_isForm_49 : decode cX5_isForm 49 = .ok (.iconst 5, 1) := by decide +kernel
theorem dX5_isForm_50 : decode cX5_isForm 50 = .ok (.if_icmp .ge 11, 3) := by decide +kernel
theorem dX5_isForm_53 : decode cX5_isForm 53 = .ok (.aload_n 0, 1) := by decide +kernel
theorem dX5_isForm_54 : decode cX5_isForm 54 = .ok (.aload_n 0, 1) := by decide +kernel
theorem dX5_isForm_55 : decode cX5_isForm 55 = .ok (.invokevirtual 155, 3) := by decide +kernel
theorem dX5_isForm_58 : decode cX5_isForm 58 = .ok (.putfield 146, 3) := by decide +kernel
theorem dX5_isForm_61 : decode cX5_isForm 61 = .ok (.aload_n 0, 1) := by decide +kernel
theorem dX5_isForm_62 : decode cX5_isForm 62 = .ok (.getfield 146, 3) := by decide +kernel
theorem dX5_isForm_65 : decode cX5_isForm 65 = .ok (.ifCond .lt 38, 3) := by decide +kernel
theorem dX5_isForm_68 : decode cX5_isForm 68 = .ok (.aload_n 0, 1) := by decide +kernel
theorem dX5_isForm_69 : decode cX5_isForm 69 = .ok (.getfield 143, 3) := by decide +kernel
theorem dX5_isForm_72 : decode cX5_isForm 72 = .ok (.iconst 1, 1) := by decide +kernel
theorem dX5_isForm_73 : decode cX5_isForm 73 = .ok (.if_icmp .ne 30, 3) := by decide +kernel
theorem dX5_isForm_76 : decode cX5_isForm 76 = .ok (.aload_n 0, 1) := by decide +kernel
theorem dX5_isForm_77 : decode cX5_isForm 77 = .ok (.aload_n 0, 1) := by decide +kernel
theorem dX5_isForm_78 : decode cX5_isForm 78 = .ok (.bipush 32, 2) := by decide +kernel
theorem dX5_isForm_80 : decode cX5_isForm 80 = .ok (.iconst 0, 1) := by decide +kernel
theorem dX5_isForm_81 : decode cX5_isForm 81 = .ok (.iconst 0, 1) := by decide +kernel
theorem dX5_isForm_82 : decode cX5_isForm 82 = .ok (.iconst 0, 1) := by decide +kernel
theorem dX5_isForm_83 : decode cX5_isForm 83 = .ok (.iconst 0, 1) := by decide +kernel
theorem dX5_isForm_84 : decode cX5_isForm 84 = .ok (.iconst 0, 1) := by decide +kernel
theorem dX5_isForm_85 : decode cX5_isForm 85 = .ok (.iconst 0, 1) := by decide +kernel
theorem dX5_isForm_86 : decode cX5_isForm 86 = .ok (.invokevirtual 136, 3) := by decide +kernel
theorem dX5_isForm_89 : decode cX5_isForm 89 = .ok (.ifCond .eq 10, 3) := by decide +kernel
theorem dX5_isForm_92 : decode cX5_isForm 92 = .ok (.aload_n 0, 1) := by decide +kernel
theorem dX5_isForm_93 : decode cX5_isForm 93 = .ok (.invokevirtual 155, 3) := by decide +kernel
theorem dX5_isForm_96 : decode cX5_isForm 96 = .ok (.goto 4, 3) := by decide +kernel
theorem dX5_isForm_99 : decode cX5_isForm 99 = .ok (.iconst (-1), 1) := by decide +kernel
theorem dX5_isForm_100 : decode cX5_isForm 100 = .ok (.putfield 149, 3) := by decide +kernel
theorem dX5_isForm_103 : decode cX5_isForm 103 = .ok (.aload_n 0, 1) := by decide +kernel
theorem dX5_isForm_104 : decode cX5_isForm 104 = .ok (.getfield 146, 3) := by decide +kernel
theorem dX5_isForm_107 : decode cX5_isForm 107 = .ok (.ifCond .lt 29, 3) := by decide +kernel
theorem dX5_isForm_110 : decode cX5_isForm 110 = .ok (.aload_n 0, 1) := by decide +kernel
theorem dX5_isForm_111 : decode cX5_isForm 111 = .ok (.getfield 149, 3) := by decide +kernel
theorem dX5_isForm_114 : decode cX5_isForm 114 = .ok (.ifCond .lt 22, 3) := by decide +kernel
theorem dX5_isForm_117 : decode cX5_isForm 117 = .ok (.aload_n 0, 1) := by decide +kernel
theorem dX5_isForm_118 : decode cX5_isForm 118 = .ok (.bipush 59, 2) := by decide +kernel
theorem dX5_isForm_120 : decode cX5_isForm 120 = .ok (.iconst 0, 1) := by decide +kernel
theorem dX5_isForm_121 : decode cX5_isForm 121 = .ok (.iconst 0, 1) := by decide +kernel
theorem dX5_isForm_122 : decode cX5_isForm 122 = .ok (.iconst 0, 1) := by decide +kernel
theorem dX5_isForm_123 : decode cX5_isForm 123 = .ok (.iconst 0, 1) := by decide +kernel
theorem dX5_isForm_124 : decode cX5_isForm 124 = .ok (.iconst 0, 1) := by decide +kernel
theorem dX5_isForm_125 : decode cX5_isForm 125 = .ok (.iconst 0, 1) := by decide +kernel
theorem dX5_isForm_126 : decode cX5_isForm 126 = .ok (.invokevirtual 136, 3) := by decide +kernel
theorem dX5_isForm_129 : decode cX5_isForm 129 = .ok (.ifCond .eq 7, 3) := by decide +kernel
theorem dX5_isForm_132 : decode cX5_isForm 132 = .ok (.iconst 1, 1) := by decide +kernel
theorem dX5_isForm_133 : decode cX5_isForm 133 = .ok (.goto 4, 3) := by decide +kernel
theorem dX5_isForm_136 : decode cX5_isForm 136 = .ok (.iconst 0, 1) := by decide +kernel
theorem dX5_isForm_137 : decode cX5_isForm 137 = .ok (.ireturn, 1) := by decide +kernel
set_option maxRecDepth 20000 in
theorem ggX5_isRange_X5_isClerk : GoodIn wsX5_isRange wsX5_isClerk := goodIn_r _ [8, 9, 10, 11, 7, 12, 16, 17, 18, 19, 20, 21, 22, 23, 24, 25, 26] (by decide +kernel) (by decide +kernel)
set_option maxRecDepth 20000 in
theorem gX5_isRange_X5_isClerk : GoodIn wsX5_isRange (wsV RX5 63 RX5 yX5_isClerk wsX5_isClerk) := goodIn_app (goodIn_of _ (by decide +kernel)) ggX5_isRange_X5_isClerk
set_option maxRecDepth 20000 in
theorem ggX5_isRange_X5_in : GoodIn wsX5_isRange wsX5_in := goodIn_r _ [12] (by decide +kernel) (by decide +kernel)
set_option maxRecDepth 20000 in
theorem gX5_isRange_X5_in : GoodIn wsX5_isRange (va_wsS RX5 30 yX5_in wsX5_in) := goodIn_app (goodIn_of _ (by decide +kernel)) ggX5_isRange_X5_in
set_option maxRecDepth 20000 in
theorem ggX5_isRange_X5_isNumber : GoodIn wsX5_isRange wsX5_isNumber := goodIn_r _ [15, 10, 11, 7, 12] (by decide +kernel) (by decide +kernel)
set_option maxRecDepth 20000 in
theorem gX5_isRange_X5_isNumber : GoodIn wsX5_isRange (va_wsS RX5 85 yX5_isNumber wsX5_isNumber) := goodIn_app (goodIn_of _ (by decide +kernel)) ggX5_isRange_X5_isNumber
theorem dX5_isRange_0 : decode cX5_isRange 0 = .ok (.aload_n 0, 1) := by decide +kernel
theorem dX5_isRange_1 : decode cX5_isRange 1 = .ok (.getfield 143, 3) := by decide +kernel
theorem dX5_isRange_4 : decode cX5_isRange 4 = .ok (.tableswitch 79 1 4 #[32, 62, 62, 71], 32) := by decide +kernel
theorem dX5_isRange_36 : decode cX5_isRange 36 = .ok (.aload_n 0, 1) := by decide +kernel
theorem dX5_isRange_37 : decode cX5_isRange 37 = .ok (.aload_n 0, 1) := by decide +kernel
theorem dX5_isRange_38 : decode cX5_isRange 38 = .ok (.getfield 146, 3) := by decide +kernel
theorem dX5_isRange_41 : decode cX5_isRange 41 = .ok (.invokevirtual 63, 3) := by decide +kernel
theorem dX5_isRange_44 : decode cX5_isRange 44 = .ok (.ifCond .eq 20, 3) := by decide +kernel
theorem dX5_isRange_47 : decode cX5_isRange 47 = .ok (.aload_n 0, 1) := by decide +kernel
theorem dX5_isRange_48 : decode cX5_isRange 48 = .ok (.getfield 149, 3) := by decide +kernel
theorem dX5_isRange_51 : decode cX5_isRange 51 = .ok (.iconst 1, 1) := by decide +kernel
theorem dX5_isRange_52 : decode cX5_isRange 52 = .ok (.bipush 50, 2) := by decide +kernel
theorem dX5_isRange_54 : decode cX5_isRange 54 = .ok (.invokestatic 30, 3) := by decide +kernel
theorem dX5_isRange_57 : decode cX5_isRange 57 = .ok (.ifCond .eq 7, 3) := by decide +kernel
theorem dX5_isRange_60 : decode cX5_isRange 60 = .ok (.iconst 1, 1) := by decide +kernel
theorem dX5_isRange_61 : decode cX5_isRange 61 = .ok (.goto 4, 3) := by decide +kernel
theorem dX5_isRange_64 : decode cX5_isRange 64 = .ok (.iconst 0, 1) := by decide +kernel
theorem dX5_isRange_65 : decode cX5_isRange 65 = .ok (.ireturn, 1) := by decide +kernel
theorem dX5_isRange_66 : decode cX5_isRange 66 = .ok (.aload_n 0, 1) := by decide +kernel
theorem dX5_isRange_67 : decode cX5_isRange 67 = .ok (.aload_n 0, 1) := by decide +kernel
theorem dX5_isRange_68 : decode cX5_isRange 68 = .ok (.getfield 146, 3) := by decide +kernel
theorem dX5_isRange_71 : decode cX5_isRange 71 = .ok (.invokevirtual 63, 3) := by decide +kernel
theorem dX5_isRange_74 : decode cX5_isRange 74 = .ok (.ireturn, 1) := by decide +kernel
theorem dX5_isRange_75 : decode cX5_isRange 75 = .ok (.aload_n 0, 1) := by decide +kernel
theorem dX5_isRange_76 : decode cX5_isRange 76 = .ok (.getfield 146, 3) := by decide +kernel
theorem dX5_isRange_79 : decode cX5_isRange 79 = .ok (.invokestatic 85, 3) := by decide +kernel
theorem dX5_isRange_82 : decode cX5_isRange 82 = .ok (.ireturn, 1) := by decide +kernel
theorem dX5_isRange_83 : decode cX5_isRange 83 = .ok (.iconst 1, 1) := by decide +kernel
theorem dX5_isRange_84 : decode cX5_isRange 84 = .ok (.ireturn, 1) := by decide +kernel
set_option maxRecDepth 20000 in
theorem ggX5_isPossible_X5_canAsk : GoodIn wsX5_isPossible wsX5_canAsk := goodIn_r _ [9, 2, 10, 11, 12, 8, 13, 14, 15, 16, 17, 18, 19, 20, 21, 22, 23, 24, 25, 26, 27, 28, 29, 30, 31, 32, 33, 34] (by decide +kernel) (by decide +kernel)
set_option maxRecDepth 20000 in
theorem gX5_isPossible_X5_canAsk : GoodIn wsX5_isPossible (wsV RX5 67 RX5 yX5_canAsk wsX5_canAsk) := goodIn_app (goodIn_of _ (by decide +kernel)) ggX5_isPossible_X5_canAsk
set_option maxRecDepth 20000 in
theorem ggX5_isPossible_X5_holds : GoodIn wsX5_isPossible wsX5_holds := goodIn_r _ [13, 2, 14, 15, 8, 16, 24, 25, 26, 27, 28, 29, 30, 31, 32, 33, 34] (by decide +kernel) (by decide +kernel)
set_option maxRecDepth 20000 in
theorem gX5_isPossible_X5_holds : GoodIn wsX5_isPossible (wsV RX5 50 RX5 yX5_holds wsX5_holds) := goodIn_app (goodIn_of _ (by decide +kernel)) ggX5_isPossible_X5_holds
set_option maxRecDepth 20000 in
theorem ggX5_isPossible_X5_n : GoodIn wsX5_isPossible wsX5_n := goodIn_r _ [23] (by decide +kernel) (by decide +kernel)
set_option maxRecDepth 20000 in
theorem gX5_isPossible_X5_n : GoodIn wsX5_isPossible (va_wsS RX5 22 yX5_n wsX5_n) := goodIn_app (goodIn_of _ (by decide +kernel)) ggX5_isPossible_X5_n
theorem dX5_isPossible_0 : decode cX5_isPossible 0 = .ok (.aload_n 0, 1) := by decide +kernel
theorem dX5_isPossible_1 : decode cX5_isPossible 1 = .ok (.getfield 143, 3) := by decide +kernel
theorem dX5_isPossible_4 : decode cX5_isPossible 4 = .ok (.tableswitch 107 0 4 #[36, 53, 66, 66, 83], 36) := by decide +kernel
theorem dX5_isPossible_40 : decode cX5_isPossible 40 = .ok (.aload_n 0, 1) := by decide +kernel
theorem dX5_isPossible_41 : decode cX5_isPossible 41 = .ok (.getfield 7, 3) := by decide +kernel
theorem dX5_isPossible_44 : decode cX5_isPossible 44 = .ok (.iconst 3, 1) := by decide +kernel
theorem dX5_isPossible_45 : decode cX5_isPossible 45 = .ok (.iaload, 1) := by decide +kernel
theorem dX5_isPossible_46 : decode cX5_isPossible 46 = .ok (.bipush 6, 2) := by decide +kernel
theorem dX5_isPossible_48 : decode cX5_isPossible 48 = .ok (.if_icmp .ge 7, 3) := by decide +kernel
theorem dX5_isPossible_51 : decode cX5_isPossible 51 = .ok (.iconst 1, 1) := by decide +kernel
theorem dX5_isPossible_52 : decode cX5_isPossible 52 = .ok (.goto 4, 3) := by decide +kernel
theorem dX5_isPossible_55 : decode cX5_isPossible 55 = .ok (.iconst 0, 1) := by decide +kernel
theorem dX5_isPossible_56 : decode cX5_isPossible 56 = .ok (.ireturn, 1) := by decide +kernel
theorem dX5_isPossible_57 : decode cX5_isPossible 57 = .ok (.aload_n 0, 1) := by decide +kernel
theorem dX5_isPossible_58 : decode cX5_isPossible 58 = .ok (.aload_n 0, 1) := by decide +kernel
theorem dX5_isPossible_59 : decode cX5_isPossible 59 = .ok (.getfield 146, 3) := by decide +kernel
theorem dX5_isPossible_62 : decode cX5_isPossible 62 = .ok (.aload_n 0, 1) := by decide +kernel
theorem dX5_isPossible_63 : decode cX5_isPossible 63 = .ok (.getfield 149, 3) := by decide +kernel
theorem dX5_isPossible_66 : decode cX5_isPossible 66 = .ok (.invokevirtual 67, 3) := by decide +kernel
theorem dX5_isPossible_69 : decode cX5_isPossible 69 = .ok (.ireturn, 1) := by decide +kernel
theorem dX5_isPossible_70 : decode cX5_isPossible 70 = .ok (.aload_n 0, 1) := by decide +kernel
theorem dX5_isPossible_71 : decode cX5_isPossible 71 = .ok (.aload_n 0, 1) := by decide +kernel
theorem dX5_isPossible_72 : decode cX5_isPossible 72 = .ok (.getfield 146, 3) := by decide +kernel
theorem dX5_isPossible_75 : decode cX5_isPossible 75 = .ok (.invokevirtual 50, 3) := by decide +kernel
theorem dX5_isPossible_78 : decode cX5_isPossible 78 = .ok (.ifCond .le 7, 3) := by decide +kernel
theorem dX5_isPossible_81 : decode cX5_isPossible 81 = .ok (.iconst 1, 1) := by decide +kernel
theorem dX5_isPossible_82 : decode cX5_isPossible 82 = .ok (.goto 4, 3) := by decide +kernel
theorem dX5_isPossible_85 : decode cX5_isPossible 85 = .ok (.iconst 0, 1) := by decide +kernel
theorem dX5_isPossible_86 : decode cX5_isPossible 86 = .ok (.ireturn, 1) := by decide +kernel
theorem dX5_isPossible_87 : decode cX5_isPossible 87 = .ok (.aload_n 0, 1) := by decide +kernel
theorem dX5_isPossible_88 : decode cX5_isPossible 88 = .ok (.getfield 7, 3) := by decide +kernel
theorem dX5_isPossible_91 : decode cX5_isPossible 91 = .ok (.aload_n 0, 1) := by decide +kernel
theorem dX5_isPossible_92 : decode cX5_isPossible 92 = .ok (.getfield 146, 3) := by decide +kernel
theorem dX5_isPossible_95 : decode cX5_isPossible 95 = .ok (.invokestatic 22, 3) := by decide +kernel
theorem dX5_isPossible_98 : decode cX5_isPossible 98 = .ok (.iconst 0, 1) := by decide +kernel
theorem dX5_isPossible_99 : decode cX5_isPossible 99 = .ok (.iadd, 1) := by decide +kernel
theorem dX5_isPossible_100 : decode cX5_isPossible 100 = .ok (.iaload, 1) := by decide +kernel
theorem dX5_isPossible_101 : decode cX5_isPossible 101 = .ok (.iconst 2, 1) := by decide +kernel
theorem dX5_isPossible_102 : decode cX5_isPossible 102 = .ok (.if_icmp .ne 7, 3) := by decide +kernel
theorem dX5_isPossible_105 : decode cX5_isPossible 105 = .ok (.iconst 1, 1) := by decide +kernel
theorem dX5_isPossible_106 : decode cX5_isPossible 106 = .ok (.goto 4, 3) := by decide +kernel
theorem dX5_isPossible_109 : decode cX5_isPossible 109 = .ok (.iconst 0, 1) := by decide +kernel
theorem dX5_isPossible_110 : decode cX5_isPossible 110 = .ok (.ireturn, 1) := by decide +kernel
theorem dX5_isPossible_111 : decode cX5_isPossible 111 = .ok (.iconst 1, 1) := by decide +kernel
theorem dX5_isPossible_112 : decode cX5_isPossible 112 = .ok (.ireturn, 1) := by decide +kernel
set_option maxRecDepth 20000 in
theorem ggX5_goCommand_X5_goClerk : GoodIn wsX5_goCommand wsX5_goClerk := goodIn_r _ [8, 9, 10, 11, 7, 12, 56, 57, 58, 59, 60, 61, 62, 63, 64, 65, 66] (by decide +kernel) (by decide +kernel)
set_option maxRecDepth 20000 in
theorem gX5_goCommand_X5_goClerk : GoodIn wsX5_goCommand (wsV RX5 40 RX5 yX5_goClerk wsX5_goClerk) := goodIn_app (goodIn_of _ (by decide +kernel)) ggX5_goCommand_X5_goClerk
set_option maxRecDepth 20000 in
theorem ggX5_goCommand_X5_goAsk : GoodIn wsX5_goCommand wsX5_goAsk := goodIn_r _ [16, 9, 17, 18, 19, 7, 20, 10, 11, 12, 21, 22, 23, 24, 25, 26, 27, 28, 29, 30, 31, 32, 33, 34, 35, 36, 37, 38, 39, 56, 57, 58, 59, 60, 61, 62, 63, 64, 65, 66] (by decide +kernel) (by decide +kernel)
set_option maxRecDepth 20000 in
theorem gX5_goCommand_X5_goAsk : GoodIn wsX5_goCommand (wsV RX5 71 RX5 yX5_goAsk wsX5_goAsk) := goodIn_app (goodIn_of _ (by decide +kernel)) ggX5_goCommand_X5_goAsk
set_option maxRecDepth 20000 in
theorem ggX5_goCommand_X5_goForget : GoodIn wsX5_goCommand wsX5_goForget := goodIn_r _ [43, 9, 10, 11, 7, 12, 21, 22, 23, 24, 44, 45, 46, 47, 37, 38, 39, 56, 57, 58, 59, 60, 61, 62, 63, 64, 65, 66] (by decide +kernel) (by decide +kernel)
set_option maxRecDepth 20000 in
theorem gX5_goCommand_X5_goForget : GoodIn wsX5_goCommand (wsV RX5 79 RX5 yX5_goForget wsX5_goForget) := goodIn_app (goodIn_of _ (by decide +kernel)) ggX5_goCommand_X5_goForget
set_option maxRecDepth 20000 in
theorem ggX5_goCommand_X5_goBack : GoodIn wsX5_goCommand wsX5_goBack := goodIn_r _ [51, 9, 10, 11, 7, 12, 21, 22, 23, 24, 37, 38, 39, 44, 45, 46, 47, 56, 57, 58, 59, 60, 61, 62, 63, 64, 65, 66] (by decide +kernel) (by decide +kernel)
set_option maxRecDepth 20000 in
theorem gX5_goCommand_X5_goBack : GoodIn wsX5_goCommand (wsV RX5 82 RX5 yX5_goBack wsX5_goBack) := goodIn_app (goodIn_of _ (by decide +kernel)) ggX5_goCommand_X5_goBack
set_option maxRecDepth 20000 in
theorem ggX5_goCommand_X5_makeHole : GoodIn wsX5_goCommand wsX5_makeHole := goodIn_r _ [47, 9, 37, 38, 7, 39, 56, 57, 58, 59, 60, 61, 62, 63, 64, 65, 66] (by decide +kernel) (by decide +kernel)
set_option maxRecDepth 20000 in
theorem gX5_goCommand_X5_makeHole : GoodIn wsX5_goCommand (wsV RX5 75 RX5 yX5_makeHole wsX5_makeHole) := goodIn_app (goodIn_of _ (by decide +kernel)) ggX5_goCommand_X5_makeHole
set_option maxRecDepth 20000 in
theorem ggX5_goCommand_X5_goClose : GoodIn wsX5_goCommand wsX5_goClose := goodIn_r _ [55, 9, 37, 38, 7, 39, 44, 45, 46, 47, 10, 11, 12, 56, 57, 58, 59, 60, 61, 62, 63, 64, 65, 66] (by decide +kernel) (by decide +kernel)
set_option maxRecDepth 20000 in
theorem gX5_goCommand_X5_goClose : GoodIn wsX5_goCommand (wsV RX5 88 RX5 yX5_goClose wsX5_goClose) := goodIn_app (goodIn_of _ (by decide +kernel)) ggX5_goCommand_X5_goClose
theorem dX5_goCommand_0 : decode cX5_goCommand 0 = .ok (.aload_n 0, 1) := by decide +kernel
theorem dX5_goCommand_1 : decode cX5_goCommand 1 = .ok (.getfield 143, 3) := by decide +kernel
theorem dX5_goCommand_4 : decode cX5_goCommand 4 = .ok (.tableswitch 100 0 4 #[36, 48, 64, 76, 88], 36) := by decide +kernel
theorem dX5_goCommand_40 : decode cX5_goCommand 40 = .ok (.aload_n 0, 1) := by decide +kernel
theorem dX5_goCommand_41 : decode cX5_goCommand 41 = .ok (.aload_n 0, 1) := by decide +kernel
theorem dX5_goCommand_42 : decode cX5_goCommand 42 = .ok (.getfield 146, 3) := by decide +kernel
theorem dX5_goCommand_45 : decode cX5_goCommand 45 = .ok (.invokevirtual 40, 3) := by decide +kernel
theorem dX5_goCommand_48 : decode cX5_goCommand 48 = .ok (.pop, 1) := by decide +kernel
theorem dX5_goCommand_49 : decode cX5_goCommand 49 = .ok (.goto 60, 3) := by decide +kernel
theorem dX5_goCommand_52 : decode cX5_goCommand 52 = .ok (.aload_n 0, 1) := by decide +kernel
theorem dX5_goCommand_53 : decode cX5_goCommand 53 = .ok (.aload_n 0, 1) := by decide +kernel
theorem dX5_goCommand_54 : decode cX5_goCommand 54 = .ok (.getfield 146, 3) := by decide +kernel
theorem dX5_goCommand_57 : decode cX5_goCommand 57 = .ok (.aload_n 0, 1) := by decide +kernel
theorem dX5_goCommand_58 : decode cX5_goCommand 58 = .ok (.getfield 149, 3) := by decide +kernel
theorem dX5_goCommand_61 : decode cX5_goCommand 61 = .ok (.invokevirtual 71, 3) := by decide +kernel
theorem dX5_goCommand_64 : decode cX5_goCommand 64 = .ok (.pop, 1) := by decide +kernel
theorem dX5_goCommand_65 : decode cX5_goCommand 65 = .ok (.goto 44, 3) := by decide +kernel
theorem dX5_goCommand_68 : decode cX5_goCommand 68 = .ok (.aload_n 0, 1) := by decide +kernel
theorem dX5_goCommand_69 : decode cX5_goCommand 69 = .ok (.aload_n 0, 1) := by decide +kernel
theorem dX5_goCommand_70 : decode cX5_goCommand 70 = .ok (.getfield 146, 3) := by decide +kernel
theorem dX5_goCommand_73 : decode cX5_goCommand 73 = .ok (.invokevirtual 79, 3) := by decide +kernel
theorem dX5_goCommand_76 : decode cX5_goCommand 76 = .ok (.pop, 1) := by decide +kernel
theorem dX5_goCommand_77 : decode cX5_goCommand 77 = .ok (.goto 32, 3) := by decide +kernel
theorem dX5_goCommand_80 : decode cX5_goCommand 80 = .ok (.aload_n 0, 1) := by decide +kernel
theorem dX5_goCommand_81 : decode cX5_goCommand 81 = .ok (.aload_n 0, 1) := by decide +kernel
theorem dX5_goCommand_82 : decode cX5_goCommand 82 = .ok (.getfield 146, 3) := by decide +kernel
theorem dX5_goCommand_85 : decode cX5_goCommand 85 = .ok (.invokevirtual 82, 3) := by decide +kernel
theorem dX5_goCommand_88 : decode cX5_goCommand 88 = .ok (.pop, 1) := by decide +kernel
theorem dX5_goCommand_89 : decode cX5_goCommand 89 = .ok (.goto 20, 3) := by decide +kernel
theorem dX5_goCommand_92 : decode cX5_goCommand 92 = .ok (.aload_n 0, 1) := by decide +kernel
theorem dX5_goCommand_93 : decode cX5_goCommand 93 = .ok (.aload_n 0, 1) := by decide +kernel
theorem dX5_goCommand_94 : decode cX5_goCommand 94 = .ok (.getfield 146, 3) := by decide +kernel
theorem dX5_goCommand_97 : decode cX5_goCommand 97 = .ok (.iconst 2, 1) := by decide +kernel
theorem dX5_goCommand_98 : decode cX5_goCommand 98 = .ok (.invokevirtual 75, 3) := by decide +kernel
theorem dX5_goCommand_101 : decode cX5_goCommand 101 = .ok (.goto 8, 3) := by decide +kernel
theorem dX5_goCommand_104 : decode cX5_goCommand 104 = .ok (.aload_n 0, 1) := by decide +kernel
theorem dX5_goCommand_105 : decode cX5_goCommand 105 = .ok (.invokevirtual 88, 3) := by decide +kernel
theorem dX5_goCommand_108 : decode cX5_goCommand 108 = .ok (.pop, 1) := by decide +kernel
theorem dX5_goCommand_109 : decode cX5_goCommand 109 = .ok (.return_, 1) := by decide +kernel
set_option maxRecDepth 20000 in
theorem ggX5_run_X5_isForm : GoodIn wsX5_run wsX5_isForm := goodIn_r _ [8, 9, 10, 11, 12, 13, 14, 7, 15, 16, 17, 18, 19, 1, 20, 21, 22, 23, 3, 24, 25, 26, 27, 28, 29, 30, 31, 32, 33, 34, 35, 36, 37, 38, 117, 118, 119, 120, 121, 122, 123, 124, 125, 126, 127] (by decide +kernel) (by decide +kernel)
set_option maxRecDepth 20000 in
theorem gX5_run_X5_isForm : GoodIn wsX5_run (wsV RX5 161 RX5 yX5_isForm wsX5_isForm) := goodIn_app (goodIn_of _ (by decide +kernel)) ggX5_run_X5_isForm
set_option maxRecDepth 20000 in
theorem ggX5_run_X5_isRange : GoodIn wsX5_run wsX5_isRange := goodIn_r _ [42, 9, 10, 11, 43, 44, 45, 7, 46, 47, 36, 37, 38, 48, 49, 50, 117, 118, 119, 120, 121, 122, 123, 124, 125, 126, 127] (by decide +kernel) (by decide +kernel)
set_option maxRecDepth 20000 in
theorem gX5_run_X5_isRange : GoodIn wsX5_run (wsV RX5 165 RX5 yX5_isRange wsX5_isRange) := goodIn_app (goodIn_of _ (by decide +kernel)) ggX5_run_X5_isRange
set_option maxRecDepth 20000 in
theorem ggX5_run_X5_isPossible : GoodIn wsX5_run wsX5_isPossible := goodIn_r _ [54, 9, 47, 10, 11, 55, 56, 57, 7, 58, 59, 60, 61, 62, 63, 64, 65, 66, 67, 68, 69, 70, 71, 72, 117, 118, 119, 120, 121, 122, 123, 124, 125, 126, 127] (by decide +kernel) (by decide +kernel)
set_option maxRecDepth 20000 in
theorem gX5_run_X5_isPossible : GoodIn wsX5_run (wsV RX5 168 RX5 yX5_isPossible wsX5_isPossible) := goodIn_app (goodIn_of _ (by decide +kernel)) ggX5_run_X5_isPossible
set_option maxRecDepth 20000 in
theorem ggX5_run_X5_goCommand : GoodIn wsX5_run wsX5_goCommand := goodIn_r _ [76, 9, 10, 11, 77, 78, 79, 7, 80, 47, 63, 64, 65, 81, 82, 83, 84, 85, 86, 87, 88, 59, 60, 61, 62, 89, 90, 91, 92, 93, 94, 95, 96, 97, 98, 99, 100, 70, 71, 72, 101, 102, 103, 104, 105, 106, 107, 108, 109, 110, 111, 112, 113, 114, 115, 116, 117, 118, 119, 120, 121, 122, 123, 124, 125, 126, 127] (by decide +kernel) (by decide +kernel)
set_option maxRecDepth 20000 in
theorem gX5_run_X5_goCommand : GoodIn wsX5_run (wsV RX5 171 RX5 yX5_goCommand wsX5_goCommand) := goodIn_app (goodIn_of _ (by decide +kernel)) ggX5_run_X5_goCommand
theorem dX5_run_0 : decode cX5_run 0 = .ok (.aload_n 0, 1) := by decide +kernel
theorem dX5_run_1 : decode cX5_run 1 = .ok (.iconst 0, 1) := by decide +kernel
theorem dX5_run_2 : decode cX5_run 2 = .ok (.putfield 127, 3) := by decide +kernel
theorem dX5_run_5 : decode cX5_run 5 = .ok (.aload_n 0, 1) := by decide +kernel
theorem dX5_run_6 : decode cX5_run 6 = .ok (.iconst 0, 1) := by decide +kernel
theorem dX5_run_7 : decode cX5_run 7 = .ok (.putfield 158, 3) := by decide +kernel
theorem dX5_run_10 : decode cX5_run 10 = .ok (.aload_n 0, 1) := by decide +kernel
theorem dX5_run_11 : decode cX5_run 11 = .ok (.getfield 127, 3) := by decide +kernel
theorem dX5_run_14 : decode cX5_run 14 = .ok (.aload_n 0, 1) := by decide +kernel
theorem dX5_run_15 : decode cX5_run 15 = .ok (.getfield 115, 3) := by decide +kernel
theorem dX5_run_18 : decode cX5_run 18 = .ok (.if_icmp .ge 64, 3) := by decide +kernel
theorem dX5_run_21 : decode cX5_run 21 = .ok (.aload_n 0, 1) := by decide +kernel
theorem dX5_run_22 : decode cX5_run 22 = .ok (.getfield 127, 3) := by decide +kernel
theorem dX5_run_25 : decode cX5_run 25 = .ok (.istore_n 1, 1) := by decide +kernel
theorem dX5_run_26 : decode cX5_run 26 = .ok (.aload_n 0, 1) := by decide +kernel
theorem dX5_run_27 : decode cX5_run 27 = .ok (.invokevirtual 161, 3) := by decide +kernel
theorem dX5_run_30 : decode cX5_run 30 = .ok (.ifCond .ne 9, 3) := by decide +kernel
theorem dX5_run_33 : decode cX5_run 33 = .ok (.iconst 4, 1) := by decide +kernel
theorem dX5_run_34 : decode cX5_run 34 = .ok (.iload_n 1, 1) := by decide +kernel
theorem dX5_run_35 : decode cX5_run 35 = .ok (.imul, 1) := by decide +kernel
theorem dX5_run_36 : decode cX5_run 36 = .ok (.iconst 1, 1) := by decide +kernel
theorem dX5_run_37 : decode cX5_run 37 = .ok (.iadd, 1) := by decide +kernel
theorem dX5_run_38 : decode cX5_run 38 = .ok (.ireturn, 1) := by decide +kernel
theorem dX5_run_39 : decode cX5_run 39 = .ok (.aload_n 0, 1) := by decide +kernel
theorem dX5_run_40 : decode cX5_run 40 = .ok (.invokevirtual 165, 3) := by decide +kernel
theorem dX5_run_43 : decode cX5_run 43 = .ok (.ifCond .ne 9, 3) := by decide +kernel
theorem dX5_run_46 : decode cX5_run 46 = .ok (.iconst 4, 1) := by decide +kernel
theorem dX5_run_47 : decode cX5_run 47 = .ok (.iload_n 1, 1) := by decide +kernel
theorem dX5_run_48 : decode cX5_run 48 = .ok (.imul, 1) := by decide +kernel
theorem dX5_run_49 : decode cX5_run 49 = .ok (.iconst 2, 1) := by decide +kernel
theorem dX5_run_50 : decode cX5_run 50 = .ok (.iadd, 1) := by decide +kernel
theorem dX5_run_51 : decode cX5_run 51 = .ok (.ireturn, 1) := by decide +kernel
theorem dX5_run_52 : decode cX5_run 52 = .ok (.aload_n 0, 1) := by decide +kernel
theorem dX5_run_53 : decode cX5_run 53 = .ok (.invokevirtual 168, 3) := by decide +kernel
theorem dX5_run_56 : decode cX5_run 56 = .ok (.ifCond .ne 9, 3) := by decide +kernel
theorem dX5_run_59 : decode cX5_run 59 = .ok (.iconst 4, 1) := by decide +kernel
theorem dX5_run_60 : decode cX5_run 60 = .ok (.iload_n 1, 1) := by decide +kernel
theorem dX5_run_61 : decode cX5_run 61 = .ok (.imul, 1) := by decide +kernel
theorem dX5_run_62 : decode cX5_run 62 = .ok (.iconst 3, 1) := by decide +kernel
theorem dX5_run_63 : decode cX5_run 63 = .ok (.iadd, 1) := by decide +kernel
theorem dX5_run_64 : decode cX5_run 64 = .ok (.ireturn, 1) := by decide +kernel
theorem dX5_run_65 : decode cX5_run 65 = .ok (.aload_n 0, 1) := by decide +kernel
theorem dX5_run_66 : decode cX5_run 66 = .ok (.invokevirtual 171, 3) := by decide +kernel
theorem dX5_run_69 : decode cX5_run 69 = .ok (.aload_n 0, 1) := by decide +kernel
theorem dX5_run_70 : decode cX5_run 70 = .ok (.dup, 1) := by decide +kernel
theorem dX5_run_71 : decode cX5_run 71 = .ok (.getfield 158, 3) := by decide +kernel
theorem dX5_run_74 : decode cX5_run 74 = .ok (.iconst 1, 1) := by decide +kernel
theorem dX5_run_75 : decode cX5_run 75 = .ok (.iadd, 1) := by decide +kernel
theorem dX5_run_76 : decode cX5_run 76 = .ok (.putfield 158, 3) := by decide +kernel
theorem dX5_run_79 : decode cX5_run 79 = .ok (.goto (-69), 3) := by decide +kernel
theorem dX5_run_82 : decode cX5_run 82 = .ok (.iconst (-1), 1) := by decide +kernel
theorem dX5_run_83 : decode cX5_run 83 = .ok (.ireturn, 1) := by decide +kernel
set_option maxRecDepth 20000 in
theorem ggX5_fault_X5_in : GoodIn wsX5_fault wsX5_in := goodIn_r _ [4] (by decide +kernel) (by decide +kernel)
set_option maxRecDepth 20000 in
theorem gX5_fault_X5_in : GoodIn wsX5_fault (va_wsS RX5 30 yX5_in wsX5_in) := goodIn_app (goodIn_of _ (by decide +kernel)) ggX5_fault_X5_in
set_option maxRecDepth 20000 in
theorem ggX5_fault_X5_layAside : GoodIn wsX5_fault wsX5_layAside := goodIn_r _ [8, 9, 10, 130, 131, 132, 133, 134, 135, 136, 137, 138, 139, 140] (by decide +kernel) (by decide +kernel)
set_option maxRecDepth 20000 in
theorem gX5_fault_X5_layAside : GoodIn wsX5_fault (wsV RX5 118 RX5 yX5_layAside wsX5_layAside) := goodIn_app (goodIn_of _ (by decide +kernel)) ggX5_fault_X5_layAside
set_option maxRecDepth 20000 in
theorem ggX5_fault_X5_run : GoodIn wsX5_fault wsX5_run := goodIn_r _ [14, 15, 16, 17, 18, 19, 20, 3, 21, 22, 23, 24, 25, 26, 27, 28, 29, 30, 31, 32, 33, 34, 35, 36, 37, 38, 39, 40, 41, 42, 43, 44, 45, 46, 47, 48, 1, 2, 4, 49, 50, 51, 52, 53, 54, 55, 56, 10, 57, 58, 59, 60, 61, 62, 63, 64, 65, 66, 67, 68, 69, 70, 71, 72, 73, 74, 75, 76, 77, 78, 79, 80, 81, 82, 83, 84, 85, 86, 87, 88, 89, 90, 91, 92, 93, 94, 95, 96, 97, 98, 99, 100, 101, 102, 103, 104, 105, 106, 107, 108, 109, 110, 111, 112, 113, 114, 115, 116, 117, 118, 119, 120, 121, 122, 123, 124, 125, 130, 131, 132, 133, 134, 135, 136, 137, 138, 139, 140] (by decide +kernel) (by decide +kernel)
set_option maxRecDepth 20000 in
theorem gX5_fault_X5_run : GoodIn wsX5_fault (wsV RX5 174 RX5 yX5_run wsX5_run) := goodIn_app (goodIn_of _ (by decide +kernel)) ggX5_fault_X5_run
set_option maxRecDepth 20000 in
theorem ggX5_fault_X5_layBack : GoodIn wsX5_fault wsX5_layBack := goodIn_r _ [129, 10, 9, 130, 131, 132, 133, 134, 135, 136, 137, 138, 139, 140] (by decide +kernel) (by decide +kernel)
set_option maxRecDepth 20000 in
theorem gX5_fault_X5_layBack : GoodIn wsX5_fault (wsV RX5 121 RX5 yX5_layBack wsX5_layBack) := goodIn_app (goodIn_of _ (by decide +kernel)) ggX5_fault_X5_layBack
theorem dX5_fault_0 : decode cX5_fault 0 = .ok (.iload_n 1, 1) := by decide +kernel
theorem dX5_fault_1 : decode cX5_fault 1 = .ok (.iconst 0, 1) := by decide +kernel
theorem dX5_fault_2 : decode cX5_fault 2 = .ok (.iconst 1, 1) := by decide +kernel
theorem dX5_fault_3 : decode cX5_fault 3 = .ok (.invokestatic 30, 3) := by decide +kernel
theorem dX5_fault_6 : decode cX5_fault 6 = .ok (.ifCond .ne 5, 3) := by decide +kernel
theorem dX5_fault_9 : decode cX5_fault 9 = .ok (.iconst (-1), 1) := by decide +kernel
theorem dX5_fault_10 : decode cX5_fault 10 = .ok (.ireturn, 1) := by decide +kernel
theorem dX5_fault_11 : decode cX5_fault 11 = .ok (.aload_n 0, 1) := by decide +kernel
theorem dX5_fault_12 : decode cX5_fault 12 = .ok (.invokevirtual 118, 3) := by decide +kernel
theorem dX5_fault_15 : decode cX5_fault 15 = .ok (.aload_n 0, 1) := by decide +kernel
theorem dX5_fault_16 : decode cX5_fault 16 = .ok (.invokevirtual 174, 3) := by decide +kernel
theorem dX5_fault_19 : decode cX5_fault 19 = .ok (.istore_n 2, 1) := by decide +kernel
theorem dX5_fault_20 : decode cX5_fault 20 = .ok (.aload_n 0, 1) := by decide +kernel
theorem dX5_fault_21 : decode cX5_fault 21 = .ok (.invokevirtual 121, 3) := by decide +kernel
theorem dX5_fault_24 : decode cX5_fault 24 = .ok (.iload_n 2, 1) := by decide +kernel
theorem dX5_fault_25 : decode cX5_fault 25 = .ok (.ifCond .ge 8, 3) := by decide +kernel
theorem dX5_fault_28 : decode cX5_fault 28 = .ok (.bipush (-4), 2) := by decide +kernel
theorem dX5_fault_30 : decode cX5_fault 30 = .ok (.goto 16, 3) := by decide +kernel
theorem dX5_fault_33 : decode cX5_fault 33 = .ok (.iload_n 1, 1) := by decide +kernel
theorem dX5_fault_34 : decode cX5_fault 34 = .ok (.ifCond .ne 9, 3) := by decide +kernel
theorem dX5_fault_37 : decode cX5_fault 37 = .ok (.iload_n 2, 1) := by decide +kernel
theorem dX5_fault_38 : decode cX5_fault 38 = .ok (.iconst 4, 1) := by decide +kernel
theorem dX5_fault_39 : decode cX5_fault 39 = .ok (.idiv, 1) := by decide +kernel
theorem dX5_fault_40 : decode cX5_fault 40 = .ok (.goto 6, 3) := by decide +kernel
theorem dX5_fault_43 : decode cX5_fault 43 = .ok (.iload_n 2, 1) := by decide +kernel
theorem dX5_fault_44 : decode cX5_fault 44 = .ok (.iconst 4, 1) := by decide +kernel
theorem dX5_fault_45 : decode cX5_fault 45 = .ok (.irem, 1) := by decide +kernel
theorem dX5_fault_46 : decode cX5_fault 46 = .ok (.ireturn, 1) := by decide +kernel
set_option maxRecDepth 20000 in
theorem ggX5_play_X5_layAside : GoodIn wsX5_play wsX5_layAside := goodIn_r _ [6, 7, 8, 136, 137, 138, 139, 140, 141, 142, 143, 144, 145, 146] (by decide +kernel) (by decide +kernel)
set_option maxRecDepth 20000 in
theorem gX5_play_X5_layAside : GoodIn wsX5_play (wsV RX5 118 RX5 yX5_layAside wsX5_layAside) := goodIn_app (goodIn_of _ (by decide +kernel)) ggX5_play_X5_layAside
set_option maxRecDepth 20000 in
theorem ggX5_play_X5_run : GoodIn wsX5_play wsX5_run := goodIn_r _ [12, 13, 1, 14, 15, 16, 17, 5, 18, 19, 20, 21, 22, 23, 24, 25, 26, 27, 28, 29, 30, 31, 32, 33, 34, 35, 36, 37, 38, 39, 40, 41, 42, 43, 44, 45, 46, 47, 48, 49, 50, 51, 52, 53, 54, 55, 56, 8, 57, 58, 59, 60, 61, 62, 63, 64, 65, 66, 67, 68, 69, 70, 71, 72, 73, 74, 75, 76, 77, 78, 79, 80, 81, 82, 83, 84, 85, 86, 87, 88, 89, 90, 91, 92, 93, 94, 95, 96, 97, 98, 99, 100, 101, 102, 103, 104, 105, 106, 107, 108, 109, 110, 111, 112, 113, 114, 115, 116, 117, 118, 119, 120, 121, 122, 123, 124, 125, 136, 137, 138, 139, 140, 141, 142, 143, 144, 145, 146] (by decide +kernel) (by decide +kernel)
set_option maxRecDepth 20000 in
theorem gX5_play_X5_run : GoodIn wsX5_play (wsV RX5 174 RX5 yX5_run wsX5_run) := goodIn_app (goodIn_of _ (by decide +kernel)) ggX5_play_X5_run
set_option maxRecDepth 20000 in
theorem ggX5_play_X5_layBack : GoodIn wsX5_play wsX5_layBack := goodIn_r _ [129, 8, 7, 136, 137, 138, 139, 140, 141, 142, 143, 144, 145, 146] (by decide +kernel) (by decide +kernel)
set_option maxRecDepth 20000 in
theorem gX5_play_X5_layBack : GoodIn wsX5_play (wsV RX5 121 RX5 yX5_layBack wsX5_layBack) := goodIn_app (goodIn_of _ (by decide +kernel)) ggX5_play_X5_layBack
set_option maxRecDepth 20000 in
theorem ggX5_play_X5_record : GoodIn wsX5_play wsX5_record := goodIn_r _ [133, 134, 135, 8, 136, 137, 138, 139, 140, 141, 142, 143, 144, 145, 146] (by decide +kernel) (by decide +kernel)
set_option maxRecDepth 20000 in
theorem gX5_play_X5_record : GoodIn wsX5_play (wsV RX5 37 RX5 yX5_record wsX5_record) := goodIn_app (goodIn_of _ (by decide +kernel)) ggX5_play_X5_record
theorem dX5_play_0 : decode cX5_play 0 = .ok (.aload_n 0, 1) := by decide +kernel
theorem dX5_play_1 : decode cX5_play 1 = .ok (.invokevirtual 118, 3) := by decide +kernel
theorem dX5_play_4 : decode cX5_play 4 = .ok (.aload_n 0, 1) := by decide +kernel
theorem dX5_play_5 : decode cX5_play 5 = .ok (.invokevirtual 174, 3) := by decide +kernel
theorem dX5_play_8 : decode cX5_play 8 = .ok (.istore_n 1, 1) := by decide +kernel
theorem dX5_play_9 : decode cX5_play 9 = .ok (.aload_n 0, 1) := by decide +kernel
theorem dX5_play_10 : decode cX5_play 10 = .ok (.invokevirtual 121, 3) := by decide +kernel
theorem dX5_play_13 : decode cX5_play 13 = .ok (.iload_n 1, 1) := by decide +kernel
theorem dX5_play_14 : decode cX5_play 14 = .ok (.ifCond .lt 6, 3) := by decide +kernel
theorem dX5_play_17 : decode cX5_play 17 = .ok (.bipush (-2), 2) := by decide +kernel
theorem dX5_play_19 : decode cX5_play 19 = .ok (.ireturn, 1) := by decide +kernel
theorem dX5_play_20 : decode cX5_play 20 = .ok (.aload_n 0, 1) := by decide +kernel
theorem dX5_play_21 : decode cX5_play 21 = .ok (.invokevirtual 37, 3) := by decide +kernel
theorem dX5_play_24 : decode cX5_play 24 = .ok (.aload_n 0, 1) := by decide +kernel
theorem dX5_play_25 : decode cX5_play 25 = .ok (.invokevirtual 174, 3) := by decide +kernel
theorem dX5_play_28 : decode cX5_play 28 = .ok (.pop, 1) := by decide +kernel
theorem dX5_play_29 : decode cX5_play 29 = .ok (.aload_n 0, 1) := by decide +kernel
theorem dX5_play_30 : decode cX5_play 30 = .ok (.getfield 158, 3) := by decide +kernel
theorem dX5_play_33 : decode cX5_play 33 = .ok (.ireturn, 1) := by decide +kernel
