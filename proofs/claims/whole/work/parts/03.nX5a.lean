set_option maxRecDepth 20000 in
theorem ggX5_init_X5_n : GoodIn wsX5_init wsX5_n := goodIn_r _ [12] (by decide +kernel) (by decide +kernel)
set_option maxRecDepth 20000 in
theorem gX5_init_X5_n : GoodIn wsX5_init (va_wsS RX5 22 yX5_n wsX5_n) := goodIn_app (goodIn_of _ (by decide +kernel)) ggX5_init_X5_n
theorem dX5_init_0 : decode cX5_init 0 = .ok (.aload_n 0, 1) := by decide +kernel
theorem dX5_init_1 : decode cX5_init 1 = .ok (.invokespecial 1, 3) := by decide +kernel
theorem dX5_init_4 : decode cX5_init 4 = .ok (.aload_n 0, 1) := by decide +kernel
theorem dX5_init_5 : decode cX5_init 5 = .ok (.sipush 3053, 3) := by decide +kernel
theorem dX5_init_8 : decode cX5_init 8 = .ok (.newarray .int, 2) := by decide +kernel
theorem dX5_init_10 : decode cX5_init 10 = .ok (.putfield 7, 3) := by decide +kernel
theorem dX5_init_13 : decode cX5_init 13 = .ok (.aload_n 0, 1) := by decide +kernel
theorem dX5_init_14 : decode cX5_init 14 = .ok (.sipush 12212, 3) := by decide +kernel
theorem dX5_init_17 : decode cX5_init 17 = .ok (.newarray .int, 2) := by decide +kernel
theorem dX5_init_19 : decode cX5_init 19 = .ok (.putfield 13, 3) := by decide +kernel
theorem dX5_init_22 : decode cX5_init 22 = .ok (.aload_n 0, 1) := by decide +kernel
theorem dX5_init_23 : decode cX5_init 23 = .ok (.sipush 3053, 3) := by decide +kernel
theorem dX5_init_26 : decode cX5_init 26 = .ok (.newarray .int, 2) := by decide +kernel
theorem dX5_init_28 : decode cX5_init 28 = .ok (.putfield 16, 3) := by decide +kernel
theorem dX5_init_31 : decode cX5_init 31 = .ok (.aload_n 0, 1) := by decide +kernel
theorem dX5_init_32 : decode cX5_init 32 = .ok (.bipush 80, 2) := by decide +kernel
theorem dX5_init_34 : decode cX5_init 34 = .ok (.newarray .int, 2) := by decide +kernel
theorem dX5_init_36 : decode cX5_init 36 = .ok (.putfield 19, 3) := by decide +kernel
theorem dX5_init_39 : decode cX5_init 39 = .ok (.aload_n 0, 1) := by decide +kernel
theorem dX5_init_40 : decode cX5_init 40 = .ok (.getfield 7, 3) := by decide +kernel
theorem dX5_init_43 : decode cX5_init 43 = .ok (.iconst 0, 1) := by decide +kernel
theorem dX5_init_44 : decode cX5_init 44 = .ok (.bipush 10, 2) := by decide +kernel
theorem dX5_init_46 : decode cX5_init 46 = .ok (.iastore, 1) := by decide +kernel
theorem dX5_init_47 : decode cX5_init 47 = .ok (.aload_n 0, 1) := by decide +kernel
theorem dX5_init_48 : decode cX5_init 48 = .ok (.getfield 7, 3) := by decide +kernel
theorem dX5_init_51 : decode cX5_init 51 = .ok (.iconst 1, 1) := by decide +kernel
theorem dX5_init_52 : decode cX5_init 52 = .ok (.iconst 1, 1) := by decide +kernel
theorem dX5_init_53 : decode cX5_init 53 = .ok (.iastore, 1) := by decide +kernel
theorem dX5_init_54 : decode cX5_init 54 = .ok (.aload_n 0, 1) := by decide +kernel
theorem dX5_init_55 : decode cX5_init 55 = .ok (.getfield 7, 3) := by decide +kernel
theorem dX5_init_58 : decode cX5_init 58 = .ok (.iconst 2, 1) := by decide +kernel
theorem dX5_init_59 : decode cX5_init 59 = .ok (.iconst 4, 1) := by decide +kernel
theorem dX5_init_60 : decode cX5_init 60 = .ok (.iastore, 1) := by decide +kernel
theorem dX5_init_61 : decode cX5_init 61 = .ok (.iconst 1, 1) := by decide +kernel
theorem dX5_init_62 : decode cX5_init 62 = .ok (.istore_n 1, 1) := by decide +kernel
theorem dX5_init_63 : decode cX5_init 63 = .ok (.iload_n 1, 1) := by decide +kernel
theorem dX5_init_64 : decode cX5_init 64 = .ok (.sipush 600, 3) := by decide +kernel
theorem dX5_init_67 : decode cX5_init 67 = .ok (.if_icmp .gt 33, 3) := by decide +kernel
theorem dX5_init_70 : decode cX5_init 70 = .ok (.aload_n 0, 1) := by decide +kernel
theorem dX5_init_71 : decode cX5_init 71 = .ok (.getfield 7, 3) := by decide +kernel
theorem dX5_init_74 : decode cX5_init 74 = .ok (.iload_n 1, 1) := by decide +kernel
theorem dX5_init_75 : decode cX5_init 75 = .ok (.invokestatic 22, 3) := by decide +kernel
theorem dX5_init_78 : decode cX5_init 78 = .ok (.iconst 1, 1) := by decide +kernel
theorem dX5_init_79 : decode cX5_init 79 = .ok (.iadd, 1) := by decide +kernel
theorem dX5_init_80 : decode cX5_init 80 = .ok (.iconst (-1), 1) := by decide +kernel
theorem dX5_init_81 : decode cX5_init 81 = .ok (.iastore, 1) := by decide +kernel
theorem dX5_init_82 : decode cX5_init 82 = .ok (.aload_n 0, 1) := by decide +kernel
theorem dX5_init_83 : decode cX5_init 83 = .ok (.getfield 7, 3) := by decide +kernel
theorem dX5_init_86 : decode cX5_init 86 = .ok (.iload_n 1, 1) := by decide +kernel
theorem dX5_init_87 : decode cX5_init 87 = .ok (.invokestatic 22, 3) := by decide +kernel
theorem dX5_init_90 : decode cX5_init 90 = .ok (.iconst 2, 1) := by decide +kernel
theorem dX5_init_91 : decode cX5_init 91 = .ok (.iadd, 1) := by decide +kernel
theorem dX5_init_92 : decode cX5_init 92 = .ok (.iconst (-1), 1) := by decide +kernel
theorem dX5_init_93 : decode cX5_init 93 = .ok (.iastore, 1) := by decide +kernel
theorem dX5_init_94 : decode cX5_init 94 = .ok (.iinc 1 1, 3) := by decide +kernel
theorem dX5_init_97 : decode cX5_init 97 = .ok (.goto (-34), 3) := by decide +kernel
theorem dX5_init_100 : decode cX5_init 100 = .ok (.return_, 1) := by decide +kernel
theorem dX5_in_0 : decode cX5_in 0 = .ok (.iload_n 0, 1) := by decide +kernel
theorem dX5_in_1 : decode cX5_in 1 = .ok (.iload_n 1, 1) := by decide +kernel
theorem dX5_in_2 : decode cX5_in 2 = .ok (.if_icmp .lt 12, 3) := by decide +kernel
theorem dX5_in_5 : decode cX5_in 5 = .ok (.iload_n 0, 1) := by decide +kernel
theorem dX5_in_6 : decode cX5_in 6 = .ok (.iload_n 2, 1) := by decide +kernel
theorem dX5_in_7 : decode cX5_in 7 = .ok (.if_icmp .gt 7, 3) := by decide +kernel
theorem dX5_in_10 : decode cX5_in 10 = .ok (.iconst 1, 1) := by decide +kernel
theorem dX5_in_11 : decode cX5_in 11 = .ok (.goto 4, 3) := by decide +kernel
theorem dX5_in_14 : decode cX5_in 14 = .ok (.iconst 0, 1) := by decide +kernel
theorem dX5_in_15 : decode cX5_in 15 = .ok (.ireturn, 1) := by decide +kernel
theorem dX5_record_0 : decode cX5_record 0 = .ok (.aload_n 0, 1) := by decide +kernel
theorem dX5_record_1 : decode cX5_record 1 = .ok (.getfield 26, 3) := by decide +kernel
theorem dX5_record_4 : decode cX5_record 4 = .ok (.iconst 4, 1) := by decide +kernel
theorem dX5_record_5 : decode cX5_record 5 = .ok (.if_icmp .ne 44, 3) := by decide +kernel
theorem dX5_record_8 : decode cX5_record 8 = .ok (.iconst 0, 1) := by decide +kernel
theorem dX5_record_9 : decode cX5_record 9 = .ok (.istore_n 1, 1) := by decide +kernel
theorem dX5_record_10 : decode cX5_record 10 = .ok (.iload_n 1, 1) := by decide +kernel
theorem dX5_record_11 : decode cX5_record 11 = .ok (.sipush 9159, 3) := by decide +kernel
theorem dX5_record_14 : decode cX5_record 14 = .ok (.if_icmp .ge 25, 3) := by decide +kernel
theorem dX5_record_17 : decode cX5_record 17 = .ok (.aload_n 0, 1) := by decide +kernel
theorem dX5_record_18 : decode cX5_record 18 = .ok (.getfield 13, 3) := by decide +kernel
theorem dX5_record_21 : decode cX5_record 21 = .ok (.iload_n 1, 1) := by decide +kernel
theorem dX5_record_22 : decode cX5_record 22 = .ok (.aload_n 0, 1) := by decide +kernel
theorem dX5_record_23 : decode cX5_record 23 = .ok (.getfield 13, 3) := by decide +kernel
theorem dX5_record_26 : decode cX5_record 26 = .ok (.sipush 3053, 3) := by decide +kernel
theorem dX5_record_29 : decode cX5_record 29 = .ok (.iload_n 1, 1) := by decide +kernel
theorem dX5_record_30 : decode cX5_record 30 = .ok (.iadd, 1) := by decide +kernel
theorem dX5_record_31 : decode cX5_record 31 = .ok (.iaload, 1) := by decide +kernel
theorem dX5_record_32 : decode cX5_record 32 = .ok (.iastore, 1) := by decide +kernel
theorem dX5_record_33 : decode cX5_record 33 = .ok (.iinc 1 1, 3) := by decide +kernel
theorem dX5_record_36 : decode cX5_record 36 = .ok (.goto (-26), 3) := by decide +kernel
theorem dX5_record_39 : decode cX5_record 39 = .ok (.aload_n 0, 1) := by decide +kernel
theorem dX5_record_40 : decode cX5_record 40 = .ok (.dup, 1) := by decide +kernel
theorem dX5_record_41 : decode cX5_record 41 = .ok (.getfield 26, 3) := by decide +kernel
theorem dX5_record_44 : decode cX5_record 44 = .ok (.iconst 1, 1) := by decide +kernel
theorem dX5_record_45 : decode cX5_record 45 = .ok (.isub, 1) := by decide +kernel
theorem dX5_record_46 : decode cX5_record 46 = .ok (.putfield 26, 3) := by decide +kernel
theorem dX5_record_49 : decode cX5_record 49 = .ok (.iconst 0, 1) := by decide +kernel
theorem dX5_record_50 : decode cX5_record 50 = .ok (.istore_n 1, 1) := by decide +kernel
theorem dX5_record_51 : decode cX5_record 51 = .ok (.iload_n 1, 1) := by decide +kernel
theorem dX5_record_52 : decode cX5_record 52 = .ok (.sipush 3053, 3) := by decide +kernel
theorem dX5_record_55 : decode cX5_record 55 = .ok (.if_icmp .ge 30, 3) := by decide +kernel
theorem dX5_record_58 : decode cX5_record 58 = .ok (.aload_n 0, 1) := by decide +kernel
theorem dX5_record_59 : decode cX5_record 59 = .ok (.getfield 13, 3) := by decide +kernel
theorem dX5_record_62 : decode cX5_record 62 = .ok (.sipush 3053, 3) := by decide +kernel
theorem dX5_record_65 : decode cX5_record 65 = .ok (.aload_n 0, 1) := by decide +kernel
theorem dX5_record_66 : decode cX5_record 66 = .ok (.getfield 26, 3) := by decide +kernel
theorem dX5_record_69 : decode cX5_record 69 = .ok (.imul, 1) := by decide +kernel
theorem dX5_record_70 : decode cX5_record 70 = .ok (.iload_n 1, 1) := by decide +kernel
theorem dX5_record_71 : decode cX5_record 71 = .ok (.iadd, 1) := by decide +kernel
theorem dX5_record_72 : decode cX5_record 72 = .ok (.aload_n 0, 1) := by decide +kernel
theorem dX5_record_73 : decode cX5_record 73 = .ok (.getfield 7, 3) := by decide +kernel
theorem dX5_record_76 : decode cX5_record 76 = .ok (.iload_n 1, 1) := by decide +kernel
theorem dX5_record_77 : decode cX5_record 77 = .ok (.iaload, 1) := by decide +kernel
theorem dX5_record_78 : decode cX5_record 78 = .ok (.iastore, 1) := by decide +kernel
theorem dX5_record_79 : decode cX5_record 79 = .ok (.iinc 1 1, 3) := by decide +kernel
theorem dX5_record_82 : decode cX5_record 82 = .ok (.goto (-31), 3) := by decide +kernel
theorem dX5_record_85 : decode cX5_record 85 = .ok (.aload_n 0, 1) := by decide +kernel
theorem dX5_record_86 : decode cX5_record 86 = .ok (.dup, 1) := by decide +kernel
theorem dX5_record_87 : decode cX5_record 87 = .ok (.getfield 26, 3) := by decide +kernel
theorem dX5_record_90 : decode cX5_record 90 = .ok (.iconst 1, 1) := by decide +kernel
theorem dX5_record_91 : decode cX5_record 91 = .ok (.iadd, 1) := by decide +kernel
theorem dX5_record_92 : decode cX5_record 92 = .ok (.putfield 26, 3) := by decide +kernel
theorem dX5_record_95 : decode cX5_record 95 = .ok (.return_, 1) := by decide +kernel
theorem dX5_layAside_0 : decode cX5_layAside 0 = .ok (.iconst 0, 1) := by decide +kernel
theorem dX5_layAside_1 : decode cX5_layAside 1 = .ok (.istore_n 1, 1) := by decide +kernel
theorem dX5_layAside_2 : decode cX5_layAside 2 = .ok (.iload_n 1, 1) := by decide +kernel
theorem dX5_layAside_3 : decode cX5_layAside 3 = .ok (.sipush 3053, 3) := by decide +kernel
theorem dX5_layAside_6 : decode cX5_layAside 6 = .ok (.if_icmp .ge 21, 3) := by decide +kernel
theorem dX5_layAside_9 : decode cX5_layAside 9 = .ok (.aload_n 0, 1) := by decide +kernel
theorem dX5_layAside_10 : decode cX5_layAside 10 = .ok (.getfield 16, 3) := by decide +kernel
theorem dX5_layAside_13 : decode cX5_layAside 13 = .ok (.iload_n 1, 1) := by decide +kernel
theorem dX5_layAside_14 : decode cX5_layAside 14 = .ok (.aload_n 0, 1) := by decide +kernel
theorem dX5_layAside_15 : decode cX5_layAside 15 = .ok (.getfield 7, 3) := by decide +kernel
theorem dX5_layAside_18 : decode cX5_layAside 18 = .ok (.iload_n 1, 1) := by decide +kernel
theorem dX5_layAside_19 : decode cX5_layAside 19 = .ok (.iaload, 1) := by decide +kernel
theorem dX5_layAside_20 : decode cX5_layAside 20 = .ok (.iastore, 1) := by decide +kernel
theorem dX5_layAside_21 : decode cX5_layAside 21 = .ok (.iinc 1 1, 3) := by decide +kernel
theorem dX5_layAside_24 : decode cX5_layAside 24 = .ok (.goto (-22), 3) := by decide +kernel
theorem dX5_layAside_27 : decode cX5_layAside 27 = .ok (.return_, 1) := by decide +kernel
theorem dX5_layBack_0 : decode cX5_layBack 0 = .ok (.iconst 0, 1) := by decide +kernel
theorem dX5_layBack_1 : decode cX5_layBack 1 = .ok (.istore_n 1, 1) := by decide +kernel
theorem dX5_layBack_2 : decode cX5_layBack 2 = .ok (.iload_n 1, 1) := by decide +kernel
theorem dX5_layBack_3 : decode cX5_layBack 3 = .ok (.sipush 3053, 3) := by decide +kernel
theorem dX5_layBack_6 : decode cX5_layBack 6 = .ok (.if_icmp .ge 21, 3) := by decide +kernel
theorem dX5_layBack_9 : decode cX5_layBack 9 = .ok (.aload_n 0, 1) := by decide +kernel
theorem dX5_layBack_10 : decode cX5_layBack 10 = .ok (.getfield 7, 3) := by decide +kernel
theorem dX5_layBack_13 : decode cX5_layBack 13 = .ok (.iload_n 1, 1) := by decide +kernel
theorem dX5_layBack_14 : decode cX5_layBack 14 = .ok (.aload_n 0, 1) := by decide +kernel
theorem dX5_layBack_15 : decode cX5_layBack 15 = .ok (.getfield 16, 3) := by decide +kernel
theorem dX5_layBack_18 : decode cX5_layBack 18 = .ok (.iload_n 1, 1) := by decide +kernel
theorem dX5_layBack_19 : decode cX5_layBack 19 = .ok (.iaload, 1) := by decide +kernel
theorem dX5_layBack_20 : decode cX5_layBack 20 = .ok (.iastore, 1) := by decide +kernel
theorem dX5_layBack_21 : decode cX5_layBack 21 = .ok (.iinc 1 1, 3) := by decide +kernel
theorem dX5_layBack_24 : decode cX5_layBack 24 = .ok (.goto (-22), 3) := by decide +kernel
theorem dX5_layBack_27 : decode cX5_layBack 27 = .ok (.return_, 1) := by decide +kernel
theorem dX5_n_0 : decode cX5_n 0 = .ok (.bipush 48, 2) := by decide +kernel
theorem dX5_n_2 : decode cX5_n 2 = .ok (.iconst 5, 1) := by decide +kernel
theorem dX5_n_3 : decode cX5_n 3 = .ok (.iload_n 0, 1) := by decide +kernel
theorem dX5_n_4 : decode cX5_n 4 = .ok (.imul, 1) := by decide +kernel
theorem dX5_n_5 : decode cX5_n 5 = .ok (.iadd, 1) := by decide +kernel
theorem dX5_n_6 : decode cX5_n 6 = .ok (.ireturn, 1) := by decide +kernel
theorem dX5_c_0 : decode cX5_c 0 = .ok (.bipush 6, 2) := by decide +kernel
theorem dX5_c_2 : decode cX5_c 2 = .ok (.bipush 7, 2) := by decide +kernel
theorem dX5_c_4 : decode cX5_c 4 = .ok (.iload_n 0, 1) := by decide +kernel
theorem dX5_c_5 : decode cX5_c 5 = .ok (.imul, 1) := by decide +kernel
theorem dX5_c_6 : decode cX5_c 6 = .ok (.iadd, 1) := by decide +kernel
theorem dX5_c_7 : decode cX5_c 7 = .ok (.ireturn, 1) := by decide +kernel
set_option maxRecDepth 20000 in
theorem ggX5_isClerk_X5_in : GoodIn wsX5_isClerk wsX5_in := goodIn_r _ [5] (by decide +kernel) (by decide +kernel)
set_option maxRecDepth 20000 in
theorem gX5_isClerk_X5_in : GoodIn wsX5_isClerk (va_wsS RX5 30 yX5_in wsX5_in) := goodIn_app (goodIn_of _ (by decide +kernel)) ggX5_isClerk_X5_in
theorem dX5_isClerk_0 : decode cX5_isClerk 0 = .ok (.iload_n 1, 1) := by decide +kernel
theorem dX5_isClerk_1 : decode cX5_isClerk 1 = .ok (.iconst 0, 1) := by decide +kernel
theorem dX5_isClerk_2 : decode cX5_isClerk 2 = .ok (.aload_n 0, 1) := by decide +kernel
theorem dX5_isClerk_3 : decode cX5_isClerk 3 = .ok (.getfield 7, 3) := by decide +kernel
theorem dX5_isClerk_6 : decode cX5_isClerk 6 = .ok (.iconst 3, 1) := by decide +kernel
theorem dX5_isClerk_7 : decode cX5_isClerk 7 = .ok (.iaload, 1) := by decide +kernel
theorem dX5_isClerk_8 : decode cX5_isClerk 8 = .ok (.iconst 1, 1) := by decide +kernel
theorem dX5_isClerk_9 : decode cX5_isClerk 9 = .ok (.isub, 1) := by decide +kernel
theorem dX5_isClerk_10 : decode cX5_isClerk 10 = .ok (.invokestatic 30, 3) := by decide +kernel
theorem dX5_isClerk_13 : decode cX5_isClerk 13 = .ok (.ireturn, 1) := by decide +kernel
set_option maxRecDepth 20000 in
theorem ggX5_isNumber_X5_in : GoodIn wsX5_isNumber wsX5_in := goodIn_r _ [4] (by decide +kernel) (by decide +kernel)
set_option maxRecDepth 20000 in
theorem gX5_isNumber_X5_in : GoodIn wsX5_isNumber (va_wsS RX5 30 yX5_in wsX5_in) := goodIn_app (goodIn_of _ (by decide +kernel)) ggX5_isNumber_X5_in
theorem dX5_isNumber_0 : decode cX5_isNumber 0 = .ok (.iload_n 0, 1) := by decide +kernel
theorem dX5_isNumber_1 : decode cX5_isNumber 1 = .ok (.iconst 1, 1) := by decide +kernel
theorem dX5_isNumber_2 : decode cX5_isNumber 2 = .ok (.sipush 600, 3) := by decide +kernel
theorem dX5_isNumber_5 : decode cX5_isNumber 5 = .ok (.invokestatic 30, 3) := by decide +kernel
theorem dX5_isNumber_8 : decode cX5_isNumber 8 = .ok (.ireturn, 1) := by decide +kernel
set_option maxRecDepth 20000 in
theorem ggX5_holds_X5_c : GoodIn wsX5_holds wsX5_c := goodIn_r _ [5] (by decide +kernel) (by decide +kernel)
set_option maxRecDepth 20000 in
theorem gX5_holds_X5_c : GoodIn wsX5_holds (va_wsS RX5 34 yX5_c wsX5_c) := goodIn_app (goodIn_of _ (by decide +kernel)) ggX5_holds_X5_c
theorem dX5_holds_0 : decode cX5_holds 0 = .ok (.aload_n 0, 1) := by decide +kernel
theorem dX5_holds_1 : decode cX5_holds 1 = .ok (.getfield 7, 3) := by decide +kernel
theorem dX5_holds_4 : decode cX5_holds 4 = .ok (.iload_n 1, 1) := by decide +kernel
theorem dX5_holds_5 : decode cX5_holds 5 = .ok (.invokestatic 34, 3) := by decide +kernel
theorem dX5_holds_8 : decode cX5_holds 8 = .ok (.iconst 2, 1) := by decide +kernel
theorem dX5_holds_9 : decode cX5_holds 9 = .ok (.iadd, 1) := by decide +kernel
theorem dX5_holds_10 : decode cX5_holds 10 = .ok (.iaload, 1) := by decide +kernel
theorem dX5_holds_11 : decode cX5_holds 11 = .ok (.aload_n 0, 1) := by decide +kernel
theorem dX5_holds_12 : decode cX5_holds 12 = .ok (.getfield 7, 3) := by decide +kernel
theorem dX5_holds_15 : decode cX5_holds 15 = .ok (.iload_n 1, 1) := by decide +kernel
theorem dX5_holds_16 : decode cX5_holds 16 = .ok (.invokestatic 34, 3) := by decide +kernel
theorem dX5_holds_19 : decode cX5_holds 19 = .ok (.iconst 1, 1) := by decide +kernel
theorem dX5_holds_20 : decode cX5_holds 20 = .ok (.iadd, 1) := by decide +kernel
theorem dX5_holds_21 : decode cX5_holds 21 = .ok (.iaload, 1) := by decide +kernel
theorem dX5_holds_22 : decode cX5_holds 22 = .ok (.isub, 1) := by decide +kernel
theorem dX5_holds_23 : decode cX5_holds 23 = .ok (.iconst 1, 1) := by decide +kernel
theorem dX5_holds_24 : decode cX5_holds 24 = .ok (.iadd, 1) := by decide +kernel
theorem dX5_holds_25 : decode cX5_holds 25 = .ok (.ireturn, 1) := by decide +kernel
set_option maxRecDepth 20000 in
theorem ggX5_many_X5_n : GoodIn wsX5_many wsX5_n := goodIn_r _ [5] (by decide +kernel) (by decide +kernel)
set_option maxRecDepth 20000 in
theorem gX5_many_X5_n : GoodIn wsX5_many (va_wsS RX5 22 yX5_n wsX5_n) := goodIn_app (goodIn_of _ (by decide +kernel)) ggX5_many_X5_n
theorem dX5_many_0 : decode cX5_many 0 = .ok (.iconst 0, 1) := by decide +kernel
theorem dX5_many_1 : decode cX5_many 1 = .ok (.istore_n 2, 1) := by decide +kernel
theorem dX5_many_2 : decode cX5_many 2 = .ok (.iconst 1, 1) := by decide +kernel
theorem dX5_many_3 : decode cX5_many 3 = .ok (.istore_n 3, 1) := by decide +kernel
theorem dX5_many_4 : decode cX5_many 4 = .ok (.iload_n 3, 1) := by decide +kernel
theorem dX5_many_5 : decode cX5_many 5 = .ok (.sipush 600, 3) := by decide +kernel
theorem dX5_many_8 : decode cX5_many 8 = .ok (.if_icmp .gt 32, 3) := by decide +kernel
theorem dX5_many_11 : decode cX5_many 11 = .ok (.iload_n 2, 1) := by decide +kernel
theorem dX5_many_12 : decode cX5_many 12 = .ok (.aload_n 0, 1) := by decide +kernel
theorem dX5_many_13 : decode cX5_many 13 = .ok (.getfield 7, 3) := by decide +kernel
theorem dX5_many_16 : decode cX5_many 16 = .ok (.iload_n 3, 1) := by decide +kernel
theorem dX5_many_17 : decode cX5_many 17 = .ok (.invokestatic 22, 3) := by decide +kernel
theorem dX5_many_20 : decode cX5_many 20 = .ok (.iconst 0, 1) := by decide +kernel
theorem dX5_many_21 : decode cX5_many 21 = .ok (.iadd, 1) := by decide +kernel
theorem dX5_many_22 : decode cX5_many 22 = .ok (.iaload, 1) := by decide +kernel
theorem dX5_many_23 : decode cX5_many 23 = .ok (.iload_n 1, 1) := by decide +kernel
theorem dX5_many_24 : decode cX5_many 24 = .ok (.if_icmp .ne 7, 3) := by decide +kernel
theorem dX5_many_27 : decode cX5_many 27 = .ok (.iconst 1, 1) := by decide +kernel
theorem dX5_many_28 : decode cX5_many 28 = .ok (.goto 4, 3) := by decide +kernel
theorem dX5_many_31 : decode cX5_many 31 = .ok (.iconst 0, 1) := by decide +kernel
theorem dX5_many_32 : decode cX5_many 32 = .ok (.iadd, 1) := by decide +kernel
theorem dX5_many_33 : decode cX5_many 33 = .ok (.istore_n 2, 1) := by decide +kernel
theorem dX5_many_34 : decode cX5_many 34 = .ok (.iinc 3 1, 3) := by decide +kernel
theorem dX5_many_37 : decode cX5_many 37 = .ok (.goto (-33), 3) := by decide +kernel
theorem dX5_many_40 : decode cX5_many 40 = .ok (.iload_n 2, 1) := by decide +kernel
theorem dX5_many_41 : decode cX5_many 41 = .ok (.ireturn, 1) := by decide +kernel
set_option maxRecDepth 20000 in
theorem ggX5_lowest_X5_n : GoodIn wsX5_lowest wsX5_n := goodIn_r _ [5] (by decide +kernel) (by decide +kernel)
set_option maxRecDepth 20000 in
theorem gX5_lowest_X5_n : GoodIn wsX5_lowest (va_wsS RX5 22 yX5_n wsX5_n) := goodIn_app (goodIn_of _ (by decide +kernel)) ggX5_lowest_X5_n
theorem dX5_lowest_0 : decode cX5_lowest 0 = .ok (.iconst 1, 1) := by decide +kernel
theorem dX5_lowest_1 : decode cX5_lowest 1 = .ok (.istore_n 2, 1) := by decide +kernel
theorem dX5_lowest_2 : decode cX5_lowest 2 = .ok (.iload_n 2, 1) := by decide +kernel
theorem dX5_lowest_3 : decode cX5_lowest 3 = .ok (.sipush 600, 3) := by decide +kernel
theorem dX5_lowest_6 : decode cX5_lowest 6 = .ok (.if_icmp .gt 24, 3) := by decide +kernel
theorem dX5_lowest_9 : decode cX5_lowest 9 = .ok (.aload_n 0, 1) := by decide +kernel
theorem dX5_lowest_10 : decode cX5_lowest 10 = .ok (.getfield 7, 3) := by decide +kernel
theorem dX5_lowest_13 : decode cX5_lowest 13 = .ok (.iload_n 2, 1) := by decide +kernel
theorem dX5_lowest_14 : decode cX5_lowest 14 = .ok (.invokestatic 22, 3) := by decide +kernel
theorem dX5_lowest_17 : decode cX5_lowest 17 = .ok (.iconst 0, 1) := by decide +kernel
theorem dX5_lowest_18 : decode cX5_lowest 18 = .ok (.iadd, 1) := by decide +kernel
theorem dX5_lowest_19 : decode cX5_lowest 19 = .ok (.iaload, 1) := by decide +kernel
theorem dX5_lowest_20 : decode cX5_lowest 20 = .ok (.iload_n 1, 1) := by decide +kernel
theorem dX5_lowest_21 : decode cX5_lowest 21 = .ok (.if_icmp .eq 9, 3) := by decide +kernel
theorem dX5_lowest_24 : decode cX5_lowest 24 = .ok (.iinc 2 1, 3) := by decide +kernel
theorem dX5_lowest_27 : decode cX5_lowest 27 = .ok (.goto (-25), 3) := by decide +kernel
theorem dX5_lowest_30 : decode cX5_lowest 30 = .ok (.iload_n 2, 1) := by decide +kernel
theorem dX5_lowest_31 : decode cX5_lowest 31 = .ok (.ireturn, 1) := by decide +kernel
set_option maxRecDepth 20000 in
theorem ggX5_goClerk_X5_c : GoodIn wsX5_goClerk wsX5_c := goodIn_r _ [5] (by decide +kernel) (by decide +kernel)
set_option maxRecDepth 20000 in
theorem gX5_goClerk_X5_c : GoodIn wsX5_goClerk (va_wsS RX5 34 yX5_c wsX5_c) := goodIn_app (goodIn_of _ (by decide +kernel)) ggX5_goClerk_X5_c
theorem dX5_goClerk_0 : decode cX5_goClerk 0 = .ok (.aload_n 0, 1) := by decide +kernel
theorem dX5_goClerk_1 : decode cX5_goClerk 1 = .ok (.getfield 7, 3) := by decide +kernel
theorem dX5_goClerk_4 : decode cX5_goClerk 4 = .ok (.iconst 3, 1) := by decide +kernel
theorem dX5_goClerk_5 : decode cX5_goClerk 5 = .ok (.iaload, 1) := by decide +kernel
theorem dX5_goClerk_6 : decode cX5_goClerk 6 = .ok (.invokestatic 34, 3) := by decide +kernel
theorem dX5_goClerk_9 : decode cX5_goClerk 9 = .ok (.istore_n 2, 1) := by decide +kernel
theorem dX5_goClerk_10 : decode cX5_goClerk 10 = .ok (.aload_n 0, 1) := by decide +kernel
theorem dX5_goClerk_11 : decode cX5_goClerk 11 = .ok (.getfield 7, 3) := by decide +kernel
theorem dX5_goClerk_14 : decode cX5_goClerk 14 = .ok (.iload_n 2, 1) := by decide +kernel
theorem dX5_goClerk_15 : decode cX5_goClerk 15 = .ok (.iconst 0, 1) := by decide +kernel
theorem dX5_goClerk_16 : decode cX5_goClerk 16 = .ok (.iadd, 1) := by decide +kernel
theorem dX5_goClerk_17 : decode cX5_goClerk 17 = .ok (.iload_n 1, 1) := by decide +kernel
theorem dX5_goClerk_18 : decode cX5_goClerk 18 = .ok (.iastore, 1) := by decide +kernel
theorem dX5_goClerk_19 : decode cX5_goClerk 19 = .ok (.aload_n 0, 1) := by decide +kernel
theorem dX5_goClerk_20 : decode cX5_goClerk 20 = .ok (.getfield 7, 3) := by decide +kernel
theorem dX5_goClerk_23 : decode cX5_goClerk 23 = .ok (.iload_n 2, 1) := by decide +kernel
theorem dX5_goClerk_24 : decode cX5_goClerk 24 = .ok (.iconst 1, 1) := by decide +kernel
theorem dX5_goClerk_25 : decode cX5_goClerk 25 = .ok (.iadd, 1) := by decide +kernel
theorem dX5_goClerk_26 : decode cX5_goClerk 26 = .ok (.iconst 1, 1) := by decide +kernel
theorem dX5_goClerk_27 : decode cX5_goClerk 27 = .ok (.iastore, 1) := by decide +kernel
theorem dX5_goClerk_28 : decode cX5_goClerk 28 = .ok (.aload_n 0, 1) := by decide +kernel
theorem dX5_goClerk_29 : decode cX5_goClerk 29 = .ok (.getfield 7, 3) := by decide +kernel
theorem dX5_goClerk_32 : decode cX5_goClerk 32 = .ok (.iload_n 2, 1) := by decide +kernel
theorem dX5_goClerk_33 : decode cX5_goClerk 33 = .ok (.iconst 2, 1) := by decide +kernel
theorem dX5_goClerk_34 : decode cX5_goClerk 34 = .ok (.iadd, 1) := by decide +kernel
theorem dX5_goClerk_35 : decode cX5_goClerk 35 = .ok (.iconst 0, 1) := by decide +kernel
theorem dX5_goClerk_36 : decode cX5_goClerk 36 = .ok (.iastore, 1) := by decide +kernel
theorem dX5_goClerk_37 : decode cX5_goClerk 37 = .ok (.aload_n 0, 1) := by decide +kernel
theorem dX5_goClerk_38 : decode cX5_goClerk 38 = .ok (.getfield 7, 3) := by decide +kernel
theorem dX5_goClerk_41 : decode cX5_goClerk 41 = .ok (.iload_n 2, 1) := by decide +kernel
theorem dX5_goClerk_42 : decode cX5_goClerk 42 = .ok (.bipush 6, 2) := by decide +kernel
theorem dX5_goClerk_44 : decode cX5_goClerk 44 = .ok (.iadd, 1) := by decide +kernel
theorem dX5_goClerk_45 : decode cX5_goClerk 45 = .ok (.iconst (-1), 1) := by decide +kernel
theorem dX5_goClerk_46 : decode cX5_goClerk 46 = .ok (.iastore, 1) := by decide +kernel
theorem dX5_goClerk_47 : decode cX5_goClerk 47 = .ok (.aload_n 0, 1) := by decide +kernel
theorem dX5_goClerk_48 : decode cX5_goClerk 48 = .ok (.getfield 7, 3) := by decide +kernel
theorem dX5_goClerk_51 : decode cX5_goClerk 51 = .ok (.iconst 3, 1) := by decide +kernel
theorem dX5_goClerk_52 : decode cX5_goClerk 52 = .ok (.dup2, 1) := by decide +kernel
theorem dX5_goClerk_53 : decode cX5_goClerk 53 = .ok (.iaload, 1) := by decide +kernel
theorem dX5_goClerk_54 : decode cX5_goClerk 54 = .ok (.iconst 1, 1) := by decide +kernel
theorem dX5_goClerk_55 : decode cX5_goClerk 55 = .ok (.iadd, 1) := by decide +kernel
theorem dX5_goClerk_56 : decode cX5_goClerk 56 = .ok (.iastore, 1) := by decide +kernel
theorem dX5_goClerk_57 : decode cX5_goClerk 57 = .ok (.aload_n 0, 1) := by decide +kernel
theorem dX5_goClerk_58 : decode cX5_goClerk 58 = .ok (.getfield 7, 3) := by decide +kernel
theorem dX5_goClerk_61 : decode cX5_goClerk 61 = .ok (.iconst 3, 1) := by decide +kernel
theorem dX5_goClerk_62 : decode cX5_goClerk 62 = .ok (.iaload, 1) := by decide +kernel
theorem dX5_goClerk_63 : decode cX5_goClerk 63 = .ok (.iconst 1, 1) := by decide +kernel
theorem dX5_goClerk_64 : decode cX5_goClerk 64 = .ok (.isub, 1) := by decide +kernel
theorem dX5_goClerk_65 : decode cX5_goClerk 65 = .ok (.ireturn, 1) := by decide +kernel
set_option maxRecDepth 20000 in
theorem ggX5_clerk_X5_in : GoodIn wsX5_clerk wsX5_in := goodIn_r _ [5] (by decide +kernel) (by decide +kernel)
set_option maxRecDepth 20000 in
theorem gX5_clerk_X5_in : GoodIn wsX5_clerk (va_wsS RX5 30 yX5_in wsX5_in) := goodIn_app (goodIn_of _ (by decide +kernel)) ggX5_clerk_X5_in
set_option maxRecDepth 20000 in
theorem ggX5_clerk_X5_record : GoodIn wsX5_clerk wsX5_record := goodIn_r _ [9, 10, 11, 1, 19, 20, 21, 22, 23, 24, 25, 26, 27, 28, 29] (by decide +kernel) (by decide +kernel)
set_option maxRecDepth 20000 in
theorem gX5_clerk_X5_record : GoodIn wsX5_clerk (wsV RX5 37 RX5 yX5_record wsX5_record) := goodIn_app (goodIn_of _ (by decide +kernel)) ggX5_clerk_X5_record
set_option maxRecDepth 20000 in
theorem ggX5_clerk_X5_goClerk : GoodIn wsX5_clerk wsX5_goClerk := goodIn_r _ [15, 1, 16, 17, 4, 18, 19, 20, 21, 22, 23, 24, 25, 26, 27, 28, 29] (by decide +kernel) (by decide +kernel)
set_option maxRecDepth 20000 in
theorem gX5_clerk_X5_goClerk : GoodIn wsX5_clerk (wsV RX5 40 RX5 yX5_goClerk wsX5_goClerk) := goodIn_app (goodIn_of _ (by decide +kernel)) ggX5_clerk_X5_goClerk
theorem dX5_clerk_0 : decode cX5_clerk 0 = .ok (.iload_n 1, 1) := by decide +kernel
theorem dX5_clerk_1 : decode cX5_clerk 1 = .ok (.iconst 0, 1) := by decide +kernel
theorem dX5_clerk_2 : decode cX5_clerk 2 = .ok (.iconst 2, 1) := by decide +kernel
theorem dX5_clerk_3 : decode cX5_clerk 3 = .ok (.invokestatic 30, 3) := by decide +kernel
theorem dX5_clerk_6 : decode cX5_clerk 6 = .ok (.ifCond .ne 5, 3) := by decide +kernel
theorem dX5_clerk_9 : decode cX5_clerk 9 = .ok (.iconst (-1), 1) := by decide +kernel
theorem dX5_clerk_10 : decode cX5_clerk 10 = .ok (.ireturn, 1) := by decide +kernel
theorem dX5_clerk_11 : decode cX5_clerk 11 = .ok (.aload_n 0, 1) := by decide +kernel
theorem dX5_clerk_12 : decode cX5_clerk 12 = .ok (.getfield 7, 3) := by decide +kernel
theorem dX5_clerk_15 : decode cX5_clerk 15 = .ok (.iconst 3, 1) := by decide +kernel
theorem dX5_clerk_16 : decode cX5_clerk 16 = .ok (.iaload, 1) := by decide +kernel
theorem dX5_clerk_17 : decode cX5_clerk 17 = .ok (.bipush 6, 2) := by decide +kernel
theorem dX5_clerk_19 : decode cX5_clerk 19 = .ok (.if_icmp .ne 6, 3) := by decide +kernel
theorem dX5_clerk_22 : decode cX5_clerk 22 = .ok (.bipush (-3), 2) := by decide +kernel
theorem dX5_clerk_24 : decode cX5_clerk 24 = .ok (.ireturn, 1) := by decide +kernel
theorem dX5_clerk_25 : decode cX5_clerk 25 = .ok (.aload_n 0, 1) := by decide +kernel
theorem dX5_clerk_26 : decode cX5_clerk 26 = .ok (.invokevirtual 37, 3) := by decide +kernel
theorem dX5_clerk_29 : decode cX5_clerk 29 = .ok (.aload_n 0, 1) := by decide +kernel
theorem dX5_clerk_30 : decode cX5_clerk 30 = .ok (.iload_n 1, 1) := by decide +kernel
theorem dX5_clerk_31 : decode cX5_clerk 31 = .ok (.invokevirtual 40, 3) := by decide +kernel
theorem dX5_clerk_34 : decode cX5_clerk 34 = .ok (.ireturn, 1) := by decide +kernel
set_option maxRecDepth 20000 in
theorem ggX5_blockFrom_X5_lowest : GoodIn wsX5_blockFrom wsX5_lowest := goodIn_r _ [6, 1, 7, 8, 5, 9, 10, 11, 12, 13, 14, 15, 16, 17, 18, 19, 20] (by decide +kernel) (by decide +kernel)
set_option maxRecDepth 20000 in
theorem gX5_blockFrom_X5_lowest : GoodIn wsX5_blockFrom (wsV RX5 43 RX5 yX5_lowest wsX5_lowest) := goodIn_app (goodIn_of _ (by decide +kernel)) ggX5_blockFrom_X5_lowest
theorem dX5_blockFrom_0 : decode cX5_blockFrom 0 = .ok (.aload_n 0, 1) := by decide +kernel
theorem dX5_blockFrom_1 : decode cX5_blockFrom 1 = .ok (.getfield 7, 3) := by decide +kernel
theorem dX5_blockFrom_4 : decode cX5_blockFrom 4 = .ok (.iconst 1, 1) := by decide +kernel
theorem dX5_blockFrom_5 : decode cX5_blockFrom 5 = .ok (.iaload, 1) := by decide +kernel
theorem dX5_blockFrom_6 : decode cX5_blockFrom 6 = .ok (.iconst 1, 1) := by decide +kernel
theorem dX5_blockFrom_7 : decode cX5_blockFrom 7 = .ok (.if_icmp .ne 11, 3) := by decide +kernel
theorem dX5_blockFrom_10 : decode cX5_blockFrom 10 = .ok (.aload_n 0, 1) := by decide +kernel
theorem dX5_blockFrom_11 : decode cX5_blockFrom 11 = .ok (.iconst 3, 1) := by decide +kernel
theorem dX5_blockFrom_12 : decode cX5_blockFrom 12 = .ok (.invokevirtual 43, 3) := by decide +kernel
theorem dX5_blockFrom_15 : decode cX5_blockFrom 15 = .ok (.goto 6, 3) := by decide +kernel
theorem dX5_blockFrom_18 : decode cX5_blockFrom 18 = .ok (.sipush 601, 3) := by decide +kernel
theorem dX5_blockFrom_21 : decode cX5_blockFrom 21 = .ok (.istore_n 1, 1) := by decide +kernel
theorem dX5_blockFrom_22 : decode cX5_blockFrom 22 = .ok (.iload_n 1, 1) := by decide +kernel
theorem dX5_blockFrom_23 : decode cX5_blockFrom 23 = .ok (.sipush 600, 3) := by decide +kernel
theorem dX5_blockFrom_26 : decode cX5_blockFrom 26 = .ok (.if_icmp .gt 7, 3) := by decide +kernel
theorem dX5_blockFrom_29 : decode cX5_blockFrom 29 = .ok (.iload_n 1, 1) := by decide +kernel
theorem dX5_blockFrom_30 : decode cX5_blockFrom 30 = .ok (.goto 8, 3) := by decide +kernel
theorem dX5_blockFrom_33 : decode cX5_blockFrom 33 = .ok (.aload_n 0, 1) := by decide +kernel
theorem dX5_blockFrom_34 : decode cX5_blockFrom 34 = .ok (.iconst 0, 1) := by decide +kernel
theorem dX5_blockFrom_35 : decode cX5_blockFrom 35 = .ok (.invokevirtual 43, 3) := by decide +kernel
theorem dX5_blockFrom_38 : decode cX5_blockFrom 38 = .ok (.ireturn, 1) := by decide +kernel
set_option maxRecDepth 20000 in
theorem ggX5_getBlock_X5_c : GoodIn wsX5_getBlock wsX5_c := goodIn_r _ [5] (by decide +kernel) (by decide +kernel)
set_option maxRecDepth 20000 in
theorem gX5_getBlock_X5_c : GoodIn wsX5_getBlock (va_wsS RX5 34 yX5_c wsX5_c) := goodIn_app (goodIn_of _ (by decide +kernel)) ggX5_getBlock_X5_c
set_option maxRecDepth 20000 in
theorem ggX5_getBlock_X5_blockFrom : GoodIn wsX5_getBlock wsX5_blockFrom := goodIn_r _ [9, 1, 10, 11, 12, 4, 13, 14, 15, 16, 17, 18, 19, 20, 21, 22, 23, 24, 25, 26, 27] (by decide +kernel) (by decide +kernel)
set_option maxRecDepth 20000 in
theorem gX5_getBlock_X5_blockFrom : GoodIn wsX5_getBlock (wsV RX5 46 RX5 yX5_blockFrom wsX5_blockFrom) := goodIn_app (goodIn_of _ (by decide +kernel)) ggX5_getBlock_X5_blockFrom
set_option maxRecDepth 20000 in
theorem ggX5_getBlock_X5_n : GoodIn wsX5_getBlock wsX5_n := goodIn_r _ [16] (by decide +kernel) (by decide +kernel)
set_option maxRecDepth 20000 in
theorem gX5_getBlock_X5_n : GoodIn wsX5_getBlock (va_wsS RX5 22 yX5_n wsX5_n) := goodIn_app (goodIn_of _ (by decide +kernel)) ggX5_getBlock_X5_n
theorem dX5_getBlock_0 : decode cX5_getBlock 0 = .ok (.iload_n 1, 1) := by decide +kernel
theorem dX5_getBlock_1 : decode cX5_getBlock 1 = .ok (.invokestatic 34, 3) := by decide +kernel
theorem dX5_getBlock_4 : decode cX5_getBlock 4 = .ok (.istore_n 2, 1) := by decide +kernel
theorem dX5_getBlock_5 : decode cX5_getBlock 5 = .ok (.aload_n 0, 1) := by decide +kernel
theorem dX5_getBlock_6 : decode cX5_getBlock 6 = .ok (.invokevirtual 46, 3) := by decide +kernel
theorem dX5_getBlock_9 : decode cX5_getBlock 9 = .ok (.istore_n 3, 1) := by decide +kernel
theorem dX5_getBlock_10 : decode cX5_getBlock 10 = .ok (.aload_n 0, 1) := by decide +kernel
theorem dX5_getBlock_11 : decode cX5_getBlock 11 = .ok (.getfield 7, 3) := by decide +kernel
theorem dX5_getBlock_14 : decode cX5_getBlock 14 = .ok (.iload_n 3, 1) := by decide +kernel
theorem dX5_getBlock_15 : decode cX5_getBlock 15 = .ok (.invokestatic 22, 3) := by decide +kernel
theorem dX5_getBlock_18 : decode cX5_getBlock 18 = .ok (.iconst 0, 1) := by decide +kernel
theorem dX5_getBlock_19 : decode cX5_getBlock 19 = .ok (.iadd, 1) := by decide +kernel
theorem dX5_getBlock_20 : decode cX5_getBlock 20 = .ok (.iaload, 1) := by decide +kernel
theorem dX5_getBlock_21 : decode cX5_getBlock 21 = .ok (.istore 4, 2) := by decide +kernel
theorem dX5_getBlock_23 : decode cX5_getBlock 23 = .ok (.iload_n 3, 1) := by decide +kernel
theorem dX5_getBlock_24 : decode cX5_getBlock 24 = .ok (.istore 5, 2) := by decide +kernel
theorem dX5_getBlock_26 : decode cX5_getBlock 26 = .ok (.iload 5, 2) := by decide +kernel
theorem dX5_getBlock_28 : decode cX5_getBlock 28 = .ok (.sipush 600, 3) := by decide +kernel
theorem dX5_getBlock_31 : decode cX5_getBlock 31 = .ok (.if_icmp .gt 65, 3) := by decide +kernel
theorem dX5_getBlock_34 : decode cX5_getBlock 34 = .ok (.iload 5, 2) := by decide +kernel
theorem dX5_getBlock_36 : decode cX5_getBlock 36 = .ok (.iload_n 3, 1) := by decide +kernel
theorem dX5_getBlock_37 : decode cX5_getBlock 37 = .ok (.isub, 1) := by decide +kernel
theorem dX5_getBlock_38 : decode cX5_getBlock 38 = .ok (.aload_n 0, 1) := by decide +kernel
theorem dX5_getBlock_39 : decode cX5_getBlock 39 = .ok (.getfield 7, 3) := by decide +kernel
theorem dX5_getBlock_42 : decode cX5_getBlock 42 = .ok (.iconst 0, 1) := by decide +kernel
theorem dX5_getBlock_43 : decode cX5_getBlock 43 = .ok (.iaload, 1) := by decide +kernel
theorem dX5_getBlock_44 : decode cX5_getBlock 44 = .ok (.if_icmp .ge 52, 3) := by decide +kernel
theorem dX5_getBlock_47 : decode cX5_getBlock 47 = .ok (.aload_n 0, 1) := by decide +kernel
theorem dX5_getBlock_48 : decode cX5_getBlock 48 = .ok (.getfield 7, 3) := by decide +kernel
theorem dX5_getBlock_51 : decode cX5_getBlock 51 = .ok (.iload 5, 2) := by decide +kernel
theorem dX5_getBlock_53 : decode cX5_getBlock 53 = .ok (.invokestatic 22, 3) := by decide +kernel
theorem dX5_getBlock_56 : decode cX5_getBlock 56 = .ok (.iconst 0, 1) := by decide +kernel
theorem dX5_getBlock_57 : decode cX5_getBlock 57 = .ok (.iadd, 1) := by decide +kernel
theorem dX5_getBlock_58 : decode cX5_getBlock 58 = .ok (.iaload, 1) := by decide +kernel
theorem dX5_getBlock_59 : decode cX5_getBlock 59 = .ok (.iload 4, 2) := by decide +kernel
theorem dX5_getBlock_61 : decode cX5_getBlock 61 = .ok (.if_icmp .ne 35, 3) := by decide +kernel
theorem dX5_getBlock_64 : decode cX5_getBlock 64 = .ok (.aload_n 0, 1) := by decide +kernel
theorem dX5_getBlock_65 : decode cX5_getBlock 65 = .ok (.getfield 7, 3) := by decide +kernel
theorem dX5_getBlock_68 : decode cX5_getBlock 68 = .ok (.iload 5, 2) := by decide +kernel
theorem dX5_getBlock_70 : decode cX5_getBlock 70 = .ok (.invokestatic 22, 3) := by decide +kernel
theorem dX5_getBlock_73 : decode cX5_getBlock 73 = .ok (.iconst 0, 1) := by decide +kernel
theorem dX5_getBlock_74 : decode cX5_getBlock 74 = .ok (.iadd, 1) := by decide +kernel
theorem dX5_getBlock_75 : decode cX5_getBlock 75 = .ok (.iconst 1, 1) := by decide +kernel
theorem dX5_getBlock_76 : decode cX5_getBlock 76 = .ok (.iastore, 1) := by decide +kernel
theorem dX5_getBlock_77 : decode cX5_getBlock 77 = .ok (.aload_n 0, 1) := by decide +kernel
theorem dX5_getBlock_78 : decode cX5_getBlock 78 = .ok (.getfield 7, 3) := by decide +kernel
theorem dX5_getBlock_81 : decode cX5_getBlock 81 = .ok (.iload 5, 2) := by decide +kernel
theorem dX5_getBlock_83 : decode cX5_getBlock 83 = .ok (.invokestatic 22, 3) := by decide +kernel
theorem dX5_getBlock_86 : decode cX5_getBlock 86 = .ok (.iconst 1, 1) := by decide +kernel
theorem dX5_getBlock_87 : decode cX5_getBlock 87 = .ok (.iadd, 1) := by decide +kernel
theorem dX5_getBlock_88 : decode cX5_getBlock 88 = .ok (.iload_n 1, 1) := by decide +kernel
theorem dX5_getBlock_89 : decode cX5_getBlock 89 = .ok (.iastore, 1) := by decide +kernel
theorem dX5_getBlock_90 : decode cX5_getBlock 90 = .ok (.iinc 5 1, 3) := by decide +kernel
theorem dX5_getBlock_93 : decode cX5_getBlock 93 = .ok (.goto (-67), 3) := by decide +kernel
theorem dX5_getBlock_96 : decode cX5_getBlock 96 = .ok (.aload_n 0, 1) := by decide +kernel
theorem dX5_getBlock_97 : decode cX5_getBlock 97 = .ok (.getfield 7, 3) := by decide +kernel
theorem dX5_getBlock_100 : decode cX5_getBlock 100 = .ok (.iload_n 2, 1) := by decide +kernel
theorem dX5_getBlock_101 : decode cX5_getBlock 101 = .ok (.iconst 1, 1) := by decide +kernel
theorem dX5_getBlock_102 : decode cX5_getBlock 102 = .ok (.iadd, 1) := by decide +kernel
theorem dX5_getBlock_103 : decode cX5_getBlock 103 = .ok (.iload_n 3, 1) := by decide +kernel
theorem dX5_getBlock_104 : decode cX5_getBlock 104 = .ok (.iastore, 1) := by decide +kernel
theorem dX5_getBlock_105 : decode cX5_getBlock 105 = .ok (.aload_n 0, 1) := by decide +kernel
theorem dX5_getBlock_106 : decode cX5_getBlock 106 = .ok (.getfield 7, 3) := by decide +kernel
theorem dX5_getBlock_109 : decode cX5_getBlock 109 = .ok (.iload_n 2, 1) := by decide +kernel
theorem dX5_getBlock_110 : decode cX5_getBlock 110 = .ok (.iconst 2, 1) := by decide +kernel
theorem dX5_getBlock_111 : decode cX5_getBlock 111 = .ok (.iadd, 1) := by decide +kernel
theorem dX5_getBlock_112 : decode cX5_getBlock 112 = .ok (.iload 5, 2) := by decide +kernel
theorem dX5_getBlock_114 : decode cX5_getBlock 114 = .ok (.iconst 1, 1) := by decide +kernel
theorem dX5_getBlock_115 : decode cX5_getBlock 115 = .ok (.isub, 1) := by decide +kernel
theorem dX5_getBlock_116 : decode cX5_getBlock 116 = .ok (.iastore, 1) := by decide +kernel
theorem dX5_getBlock_117 : decode cX5_getBlock 117 = .ok (.aload_n 0, 1) := by decide +kernel
theorem dX5_getBlock_118 : decode cX5_getBlock 118 = .ok (.getfield 7, 3) := by decide +kernel
theorem dX5_getBlock_121 : decode cX5_getBlock 121 = .ok (.iload_n 2, 1) := by decide +kernel
theorem dX5_getBlock_122 : decode cX5_getBlock 122 = .ok (.iconst 3, 1) := by decide +kernel
theorem dX5_getBlock_123 : decode cX5_getBlock 123 = .ok (.iadd, 1) := by decide +kernel
theorem dX5_getBlock_124 : decode cX5_getBlock 124 = .ok (.aload_n 0, 1) := by decide +kernel
theorem dX5_getBlock_125 : decode cX5_getBlock 125 = .ok (.getfield 7, 3) := by decide +kernel
theorem dX5_getBlock_128 : decode cX5_getBlock 128 = .ok (.iload_n 2, 1) := by decide +kernel
theorem dX5_getBlock_129 : decode cX5_getBlock 129 = .ok (.iconst 0, 1) := by decide +kernel
theorem dX5_getBlock_130 : decode cX5_getBlock 130 = .ok (.iadd, 1) := by decide +kernel
theorem dX5_getBlock_131 : decode cX5_getBlock 131 = .ok (.iaload, 1) := by decide +kernel
theorem dX5_getBlock_132 : decode cX5_getBlock 132 = .ok (.iconst 2, 1) := by decide +kernel
theorem dX5_getBlock_133 : decode cX5_getBlock 133 = .ok (.if_icmp .ne 10, 3) := by decide +kernel
theorem dX5_getBlock_136 : decode cX5_getBlock 136 = .ok (.iload 5, 2) := by decide +kernel
theorem dX5_getBlock_138 : decode cX5_getBlock 138 = .ok (.iconst 1, 1) := by decide +kernel
theorem dX5_getBlock_139 : decode cX5_getBlock 139 = .ok (.isub, 1) := by decide +kernel
theorem dX5_getBlock_140 : decode cX5_getBlock 140 = .ok (.goto 6, 3) := by decide +kernel
theorem dX5_getBlock_143 : decode cX5_getBlock 143 = .ok (.iload_n 3, 1) := by decide +kernel
theorem dX5_getBlock_144 : decode cX5_getBlock 144 = .ok (.iconst 1, 1) := by decide +kernel
theorem dX5_getBlock_145 : decode cX5_getBlock 145 = .ok (.isub, 1) := by decide +kernel
theorem dX5_getBlock_146 : decode cX5_getBlock 146 = .ok (.iastore, 1) := by decide +kernel
theorem dX5_getBlock_147 : decode cX5_getBlock 147 = .ok (.aload_n 0, 1) := by decide +kernel
theorem dX5_getBlock_148 : decode cX5_getBlock 148 = .ok (.getfield 7, 3) := by decide +kernel
theorem dX5_getBlock_151 : decode cX5_getBlock 151 = .ok (.iload_n 2, 1) := by decide +kernel
theorem dX5_getBlock_152 : decode cX5_getBlock 152 = .ok (.iconst 5, 1) := by decide +kernel
theorem dX5_getBlock_153 : decode cX5_getBlock 153 = .ok (.iadd, 1) := by decide +kernel
theorem dX5_getBlock_154 : decode cX5_getBlock 154 = .ok (.dup2, 1) := by decide +kernel
theorem dX5_getBlock_155 : decode cX5_getBlock 155 = .ok (.iaload, 1) := by decide +kernel
theorem dX5_getBlock_156 : decode cX5_getBlock 156 = .ok (.iconst 1, 1) := by decide +kernel
theorem dX5_getBlock_157 : decode cX5_getBlock 157 = .ok (.iadd, 1) := by decide +kernel
theorem dX5_getBlock_158 : decode cX5_getBlock 158 = .ok (.iastore, 1) := by decide +kernel
theorem dX5_getBlock_159 : decode cX5_getBlock 159 = .ok (.return_, 1) := by decide +kernel
set_option maxRecDepth 20000 in
theorem ggX5_giveOne_X5_c : GoodIn wsX5_giveOne wsX5_c := goodIn_r _ [5] (by decide +kernel) (by decide +kernel)
set_option maxRecDepth 20000 in
theorem gX5_giveOne_X5_c : GoodIn wsX5_giveOne (va_wsS RX5 34 yX5_c wsX5_c) := goodIn_app (goodIn_of _ (by decide +kernel)) ggX5_giveOne_X5_c
set_option maxRecDepth 20000 in
theorem ggX5_giveOne_X5_holds : GoodIn wsX5_giveOne wsX5_holds := goodIn_r _ [9, 1, 2, 3, 4, 5, 25, 26, 27, 28, 29, 30, 31, 32, 33, 34, 35] (by decide +kernel) (by decide +kernel)
set_option maxRecDepth 20000 in
theorem gX5_giveOne_X5_holds : GoodIn wsX5_giveOne (wsV RX5 50 RX5 yX5_holds wsX5_holds) := goodIn_app (goodIn_of _ (by decide +kernel)) ggX5_giveOne_X5_holds
set_option maxRecDepth 20000 in
theorem ggX5_giveOne_X5_getBlock : GoodIn wsX5_giveOne wsX5_getBlock := goodIn_r _ [13, 1, 2, 3, 4, 5, 14, 15, 16, 17, 18, 19, 20, 21, 22, 23, 24, 25, 26, 27, 28, 29, 30, 31, 32, 33, 34, 35] (by decide +kernel) (by decide +kernel)
set_option maxRecDepth 20000 in
theorem gX5_giveOne_X5_getBlock : GoodIn wsX5_giveOne (wsV RX5 53 RX5 yX5_getBlock wsX5_getBlock) := goodIn_app (goodIn_of _ (by decide +kernel)) ggX5_giveOne_X5_getBlock
set_option maxRecDepth 20000 in
theorem ggX5_giveOne_X5_n : GoodIn wsX5_giveOne wsX5_n := goodIn_r _ [24] (by decide +kernel) (by decide +kernel)
set_option maxRecDepth 20000 in
theorem gX5_giveOne_X5_n : GoodIn wsX5_giveOne (va_wsS RX5 22 yX5_n wsX5_n) := goodIn_app (goodIn_of _ (by decide +kernel)) ggX5_giveOne_X5_n
theorem dX5_giveOne_0 : decode cX5_giveOne 0 = .ok (.iload_n 1, 1) := by decide +kernel
theorem dX5_giveOne_1 : decode cX5_giveOne 1 = .ok (.invokestatic 34, 3) := by decide +kernel
theorem dX5_giveOne_4 : decode cX5_giveOne 4 = .ok (.istore_n 2, 1) := by decide +kernel
theorem dX5_giveOne_5 : decode cX5_giveOne 5 = .ok (.aload_n 0, 1) := by decide +kernel
theorem dX5_giveOne_6 : decode cX5_giveOne 6 = .ok (.iload_n 1, 1) := by decide +kernel
theorem dX5_giveOne_7 : decode cX5_giveOne 7 = .ok (.invokevirtual 50, 3) := by decide +kernel
theorem dX5_giveOne_10 : decode cX5_giveOne 10 = .ok (.ifCond .ne 8, 3) := by decide +kernel
theorem dX5_giveOne_13 : decode cX5_giveOne 13 = .ok (.aload_n 0, 1) := by decide +kernel
theorem dX5_giveOne_14 : decode cX5_giveOne 14 = .ok (.iload_n 1, 1) := by decide +kernel
theorem dX5_giveOne_15 : decode cX5_giveOne 15 = .ok (.invokevirtual 53, 3) := by decide +kernel
theorem dX5_giveOne_18 : decode cX5_giveOne 18 = .ok (.aload_n 0, 1) := by decide +kernel
theorem dX5_giveOne_19 : decode cX5_giveOne 19 = .ok (.getfield 7, 3) := by decide +kernel
theorem dX5_giveOne_22 : decode cX5_giveOne 22 = .ok (.iload_n 2, 1) := by decide +kernel
theorem dX5_giveOne_23 : decode cX5_giveOne 23 = .ok (.iconst 1, 1) := by decide +kernel
theorem dX5_giveOne_24 : decode cX5_giveOne 24 = .ok (.iadd, 1) := by decide +kernel
theorem dX5_giveOne_25 : decode cX5_giveOne 25 = .ok (.iaload, 1) := by decide +kernel
theorem dX5_giveOne_26 : decode cX5_giveOne 26 = .ok (.istore_n 3, 1) := by decide +kernel
theorem dX5_giveOne_27 : decode cX5_giveOne 27 = .ok (.aload_n 0, 1) := by decide +kernel
theorem dX5_giveOne_28 : decode cX5_giveOne 28 = .ok (.getfield 7, 3) := by decide +kernel
theorem dX5_giveOne_31 : decode cX5_giveOne 31 = .ok (.iload_n 2, 1) := by decide +kernel
theorem dX5_giveOne_32 : decode cX5_giveOne 32 = .ok (.iconst 1, 1) := by decide +kernel
theorem dX5_giveOne_33 : decode cX5_giveOne 33 = .ok (.iadd, 1) := by decide +kernel
theorem dX5_giveOne_34 : decode cX5_giveOne 34 = .ok (.dup2, 1) := by decide +kernel
theorem dX5_giveOne_35 : decode cX5_giveOne 35 = .ok (.iaload, 1) := by decide +kernel
theorem dX5_giveOne_36 : decode cX5_giveOne 36 = .ok (.iconst 1, 1) := by decide +kernel
theorem dX5_giveOne_37 : decode cX5_giveOne 37 = .ok (.iadd, 1) := by decide +kernel
theorem dX5_giveOne_38 : decode cX5_giveOne 38 = .ok (.iastore, 1) := by decide +kernel
theorem dX5_giveOne_39 : decode cX5_giveOne 39 = .ok (.aload_n 0, 1) := by decide +kernel
theorem dX5_giveOne_40 : decode cX5_giveOne 40 = .ok (.getfield 7, 3) := by decide +kernel
theorem dX5_giveOne_43 : decode cX5_giveOne 43 = .ok (.iload_n 3, 1) := by decide +kernel
theorem dX5_giveOne_44 : decode cX5_giveOne 44 = .ok (.invokestatic 22, 3) := by decide +kernel
theorem dX5_giveOne_47 : decode cX5_giveOne 47 = .ok (.iconst 0, 1) := by decide +kernel
theorem dX5_giveOne_48 : decode cX5_giveOne 48 = .ok (.iadd, 1) := by decide +kernel
theorem dX5_giveOne_49 : decode cX5_giveOne 49 = .ok (.iconst 2, 1) := by decide +kernel
theorem dX5_giveOne_50 : decode cX5_giveOne 50 = .ok (.iastore, 1) := by decide +kernel
theorem dX5_giveOne_51 : decode cX5_giveOne 51 = .ok (.aload_n 0, 1) := by decide +kernel
theorem dX5_giveOne_52 : decode cX5_giveOne 52 = .ok (.getfield 7, 3) := by decide +kernel
theorem dX5_giveOne_55 : decode cX5_giveOne 55 = .ok (.iload_n 3, 1) := by decide +kernel
theorem dX5_giveOne_56 : decode cX5_giveOne 56 = .ok (.invokestatic 22, 3) := by decide +kernel
theorem dX5_giveOne_59 : decode cX5_giveOne 59 = .ok (.iconst 2, 1) := by decide +kernel
theorem dX5_giveOne_60 : decode cX5_giveOne 60 = .ok (.iadd, 1) := by decide +kernel
theorem dX5_giveOne_61 : decode cX5_giveOne 61 = .ok (.aload_n 0, 1) := by decide +kernel
theorem dX5_giveOne_62 : decode cX5_giveOne 62 = .ok (.getfield 7, 3) := by decide +kernel
theorem dX5_giveOne_65 : decode cX5_giveOne 65 = .ok (.iconst 5, 1) := by decide +kernel
theorem dX5_giveOne_66 : decode cX5_giveOne 66 = .ok (.iaload, 1) := by decide +kernel
theorem dX5_giveOne_67 : decode cX5_giveOne 67 = .ok (.iastore, 1) := by decide +kernel
theorem dX5_giveOne_68 : decode cX5_giveOne 68 = .ok (.aload_n 0, 1) := by decide +kernel
theorem dX5_giveOne_69 : decode cX5_giveOne 69 = .ok (.getfield 7, 3) := by decide +kernel
theorem dX5_giveOne_72 : decode cX5_giveOne 72 = .ok (.iload_n 3, 1) := by decide +kernel
theorem dX5_giveOne_73 : decode cX5_giveOne 73 = .ok (.invokestatic 22, 3) := by decide +kernel
theorem dX5_giveOne_76 : decode cX5_giveOne 76 = .ok (.iconst 3, 1) := by decide +kernel
theorem dX5_giveOne_77 : decode cX5_giveOne 77 = .ok (.iadd, 1) := by decide +kernel
theorem dX5_giveOne_78 : decode cX5_giveOne 78 = .ok (.aload_n 0, 1) := by decide +kernel
theorem dX5_giveOne_79 : decode cX5_giveOne 79 = .ok (.getfield 7, 3) := by decide +kernel
theorem dX5_giveOne_82 : decode cX5_giveOne 82 = .ok (.iconst 4, 1) := by decide +kernel
theorem dX5_giveOne_83 : decode cX5_giveOne 83 = .ok (.iaload, 1) := by decide +kernel
theorem dX5_giveOne_84 : decode cX5_giveOne 84 = .ok (.iastore, 1) := by decide +kernel
theorem dX5_giveOne_85 : decode cX5_giveOne 85 = .ok (.aload_n 0, 1) := by decide +kernel
theorem dX5_giveOne_86 : decode cX5_giveOne 86 = .ok (.getfield 7, 3) := by decide +kernel
theorem dX5_giveOne_89 : decode cX5_giveOne 89 = .ok (.iconst 5, 1) := by decide +kernel
theorem dX5_giveOne_90 : decode cX5_giveOne 90 = .ok (.dup2, 1) := by decide +kernel
theorem dX5_giveOne_91 : decode cX5_giveOne 91 = .ok (.iaload, 1) := by decide +kernel
theorem dX5_giveOne_92 : decode cX5_giveOne 92 = .ok (.iconst 1, 1) := by decide +kernel
theorem dX5_giveOne_93 : decode cX5_giveOne 93 = .ok (.iadd, 1) := by decide +kernel
theorem dX5_giveOne_94 : decode cX5_giveOne 94 = .ok (.iastore, 1) := by decide +kernel
theorem dX5_giveOne_95 : decode cX5_giveOne 95 = .ok (.aload_n 0, 1) := by decide +kernel
theorem dX5_giveOne_96 : decode cX5_giveOne 96 = .ok (.getfield 7, 3) := by decide +kernel
theorem dX5_giveOne_99 : decode cX5_giveOne 99 = .ok (.iload_n 2, 1) := by decide +kernel
theorem dX5_giveOne_100 : decode cX5_giveOne 100 = .ok (.iconst 4, 1) := by decide +kernel
theorem dX5_giveOne_101 : decode cX5_giveOne 101 = .ok (.iadd, 1) := by decide +kernel
theorem dX5_giveOne_102 : decode cX5_giveOne 102 = .ok (.dup2, 1) := by decide +kernel
theorem dX5_giveOne_103 : decode cX5_giveOne 103 = .ok (.iaload, 1) := by decide +kernel
theorem dX5_giveOne_104 : decode cX5_giveOne 104 = .ok (.iconst 1, 1) := by decide +kernel
theorem dX5_giveOne_105 : decode cX5_giveOne 105 = .ok (.iadd, 1) := by decide +kernel
theorem dX5_giveOne_106 : decode cX5_giveOne 106 = .ok (.iastore, 1) := by decide +kernel
theorem dX5_giveOne_107 : decode cX5_giveOne 107 = .ok (.aload_n 0, 1) := by decide +kernel
theorem dX5_giveOne_108 : decode cX5_giveOne 108 = .ok (.getfield 7, 3) := by decide +kernel
theorem dX5_giveOne_111 : decode cX5_giveOne 111 = .ok (.iload_n 2, 1) := by decide +kernel
theorem dX5_giveOne_112 : decode cX5_giveOne 112 = .ok (.bipush 6, 2) := by decide +kernel
theorem dX5_giveOne_114 : decode cX5_giveOne 114 = .ok (.iadd, 1) := by decide +kernel
theorem dX5_giveOne_115 : decode cX5_giveOne 115 = .ok (.iload_n 3, 1) := by decide +kernel
theorem dX5_giveOne_116 : decode cX5_giveOne 116 = .ok (.iastore, 1) := by decide +kernel
theorem dX5_giveOne_117 : decode cX5_giveOne 117 = .ok (.aload_n 0, 1) := by decide +kernel
theorem dX5_giveOne_118 : decode cX5_giveOne 118 = .ok (.getfield 7, 3) := by decide +kernel
theorem dX5_giveOne_121 : decode cX5_giveOne 121 = .ok (.iload_n 2, 1) := by decide +kernel
theorem dX5_giveOne_122 : decode cX5_giveOne 122 = .ok (.iconst 0, 1) := by decide +kernel
theorem dX5_giveOne_123 : decode cX5_giveOne 123 = .ok (.iadd, 1) := by decide +kernel
theorem dX5_giveOne_124 : decode cX5_giveOne 124 = .ok (.iaload, 1) := by decide +kernel
theorem dX5_giveOne_125 : decode cX5_giveOne 125 = .ok (.ifCond .ne 15, 3) := by decide +kernel
theorem dX5_giveOne_128 : decode cX5_giveOne 128 = .ok (.aload_n 0, 1) := by decide +kernel
theorem dX5_giveOne_129 : decode cX5_giveOne 129 = .ok (.getfield 7, 3) := by decide +kernel
theorem dX5_giveOne_132 : decode cX5_giveOne 132 = .ok (.iload_n 2, 1) := by decide +kernel
theorem dX5_giveOne_133 : decode cX5_giveOne 133 = .ok (.iconst 3, 1) := by decide +kernel
theorem dX5_giveOne_134 : decode cX5_giveOne 134 = .ok (.iadd, 1) := by decide +kernel
theorem dX5_giveOne_135 : decode cX5_giveOne 135 = .ok (.iload_n 3, 1) := by decide +kernel
theorem dX5_giveOne_136 : decode cX5_giveOne 136 = .ok (.iastore, 1) := by decide +kernel
theorem dX5_giveOne_137 : decode cX5_giveOne 137 = .ok (.goto 73, 3) := by decide +kernel
theorem dX5_giveOne_140 : decode cX5_giveOne 140 = .ok (.aload_n 0, 1) := by decide +kernel
theorem dX5_giveOne_141 : decode cX5_giveOne 141 = .ok (.getfield 7, 3) := by decide +kernel
theorem dX5_giveOne_144 : decode cX5_giveOne 144 = .ok (.iload_n 2, 1) := by decide +kernel
theorem dX5_giveOne_145 : decode cX5_giveOne 145 = .ok (.iconst 0, 1) := by decide +kernel
theorem dX5_giveOne_146 : decode cX5_giveOne 146 = .ok (.iadd, 1) := by decide +kernel
theorem dX5_giveOne_147 : decode cX5_giveOne 147 = .ok (.iaload, 1) := by decide +kernel
theorem dX5_giveOne_148 : decode cX5_giveOne 148 = .ok (.iconst 1, 1) := by decide +kernel
theorem dX5_giveOne_149 : decode cX5_giveOne 149 = .ok (.if_icmp .ne 61, 3) := by decide +kernel
theorem dX5_giveOne_152 : decode cX5_giveOne 152 = .ok (.iload_n 3, 1) := by decide +kernel
theorem dX5_giveOne_153 : decode cX5_giveOne 153 = .ok (.aload_n 0, 1) := by decide +kernel
theorem dX5_giveOne_154 : decode cX5_giveOne 154 = .ok (.getfield 7, 3) := by decide +kernel
theorem dX5_giveOne_157 : decode cX5_giveOne 157 = .ok (.iload_n 2, 1) := by decide +kernel
theorem dX5_giveOne_158 : decode cX5_giveOne 158 = .ok (.iconst 3, 1) := by decide +kernel
theorem dX5_giveOne_159 : decode cX5_giveOne 159 = .ok (.iadd, 1) := by decide +kernel
theorem dX5_giveOne_160 : decode cX5_giveOne 160 = .ok (.iaload, 1) := by decide +kernel
theorem dX5_giveOne_161 : decode cX5_giveOne 161 = .ok (.if_icmp .le 49, 3) := by decide +kernel
theorem dX5_giveOne_164 : decode cX5_giveOne 164 = .ok (.iload_n 3, 1) := by decide +kernel
theorem dX5_giveOne_165 : decode cX5_giveOne 165 = .ok (.aload_n 0, 1) := by decide +kernel
theorem dX5_giveOne_166 : decode cX5_giveOne 166 = .ok (.getfield 7, 3) := by decide +kernel
theorem dX5_giveOne_169 : decode cX5_giveOne 169 = .ok (.iconst 2, 1) := by decide +kernel
theorem dX5_giveOne_170 : decode cX5_giveOne 170 = .ok (.iaload, 1) := by decide +kernel
theorem dX5_giveOne_171 : decode cX5_giveOne 171 = .ok (.iadd, 1) := by decide +kernel
theorem dX5_giveOne_172 : decode cX5_giveOne 172 = .ok (.iconst 1, 1) := by decide +kernel
theorem dX5_giveOne_173 : decode cX5_giveOne 173 = .ok (.isub, 1) := by decide +kernel
theorem dX5_giveOne_174 : decode cX5_giveOne 174 = .ok (.istore 4, 2) := by decide +kernel
theorem dX5_giveOne_176 : decode cX5_giveOne 176 = .ok (.aload_n 0, 1) := by decide +kernel
theorem dX5_giveOne_177 : decode cX5_giveOne 177 = .ok (.getfield 7, 3) := by decide +kernel
theorem dX5_giveOne_180 : decode cX5_giveOne 180 = .ok (.iload_n 2, 1) := by decide +kernel
theorem dX5_giveOne_181 : decode cX5_giveOne 181 = .ok (.iconst 3, 1) := by decide +kernel
theorem dX5_giveOne_182 : decode cX5_giveOne 182 = .ok (.iadd, 1) := by decide +kernel
theorem dX5_giveOne_183 : decode cX5_giveOne 183 = .ok (.iload 4, 2) := by decide +kernel
theorem dX5_giveOne_185 : decode cX5_giveOne 185 = .ok (.aload_n 0, 1) := by decide +kernel
theorem dX5_giveOne_186 : decode cX5_giveOne 186 = .ok (.getfield 7, 3) := by decide +kernel
theorem dX5_giveOne_189 : decode cX5_giveOne 189 = .ok (.iload_n 2, 1) := by decide +kernel
theorem dX5_giveOne_190 : decode cX5_giveOne 190 = .ok (.iconst 2, 1) := by decide +kernel
theorem dX5_giveOne_191 : decode cX5_giveOne 191 = .ok (.iadd, 1) := by decide +kernel
theorem dX5_giveOne_192 : decode cX5_giveOne 192 = .ok (.iaload, 1) := by decide +kernel
theorem dX5_giveOne_193 : decode cX5_giveOne 193 = .ok (.if_icmp .ge 8, 3) := by decide +kernel
theorem dX5_giveOne_196 : decode cX5_giveOne 196 = .ok (.iload 4, 2) := by decide +kernel
theorem dX5_giveOne_198 : decode cX5_giveOne 198 = .ok (.goto 11, 3) := by decide +kernel
theorem dX5_giveOne_201 : decode cX5_giveOne 201 = .ok (.aload_n 0, 1) := by decide +kernel
theorem dX5_giveOne_202 : decode cX5_giveOne 202 = .ok (.getfield 7, 3) := by decide +kernel
theorem dX5_giveOne_205 : decode cX5_giveOne 205 = .ok (.iload_n 2, 1) := by decide +kernel
theorem dX5_giveOne_206 : decode cX5_giveOne 206 = .ok (.iconst 2, 1) := by decide +kernel
theorem dX5_giveOne_207 : decode cX5_giveOne 207 = .ok (.iadd, 1) := by decide +kernel
theorem dX5_giveOne_208 : decode cX5_giveOne 208 = .ok (.iaload, 1) := by decide +kernel
theorem dX5_giveOne_209 : decode cX5_giveOne 209 = .ok (.iastore, 1) := by decide +kernel
theorem dX5_giveOne_210 : decode cX5_giveOne 210 = .ok (.return_, 1) := by decide +kernel
set_option maxRecDepth 20000 in
theorem ggX5_canAsk_X5_holds : GoodIn wsX5_canAsk wsX5_holds := goodIn_r _ [6, 1, 7, 8, 5, 9, 17, 18, 19, 20, 21, 22, 23, 24, 25, 26, 27] (by decide +kernel) (by decide +kernel)
set_option maxRecDepth 20000 in
theorem gX5_canAsk_X5_holds : GoodIn wsX5_canAsk (wsV RX5 50 RX5 yX5_holds wsX5_holds) := goodIn_app (goodIn_of _ (by decide +kernel)) ggX5_canAsk_X5_holds
set_option maxRecDepth 20000 in
theorem ggX5_canAsk_X5_many : GoodIn wsX5_canAsk wsX5_many := goodIn_r _ [13, 1, 14, 15, 5, 16, 17, 18, 19, 20, 21, 22, 23, 24, 25, 26, 27] (by decide +kernel) (by decide +kernel)
set_option maxRecDepth 20000 in
theorem gX5_canAsk_X5_many : GoodIn wsX5_canAsk (wsV RX5 57 RX5 yX5_many wsX5_many) := goodIn_app (goodIn_of _ (by decide +kernel)) ggX5_canAsk_X5_many
theorem dX5_canAsk_0 : decode cX5_canAsk 0 = .ok (.iload_n 2, 1) := by decide +kernel
theorem dX5_canAsk_1 : decode cX5_canAsk 1 = .ok (.aload_n 0, 1) := by decide +kernel
theorem dX5_canAsk_2 : decode cX5_canAsk 2 = .ok (.iload_n 1, 1) := by decide +kernel
theorem dX5_canAsk_3 : decode cX5_canAsk 3 = .ok (.invokevirtual 50, 3) := by decide +kernel
theorem dX5_canAsk_6 : decode cX5_canAsk 6 = .ok (.aload_n 0, 1) := by decide +kernel
theorem dX5_canAsk_7 : decode cX5_canAsk 7 = .ok (.iconst 0, 1) := by decide +kernel
theorem dX5_canAsk_8 : decode cX5_canAsk 8 = .ok (.invokevirtual 57, 3) := by decide +kernel
theorem dX5_canAsk_11 : decode cX5_canAsk 11 = .ok (.iadd, 1) := by decide +kernel
theorem dX5_canAsk_12 : decode cX5_canAsk 12 = .ok (.aload_n 0, 1) := by decide +kernel
theorem dX5_canAsk_13 : decode cX5_canAsk 13 = .ok (.getfield 7, 3) := by decide +kernel
theorem dX5_canAsk_16 : decode cX5_canAsk 16 = .ok (.iconst 1, 1) := by decide +kernel
theorem dX5_canAsk_17 : decode cX5_canAsk 17 = .ok (.iaload, 1) := by decide +kernel
theorem dX5_canAsk_18 : decode cX5_canAsk 18 = .ok (.iconst 1, 1) := by decide +kernel
theorem dX5_canAsk_19 : decode cX5_canAsk 19 = .ok (.if_icmp .ne 11, 3) := by decide +kernel
theorem dX5_canAsk_22 : decode cX5_canAsk 22 = .ok (.aload_n 0, 1) := by decide +kernel
theorem dX5_canAsk_23 : decode cX5_canAsk 23 = .ok (.iconst 3, 1) := by decide +kernel
theorem dX5_canAsk_24 : decode cX5_canAsk 24 = .ok (.invokevirtual 57, 3) := by decide +kernel
theorem dX5_canAsk_27 : decode cX5_canAsk 27 = .ok (.goto 4, 3) := by decide +kernel
theorem dX5_canAsk_30 : decode cX5_canAsk 30 = .ok (.iconst 0, 1) := by decide +kernel
theorem dX5_canAsk_31 : decode cX5_canAsk 31 = .ok (.iadd, 1) := by decide +kernel
theorem dX5_canAsk_32 : decode cX5_canAsk 32 = .ok (.if_icmp .gt 7, 3) := by decide +kernel
theorem dX5_canAsk_35 : decode cX5_canAsk 35 = .ok (.iconst 1, 1) := by decide +kernel
theorem dX5_canAsk_36 : decode cX5_canAsk 36 = .ok (.goto 4, 3) := by decide +kernel
theorem dX5_canAsk_39 : decode cX5_canAsk 39 = .ok (.iconst 0, 1) := by decide +kernel
theorem dX5_canAsk_40 : decode cX5_canAsk 40 = .ok (.ireturn, 1) := by decide +kernel
set_option maxRecDepth 20000 in
theorem ggX5_goAsk_X5_giveOne : GoodIn wsX5_goAsk wsX5_giveOne := goodIn_r _ [6, 1, 7, 8, 5, 9, 10, 11, 12, 13, 14, 15, 16, 17, 18, 19, 20, 21, 22, 23, 24, 25, 26, 27, 28, 29, 30, 31, 32, 33, 34, 35, 36, 37, 38, 39] (by decide +kernel) (by decide +kernel)
set_option maxRecDepth 20000 in
theorem gX5_goAsk_X5_giveOne : GoodIn wsX5_goAsk (wsV RX5 60 RX5 yX5_giveOne wsX5_giveOne) := goodIn_app (goodIn_of _ (by decide +kernel)) ggX5_goAsk_X5_giveOne
set_option maxRecDepth 20000 in
theorem ggX5_goAsk_X5_c : GoodIn wsX5_goAsk wsX5_c := goodIn_r _ [9] (by decide +kernel) (by decide +kernel)
set_option maxRecDepth 20000 in
theorem gX5_goAsk_X5_c : GoodIn wsX5_goAsk (va_wsS RX5 34 yX5_c wsX5_c) := goodIn_app (goodIn_of _ (by decide +kernel)) ggX5_goAsk_X5_c
theorem dX5_goAsk_0 : decode cX5_goAsk 0 = .ok (.iconst 0, 1) := by decide +kernel
theorem dX5_goAsk_1 : decode cX5_goAsk 1 = .ok (.istore_n 3, 1) := by decide +kernel
theorem dX5_goAsk_2 : decode cX5_goAsk 2 = .ok (.iload_n 3, 1) := by decide +kernel
theorem dX5_goAsk_3 : decode cX5_goAsk 3 = .ok (.iload_n 2, 1) := by decide +kernel
theorem dX5_goAsk_4 : decode cX5_goAsk 4 = .ok (.if_icmp .ge 14, 3) := by decide +kernel
theorem dX5_goAsk_7 : decode cX5_goAsk 7 = .ok (.aload_n 0, 1) := by decide +kernel
theorem dX5_goAsk_8 : decode cX5_goAsk 8 = .ok (.iload_n 1, 1) := by decide +kernel
theorem dX5_goAsk_9 : decode cX5_goAsk 9 = .ok (.invokevirtual 60, 3) := by decide +kernel
theorem dX5_goAsk_12 : decode cX5_goAsk 12 = .ok (.iinc 3 1, 3) := by decide +kernel
theorem dX5_goAsk_15 : decode cX5_goAsk 15 = .ok (.goto (-13), 3) := by decide +kernel
theorem dX5_goAsk_18 : decode cX5_goAsk 18 = .ok (.aload_n 0, 1) := by decide +kernel
theorem dX5_goAsk_19 : decode cX5_goAsk 19 = .ok (.getfield 7, 3) := by decide +kernel
theorem dX5_goAsk_22 : decode cX5_goAsk 22 = .ok (.iload_n 1, 1) := by decide +kernel
theorem dX5_goAsk_23 : decode cX5_goAsk 23 = .ok (.invokestatic 34, 3) := by decide +kernel
theorem dX5_goAsk_26 : decode cX5_goAsk 26 = .ok (.bipush 6, 2) := by decide +kernel
theorem dX5_goAsk_28 : decode cX5_goAsk 28 = .ok (.iadd, 1) := by decide +kernel
theorem dX5_goAsk_29 : decode cX5_goAsk 29 = .ok (.iaload, 1) := by decide +kernel
theorem dX5_goAsk_30 : decode cX5_goAsk 30 = .ok (.ireturn, 1) := by decide +kernel
set_option maxRecDepth 20000 in
theorem ggX5_ask_X5_isClerk : GoodIn wsX5_ask wsX5_isClerk := goodIn_r _ [5, 6, 7, 8, 4, 9, 54, 55, 56, 57, 58, 59, 60, 61, 62, 63, 64] (by decide +kernel) (by decide +kernel)
set_option maxRecDepth 20000 in
theorem gX5_ask_X5_isClerk : GoodIn wsX5_ask (wsV RX5 63 RX5 yX5_isClerk wsX5_isClerk) := goodIn_app (goodIn_of _ (by decide +kernel)) ggX5_ask_X5_isClerk
set_option maxRecDepth 20000 in
theorem ggX5_ask_X5_in : GoodIn wsX5_ask wsX5_in := goodIn_r _ [9] (by decide +kernel) (by decide +kernel)
set_option maxRecDepth 20000 in
theorem gX5_ask_X5_in : GoodIn wsX5_ask (va_wsS RX5 30 yX5_in wsX5_in) := goodIn_app (goodIn_of _ (by decide +kernel)) ggX5_ask_X5_in
set_option maxRecDepth 20000 in
theorem ggX5_ask_X5_canAsk : GoodIn wsX5_ask wsX5_canAsk := goodIn_r _ [13, 6, 14, 15, 16, 4, 17, 18, 19, 20, 21, 22, 23, 24, 25, 26, 27, 54, 55, 56, 57, 58, 59, 60, 61, 62, 63, 64] (by decide +kernel) (by decide +kernel)
set_option maxRecDepth 20000 in
theorem gX5_ask_X5_canAsk : GoodIn wsX5_ask (wsV RX5 67 RX5 yX5_canAsk wsX5_canAsk) := goodIn_app (goodIn_of _ (by decide +kernel)) ggX5_ask_X5_canAsk
set_option maxRecDepth 20000 in
theorem ggX5_ask_X5_record : GoodIn wsX5_ask wsX5_record := goodIn_r _ [31, 32, 33, 6, 54, 55, 56, 57, 58, 59, 60, 61, 62, 63, 64] (by decide +kernel) (by decide +kernel)
set_option maxRecDepth 20000 in
theorem gX5_ask_X5_record : GoodIn wsX5_ask (wsV RX5 37 RX5 yX5_record wsX5_record) := goodIn_app (goodIn_of _ (by decide +kernel)) ggX5_ask_X5_record
set_option maxRecDepth 20000 in
theorem ggX5_ask_X5_goAsk : GoodIn wsX5_ask wsX5_goAsk := goodIn_r _ [37, 6, 38, 39, 40, 4, 41, 18, 19, 20, 14, 15, 16, 17, 42, 43, 44, 45, 46, 47, 48, 49, 50, 51, 52, 53, 25, 26, 27, 54, 55, 56, 57, 58, 59, 60, 61, 62, 63, 64] (by decide +kernel) (by decide +kernel)
set_option maxRecDepth 20000 in
theorem gX5_ask_X5_goAsk : GoodIn wsX5_ask (wsV RX5 71 RX5 yX5_goAsk wsX5_goAsk) := goodIn_app (goodIn_of _ (by decide +kernel)) ggX5_ask_X5_goAsk
theorem dX5_ask_0 : decode cX5_ask 0 = .ok (.aload_n 0, 1) := by decide +kernel
theorem dX5_ask_1 : decode cX5_ask 1 = .ok (.iload_n 1, 1) := by decide +kernel
theorem dX5_ask_2 : decode cX5_ask 2 = .ok (.invokevirtual 63, 3) := by decide +kernel
theorem dX5_ask_5 : decode cX5_ask 5 = .ok (.ifCond .eq 13, 3) := by decide +kernel
theorem dX5_ask_8 : decode cX5_ask 8 = .ok (.iload_n 2, 1) := by decide +kernel
theorem dX5_ask_9 : decode cX5_ask 9 = .ok (.iconst 1, 1) := by decide +kernel
theorem dX5_ask_10 : decode cX5_ask 10 = .ok (.bipush 50, 2) := by decide +kernel
theorem dX5_ask_12 : decode cX5_ask 12 = .ok (.invokestatic 30, 3) := by decide +kernel
theorem dX5_ask_15 : decode cX5_ask 15 = .ok (.ifCond .ne 5, 3) := by decide +kernel
theorem dX5_ask_18 : decode cX5_ask 18 = .ok (.iconst (-1), 1) := by decide +kernel
theorem dX5_ask_19 : decode cX5_ask 19 = .ok (.ireturn, 1) := by decide +kernel
theorem dX5_ask_20 : decode cX5_ask 20 = .ok (.aload_n 0, 1) := by decide +kernel
theorem dX5_ask_21 : decode cX5_ask 21 = .ok (.iload_n 1, 1) := by decide +kernel
theorem dX5_ask_22 : decode cX5_ask 22 = .ok (.iload_n 2, 1) := by decide +kernel
theorem dX5_ask_23 : decode cX5_ask 23 = .ok (.invokevirtual 67, 3) := by decide +kernel
theorem dX5_ask_26 : decode cX5_ask 26 = .ok (.ifCond .ne 6, 3) := by decide +kernel
theorem dX5_ask_29 : decode cX5_ask 29 = .ok (.bipush (-3), 2) := by decide +kernel
theorem dX5_ask_31 : decode cX5_ask 31 = .ok (.ireturn, 1) := by decide +kernel
theorem dX5_ask_32 : decode cX5_ask 32 = .ok (.aload_n 0, 1) := by decide +kernel
theorem dX5_ask_33 : decode cX5_ask 33 = .ok (.invokevirtual 37, 3) := by decide +kernel
theorem dX5_ask_36 : decode cX5_ask 36 = .ok (.aload_n 0, 1) := by decide +kernel
theorem dX5_ask_37 : decode cX5_ask 37 = .ok (.iload_n 1, 1) := by decide +kernel
theorem dX5_ask_38 : decode cX5_ask 38 = .ok (.iload_n 2, 1) := by decide +kernel
theorem dX5_ask_39 : decode cX5_ask 39 = .ok (.invokevirtual 71, 3) := by decide +kernel
theorem dX5_ask_42 : decode cX5_ask 42 = .ok (.ireturn, 1) := by decide +kernel
set_option maxRecDepth 20000 in
theorem ggX5_makeHole_X5_n : GoodIn wsX5_makeHole wsX5_n := goodIn_r _ [5] (by decide +kernel) (by decide +kernel)
set_option maxRecDepth 20000 in
theorem gX5_makeHole_X5_n : GoodIn wsX5_makeHole (va_wsS RX5 22 yX5_n wsX5_n) := goodIn_app (goodIn_of _ (by decide +kernel)) ggX5_makeHole_X5_n
theorem dX5_makeHole_0 : decode cX5_makeHole 0 = .ok (.aload_n 0, 1) := by decide +kernel
theorem dX5_makeHole_1 : decode cX5_makeHole 1 = .ok (.getfield 7, 3) := by decide +kernel
theorem dX5_makeHole_4 : decode cX5_makeHole 4 = .ok (.iload_n 1, 1) := by decide +kernel
theorem dX5_makeHole_5 : decode cX5_makeHole 5 = .ok (.invokestatic 22, 3) := by decide +kernel
theorem dX5_makeHole_8 : decode cX5_makeHole 8 = .ok (.iconst 0, 1) := by decide +kernel
theorem dX5_makeHole_9 : decode cX5_makeHole 9 = .ok (.iadd, 1) := by decide +kernel
theorem dX5_makeHole_10 : decode cX5_makeHole 10 = .ok (.iconst 4, 1) := by decide +kernel
theorem dX5_makeHole_11 : decode cX5_makeHole 11 = .ok (.iastore, 1) := by decide +kernel
theorem dX5_makeHole_12 : decode cX5_makeHole 12 = .ok (.aload_n 0, 1) := by decide +kernel
theorem dX5_makeHole_13 : decode cX5_makeHole 13 = .ok (.getfield 7, 3) := by decide +kernel
theorem dX5_makeHole_16 : decode cX5_makeHole 16 = .ok (.iload_n 1, 1) := by decide +kernel
theorem dX5_makeHole_17 : decode cX5_makeHole 17 = .ok (.invokestatic 22, 3) := by decide +kernel
theorem dX5_makeHole_20 : decode cX5_makeHole 20 = .ok (.iconst 4, 1) := by decide +kernel
theorem dX5_makeHole_21 : decode cX5_makeHole 21 = .ok (.iadd, 1) := by decide +kernel
theorem dX5_makeHole_22 : decode cX5_makeHole 22 = .ok (.iload_n 2, 1) := by decide +kernel
theorem dX5_makeHole_23 : decode cX5_makeHole 23 = .ok (.iastore, 1) := by decide +kernel
theorem dX5_makeHole_24 : decode cX5_makeHole 24 = .ok (.return_, 1) := by decide +kernel
set_option maxRecDepth 20000 in
theorem ggX5_goForget_X5_c : GoodIn wsX5_goForget wsX5_c := goodIn_r _ [5] (by decide +kernel) (by decide +kernel)
set_option maxRecDepth 20000 in
theorem gX5_goForget_X5_c : GoodIn wsX5_goForget (va_wsS RX5 34 yX5_c wsX5_c) := goodIn_app (goodIn_of _ (by decide +kernel)) ggX5_goForget_X5_c
set_option maxRecDepth 20000 in
theorem ggX5_goForget_X5_holds : GoodIn wsX5_goForget wsX5_holds := goodIn_r _ [9, 1, 2, 3, 4, 5, 17, 18, 19, 20, 21, 22, 23, 24, 25, 26, 27] (by decide +kernel) (by decide +kernel)
set_option maxRecDepth 20000 in
theorem gX5_goForget_X5_holds : GoodIn wsX5_goForget (wsV RX5 50 RX5 yX5_holds wsX5_holds) := goodIn_app (goodIn_of _ (by decide +kernel)) ggX5_goForget_X5_holds
set_option maxRecDepth 20000 in
theorem ggX5_goForget_X5_makeHole : GoodIn wsX5_goForget wsX5_makeHole := goodIn_r _ [13, 1, 14, 15, 4, 16, 17, 18, 19, 20, 21, 22, 23, 24, 25, 26, 27] (by decide +kernel) (by decide +kernel)
set_option maxRecDepth 20000 in
theorem gX5_goForget_X5_makeHole : GoodIn wsX5_goForget (wsV RX5 75 RX5 yX5_makeHole wsX5_makeHole) := goodIn_app (goodIn_of _ (by decide +kernel)) ggX5_goForget_X5_makeHole
theorem dX5_goForget_0 : decode cX5_goForget 0 = .ok (.iload_n 1, 1) := by decide +kernel
theorem dX5_goForget_1 : decode cX5_goForget 1 = .ok (.invokestatic 34, 3) := by decide +kernel
theorem dX5_goForget_4 : decode cX5_goForget 4 = .ok (.istore_n 2, 1) := by decide +kernel
theorem dX5_goForget_5 : decode cX5_goForget 5 = .ok (.iconst 0, 1) := by decide +kernel
theorem dX5_goForget_6 : decode cX5_goForget 6 = .ok (.istore_n 3, 1) := by decide +kernel
theorem dX5_goForget_7 : decode cX5_goForget 7 = .ok (.aload_n 0, 1) := by decide +kernel
theorem dX5_goForget_8 : decode cX5_goForget 8 = .ok (.iload_n 1, 1) := by decide +kernel
theorem dX5_goForget_9 : decode cX5_goForget 9 = .ok (.invokevirtual 50, 3) := by decide +kernel
theorem dX5_goForget_12 : decode cX5_goForget 12 = .ok (.ifCond .le 53, 3) := by decide +kernel
theorem dX5_goForget_15 : decode cX5_goForget 15 = .ok (.aload_n 0, 1) := by decide +kernel
theorem dX5_goForget_16 : decode cX5_goForget 16 = .ok (.getfield 7, 3) := by decide +kernel
theorem dX5_goForget_19 : decode cX5_goForget 19 = .ok (.iload_n 2, 1) := by decide +kernel
theorem dX5_goForget_20 : decode cX5_goForget 20 = .ok (.iconst 1, 1) := by decide +kernel
theorem dX5_goForget_21 : decode cX5_goForget 21 = .ok (.iadd, 1) := by decide +kernel
theorem dX5_goForget_22 : decode cX5_goForget 22 = .ok (.iaload, 1) := by decide +kernel
theorem dX5_goForget_23 : decode cX5_goForget 23 = .ok (.aload_n 0, 1) := by decide +kernel
theorem dX5_goForget_24 : decode cX5_goForget 24 = .ok (.getfield 7, 3) := by decide +kernel
theorem dX5_goForget_27 : decode cX5_goForget 27 = .ok (.iload_n 2, 1) := by decide +kernel
theorem dX5_goForget_28 : decode cX5_goForget 28 = .ok (.iconst 3, 1) := by decide +kernel
theorem dX5_goForget_29 : decode cX5_goForget 29 = .ok (.iadd, 1) := by decide +kernel
theorem dX5_goForget_30 : decode cX5_goForget 30 = .ok (.iaload, 1) := by decide +kernel
theorem dX5_goForget_31 : decode cX5_goForget 31 = .ok (.if_icmp .gt 34, 3) := by decide +kernel
theorem dX5_goForget_34 : decode cX5_goForget 34 = .ok (.aload_n 0, 1) := by decide +kernel
theorem dX5_goForget_35 : decode cX5_goForget 35 = .ok (.aload_n 0, 1) := by decide +kernel
theorem dX5_goForget_36 : decode cX5_goForget 36 = .ok (.getfield 7, 3) := by decide +kernel
theorem dX5_goForget_39 : decode cX5_goForget 39 = .ok (.iload_n 2, 1) := by decide +kernel
theorem dX5_goForget_40 : decode cX5_goForget 40 = .ok (.iconst 1, 1) := by decide +kernel
theorem dX5_goForget_41 : decode cX5_goForget 41 = .ok (.iadd, 1) := by decide +kernel
theorem dX5_goForget_42 : decode cX5_goForget 42 = .ok (.iaload, 1) := by decide +kernel
theorem dX5_goForget_43 : decode cX5_goForget 43 = .ok (.iconst 0, 1) := by decide +kernel
theorem dX5_goForget_44 : decode cX5_goForget 44 = .ok (.invokevirtual 75, 3) := by decide +kernel
theorem dX5_goForget_47 : decode cX5_goForget 47 = .ok (.aload_n 0, 1) := by decide +kernel
theorem dX5_goForget_48 : decode cX5_goForget 48 = .ok (.getfield 7, 3) := by decide +kernel
theorem dX5_goForget_51 : decode cX5_goForget 51 = .ok (.iload_n 2, 1) := by decide +kernel
theorem dX5_goForget_52 : decode cX5_goForget 52 = .ok (.iconst 1, 1) := by decide +kernel
theorem dX5_goForget_53 : decode cX5_goForget 53 = .ok (.iadd, 1) := by decide +kernel
theorem dX5_goForget_54 : decode cX5_goForget 54 = .ok (.dup2, 1) := by decide +kernel
theorem dX5_goForget_55 : decode cX5_goForget 55 = .ok (.iaload, 1) := by decide +kernel
theorem dX5_goForget_56 : decode cX5_goForget 56 = .ok (.iconst 1, 1) := by decide +kernel
theorem dX5_goForget_57 : decode cX5_goForget 57 = .ok (.iadd, 1) := by decide +kernel
theorem dX5_goForget_58 : decode cX5_goForget 58 = .ok (.iastore, 1) := by decide +kernel
theorem dX5_goForget_59 : decode cX5_goForget 59 = .ok (.iinc 3 1, 3) := by decide +kernel
theorem dX5_goForget_62 : decode cX5_goForget 62 = .ok (.goto (-55), 3) := by decide +kernel
theorem dX5_goForget_65 : decode cX5_goForget 65 = .ok (.iload_n 3, 1) := by decide +kernel
theorem dX5_goForget_66 : decode cX5_goForget 66 = .ok (.ireturn, 1) := by decide +kernel
set_option maxRecDepth 20000 in
theorem ggX5_forget_X5_isClerk : GoodIn wsX5_forget wsX5_isClerk := goodIn_r _ [5, 6, 7, 8, 4, 9, 34, 35, 36, 37, 38, 39, 40, 41, 42, 43, 44] (by decide +kernel) (by decide +kernel)
set_option maxRecDepth 20000 in
theorem gX5_forget_X5_isClerk : GoodIn wsX5_forget (wsV RX5 63 RX5 yX5_isClerk wsX5_isClerk) := goodIn_app (goodIn_of _ (by decide +kernel)) ggX5_forget_X5_isClerk
set_option maxRecDepth 20000 in
theorem ggX5_forget_X5_holds : GoodIn wsX5_forget wsX5_holds := goodIn_r _ [13, 6, 14, 15, 4, 16, 34, 35, 36, 37, 38, 39, 40, 41, 42, 43, 44] (by decide +kernel) (by decide +kernel)
set_option maxRecDepth 20000 in
theorem gX5_forget_X5_holds : GoodIn wsX5_forget (wsV RX5 50 RX5 yX5_holds wsX5_holds) := goodIn_app (goodIn_of _ (by decide +kernel)) ggX5_forget_X5_holds
set_option maxRecDepth 20000 in
theorem ggX5_forget_X5_record : GoodIn wsX5_forget wsX5_record := goodIn_r _ [20, 21, 22, 6, 34, 35, 36, 37, 38, 39, 40, 41, 42, 43, 44] (by decide +kernel) (by decide +kernel)
set_option maxRecDepth 20000 in
theorem gX5_forget_X5_record : GoodIn wsX5_forget (wsV RX5 37 RX5 yX5_record wsX5_record) := goodIn_app (goodIn_of _ (by decide +kernel)) ggX5_forget_X5_record
set_option maxRecDepth 20000 in
theorem ggX5_forget_X5_goForget : GoodIn wsX5_forget wsX5_goForget := goodIn_r _ [26, 6, 14, 15, 4, 16, 10, 11, 12, 13, 27, 28, 29, 30, 31, 32, 33, 34, 35, 36, 37, 38, 39, 40, 41, 42, 43, 44] (by decide +kernel) (by decide +kernel)
set_option maxRecDepth 20000 in
theorem gX5_forget_X5_goForget : GoodIn wsX5_forget (wsV RX5 79 RX5 yX5_goForget wsX5_goForget) := goodIn_app (goodIn_of _ (by decide +kernel)) ggX5_forget_X5_goForget
theorem dX5_forget_0 : decode cX5_forget 0 = .ok (.aload_n 0, 1) := by decide +kernel
theorem dX5_forget_1 : decode cX5_forget 1 = .ok (.iload_n 1, 1) := by decide +kernel
theorem dX5_forget_2 : decode cX5_forget 2 = .ok (.invokevirtual 63, 3) := by decide +kernel
theorem dX5_forget_5 : decode cX5_forget 5 = .ok (.ifCond .ne 5, 3) := by decide +kernel
theorem dX5_forget_8 : decode cX5_forget 8 = .ok (.iconst (-1), 1) := by decide +kernel
theorem dX5_forget_9 : decode cX5_forget 9 = .ok (.ireturn, 1) := by decide +kernel
theorem dX5_forget_10 : decode cX5_forget 10 = .ok (.aload_n 0, 1) := by decide +kernel
theorem dX5_forget_11 : decode cX5_forget 11 = .ok (.iload_n 1, 1) := by decide +kernel
theorem dX5_forget_12 : decode cX5_forget 12 = .ok (.invokevirtual 50, 3) := by decide +kernel
theorem dX5_forget_15 : decode cX5_forget 15 = .ok (.ifCond .ne 6, 3) := by decide +kernel
theorem dX5_forget_18 : decode cX5_forget 18 = .ok (.bipush (-2), 2) := by decide +kernel
theorem dX5_forget_20 : decode cX5_forget 20 = .ok (.ireturn, 1) := by decide +kernel
theorem dX5_forget_21 : decode cX5_forget 21 = .ok (.aload_n 0, 1) := by decide +kernel
theorem dX5_forget_22 : decode cX5_forget 22 = .ok (.invokevirtual 37, 3) := by decide +kernel
theorem dX5_forget_25 : decode cX5_forget 25 = .ok (.aload_n 0, 1) := by decide +kernel
theorem dX5_forget_26 : decode cX5_forget 26 = .ok (.iload_n 1, 1) := by decide +kernel
theorem dX5_forget_27 : decode cX5_forget 27 = .ok (.invokevirtual 79, 3) := by decide +kernel
theorem dX5_forget_30 : decode cX5_forget 30 = .ok (.ireturn, 1) := by decide +kernel
set_option maxRecDepth 20000 in
theorem ggX5_goBack_X5_c : GoodIn wsX5_goBack wsX5_c := goodIn_r _ [5] (by decide +kernel) (by decide +kernel)
set_option maxRecDepth 20000 in
theorem gX5_goBack_X5_c : GoodIn wsX5_goBack (va_wsS RX5 34 yX5_c wsX5_c) := goodIn_app (goodIn_of _ (by decide +kernel)) ggX5_goBack_X5_c
set_option maxRecDepth 20000 in
theorem ggX5_goBack_X5_holds : GoodIn wsX5_goBack wsX5_holds := goodIn_r _ [9, 1, 2, 3, 4, 5, 17, 18, 19, 20, 21, 22, 23, 24, 25, 26, 27] (by decide +kernel) (by decide +kernel)
set_option maxRecDepth 20000 in
theorem gX5_goBack_X5_holds : GoodIn wsX5_goBack (wsV RX5 50 RX5 yX5_holds wsX5_holds) := goodIn_app (goodIn_of _ (by decide +kernel)) ggX5_goBack_X5_holds
set_option maxRecDepth 20000 in
theorem ggX5_goBack_X5_n : GoodIn wsX5_goBack wsX5_n := goodIn_r _ [12] (by decide +kernel) (by decide +kernel)
set_option maxRecDepth 20000 in
theorem gX5_goBack_X5_n : GoodIn wsX5_goBack (va_wsS RX5 22 yX5_n wsX5_n) := goodIn_app (goodIn_of _ (by decide +kernel)) ggX5_goBack_X5_n
set_option maxRecDepth 20000 in
theorem ggX5_goBack_X5_makeHole : GoodIn wsX5_goBack wsX5_makeHole := goodIn_r _ [16, 1, 10, 11, 4, 12, 17, 18, 19, 20, 21, 22, 23, 24, 25, 26, 27] (by decide +kernel) (by decide +kernel)
set_option maxRecDepth 20000 in
theorem gX5_goBack_X5_makeHole : GoodIn wsX5_goBack (wsV RX5 75 RX5 yX5_makeHole wsX5_makeHole) := goodIn_app (goodIn_of _ (by decide +kernel)) ggX5_goBack_X5_makeHole
theorem dX5_goBack_0 : decode cX5_goBack 0 = .ok (.iload_n 1, 1) := by decide +kernel
theorem dX5_goBack_1 : decode cX5_goBack 1 = .ok (.invokestatic 34, 3) := by decide +kernel
theorem dX5_goBack_4 : decode cX5_goBack 4 = .ok (.istore_n 2, 1) := by decide +kernel
theorem dX5_goBack_5 : decode cX5_goBack 5 = .ok (.aload_n 0, 1) := by decide +kernel
theorem dX5_goBack_6 : decode cX5_goBack 6 = .ok (.iload_n 1, 1) := by decide +kernel
theorem dX5_goBack_7 : decode cX5_goBack 7 = .ok (.invokevirtual 50, 3) := by decide +kernel
theorem dX5_goBack_10 : decode cX5_goBack 10 = .ok (.istore_n 3, 1) := by decide +kernel
theorem dX5_goBack_11 : decode cX5_goBack 11 = .ok (.aload_n 0, 1) := by decide +kernel
theorem dX5_goBack_12 : decode cX5_goBack 12 = .ok (.getfield 7, 3) := by decide +kernel
theorem dX5_goBack_15 : decode cX5_goBack 15 = .ok (.iload_n 2, 1) := by decide +kernel
theorem dX5_goBack_16 : decode cX5_goBack 16 = .ok (.iconst 1, 1) := by decide +kernel
theorem dX5_goBack_17 : decode cX5_goBack 17 = .ok (.iadd, 1) := by decide +kernel
theorem dX5_goBack_18 : decode cX5_goBack 18 = .ok (.iaload, 1) := by decide +kernel
theorem dX5_goBack_19 : decode cX5_goBack 19 = .ok (.aload_n 0, 1) := by decide +kernel
theorem dX5_goBack_20 : decode cX5_goBack 20 = .ok (.getfield 7, 3) := by decide +kernel
theorem dX5_goBack_23 : decode cX5_goBack 23 = .ok (.iload_n 2, 1) := by decide +kernel
theorem dX5_goBack_24 : decode cX5_goBack 24 = .ok (.iconst 2, 1) := by decide +kernel
theorem dX5_goBack_25 : decode cX5_goBack 25 = .ok (.iadd, 1) := by decide +kernel
theorem dX5_goBack_26 : decode cX5_goBack 26 = .ok (.iaload, 1) := by decide +kernel
theorem dX5_goBack_27 : decode cX5_goBack 27 = .ok (.if_icmp .gt 82, 3) := by decide +kernel
theorem dX5_goBack_30 : decode cX5_goBack 30 = .ok (.aload_n 0, 1) := by decide +kernel
theorem dX5_goBack_31 : decode cX5_goBack 31 = .ok (.getfield 7, 3) := by decide +kernel
theorem dX5_goBack_34 : decode cX5_goBack 34 = .ok (.iconst 1, 1) := by decide +kernel
theorem dX5_goBack_35 : decode cX5_goBack 35 = .ok (.iaload, 1) := by decide +kernel
theorem dX5_goBack_36 : decode cX5_goBack 36 = .ok (.iconst 1, 1) := by decide +kernel
theorem dX5_goBack_37 : decode cX5_goBack 37 = .ok (.if_icmp .ne 44, 3) := by decide +kernel
theorem dX5_goBack_40 : decode cX5_goBack 40 = .ok (.aload_n 0, 1) := by decide +kernel
theorem dX5_goBack_41 : decode cX5_goBack 41 = .ok (.getfield 7, 3) := by decide +kernel
theorem dX5_goBack_44 : decode cX5_goBack 44 = .ok (.aload_n 0, 1) := by decide +kernel
theorem dX5_goBack_45 : decode cX5_goBack 45 = .ok (.getfield 7, 3) := by decide +kernel
theorem dX5_goBack_48 : decode cX5_goBack 48 = .ok (.iload_n 2, 1) := by decide +kernel
theorem dX5_goBack_49 : decode cX5_goBack 49 = .ok (.iconst 1, 1) := by decide +kernel
theorem dX5_goBack_50 : decode cX5_goBack 50 = .ok (.iadd, 1) := by decide +kernel
theorem dX5_goBack_51 : decode cX5_goBack 51 = .ok (.iaload, 1) := by decide +kernel
theorem dX5_goBack_52 : decode cX5_goBack 52 = .ok (.invokestatic 22, 3) := by decide +kernel
theorem dX5_goBack_55 : decode cX5_goBack 55 = .ok (.iconst 0, 1) := by decide +kernel
theorem dX5_goBack_56 : decode cX5_goBack 56 = .ok (.iadd, 1) := by decide +kernel
theorem dX5_goBack_57 : decode cX5_goBack 57 = .ok (.iconst 3, 1) := by decide +kernel
theorem dX5_goBack_58 : decode cX5_goBack 58 = .ok (.iastore, 1) := by decide +kernel
theorem dX5_goBack_59 : decode cX5_goBack 59 = .ok (.aload_n 0, 1) := by decide +kernel
theorem dX5_goBack_60 : decode cX5_goBack 60 = .ok (.getfield 7, 3) := by decide +kernel
theorem dX5_goBack_63 : decode cX5_goBack 63 = .ok (.aload_n 0, 1) := by decide +kernel
theorem dX5_goBack_64 : decode cX5_goBack 64 = .ok (.getfield 7, 3) := by decide +kernel
theorem dX5_goBack_67 : decode cX5_goBack 67 = .ok (.iload_n 2, 1) := by decide +kernel
theorem dX5_goBack_68 : decode cX5_goBack 68 = .ok (.iconst 1, 1) := by decide +kernel
theorem dX5_goBack_69 : decode cX5_goBack 69 = .ok (.iadd, 1) := by decide +kernel
theorem dX5_goBack_70 : decode cX5_goBack 70 = .ok (.iaload, 1) := by decide +kernel
theorem dX5_goBack_71 : decode cX5_goBack 71 = .ok (.invokestatic 22, 3) := by decide +kernel
theorem dX5_goBack_74 : decode cX5_goBack 74 = .ok (.iconst 1, 1) := by decide +kernel
theorem dX5_goBack_75 : decode cX5_goBack 75 = .ok (.iadd, 1) := by decide +kernel
theorem dX5_goBack_76 : decode cX5_goBack 76 = .ok (.iconst (-1), 1) := by decide +kernel
theorem dX5_goBack_77 : decode cX5_goBack 77 = .ok (.iastore, 1) := by decide +kernel
theorem dX5_goBack_78 : decode cX5_goBack 78 = .ok (.goto 16, 3) := by decide +kernel
theorem dX5_goBack_81 : decode cX5_goBack 81 = .ok (.aload_n 0, 1) := by decide +kernel
theorem dX5_goBack_82 : decode cX5_goBack 82 = .ok (.aload_n 0, 1) := by decide +kernel
theorem dX5_goBack_83 : decode cX5_goBack 83 = .ok (.getfield 7, 3) := by decide +kernel
theorem dX5_goBack_86 : decode cX5_goBack 86 = .ok (.iload_n 2, 1) := by decide +kernel
theorem dX5_goBack_87 : decode cX5_goBack 87 = .ok (.iconst 1, 1) := by decide +kernel
theorem dX5_goBack_88 : decode cX5_goBack 88 = .ok (.iadd, 1) := by decide +kernel
theorem dX5_goBack_89 : decode cX5_goBack 89 = .ok (.iaload, 1) := by decide +kernel
theorem dX5_goBack_90 : decode cX5_goBack 90 = .ok (.iconst 1, 1) := by decide +kernel
theorem dX5_goBack_91 : decode cX5_goBack 91 = .ok (.invokevirtual 75, 3) := by decide +kernel
theorem dX5_goBack_94 : decode cX5_goBack 94 = .ok (.aload_n 0, 1) := by decide +kernel
theorem dX5_goBack_95 : decode cX5_goBack 95 = .ok (.getfield 7, 3) := by decide +kernel
theorem dX5_goBack_98 : decode cX5_goBack 98 = .ok (.iload_n 2, 1) := by decide +kernel
theorem dX5_goBack_99 : decode cX5_goBack 99 = .ok (.iconst 1, 1) := by decide +kernel
theorem dX5_goBack_100 : decode cX5_goBack 100 = .ok (.iadd, 1) := by decide +kernel
theorem dX5_goBack_101 : decode cX5_goBack 101 = .ok (.dup2, 1) := by decide +kernel
theorem dX5_goBack_102 : decode cX5_goBack 102 = .ok (.iaload, 1) := by decide +kernel
theorem dX5_goBack_103 : decode cX5_goBack 103 = .ok (.iconst 1, 1) := by decide +kernel
theorem dX5_goBack_104 : decode cX5_goBack 104 = .ok (.iadd, 1) := by decide +kernel
theorem dX5_goBack_105 : decode cX5_goBack 105 = .ok (.iastore, 1) := by decide +kernel
theorem dX5_goBack_106 : decode cX5_goBack 106 = .ok (.goto (-95), 3) := by decide +kernel
theorem dX5_goBack_109 : decode cX5_goBack 109 = .ok (.iload_n 3, 1) := by decide +kernel
theorem dX5_goBack_110 : decode cX5_goBack 110 = .ok (.ireturn, 1) := by decide +kernel
set_option maxRecDepth 20000 in
theorem ggX5_giveBack_X5_isClerk : GoodIn wsX5_giveBack wsX5_isClerk := goodIn_r _ [5, 6, 7, 8, 4, 9, 34, 35, 36, 37, 38, 39, 40, 41, 42, 43, 44] (by decide +kernel) (by decide +kernel)
set_option maxRecDepth 20000 in
theorem gX5_giveBack_X5_isClerk : GoodIn wsX5_giveBack (wsV RX5 63 RX5 yX5_isClerk wsX5_isClerk) := goodIn_app (goodIn_of _ (by decide +kernel)) ggX5_giveBack_X5_isClerk
set_option maxRecDepth 20000 in
theorem ggX5_giveBack_X5_holds : GoodIn wsX5_giveBack wsX5_holds := goodIn_r _ [13, 6, 14, 15, 4, 16, 34, 35, 36, 37, 38, 39, 40, 41, 42, 43, 44] (by decide +kernel) (by decide +kernel)
set_option maxRecDepth 20000 in
theorem gX5_giveBack_X5_holds : GoodIn wsX5_giveBack (wsV RX5 50 RX5 yX5_holds wsX5_holds) := goodIn_app (goodIn_of _ (by decide +kernel)) ggX5_giveBack_X5_holds
set_option maxRecDepth 20000 in
theorem ggX5_giveBack_X5_record : GoodIn wsX5_giveBack wsX5_record := goodIn_r _ [20, 21, 22, 6, 34, 35, 36, 37, 38, 39, 40, 41, 42, 43, 44] (by decide +kernel) (by decide +kernel)
set_option maxRecDepth 20000 in
theorem gX5_giveBack_X5_record : GoodIn wsX5_giveBack (wsV RX5 37 RX5 yX5_record wsX5_record) := goodIn_app (goodIn_of _ (by decide +kernel)) ggX5_giveBack_X5_record
set_option maxRecDepth 20000 in
theorem ggX5_giveBack_X5_goBack : GoodIn wsX5_giveBack wsX5_goBack := goodIn_r _ [26, 6, 14, 15, 4, 16, 10, 11, 12, 13, 27, 28, 29, 30, 31, 32, 33, 34, 35, 36, 37, 38, 39, 40, 41, 42, 43, 44] (by decide +kernel) (by decide +kernel)
set_option maxRecDepth 20000 in
theorem gX5_giveBack_X5_goBack : GoodIn wsX5_giveBack (wsV RX5 82 RX5 yX5_goBack wsX5_goBack) := goodIn_app (goodIn_of _ (by decide +kernel)) ggX5_giveBack_X5_goBack
theorem dX5_giveBack_0 : decode cX5_giveBack 0 = .ok (.aload_n 0, 1) := by decide +kernel
theorem dX5_giveBack_1 : decode cX5_giveBack 1 = .ok (.iload_n 1, 1) := by decide +kernel
theorem dX5_giveBack_2 : decode cX5_giveBack 2 = .ok (.invokevirtual 63, 3) := by decide +kernel
theorem dX5_giveBack_5 : decode cX5_giveBack 5 = .ok (.ifCond .ne 5, 3) := by decide +kernel
theorem dX5_giveBack_8 : decode cX5_giveBack 8 = .ok (.iconst (-1), 1) := by decide +kernel
theorem dX5_giveBack_9 : decode cX5_giveBack 9 = .ok (.ireturn, 1) := by decide +kernel
theorem dX5_giveBack_10 : decode cX5_giveBack 10 = .ok (.aload_n 0, 1) := by decide +kernel
theorem dX5_giveBack_11 : decode cX5_giveBack 11 = .ok (.iload_n 1, 1) := by decide +kernel
theorem dX5_giveBack_12 : decode cX5_giveBack 12 = .ok (.invokevirtual 50, 3) := by decide +kernel
theorem dX5_giveBack_15 : decode cX5_giveBack 15 = .ok (.ifCond .ne 6, 3) := by decide +kernel
theorem dX5_giveBack_18 : decode cX5_giveBack 18 = .ok (.bipush (-2), 2) := by decide +kernel
theorem dX5_giveBack_20 : decode cX5_giveBack 20 = .ok (.ireturn, 1) := by decide +kernel
theorem dX5_giveBack_21 : decode cX5_giveBack 21 = .ok (.aload_n 0, 1) := by decide +kernel
theorem dX5_giveBack_22 : decode cX5_giveBack 22 = .ok (.invokevirtual 37, 3) := by decide +kernel
theorem dX5_giveBack_25 : decode cX5_giveBack 25 = .ok (.aload_n 0, 1) := by decide +kernel
theorem dX5_giveBack_26 : decode cX5_giveBack 26 = .ok (.iload_n 1, 1) := by decide +kernel
theorem dX5_giveBack_27 : decode cX5_giveBack 27 = .ok (.invokevirtual 82, 3) := by decide +kernel
theorem dX5_giveBack_30 : decode cX5_giveBack 30 = .ok (.ireturn, 1) := by decide +kernel
set_option maxRecDepth 20000 in
theorem ggX5_makeVoid_X5_isNumber : GoodIn wsX5_makeVoid wsX5_isNumber := goodIn_r _ [5, 6, 7, 4, 8] (by decide +kernel) (by decide +kernel)
set_option maxRecDepth 20000 in
theorem gX5_makeVoid_X5_isNumber : GoodIn wsX5_makeVoid (va_wsS RX5 85 yX5_isNumber wsX5_isNumber) := goodIn_app (goodIn_of _ (by decide +kernel)) ggX5_makeVoid_X5_isNumber
set_option maxRecDepth 20000 in
theorem ggX5_makeVoid_X5_n : GoodIn wsX5_makeVoid wsX5_n := goodIn_r _ [11] (by decide +kernel) (by decide +kernel)
set_option maxRecDepth 20000 in
theorem gX5_makeVoid_X5_n : GoodIn wsX5_makeVoid (va_wsS RX5 22 yX5_n wsX5_n) := goodIn_app (goodIn_of _ (by decide +kernel)) ggX5_makeVoid_X5_n
set_option maxRecDepth 20000 in
theorem ggX5_makeVoid_X5_record : GoodIn wsX5_makeVoid wsX5_record := goodIn_r _ [15, 16, 17, 1, 22, 23, 24, 25, 26, 27, 28, 29, 30, 31, 32] (by decide +kernel) (by decide +kernel)
set_option maxRecDepth 20000 in
theorem gX5_makeVoid_X5_record : GoodIn wsX5_makeVoid (wsV RX5 37 RX5 yX5_record wsX5_record) := goodIn_app (goodIn_of _ (by decide +kernel)) ggX5_makeVoid_X5_record
set_option maxRecDepth 20000 in
theorem ggX5_makeVoid_X5_makeHole : GoodIn wsX5_makeVoid wsX5_makeHole := goodIn_r _ [21, 1, 9, 10, 4, 11, 22, 23, 24, 25, 26, 27, 28, 29, 30, 31, 32] (by decide +kernel) (by decide +kernel)
set_option maxRecDepth 20000 in
theorem gX5_makeVoid_X5_makeHole : GoodIn wsX5_makeVoid (wsV RX5 75 RX5 yX5_makeHole wsX5_makeHole) := goodIn_app (goodIn_of _ (by decide +kernel)) ggX5_makeVoid_X5_makeHole
theorem dX5_makeVoid_0 : decode cX5_makeVoid 0 = .ok (.iload_n 1, 1) := by decide +kernel
theorem dX5_makeVoid_1 : decode cX5_makeVoid 1 = .ok (.invokestatic 85, 3) := by decide +kernel
theorem dX5_makeVoid_4 : decode cX5_makeVoid 4 = .ok (.ifCond .ne 5, 3) := by decide +kernel
theorem dX5_makeVoid_7 : decode cX5_makeVoid 7 = .ok (.iconst (-1), 1) := by decide +kernel
theorem dX5_makeVoid_8 : decode cX5_makeVoid 8 = .ok (.ireturn, 1) := by decide +kernel
theorem dX5_makeVoid_9 : decode cX5_makeVoid 9 = .ok (.aload_n 0, 1) := by decide +kernel
theorem dX5_makeVoid_10 : decode cX5_makeVoid 10 = .ok (.getfield 7, 3) := by decide +kernel
theorem dX5_makeVoid_13 : decode cX5_makeVoid 13 = .ok (.iload_n 1, 1) := by decide +kernel
theorem dX5_makeVoid_14 : decode cX5_makeVoid 14 = .ok (.invokestatic 22, 3) := by decide +kernel
theorem dX5_makeVoid_17 : decode cX5_makeVoid 17 = .ok (.iconst 0, 1) := by decide +kernel
theorem dX5_makeVoid_18 : decode cX5_makeVoid 18 = .ok (.iadd, 1) := by decide +kernel
theorem dX5_makeVoid_19 : decode cX5_makeVoid 19 = .ok (.iaload, 1) := by decide +kernel
theorem dX5_makeVoid_20 : decode cX5_makeVoid 20 = .ok (.iconst 2, 1) := by decide +kernel
theorem dX5_makeVoid_21 : decode cX5_makeVoid 21 = .ok (.if_icmp .eq 6, 3) := by decide +kernel
theorem dX5_makeVoid_24 : decode cX5_makeVoid 24 = .ok (.bipush (-2), 2) := by decide +kernel
theorem dX5_makeVoid_26 : decode cX5_makeVoid 26 = .ok (.ireturn, 1) := by decide +kernel
theorem dX5_makeVoid_27 : decode cX5_makeVoid 27 = .ok (.aload_n 0, 1) := by decide +kernel
theorem dX5_makeVoid_28 : decode cX5_makeVoid 28 = .ok (.invokevirtual 37, 3) := by decide +kernel
theorem dX5_makeVoid_31 : decode cX5_makeVoid 31 = .ok (.aload_n 0, 1) := by decide +kernel
theorem dX5_makeVoid_32 : decode cX5_makeVoid 32 = .ok (.iload_n 1, 1) := by decide +kernel
theorem dX5_makeVoid_33 : decode cX5_makeVoid 33 = .ok (.iconst 2, 1) := by decide +kernel
theorem dX5_makeVoid_34 : decode cX5_makeVoid 34 = .ok (.invokevirtual 75, 3) := by decide +kernel
theorem dX5_makeVoid_37 : decode cX5_makeVoid 37 = .ok (.aload_n 0, 1) := by decide +kernel
theorem dX5_makeVoid_38 : decode cX5_makeVoid 38 = .ok (.getfield 7, 3) := by decide +kernel
theorem dX5_makeVoid_41 : decode cX5_makeVoid 41 = .ok (.iload_n 1, 1) := by decide +kernel
theorem dX5_makeVoid_42 : decode cX5_makeVoid 42 = .ok (.invokestatic 22, 3) := by decide +kernel
theorem dX5_makeVoid_45 : decode cX5_makeVoid 45 = .ok (.iconst 1, 1) := by decide +kernel
theorem dX5_makeVoid_46 : decode cX5_makeVoid 46 = .ok (.iadd, 1) := by decide +kernel
theorem dX5_makeVoid_47 : decode cX5_makeVoid 47 = .ok (.iaload, 1) := by decide +kernel
theorem dX5_makeVoid_48 : decode cX5_makeVoid 48 = .ok (.ireturn, 1) := by decide +kernel
set_option maxRecDepth 20000 in
theorem ggX5_goClose_X5_n : GoodIn wsX5_goClose wsX5_n := goodIn_r _ [5] (by decide +kernel) (by decide +kernel)
set_option maxRecDepth 20000 in
theorem gX5_goClose_X5_n : GoodIn wsX5_goClose (va_wsS RX5 22 yX5_n wsX5_n) := goodIn_app (goodIn_of _ (by decide +kernel)) ggX5_goClose_X5_n
set_option maxRecDepth 20000 in
theorem ggX5_goClose_X5_makeHole : GoodIn wsX5_goClose wsX5_makeHole := goodIn_r _ [9, 1, 2, 3, 4, 5, 13, 14, 15, 16, 17, 18, 19, 20, 21, 22, 23] (by decide +kernel) (by decide +kernel)
set_option maxRecDepth 20000 in
theorem gX5_goClose_X5_makeHole : GoodIn wsX5_goClose (wsV RX5 75 RX5 yX5_makeHole wsX5_makeHole) := goodIn_app (goodIn_of _ (by decide +kernel)) ggX5_goClose_X5_makeHole
set_option maxRecDepth 20000 in
theorem ggX5_goClose_X5_c : GoodIn wsX5_goClose wsX5_c := goodIn_r _ [12] (by decide +kernel) (by decide +kernel)
set_option maxRecDepth 20000 in
theorem gX5_goClose_X5_c : GoodIn wsX5_goClose (va_wsS RX5 34 yX5_c wsX5_c) := goodIn_app (goodIn_of _ (by decide +kernel)) ggX5_goClose_X5_c
theorem dX5_goClose_0 : decode cX5_goClose 0 = .ok (.iconst 0, 1) := by decide +kernel
theorem dX5_goClose_1 : decode cX5_goClose 1 = .ok (.istore_n 1, 1) := by decide +kernel
theorem dX5_goClose_2 : decode cX5_goClose 2 = .ok (.iconst 1, 1) := by decide +kernel
theorem dX5_goClose_3 : decode cX5_goClose 3 = .ok (.istore_n 2, 1) := by decide +kernel
theorem dX5_goClose_4 : decode cX5_goClose 4 = .ok (.iload_n 2, 1) := by decide +kernel
theorem dX5_goClose_5 : decode cX5_goClose 5 = .ok (.sipush 600, 3) := by decide +kernel
theorem dX5_goClose_8 : decode cX5_goClose 8 = .ok (.if_icmp .gt 48, 3) := by decide +kernel
theorem dX5_goClose_11 : decode cX5_goClose 11 = .ok (.aload_n 0, 1) := by decide +kernel
theorem dX5_goClose_12 : decode cX5_goClose 12 = .ok (.getfield 7, 3) := by decide +kernel
theorem dX5_goClose_15 : decode cX5_goClose 15 = .ok (.iload_n 2, 1) := by decide +kernel
theorem dX5_goClose_16 : decode cX5_goClose 16 = .ok (.invokestatic 22, 3) := by decide +kernel
theorem dX5_goClose_19 : decode cX5_goClose 19 = .ok (.iconst 0, 1) := by decide +kernel
theorem dX5_goClose_20 : decode cX5_goClose 20 = .ok (.iadd, 1) := by decide +kernel
theorem dX5_goClose_21 : decode cX5_goClose 21 = .ok (.iaload, 1) := by decide +kernel
theorem dX5_goClose_22 : decode cX5_goClose 22 = .ok (.iconst 1, 1) := by decide +kernel
theorem dX5_goClose_23 : decode cX5_goClose 23 = .ok (.if_icmp .eq 18, 3) := by decide +kernel
theorem dX5_goClose_26 : decode cX5_goClose 26 = .ok (.aload_n 0, 1) := by decide +kernel
theorem dX5_goClose_27 : decode cX5_goClose 27 = .ok (.getfield 7, 3) := by decide +kernel
theorem dX5_goClose_30 : decode cX5_goClose 30 = .ok (.iload_n 2, 1) := by decide +kernel
theorem dX5_goClose_31 : decode cX5_goClose 31 = .ok (.invokestatic 22, 3) := by decide +kernel
theorem dX5_goClose_34 : decode cX5_goClose 34 = .ok (.iconst 0, 1) := by decide +kernel
theorem dX5_goClose_35 : decode cX5_goClose 35 = .ok (.iadd, 1) := by decide +kernel
theorem dX5_goClose_36 : decode cX5_goClose 36 = .ok (.iaload, 1) := by decide +kernel
theorem dX5_goClose_37 : decode cX5_goClose 37 = .ok (.iconst 3, 1) := by decide +kernel
theorem dX5_goClose_38 : decode cX5_goClose 38 = .ok (.if_icmp .ne 12, 3) := by decide +kernel
theorem dX5_goClose_41 : decode cX5_goClose 41 = .ok (.aload_n 0, 1) := by decide +kernel
theorem dX5_goClose_42 : decode cX5_goClose 42 = .ok (.iload_n 2, 1) := by decide +kernel
theorem dX5_goClose_43 : decode cX5_goClose 43 = .ok (.iconst 3, 1) := by decide +kernel
theorem dX5_goClose_44 : decode cX5_goClose 44 = .ok (.invokevirtual 75, 3) := by decide +kernel
theorem dX5_goClose_47 : decode cX5_goClose 47 = .ok (.iinc 1 1, 3) := by decide +kernel
theorem dX5_goClose_50 : decode cX5_goClose 50 = .ok (.iinc 2 1, 3) := by decide +kernel
theorem dX5_goClose_53 : decode cX5_goClose 53 = .ok (.goto (-49), 3) := by decide +kernel
theorem dX5_goClose_56 : decode cX5_goClose 56 = .ok (.iconst 0, 1) := by decide +kernel
theorem dX5_goClose_57 : decode cX5_goClose 57 = .ok (.istore_n 2, 1) := by decide +kernel
theorem dX5_goClose_58 : decode cX5_goClose 58 = .ok (.iload_n 2, 1) := by decide +kernel
theorem dX5_goClose_59 : decode cX5_goClose 59 = .ok (.aload_n 0, 1) := by decide +kernel
theorem dX5_goClose_60 : decode cX5_goClose 60 = .ok (.getfield 7, 3) := by decide +kernel
theorem dX5_goClose_63 : decode cX5_goClose 63 = .ok (.iconst 3, 1) := by decide +kernel
theorem dX5_goClose_64 : decode cX5_goClose 64 = .ok (.iaload, 1) := by decide +kernel
theorem dX5_goClose_65 : decode cX5_goClose 65 = .ok (.if_icmp .ge 33, 3) := by decide +kernel
theorem dX5_goClose_68 : decode cX5_goClose 68 = .ok (.aload_n 0, 1) := by decide +kernel
theorem dX5_goClose_69 : decode cX5_goClose 69 = .ok (.getfield 7, 3) := by decide +kernel
theorem dX5_goClose_72 : decode cX5_goClose 72 = .ok (.iload_n 2, 1) := by decide +kernel
theorem dX5_goClose_73 : decode cX5_goClose 73 = .ok (.invokestatic 34, 3) := by decide +kernel
theorem dX5_goClose_76 : decode cX5_goClose 76 = .ok (.iconst 1, 1) := by decide +kernel
theorem dX5_goClose_77 : decode cX5_goClose 77 = .ok (.iadd, 1) := by decide +kernel
theorem dX5_goClose_78 : decode cX5_goClose 78 = .ok (.aload_n 0, 1) := by decide +kernel
theorem dX5_goClose_79 : decode cX5_goClose 79 = .ok (.getfield 7, 3) := by decide +kernel
theorem dX5_goClose_82 : decode cX5_goClose 82 = .ok (.iload_n 2, 1) := by decide +kernel
theorem dX5_goClose_83 : decode cX5_goClose 83 = .ok (.invokestatic 34, 3) := by decide +kernel
theorem dX5_goClose_86 : decode cX5_goClose 86 = .ok (.iconst 2, 1) := by decide +kernel
theorem dX5_goClose_87 : decode cX5_goClose 87 = .ok (.iadd, 1) := by decide +kernel
theorem dX5_goClose_88 : decode cX5_goClose 88 = .ok (.iaload, 1) := by decide +kernel
theorem dX5_goClose_89 : decode cX5_goClose 89 = .ok (.iconst 1, 1) := by decide +kernel
theorem dX5_goClose_90 : decode cX5_goClose 90 = .ok (.iadd, 1) := by decide +kernel
theorem dX5_goClose_91 : decode cX5_goClose 91 = .ok (.iastore, 1) := by decide +kernel
theorem dX5_goClose_92 : decode cX5_goClose 92 = .ok (.iinc 2 1, 3) := by decide +kernel
theorem dX5_goClose_95 : decode cX5_goClose 95 = .ok (.goto (-37), 3) := by decide +kernel
theorem dX5_goClose_98 : decode cX5_goClose 98 = .ok (.aload_n 0, 1) := by decide +kernel
theorem dX5_goClose_99 : decode cX5_goClose 99 = .ok (.getfield 7, 3) := by decide +kernel
theorem dX5_goClose_102 : decode cX5_goClose 102 = .ok (.iconst 4, 1) := by decide +kernel
theorem dX5_goClose_103 : decode cX5_goClose 103 = .ok (.dup2, 1) := by decide +kernel
theorem dX5_goClose_104 : decode cX5_goClose 104 = .ok (.iaload, 1) := by decide +kernel
theorem dX5_goClose_105 : decode cX5_goClose 105 = .ok (.iconst 1, 1) := by decide +kernel
theorem dX5_goClose_106 : decode cX5_goClose 106 = .ok (.iadd, 1) := by decide +kernel
theorem dX5_goClose_107 : decode cX5_goClose 107 = .ok (.iastore, 1) := by decide +kernel
theorem dX5_goClose_108 : decode cX5_goClose 108 = .ok (.iload_n 1, 1) := by decide +kernel
theorem dX5_goClose_109 : decode cX5_goClose 109 = .ok (.ireturn, 1) := by decide +kernel
set_option maxRecDepth 20000 in
theorem ggX5_close_X5_record : GoodIn wsX5_close wsX5_record := goodIn_r _ [5, 6, 7, 8, 23, 24, 25, 26, 27, 28, 29, 30, 31, 32, 33] (by decide +kernel) (by decide +kernel)
set_option maxRecDepth 20000 in
theorem gX5_close_X5_record : GoodIn wsX5_close (wsV RX5 37 RX5 yX5_record wsX5_record) := goodIn_app (goodIn_of _ (by decide +kernel)) ggX5_close_X5_record
set_option maxRecDepth 20000 in
theorem ggX5_close_X5_goClose : GoodIn wsX5_close wsX5_goClose := goodIn_r _ [12, 8, 13, 14, 4, 15, 16, 17, 18, 19, 20, 21, 22, 23, 24, 25, 26, 27, 28, 29, 30, 31, 32, 33] (by decide +kernel) (by decide +kernel)
set_option maxRecDepth 20000 in
theorem gX5_close_X5_goClose : GoodIn wsX5_close (wsV RX5 88 RX5 yX5_goClose wsX5_goClose) := goodIn_app (goodIn_of _ (by decide +kernel)) ggX5_close_X5_goClose
theorem dX5_close_0 : decode cX5_close 0 = .ok (.aload_n 0, 1) := by decide +kernel
theorem dX5_close_1 : decode cX5_close 1 = .ok (.invokevirtual 37, 3) := by decide +kernel
theorem dX5_close_4 : decode cX5_close 4 = .ok (.aload_n 0, 1) := by decide +kernel
theorem dX5_close_5 : decode cX5_close 5 = .ok (.invokevirtual 88, 3) := by decide +kernel
theorem dX5_close_8 : decode cX5_close 8 = .ok (.ireturn, 1) := by decide +kernel
set_option maxRecDepth 20000 in
theorem ggX5_set_X5_in : GoodIn wsX5_set wsX5_in := goodIn_r _ [5] (by decide +kernel) (by decide +kernel)
set_option maxRecDepth 20000 in
theorem gX5_set_X5_in : GoodIn wsX5_set (va_wsS RX5 30 yX5_in wsX5_in) := goodIn_app (goodIn_of _ (by decide +kernel)) ggX5_set_X5_in
set_option maxRecDepth 20000 in
theorem ggX5_set_X5_record : GoodIn wsX5_set wsX5_record := goodIn_r _ [9, 10, 11, 1, 12, 13, 14, 15, 16, 17, 18, 19, 20, 21, 22] (by decide +kernel) (by decide +kernel)
set_option maxRecDepth 20000 in
theorem gX5_set_X5_record : GoodIn wsX5_set (wsV RX5 37 RX5 yX5_record wsX5_record) := goodIn_app (goodIn_of _ (by decide +kernel)) ggX5_set_X5_record
theorem dX5_set_0 : decode cX5_set 0 = .ok (.iload_n 1, 1) := by decide +kernel
theorem dX5_set_1 : decode cX5_set 1 = .ok (.ifCond .ne 13, 3) := by decide +kernel
theorem dX5_set_4 : decode cX5_set 4 = .ok (.iload_n 2, 1) := by decide +kernel
theorem dX5_set_5 : decode cX5_set 5 = .ok (.iconst 1, 1) := by decide +kernel
theorem dX5_set_6 : decode cX5_set 6 = .ok (.bipush 50, 2) := by decide +kernel
theorem dX5_set_8 : decode cX5_set 8 = .ok (.invokestatic 30, 3) := by decide +kernel
theorem dX5_set_11 : decode cX5_set 11 = .ok (.goto 37, 3) := by decide +kernel
theorem dX5_set_14 : decode cX5_set 14 = .ok (.iload_n 1, 1) := by decide +kernel
theorem dX5_set_15 : decode cX5_set 15 = .ok (.iconst 1, 1) := by decide +kernel
theorem dX5_set_16 : decode cX5_set 16 = .ok (.if_icmp .ne 12, 3) := by decide +kernel
theorem dX5_set_19 : decode cX5_set 19 = .ok (.iload_n 2, 1) := by decide +kernel
theorem dX5_set_20 : decode cX5_set 20 = .ok (.iconst 0, 1) := by decide +kernel
theorem dX5_set_21 : decode cX5_set 21 = .ok (.iconst 1, 1) := by decide +kernel
theorem dX5_set_22 : decode cX5_set 22 = .ok (.invokestatic 30, 3) := by decide +kernel
theorem dX5_set_25 : decode cX5_set 25 = .ok (.goto 23, 3) := by decide +kernel
theorem dX5_set_28 : decode cX5_set 28 = .ok (.iload_n 1, 1) := by decide +kernel
theorem dX5_set_29 : decode cX5_set 29 = .ok (.iconst 2, 1) := by decide +kernel
theorem dX5_set_30 : decode cX5_set 30 = .ok (.if_icmp .ne 17, 3) := by decide +kernel
theorem dX5_set_33 : decode cX5_set 33 = .ok (.iload_n 2, 1) := by decide +kernel
theorem dX5_set_34 : decode cX5_set 34 = .ok (.iconst 2, 1) := by decide +kernel
theorem dX5_set_35 : decode cX5_set 35 = .ok (.bipush 10, 2) := by decide +kernel
theorem dX5_set_37 : decode cX5_set 37 = .ok (.invokestatic 30, 3) := by decide +kernel
theorem dX5_set_40 : decode cX5_set 40 = .ok (.ifCond .eq 7, 3) := by decide +kernel
theorem dX5_set_43 : decode cX5_set 43 = .ok (.iconst 1, 1) := by decide +kernel
theorem dX5_set_44 : decode cX5_set 44 = .ok (.goto 4, 3) := by decide +kernel
theorem dX5_set_47 : decode cX5_set 47 = .ok (.iconst 0, 1) := by decide +kernel
theorem dX5_set_48 : decode cX5_set 48 = .ok (.istore_n 3, 1) := by decide +kernel
theorem dX5_set_49 : decode cX5_set 49 = .ok (.iload_n 3, 1) := by decide +kernel
theorem dX5_set_50 : decode cX5_set 50 = .ok (.ifCond .ne 5, 3) := by decide +kernel
theorem dX5_set_53 : decode cX5_set 53 = .ok (.iconst (-1), 1) := by decide +kernel
theorem dX5_set_54 : decode cX5_set 54 = .ok (.ireturn, 1) := by decide +kernel
theorem dX5_set_55 : decode cX5_set 55 = .ok (.aload_n 0, 1) := by decide +kernel
theorem dX5_set_56 : decode cX5_set 56 = .ok (.invokevirtual 37, 3) := by decide +kernel
theorem dX5_set_59 : decode cX5_set 59 = .ok (.aload_n 0, 1) := by decide +kernel
theorem dX5_set_60 : decode cX5_set 60 = .ok (.getfield 7, 3) := by decide +kernel
theorem dX5_set_63 : decode cX5_set 63 = .ok (.iload_n 1, 1) := by decide +kernel
theorem dX5_set_64 : decode cX5_set 64 = .ok (.iaload, 1) := by decide +kernel
theorem dX5_set_65 : decode cX5_set 65 = .ok (.istore 4, 2) := by decide +kernel
theorem dX5_set_67 : decode cX5_set 67 = .ok (.aload_n 0, 1) := by decide +kernel
theorem dX5_set_68 : decode cX5_set 68 = .ok (.getfield 7, 3) := by decide +kernel
theorem dX5_set_71 : decode cX5_set 71 = .ok (.iload_n 1, 1) := by decide +kernel
theorem dX5_set_72 : decode cX5_set 72 = .ok (.iload_n 2, 1) := by decide +kernel
theorem dX5_set_73 : decode cX5_set 73 = .ok (.iastore, 1) := by decide +kernel
theorem dX5_set_74 : decode cX5_set 74 = .ok (.iload 4, 2) := by decide +kernel
theorem dX5_set_76 : decode cX5_set 76 = .ok (.ireturn, 1) := by decide +kernel
set_option maxRecDepth 20000 in
theorem ggX5_isLate_X5_n : GoodIn wsX5_isLate wsX5_n := goodIn_r _ [5] (by decide +kernel) (by decide +kernel)
set_option maxRecDepth 20000 in
theorem gX5_isLate_X5_n : GoodIn wsX5_isLate (va_wsS RX5 22 yX5_n wsX5_n) := goodIn_app (goodIn_of _ (by decide +kernel)) ggX5_isLate_X5_n
theorem dX5_isLate_0 : decode cX5_isLate 0 = .ok (.iconst 0, 1) := by decide +kernel
theorem dX5_isLate_1 : decode cX5_isLate 1 = .ok (.istore_n 2, 1) := by decide +kernel
theorem dX5_isLate_2 : decode cX5_isLate 2 = .ok (.iload_n 1, 1) := by decide +kernel
theorem dX5_isLate_3 : decode cX5_isLate 3 = .ok (.iconst 1, 1) := by decide +kernel
theorem dX5_isLate_4 : decode cX5_isLate 4 = .ok (.iadd, 1) := by decide +kernel
theorem dX5_isLate_5 : decode cX5_isLate 5 = .ok (.istore_n 3, 1) := by decide +kernel
theorem dX5_isLate_6 : decode cX5_isLate 6 = .ok (.iload_n 3, 1) := by decide +kernel
theorem dX5_isLate_7 : decode cX5_isLate 7 = .ok (.sipush 600, 3) := by decide +kernel
theorem dX5_isLate_10 : decode cX5_isLate 10 = .ok (.if_icmp .gt 56, 3) := by decide +kernel
theorem dX5_isLate_13 : decode cX5_isLate 13 = .ok (.iload_n 2, 1) := by decide +kernel
theorem dX5_isLate_14 : decode cX5_isLate 14 = .ok (.aload_n 0, 1) := by decide +kernel
theorem dX5_isLate_15 : decode cX5_isLate 15 = .ok (.getfield 7, 3) := by decide +kernel
theorem dX5_isLate_18 : decode cX5_isLate 18 = .ok (.iload_n 3, 1) := by decide +kernel
theorem dX5_isLate_19 : decode cX5_isLate 19 = .ok (.invokestatic 22, 3) := by decide +kernel
theorem dX5_isLate_22 : decode cX5_isLate 22 = .ok (.iconst 2, 1) := by decide +kernel
theorem dX5_isLate_23 : decode cX5_isLate 23 = .ok (.iadd, 1) := by decide +kernel
theorem dX5_isLate_24 : decode cX5_isLate 24 = .ok (.iaload, 1) := by decide +kernel
theorem dX5_isLate_25 : decode cX5_isLate 25 = .ok (.ifCond .lt 32, 3) := by decide +kernel
theorem dX5_isLate_28 : decode cX5_isLate 28 = .ok (.aload_n 0, 1) := by decide +kernel
theorem dX5_isLate_29 : decode cX5_isLate 29 = .ok (.getfield 7, 3) := by decide +kernel
theorem dX5_isLate_32 : decode cX5_isLate 32 = .ok (.iload_n 3, 1) := by decide +kernel
theorem dX5_isLate_33 : decode cX5_isLate 33 = .ok (.invokestatic 22, 3) := by decide +kernel
theorem dX5_isLate_36 : decode cX5_isLate 36 = .ok (.iconst 2, 1) := by decide +kernel
theorem dX5_isLate_37 : decode cX5_isLate 37 = .ok (.iadd, 1) := by decide +kernel
theorem dX5_isLate_38 : decode cX5_isLate 38 = .ok (.iaload, 1) := by decide +kernel
theorem dX5_isLate_39 : decode cX5_isLate 39 = .ok (.aload_n 0, 1) := by decide +kernel
theorem dX5_isLate_40 : decode cX5_isLate 40 = .ok (.getfield 7, 3) := by decide +kernel
theorem dX5_isLate_43 : decode cX5_isLate 43 = .ok (.iload_n 1, 1) := by decide +kernel
theorem dX5_isLate_44 : decode cX5_isLate 44 = .ok (.invokestatic 22, 3) := by decide +kernel
theorem dX5_isLate_47 : decode cX5_isLate 47 = .ok (.iconst 2, 1) := by decide +kernel
theorem dX5_isLate_48 : decode cX5_isLate 48 = .ok (.iadd, 1) := by decide +kernel
theorem dX5_isLate_49 : decode cX5_isLate 49 = .ok (.iaload, 1) := by decide +kernel
theorem dX5_isLate_50 : decode cX5_isLate 50 = .ok (.if_icmp .ge 7, 3) := by decide +kernel
theorem dX5_isLate_53 : decode cX5_isLate 53 = .ok (.iconst 1, 1) := by decide +kernel
theorem dX5_isLate_54 : decode cX5_isLate 54 = .ok (.goto 4, 3) := by decide +kernel
theorem dX5_isLate_57 : decode cX5_isLate 57 = .ok (.iconst 0, 1) := by decide +kernel
theorem dX5_isLate_58 : decode cX5_isLate 58 = .ok (.ior, 1) := by decide +kernel
theorem dX5_isLate_59 : decode cX5_isLate 59 = .ok (.istore_n 2, 1) := by decide +kernel
theorem dX5_isLate_60 : decode cX5_isLate 60 = .ok (.iinc 3 1, 3) := by decide +kernel
theorem dX5_isLate_63 : decode cX5_isLate 63 = .ok (.goto (-57), 3) := by decide +kernel
theorem dX5_isLate_66 : decode cX5_isLate 66 = .ok (.iload_n 2, 1) := by decide +kernel
theorem dX5_isLate_67 : decode cX5_isLate 67 = .ok (.ireturn, 1) := by decide +kernel
set_option maxRecDepth 20000 in
theorem ggX5_numberOf_X5_isNumber : GoodIn wsX5_numberOf wsX5_isNumber := goodIn_r _ [5, 6, 7, 4, 8] (by decide +kernel) (by decide +kernel)
set_option maxRecDepth 20000 in
theorem gX5_numberOf_X5_isNumber : GoodIn wsX5_numberOf (va_wsS RX5 85 yX5_isNumber wsX5_isNumber) := goodIn_app (goodIn_of _ (by decide +kernel)) ggX5_numberOf_X5_isNumber
set_option maxRecDepth 20000 in
theorem ggX5_numberOf_X5_in : GoodIn wsX5_numberOf wsX5_in := goodIn_r _ [8] (by decide +kernel) (by decide +kernel)
set_option maxRecDepth 20000 in
theorem gX5_numberOf_X5_in : GoodIn wsX5_numberOf (va_wsS RX5 30 yX5_in wsX5_in) := goodIn_app (goodIn_of _ (by decide +kernel)) ggX5_numberOf_X5_in
set_option maxRecDepth 20000 in
theorem ggX5_numberOf_X5_n : GoodIn wsX5_numberOf wsX5_n := goodIn_r _ [11] (by decide +kernel) (by decide +kernel)
set_option maxRecDepth 20000 in
theorem gX5_numberOf_X5_n : GoodIn wsX5_numberOf (va_wsS RX5 22 yX5_n wsX5_n) := goodIn_app (goodIn_of _ (by decide +kernel)) ggX5_numberOf_X5_n
set_option maxRecDepth 20000 in
theorem ggX5_numberOf_X5_isLate : GoodIn wsX5_numberOf wsX5_isLate := goodIn_r _ [15, 1, 9, 10, 4, 11, 16, 17, 18, 19, 20, 21, 22, 23, 24, 25, 26] (by decide +kernel) (by decide +kernel)
set_option maxRecDepth 20000 in
theorem gX5_numberOf_X5_isLate : GoodIn wsX5_numberOf (wsV RX5 91 RX5 yX5_isLate wsX5_isLate) := goodIn_app (goodIn_of _ (by decide +kernel)) ggX5_numberOf_X5_isLate
theorem dX5_numberOf_0 : decode cX5_numberOf 0 = .ok (.iload_n 1, 1) := by decide +kernel
theorem dX5_numberOf_1 : decode cX5_numberOf 1 = .ok (.invokestatic 85, 3) := by decide +kernel
theorem dX5_numberOf_4 : decode cX5_numberOf 4 = .ok (.ifCond .eq 12, 3) := by decide +kernel
theorem dX5_numberOf_7 : decode cX5_numberOf 7 = .ok (.iload_n 2, 1) := by decide +kernel
theorem dX5_numberOf_8 : decode cX5_numberOf 8 = .ok (.iconst 0, 1) := by decide +kernel
theorem dX5_numberOf_9 : decode cX5_numberOf 9 = .ok (.iconst 5, 1) := by decide +kernel
theorem dX5_numberOf_10 : decode cX5_numberOf 10 = .ok (.invokestatic 30, 3) := by decide +kernel
theorem dX5_numberOf_13 : decode cX5_numberOf 13 = .ok (.ifCond .ne 5, 3) := by decide +kernel
theorem dX5_numberOf_16 : decode cX5_numberOf 16 = .ok (.iconst (-1), 1) := by decide +kernel
theorem dX5_numberOf_17 : decode cX5_numberOf 17 = .ok (.ireturn, 1) := by decide +kernel
theorem dX5_numberOf_18 : decode cX5_numberOf 18 = .ok (.iload_n 1, 1) := by decide +kernel
theorem dX5_numberOf_19 : decode cX5_numberOf 19 = .ok (.invokestatic 22, 3) := by decide +kernel
theorem dX5_numberOf_22 : decode cX5_numberOf 22 = .ok (.istore_n 3, 1) := by decide +kernel
theorem dX5_numberOf_23 : decode cX5_numberOf 23 = .ok (.aload_n 0, 1) := by decide +kernel
theorem dX5_numberOf_24 : decode cX5_numberOf 24 = .ok (.getfield 7, 3) := by decide +kernel
theorem dX5_numberOf_27 : decode cX5_numberOf 27 = .ok (.iload_n 3, 1) := by decide +kernel
theorem dX5_numberOf_28 : decode cX5_numberOf 28 = .ok (.iconst 2, 1) := by decide +kernel
theorem dX5_numberOf_29 : decode cX5_numberOf 29 = .ok (.iadd, 1) := by decide +kernel
theorem dX5_numberOf_30 : decode cX5_numberOf 30 = .ok (.iaload, 1) := by decide +kernel
theorem dX5_numberOf_31 : decode cX5_numberOf 31 = .ok (.ifCond .lt 7, 3) := by decide +kernel
theorem dX5_numberOf_34 : decode cX5_numberOf 34 = .ok (.iconst 1, 1) := by decide +kernel
theorem dX5_numberOf_35 : decode cX5_numberOf 35 = .ok (.goto 4, 3) := by decide +kernel
theorem dX5_numberOf_38 : decode cX5_numberOf 38 = .ok (.iconst 0, 1) := by decide +kernel
theorem dX5_numberOf_39 : decode cX5_numberOf 39 = .ok (.istore 4, 2) := by decide +kernel
theorem dX5_numberOf_41 : decode cX5_numberOf 41 = .ok (.iload_n 2, 1) := by decide +kernel
theorem dX5_numberOf_42 : decode cX5_numberOf 42 = .ok (.tableswitch 132 0 4 #[34, 43, 68, 87, 106], 34) := by decide +kernel
theorem dX5_numberOf_76 : decode cX5_numberOf 76 = .ok (.aload_n 0, 1) := by decide +kernel
theorem dX5_numberOf_77 : decode cX5_numberOf 77 = .ok (.getfield 7, 3) := by decide +kernel
theorem dX5_numberOf_80 : decode cX5_numberOf 80 = .ok (.iload_n 3, 1) := by decide +kernel
theorem dX5_numberOf_81 : decode cX5_numberOf 81 = .ok (.iconst 0, 1) := by decide +kernel
theorem dX5_numberOf_82 : decode cX5_numberOf 82 = .ok (.iadd, 1) := by decide +kernel
theorem dX5_numberOf_83 : decode cX5_numberOf 83 = .ok (.iaload, 1) := by decide +kernel
theorem dX5_numberOf_84 : decode cX5_numberOf 84 = .ok (.ireturn, 1) := by decide +kernel
theorem dX5_numberOf_85 : decode cX5_numberOf 85 = .ok (.aload_n 0, 1) := by decide +kernel
theorem dX5_numberOf_86 : decode cX5_numberOf 86 = .ok (.getfield 7, 3) := by decide +kernel
theorem dX5_numberOf_89 : decode cX5_numberOf 89 = .ok (.iload_n 3, 1) := by decide +kernel
theorem dX5_numberOf_90 : decode cX5_numberOf 90 = .ok (.iconst 1, 1) := by decide +kernel
theorem dX5_numberOf_91 : decode cX5_numberOf 91 = .ok (.iadd, 1) := by decide +kernel
theorem dX5_numberOf_92 : decode cX5_numberOf 92 = .ok (.iaload, 1) := by decide +kernel
theorem dX5_numberOf_93 : decode cX5_numberOf 93 = .ok (.ifCond .ge 8, 3) := by decide +kernel
theorem dX5_numberOf_96 : decode cX5_numberOf 96 = .ok (.bipush (-4), 2) := by decide +kernel
theorem dX5_numberOf_98 : decode cX5_numberOf 98 = .ok (.goto 11, 3) := by decide +kernel
theorem dX5_numberOf_101 : decode cX5_numberOf 101 = .ok (.aload_n 0, 1) := by decide +kernel
theorem dX5_numberOf_102 : decode cX5_numberOf 102 = .ok (.getfield 7, 3) := by decide +kernel
theorem dX5_numberOf_105 : decode cX5_numberOf 105 = .ok (.iload_n 3, 1) := by decide +kernel
theorem dX5_numberOf_106 : decode cX5_numberOf 106 = .ok (.iconst 1, 1) := by decide +kernel
theorem dX5_numberOf_107 : decode cX5_numberOf 107 = .ok (.iadd, 1) := by decide +kernel
theorem dX5_numberOf_108 : decode cX5_numberOf 108 = .ok (.iaload, 1) := by decide +kernel
theorem dX5_numberOf_109 : decode cX5_numberOf 109 = .ok (.ireturn, 1) := by decide +kernel
theorem dX5_numberOf_110 : decode cX5_numberOf 110 = .ok (.iload 4, 2) := by decide +kernel
theorem dX5_numberOf_112 : decode cX5_numberOf 112 = .ok (.ifCond .eq 14, 3) := by decide +kernel
theorem dX5_numberOf_115 : decode cX5_numberOf 115 = .ok (.aload_n 0, 1) := by decide +kernel
theorem dX5_numberOf_116 : decode cX5_numberOf 116 = .ok (.getfield 7, 3) := by decide +kernel
theorem dX5_numberOf_119 : decode cX5_numberOf 119 = .ok (.iload_n 3, 1) := by decide +kernel
theorem dX5_numberOf_120 : decode cX5_numberOf 120 = .ok (.iconst 2, 1) := by decide +kernel
theorem dX5_numberOf_121 : decode cX5_numberOf 121 = .ok (.iadd, 1) := by decide +kernel
theorem dX5_numberOf_122 : decode cX5_numberOf 122 = .ok (.iaload, 1) := by decide +kernel
theorem dX5_numberOf_123 : decode cX5_numberOf 123 = .ok (.goto 5, 3) := by decide +kernel
theorem dX5_numberOf_126 : decode cX5_numberOf 126 = .ok (.bipush (-4), 2) := by decide +kernel
theorem dX5_numberOf_128 : decode cX5_numberOf 128 = .ok (.ireturn, 1) := by decide +kernel
theorem dX5_numberOf_129 : decode cX5_numberOf 129 = .ok (.iload 4, 2) := by decide +kernel
theorem dX5_numberOf_131 : decode cX5_numberOf 131 = .ok (.ifCond .eq 14, 3) := by decide +kernel
theorem dX5_numberOf_134 : decode cX5_numberOf 134 = .ok (.aload_n 0, 1) := by decide +kernel
theorem dX5_numberOf_135 : decode cX5_numberOf 135 = .ok (.getfield 7, 3) := by decide +kernel
theorem dX5_numberOf_138 : decode cX5_numberOf 138 = .ok (.iload_n 3, 1) := by decide +kernel
theorem dX5_numberOf_139 : decode cX5_numberOf 139 = .ok (.iconst 3, 1) := by decide +kernel
theorem dX5_numberOf_140 : decode cX5_numberOf 140 = .ok (.iadd, 1) := by decide +kernel
theorem dX5_numberOf_141 : decode cX5_numberOf 141 = .ok (.iaload, 1) := by decide +kernel
theorem dX5_numberOf_142 : decode cX5_numberOf 142 = .ok (.goto 5, 3) := by decide +kernel
theorem dX5_numberOf_145 : decode cX5_numberOf 145 = .ok (.bipush (-4), 2) := by decide +kernel
theorem dX5_numberOf_147 : decode cX5_numberOf 147 = .ok (.ireturn, 1) := by decide +kernel
theorem dX5_numberOf_148 : decode cX5_numberOf 148 = .ok (.aload_n 0, 1) := by decide +kernel
theorem dX5_numberOf_149 : decode cX5_numberOf 149 = .ok (.getfield 7, 3) := by decide +kernel
theorem dX5_numberOf_152 : decode cX5_numberOf 152 = .ok (.iload_n 3, 1) := by decide +kernel
theorem dX5_numberOf_153 : decode cX5_numberOf 153 = .ok (.iconst 0, 1) := by decide +kernel
theorem dX5_numberOf_154 : decode cX5_numberOf 154 = .ok (.iadd, 1) := by decide +kernel
theorem dX5_numberOf_155 : decode cX5_numberOf 155 = .ok (.iaload, 1) := by decide +kernel
theorem dX5_numberOf_156 : decode cX5_numberOf 156 = .ok (.iconst 4, 1) := by decide +kernel
theorem dX5_numberOf_157 : decode cX5_numberOf 157 = .ok (.if_icmp .ne 14, 3) := by decide +kernel
theorem dX5_numberOf_160 : decode cX5_numberOf 160 = .ok (.aload_n 0, 1) := by decide +kernel
theorem dX5_numberOf_161 : decode cX5_numberOf 161 = .ok (.getfield 7, 3) := by decide +kernel
theorem dX5_numberOf_164 : decode cX5_numberOf 164 = .ok (.iload_n 3, 1) := by decide +kernel
theorem dX5_numberOf_165 : decode cX5_numberOf 165 = .ok (.iconst 4, 1) := by decide +kernel
theorem dX5_numberOf_166 : decode cX5_numberOf 166 = .ok (.iadd, 1) := by decide +kernel
theorem dX5_numberOf_167 : decode cX5_numberOf 167 = .ok (.iaload, 1) := by decide +kernel
theorem dX5_numberOf_168 : decode cX5_numberOf 168 = .ok (.goto 5, 3) := by decide +kernel
theorem dX5_numberOf_171 : decode cX5_numberOf 171 = .ok (.bipush (-4), 2) := by decide +kernel
theorem dX5_numberOf_173 : decode cX5_numberOf 173 = .ok (.ireturn, 1) := by decide +kernel
theorem dX5_numberOf_174 : decode cX5_numberOf 174 = .ok (.iload 4, 2) := by decide +kernel
theorem dX5_numberOf_176 : decode cX5_numberOf 176 = .ok (.ifCond .ne 8, 3) := by decide +kernel
theorem dX5_numberOf_179 : decode cX5_numberOf 179 = .ok (.bipush (-4), 2) := by decide +kernel
theorem dX5_numberOf_181 : decode cX5_numberOf 181 = .ok (.goto 16, 3) := by decide +kernel
theorem dX5_numberOf_184 : decode cX5_numberOf 184 = .ok (.aload_n 0, 1) := by decide +kernel
theorem dX5_numberOf_185 : decode cX5_numberOf 185 = .ok (.iload_n 1, 1) := by decide +kernel
theorem dX5_numberOf_186 : decode cX5_numberOf 186 = .ok (.invokevirtual 91, 3) := by decide +kernel
theorem dX5_numberOf_189 : decode cX5_numberOf 189 = .ok (.ifCond .eq 7, 3) := by decide +kernel
theorem dX5_numberOf_192 : decode cX5_numberOf 192 = .ok (.iconst 1, 1) := by decide +kernel
theorem dX5_numberOf_193 : decode cX5_numberOf 193 = .ok (.goto 4, 3) := by decide +kernel
theorem dX5_numberOf_196 : decode cX5_numberOf 196 = .ok (.iconst 0, 1) := by decide +kernel
theorem dX5_numberOf_197 : decode cX5_numberOf 197 = .ok (.ireturn, 1) := by decide +kernel
set_option maxRecDepth 20000 in
theorem ggX5_holesOf_X5_n : GoodIn wsX5_holesOf wsX5_n := goodIn_r _ [5] (by decide +kernel) (by decide +kernel)
set_option maxRecDepth 20000 in
theorem gX5_holesOf_X5_n : GoodIn wsX5_holesOf (va_wsS RX5 22 yX5_n wsX5_n) := goodIn_app (goodIn_of _ (by decide +kernel)) ggX5_holesOf_X5_n
theorem dX5_holesOf_0 : decode cX5_holesOf 0 = .ok (.iconst 0, 1) := by decide +kernel
theorem dX5_holesOf_1 : decode cX5_holesOf 1 = .ok (.istore_n 3, 1) := by decide +kernel
theorem dX5_holesOf_2 : decode cX5_holesOf 2 = .ok (.iconst 1, 1) := by decide +kernel
theorem dX5_holesOf_3 : decode cX5_holesOf 3 = .ok (.istore 4, 2) := by decide +kernel
theorem dX5_holesOf_5 : decode cX5_holesOf 5 = .ok (.iload 4, 2) := by decide +kernel
theorem dX5_holesOf_7 : decode cX5_holesOf 7 = .ok (.sipush 600, 3) := by decide +kernel
theorem dX5_holesOf_10 : decode cX5_holesOf 10 = .ok (.if_icmp .gt 81, 3) := by decide +kernel
theorem dX5_holesOf_13 : decode cX5_holesOf 13 = .ok (.aload_n 0, 1) := by decide +kernel
theorem dX5_holesOf_14 : decode cX5_holesOf 14 = .ok (.getfield 7, 3) := by decide +kernel
theorem dX5_holesOf_17 : decode cX5_holesOf 17 = .ok (.iload 4, 2) := by decide +kernel
theorem dX5_holesOf_19 : decode cX5_holesOf 19 = .ok (.invokestatic 22, 3) := by decide +kernel
theorem dX5_holesOf_22 : decode cX5_holesOf 22 = .ok (.iconst 0, 1) := by decide +kernel
theorem dX5_holesOf_23 : decode cX5_holesOf 23 = .ok (.iadd, 1) := by decide +kernel
theorem dX5_holesOf_24 : decode cX5_holesOf 24 = .ok (.iaload, 1) := by decide +kernel
theorem dX5_holesOf_25 : decode cX5_holesOf 25 = .ok (.iconst 4, 1) := by decide +kernel
theorem dX5_holesOf_26 : decode cX5_holesOf 26 = .ok (.if_icmp .ne 23, 3) := by decide +kernel
theorem dX5_holesOf_29 : decode cX5_holesOf 29 = .ok (.aload_n 0, 1) := by decide +kernel
theorem dX5_holesOf_30 : decode cX5_holesOf 30 = .ok (.getfield 7, 3) := by decide +kernel
theorem dX5_holesOf_33 : decode cX5_holesOf 33 = .ok (.iload 4, 2) := by decide +kernel
theorem dX5_holesOf_35 : decode cX5_holesOf 35 = .ok (.invokestatic 22, 3) := by decide +kernel
theorem dX5_holesOf_38 : decode cX5_holesOf 38 = .ok (.iconst 1, 1) := by decide +kernel
theorem dX5_holesOf_39 : decode cX5_holesOf 39 = .ok (.iadd, 1) := by decide +kernel
theorem dX5_holesOf_40 : decode cX5_holesOf 40 = .ok (.iaload, 1) := by decide +kernel
theorem dX5_holesOf_41 : decode cX5_holesOf 41 = .ok (.iload_n 1, 1) := by decide +kernel
theorem dX5_holesOf_42 : decode cX5_holesOf 42 = .ok (.if_icmp .ne 7, 3) := by decide +kernel
theorem dX5_holesOf_45 : decode cX5_holesOf 45 = .ok (.iconst 1, 1) := by decide +kernel
theorem dX5_holesOf_46 : decode cX5_holesOf 46 = .ok (.goto 4, 3) := by decide +kernel
theorem dX5_holesOf_49 : decode cX5_holesOf 49 = .ok (.iconst 0, 1) := by decide +kernel
theorem dX5_holesOf_50 : decode cX5_holesOf 50 = .ok (.istore 5, 2) := by decide +kernel
theorem dX5_holesOf_52 : decode cX5_holesOf 52 = .ok (.iload_n 3, 1) := by decide +kernel
theorem dX5_holesOf_53 : decode cX5_holesOf 53 = .ok (.iload 5, 2) := by decide +kernel
theorem dX5_holesOf_55 : decode cX5_holesOf 55 = .ok (.ifCond .eq 27, 3) := by decide +kernel
theorem dX5_holesOf_58 : decode cX5_holesOf 58 = .ok (.iload_n 2, 1) := by decide +kernel
theorem dX5_holesOf_59 : decode cX5_holesOf 59 = .ok (.ifCond .lt 19, 3) := by decide +kernel
theorem dX5_holesOf_62 : decode cX5_holesOf 62 = .ok (.aload_n 0, 1) := by decide +kernel
theorem dX5_holesOf_63 : decode cX5_holesOf 63 = .ok (.getfield 7, 3) := by decide +kernel
theorem dX5_holesOf_66 : decode cX5_holesOf 66 = .ok (.iload 4, 2) := by decide +kernel
theorem dX5_holesOf_68 : decode cX5_holesOf 68 = .ok (.invokestatic 22, 3) := by decide +kernel
theorem dX5_holesOf_71 : decode cX5_holesOf 71 = .ok (.iconst 4, 1) := by decide +kernel
theorem dX5_holesOf_72 : decode cX5_holesOf 72 = .ok (.iadd, 1) := by decide +kernel
theorem dX5_holesOf_73 : decode cX5_holesOf 73 = .ok (.iaload, 1) := by decide +kernel
theorem dX5_holesOf_74 : decode cX5_holesOf 74 = .ok (.iload_n 2, 1) := by decide +kernel
theorem dX5_holesOf_75 : decode cX5_holesOf 75 = .ok (.if_icmp .ne 7, 3) := by decide +kernel
theorem dX5_holesOf_78 : decode cX5_holesOf 78 = .ok (.iconst 1, 1) := by decide +kernel
theorem dX5_holesOf_79 : decode cX5_holesOf 79 = .ok (.goto 4, 3) := by decide +kernel
theorem dX5_holesOf_82 : decode cX5_holesOf 82 = .ok (.iconst 0, 1) := by decide +kernel
theorem dX5_holesOf_83 : decode cX5_holesOf 83 = .ok (.iadd, 1) := by decide +kernel
theorem dX5_holesOf_84 : decode cX5_holesOf 84 = .ok (.istore_n 3, 1) := by decide +kernel
theorem dX5_holesOf_85 : decode cX5_holesOf 85 = .ok (.iinc 4 1, 3) := by decide +kernel
theorem dX5_holesOf_88 : decode cX5_holesOf 88 = .ok (.goto (-83), 3) := by decide +kernel
theorem dX5_holesOf_91 : decode cX5_holesOf 91 = .ok (.iload_n 3, 1) := by decide +kernel
theorem dX5_holesOf_92 : decode cX5_holesOf 92 = .ok (.ireturn, 1) := by decide +kernel
set_option maxRecDepth 20000 in
theorem ggX5_clerkOf_X5_isClerk : GoodIn wsX5_clerkOf wsX5_isClerk := goodIn_r _ [6, 1, 7, 8, 5, 9, 24, 25, 26, 27, 28, 29, 30, 31, 32, 33, 34] (by decide +kernel) (by decide +kernel)
set_option maxRecDepth 20000 in
theorem gX5_clerkOf_X5_isClerk : GoodIn wsX5_clerkOf (wsV RX5 63 RX5 yX5_isClerk wsX5_isClerk) := goodIn_app (goodIn_of _ (by decide +kernel)) ggX5_clerkOf_X5_isClerk
set_option maxRecDepth 20000 in
theorem ggX5_clerkOf_X5_in : GoodIn wsX5_clerkOf wsX5_in := goodIn_r _ [9] (by decide +kernel) (by decide +kernel)
set_option maxRecDepth 20000 in
theorem gX5_clerkOf_X5_in : GoodIn wsX5_clerkOf (va_wsS RX5 30 yX5_in wsX5_in) := goodIn_app (goodIn_of _ (by decide +kernel)) ggX5_clerkOf_X5_in
set_option maxRecDepth 20000 in
theorem ggX5_clerkOf_X5_c : GoodIn wsX5_clerkOf wsX5_c := goodIn_r _ [12] (by decide +kernel) (by decide +kernel)
set_option maxRecDepth 20000 in
theorem gX5_clerkOf_X5_c : GoodIn wsX5_clerkOf (va_wsS RX5 34 yX5_c wsX5_c) := goodIn_app (goodIn_of _ (by decide +kernel)) ggX5_clerkOf_X5_c
set_option maxRecDepth 20000 in
theorem ggX5_clerkOf_X5_holds : GoodIn wsX5_clerkOf wsX5_holds := goodIn_r _ [16, 1, 10, 11, 5, 12, 24, 25, 26, 27, 28, 29, 30, 31, 32, 33, 34] (by decide +kernel) (by decide +kernel)
set_option maxRecDepth 20000 in
theorem gX5_clerkOf_X5_holds : GoodIn wsX5_clerkOf (wsV RX5 50 RX5 yX5_holds wsX5_holds) := goodIn_app (goodIn_of _ (by decide +kernel)) ggX5_clerkOf_X5_holds
set_option maxRecDepth 20000 in
theorem ggX5_clerkOf_X5_holesOf : GoodIn wsX5_clerkOf wsX5_holesOf := goodIn_r _ [20, 1, 21, 22, 5, 23, 24, 25, 26, 27, 28, 29, 30, 31, 32, 33, 34] (by decide +kernel) (by decide +kernel)
set_option maxRecDepth 20000 in
theorem gX5_clerkOf_X5_holesOf : GoodIn wsX5_clerkOf (wsV RX5 94 RX5 yX5_holesOf wsX5_holesOf) := goodIn_app (goodIn_of _ (by decide +kernel)) ggX5_clerkOf_X5_holesOf
theorem dX5_clerkOf_0 : decode cX5_clerkOf 0 = .ok (.aload_n 0, 1) := by decide +kernel
theorem dX5_clerkOf_1 : decode cX5_clerkOf 1 = .ok (.iload_n 1, 1) := by decide +kernel
theorem dX5_clerkOf_2 : decode cX5_clerkOf 2 = .ok (.invokevirtual 63, 3) := by decide +kernel
theorem dX5_clerkOf_5 : decode cX5_clerkOf 5 = .ok (.ifCond .eq 13, 3) := by decide +kernel
theorem dX5_clerkOf_8 : decode cX5_clerkOf 8 = .ok (.iload_n 2, 1) := by decide +kernel
theorem dX5_clerkOf_9 : decode cX5_clerkOf 9 = .ok (.iconst 0, 1) := by decide +kernel
theorem dX5_clerkOf_10 : decode cX5_clerkOf 10 = .ok (.bipush 9, 2) := by decide +kernel
theorem dX5_clerkOf_12 : decode cX5_clerkOf 12 = .ok (.invokestatic 30, 3) := by decide +kernel
theorem dX5_clerkOf_15 : decode cX5_clerkOf 15 = .ok (.ifCond .ne 5, 3) := by decide +kernel
theorem dX5_clerkOf_18 : decode cX5_clerkOf 18 = .ok (.iconst (-1), 1) := by decide +kernel
theorem dX5_clerkOf_19 : decode cX5_clerkOf 19 = .ok (.ireturn, 1) := by decide +kernel
theorem dX5_clerkOf_20 : decode cX5_clerkOf 20 = .ok (.iload_n 1, 1) := by decide +kernel
theorem dX5_clerkOf_21 : decode cX5_clerkOf 21 = .ok (.invokestatic 34, 3) := by decide +kernel
theorem dX5_clerkOf_24 : decode cX5_clerkOf 24 = .ok (.istore_n 3, 1) := by decide +kernel
theorem dX5_clerkOf_25 : decode cX5_clerkOf 25 = .ok (.iload_n 2, 1) := by decide +kernel
theorem dX5_clerkOf_26 : decode cX5_clerkOf 26 = .ok (.iconst 1, 1) := by decide +kernel
theorem dX5_clerkOf_27 : decode cX5_clerkOf 27 = .ok (.if_icmp .le 19, 3) := by decide +kernel
theorem dX5_clerkOf_30 : decode cX5_clerkOf 30 = .ok (.iload_n 2, 1) := by decide +kernel
theorem dX5_clerkOf_31 : decode cX5_clerkOf 31 = .ok (.iconst 5, 1) := by decide +kernel
theorem dX5_clerkOf_32 : decode cX5_clerkOf 32 = .ok (.if_icmp .ge 14, 3) := by decide +kernel
theorem dX5_clerkOf_35 : decode cX5_clerkOf 35 = .ok (.aload_n 0, 1) := by decide +kernel
theorem dX5_clerkOf_36 : decode cX5_clerkOf 36 = .ok (.iload_n 1, 1) := by decide +kernel
theorem dX5_clerkOf_37 : decode cX5_clerkOf 37 = .ok (.invokevirtual 50, 3) := by decide +kernel
theorem dX5_clerkOf_40 : decode cX5_clerkOf 40 = .ok (.ifCond .ne 6, 3) := by decide +kernel
theorem dX5_clerkOf_43 : decode cX5_clerkOf 43 = .ok (.bipush (-4), 2) := by decide +kernel
theorem dX5_clerkOf_45 : decode cX5_clerkOf 45 = .ok (.ireturn, 1) := by decide +kernel
theorem dX5_clerkOf_46 : decode cX5_clerkOf 46 = .ok (.iload_n 2, 1) := by decide +kernel
theorem dX5_clerkOf_47 : decode cX5_clerkOf 47 = .ok (.tableswitch 123 0 8 #[49, 58, 64, 73, 82, 91, 100, 107, 114], 49) := by decide +kernel
theorem dX5_clerkOf_96 : decode cX5_clerkOf 96 = .ok (.aload_n 0, 1) := by decide +kernel
theorem dX5_clerkOf_97 : decode cX5_clerkOf 97 = .ok (.getfield 7, 3) := by decide +kernel
theorem dX5_clerkOf_100 : decode cX5_clerkOf 100 = .ok (.iload_n 3, 1) := by decide +kernel
theorem dX5_clerkOf_101 : decode cX5_clerkOf 101 = .ok (.iconst 0, 1) := by decide +kernel
theorem dX5_clerkOf_102 : decode cX5_clerkOf 102 = .ok (.iadd, 1) := by decide +kernel
theorem dX5_clerkOf_103 : decode cX5_clerkOf 103 = .ok (.iaload, 1) := by decide +kernel
theorem dX5_clerkOf_104 : decode cX5_clerkOf 104 = .ok (.ireturn, 1) := by decide +kernel
theorem dX5_clerkOf_105 : decode cX5_clerkOf 105 = .ok (.aload_n 0, 1) := by decide +kernel
theorem dX5_clerkOf_106 : decode cX5_clerkOf 106 = .ok (.iload_n 1, 1) := by decide +kernel
theorem dX5_clerkOf_107 : decode cX5_clerkOf 107 = .ok (.invokevirtual 50, 3) := by decide +kernel
theorem dX5_clerkOf_110 : decode cX5_clerkOf 110 = .ok (.ireturn, 1) := by decide +kernel
theorem dX5_clerkOf_111 : decode cX5_clerkOf 111 = .ok (.aload_n 0, 1) := by decide +kernel
theorem dX5_clerkOf_112 : decode cX5_clerkOf 112 = .ok (.getfield 7, 3) := by decide +kernel
theorem dX5_clerkOf_115 : decode cX5_clerkOf 115 = .ok (.iload_n 3, 1) := by decide +kernel
theorem dX5_clerkOf_116 : decode cX5_clerkOf 116 = .ok (.iconst 1, 1) := by decide +kernel
theorem dX5_clerkOf_117 : decode cX5_clerkOf 117 = .ok (.iadd, 1) := by decide +kernel
theorem dX5_clerkOf_118 : decode cX5_clerkOf 118 = .ok (.iaload, 1) := by decide +kernel
theorem dX5_clerkOf_119 : decode cX5_clerkOf 119 = .ok (.ireturn, 1) := by decide +kernel
theorem dX5_clerkOf_120 : decode cX5_clerkOf 120 = .ok (.aload_n 0, 1) := by decide +kernel
theorem dX5_clerkOf_121 : decode cX5_clerkOf 121 = .ok (.getfield 7, 3) := by decide +kernel
theorem dX5_clerkOf_124 : decode cX5_clerkOf 124 = .ok (.iload_n 3, 1) := by decide +kernel
theorem dX5_clerkOf_125 : decode cX5_clerkOf 125 = .ok (.iconst 2, 1) := by decide +kernel
theorem dX5_clerkOf_126 : decode cX5_clerkOf 126 = .ok (.iadd, 1) := by decide +kernel
theorem dX5_clerkOf_127 : decode cX5_clerkOf 127 = .ok (.iaload, 1) := by decide +kernel
theorem dX5_clerkOf_128 : decode cX5_clerkOf 128 = .ok (.ireturn, 1) := by decide +kernel
theorem dX5_clerkOf_129 : decode cX5_clerkOf 129 = .ok (.aload_n 0, 1) := by decide +kernel
theorem dX5_clerkOf_130 : decode cX5_clerkOf 130 = .ok (.getfield 7, 3) := by decide +kernel
theorem dX5_clerkOf_133 : decode cX5_clerkOf 133 = .ok (.iload_n 3, 1) := by decide +kernel
theorem dX5_clerkOf_134 : decode cX5_clerkOf 134 = .ok (.iconst 3, 1) := by decide +kernel
theorem dX5_clerkOf_135 : decode cX5_clerkOf 135 = .ok (.iadd, 1) := by decide +kernel
theorem dX5_clerkOf_136 : decode cX5_clerkOf 136 = .ok (.iaload, 1) := by decide +kernel
theorem dX5_clerkOf_137 : decode cX5_clerkOf 137 = .ok (.ireturn, 1) := by decide +kernel
theorem dX5_clerkOf_138 : decode cX5_clerkOf 138 = .ok (.aload_n 0, 1) := by decide +kernel
theorem dX5_clerkOf_139 : decode cX5_clerkOf 139 = .ok (.getfield 7, 3) := by decide +kernel
theorem dX5_clerkOf_142 : decode cX5_clerkOf 142 = .ok (.iload_n 3, 1) := by decide +kernel
theorem dX5_clerkOf_143 : decode cX5_clerkOf 143 = .ok (.iconst 4, 1) := by decide +kernel
theorem dX5_clerkOf_144 : decode cX5_clerkOf 144 = .ok (.iadd, 1) := by decide +kernel
theorem dX5_clerkOf_145 : decode cX5_clerkOf 145 = .ok (.iaload, 1) := by decide +kernel
theorem dX5_clerkOf_146 : decode cX5_clerkOf 146 = .ok (.ireturn, 1) := by decide +kernel
theorem dX5_clerkOf_147 : decode cX5_clerkOf 147 = .ok (.aload_n 0, 1) := by decide +kernel
theorem dX5_clerkOf_148 : decode cX5_clerkOf 148 = .ok (.iload_n 1, 1) := by decide +kernel
theorem dX5_clerkOf_149 : decode cX5_clerkOf 149 = .ok (.iconst (-1), 1) := by decide +kernel
theorem dX5_clerkOf_150 : decode cX5_clerkOf 150 = .ok (.invokevirtual 94, 3) := by decide +kernel
theorem dX5_clerkOf_153 : decode cX5_clerkOf 153 = .ok (.ireturn, 1) := by decide +kernel
theorem dX5_clerkOf_154 : decode cX5_clerkOf 154 = .ok (.aload_n 0, 1) := by decide +kernel
theorem dX5_clerkOf_155 : decode cX5_clerkOf 155 = .ok (.iload_n 1, 1) := by decide +kernel
theorem dX5_clerkOf_156 : decode cX5_clerkOf 156 = .ok (.iconst 0, 1) := by decide +kernel
theorem dX5_clerkOf_157 : decode cX5_clerkOf 157 = .ok (.invokevirtual 94, 3) := by decide +kernel
theorem dX5_clerkOf_160 : decode cX5_clerkOf 160 = .ok (.ireturn, 1) := by decide +kernel
theorem dX5_clerkOf_161 : decode cX5_clerkOf 161 = .ok (.aload_n 0, 1) := by decide +kernel
theorem dX5_clerkOf_162 : decode cX5_clerkOf 162 = .ok (.getfield 7, 3) := by decide +kernel
theorem dX5_clerkOf_165 : decode cX5_clerkOf 165 = .ok (.iload_n 3, 1) := by decide +kernel
theorem dX5_clerkOf_166 : decode cX5_clerkOf 166 = .ok (.iconst 5, 1) := by decide +kernel
theorem dX5_clerkOf_167 : decode cX5_clerkOf 167 = .ok (.iadd, 1) := by decide +kernel
theorem dX5_clerkOf_168 : decode cX5_clerkOf 168 = .ok (.iaload, 1) := by decide +kernel
theorem dX5_clerkOf_169 : decode cX5_clerkOf 169 = .ok (.ireturn, 1) := by decide +kernel
theorem dX5_clerkOf_170 : decode cX5_clerkOf 170 = .ok (.aload_n 0, 1) := by decide +kernel
theorem dX5_clerkOf_171 : decode cX5_clerkOf 171 = .ok (.getfield 7, 3) := by decide +kernel
theorem dX5_clerkOf_174 : decode cX5_clerkOf 174 = .ok (.iload_n 3, 1) := by decide +kernel
theorem dX5_clerkOf_175 : decode cX5_clerkOf 175 = .ok (.iconst 4, 1) := by decide +kernel
theorem dX5_clerkOf_176 : decode cX5_clerkOf 176 = .ok (.iadd, 1) := by decide +kernel
theorem dX5_clerkOf_177 : decode cX5_clerkOf 177 = .ok (.iaload, 1) := by decide +kernel
