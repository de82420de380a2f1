theorem dX1_init_0 : decode cX1_init 0 = .ok (.aload_n 0, 1) := by decide +kernel
theorem dX1_init_1 : decode cX1_init 1 = .ok (.invokespecial 3, 3) := by decide +kernel
theorem dX1_init_4 : decode cX1_init 4 = .ok (.aload_n 0, 1) := by decide +kernel
theorem dX1_init_5 : decode cX1_init 5 = .ok (.sipush 601, 3) := by decide +kernel
theorem dX1_init_8 : decode cX1_init 8 = .ok (.newarray .int, 2) := by decide +kernel
theorem dX1_init_10 : decode cX1_init 10 = .ok (.putfield 9, 3) := by decide +kernel
theorem dX1_init_13 : decode cX1_init 13 = .ok (.aload_n 0, 1) := by decide +kernel
theorem dX1_init_14 : decode cX1_init 14 = .ok (.sipush 601, 3) := by decide +kernel
theorem dX1_init_17 : decode cX1_init 17 = .ok (.newarray .int, 2) := by decide +kernel
theorem dX1_init_19 : decode cX1_init 19 = .ok (.putfield 15, 3) := by decide +kernel
theorem dX1_init_22 : decode cX1_init 22 = .ok (.aload_n 0, 1) := by decide +kernel
theorem dX1_init_23 : decode cX1_init 23 = .ok (.sipush 601, 3) := by decide +kernel
theorem dX1_init_26 : decode cX1_init 26 = .ok (.newarray .int, 2) := by decide +kernel
theorem dX1_init_28 : decode cX1_init 28 = .ok (.putfield 18, 3) := by decide +kernel
theorem dX1_init_31 : decode cX1_init 31 = .ok (.aload_n 0, 1) := by decide +kernel
theorem dX1_init_32 : decode cX1_init 32 = .ok (.sipush 601, 3) := by decide +kernel
theorem dX1_init_35 : decode cX1_init 35 = .ok (.newarray .int, 2) := by decide +kernel
theorem dX1_init_37 : decode cX1_init 37 = .ok (.putfield 21, 3) := by decide +kernel
theorem dX1_init_40 : decode cX1_init 40 = .ok (.aload_n 0, 1) := by decide +kernel
theorem dX1_init_41 : decode cX1_init 41 = .ok (.sipush 601, 3) := by decide +kernel
theorem dX1_init_44 : decode cX1_init 44 = .ok (.newarray .int, 2) := by decide +kernel
theorem dX1_init_46 : decode cX1_init 46 = .ok (.putfield 24, 3) := by decide +kernel
theorem dX1_init_49 : decode cX1_init 49 = .ok (.aload_n 0, 1) := by decide +kernel
theorem dX1_init_50 : decode cX1_init 50 = .ok (.sipush 600, 3) := by decide +kernel
theorem dX1_init_53 : decode cX1_init 53 = .ok (.newarray .int, 2) := by decide +kernel
theorem dX1_init_55 : decode cX1_init 55 = .ok (.putfield 27, 3) := by decide +kernel
theorem dX1_init_58 : decode cX1_init 58 = .ok (.aload_n 0, 1) := by decide +kernel
theorem dX1_init_59 : decode cX1_init 59 = .ok (.iconst 0, 1) := by decide +kernel
theorem dX1_init_60 : decode cX1_init 60 = .ok (.putfield 30, 3) := by decide +kernel
theorem dX1_init_63 : decode cX1_init 63 = .ok (.aload_n 0, 1) := by decide +kernel
theorem dX1_init_64 : decode cX1_init 64 = .ok (.iconst 1, 1) := by decide +kernel
theorem dX1_init_65 : decode cX1_init 65 = .ok (.putfield 34, 3) := by decide +kernel
theorem dX1_init_68 : decode cX1_init 68 = .ok (.iconst 0, 1) := by decide +kernel
theorem dX1_init_69 : decode cX1_init 69 = .ok (.istore_n 1, 1) := by decide +kernel
theorem dX1_init_70 : decode cX1_init 70 = .ok (.iload_n 1, 1) := by decide +kernel
theorem dX1_init_71 : decode cX1_init 71 = .ok (.sipush 600, 3) := by decide +kernel
theorem dX1_init_74 : decode cX1_init 74 = .ok (.if_icmp .gt 37, 3) := by decide +kernel
theorem dX1_init_77 : decode cX1_init 77 = .ok (.aload_n 0, 1) := by decide +kernel
theorem dX1_init_78 : decode cX1_init 78 = .ok (.getfield 15, 3) := by decide +kernel
theorem dX1_init_81 : decode cX1_init 81 = .ok (.iload_n 1, 1) := by decide +kernel
theorem dX1_init_82 : decode cX1_init 82 = .ok (.iconst (-1), 1) := by decide +kernel
theorem dX1_init_83 : decode cX1_init 83 = .ok (.iastore, 1) := by decide +kernel
theorem dX1_init_84 : decode cX1_init 84 = .ok (.aload_n 0, 1) := by decide +kernel
theorem dX1_init_85 : decode cX1_init 85 = .ok (.getfield 18, 3) := by decide +kernel
theorem dX1_init_88 : decode cX1_init 88 = .ok (.iload_n 1, 1) := by decide +kernel
theorem dX1_init_89 : decode cX1_init 89 = .ok (.iconst (-1), 1) := by decide +kernel
theorem dX1_init_90 : decode cX1_init 90 = .ok (.iastore, 1) := by decide +kernel
theorem dX1_init_91 : decode cX1_init 91 = .ok (.aload_n 0, 1) := by decide +kernel
theorem dX1_init_92 : decode cX1_init 92 = .ok (.getfield 21, 3) := by decide +kernel
theorem dX1_init_95 : decode cX1_init 95 = .ok (.iload_n 1, 1) := by decide +kernel
theorem dX1_init_96 : decode cX1_init 96 = .ok (.iconst (-1), 1) := by decide +kernel
theorem dX1_init_97 : decode cX1_init 97 = .ok (.iastore, 1) := by decide +kernel
theorem dX1_init_98 : decode cX1_init 98 = .ok (.aload_n 0, 1) := by decide +kernel
theorem dX1_init_99 : decode cX1_init 99 = .ok (.getfield 24, 3) := by decide +kernel
theorem dX1_init_102 : decode cX1_init 102 = .ok (.iload_n 1, 1) := by decide +kernel
theorem dX1_init_103 : decode cX1_init 103 = .ok (.iconst (-1), 1) := by decide +kernel
theorem dX1_init_104 : decode cX1_init 104 = .ok (.iastore, 1) := by decide +kernel
theorem dX1_init_105 : decode cX1_init 105 = .ok (.iinc 1 1, 3) := by decide +kernel
theorem dX1_init_108 : decode cX1_init 108 = .ok (.goto (-38), 3) := by decide +kernel
theorem dX1_init_111 : decode cX1_init 111 = .ok (.return_, 1) := by decide +kernel
theorem dX1_become_0 : decode cX1_become 0 = .ok (.aload_n 1, 1) := by decide +kernel
theorem dX1_become_1 : decode cX1_become 1 = .ok (.getfield 9, 3) := by decide +kernel
theorem dX1_become_4 : decode cX1_become 4 = .ok (.iconst 0, 1) := by decide +kernel
theorem dX1_become_5 : decode cX1_become 5 = .ok (.aload_n 0, 1) := by decide +kernel
theorem dX1_become_6 : decode cX1_become 6 = .ok (.getfield 9, 3) := by decide +kernel
theorem dX1_become_9 : decode cX1_become 9 = .ok (.iconst 0, 1) := by decide +kernel
theorem dX1_become_10 : decode cX1_become 10 = .ok (.aload_n 0, 1) := by decide +kernel
theorem dX1_become_11 : decode cX1_become 11 = .ok (.getfield 9, 3) := by decide +kernel
theorem dX1_become_14 : decode cX1_become 14 = .ok (.arraylength, 1) := by decide +kernel
theorem dX1_become_15 : decode cX1_become 15 = .ok (.invokestatic 37, 3) := by decide +kernel
theorem dX1_become_18 : decode cX1_become 18 = .ok (.aload_n 1, 1) := by decide +kernel
theorem dX1_become_19 : decode cX1_become 19 = .ok (.getfield 15, 3) := by decide +kernel
theorem dX1_become_22 : decode cX1_become 22 = .ok (.iconst 0, 1) := by decide +kernel
theorem dX1_become_23 : decode cX1_become 23 = .ok (.aload_n 0, 1) := by decide +kernel
theorem dX1_become_24 : decode cX1_become 24 = .ok (.getfield 15, 3) := by decide +kernel
theorem dX1_become_27 : decode cX1_become 27 = .ok (.iconst 0, 1) := by decide +kernel
theorem dX1_become_28 : decode cX1_become 28 = .ok (.aload_n 0, 1) := by decide +kernel
theorem dX1_become_29 : decode cX1_become 29 = .ok (.getfield 15, 3) := by decide +kernel
theorem dX1_become_32 : decode cX1_become 32 = .ok (.arraylength, 1) := by decide +kernel
theorem dX1_become_33 : decode cX1_become 33 = .ok (.invokestatic 37, 3) := by decide +kernel
theorem dX1_become_36 : decode cX1_become 36 = .ok (.aload_n 1, 1) := by decide +kernel
theorem dX1_become_37 : decode cX1_become 37 = .ok (.getfield 18, 3) := by decide +kernel
theorem dX1_become_40 : decode cX1_become 40 = .ok (.iconst 0, 1) := by decide +kernel
theorem dX1_become_41 : decode cX1_become 41 = .ok (.aload_n 0, 1) := by decide +kernel
theorem dX1_become_42 : decode cX1_become 42 = .ok (.getfield 18, 3) := by decide +kernel
theorem dX1_become_45 : decode cX1_become 45 = .ok (.iconst 0, 1) := by decide +kernel
theorem dX1_become_46 : decode cX1_become 46 = .ok (.aload_n 0, 1) := by decide +kernel
theorem dX1_become_47 : decode cX1_become 47 = .ok (.getfield 18, 3) := by decide +kernel
theorem dX1_become_50 : decode cX1_become 50 = .ok (.arraylength, 1) := by decide +kernel
theorem dX1_become_51 : decode cX1_become 51 = .ok (.invokestatic 37, 3) := by decide +kernel
theorem dX1_become_54 : decode cX1_become 54 = .ok (.aload_n 1, 1) := by decide +kernel
theorem dX1_become_55 : decode cX1_become 55 = .ok (.getfield 21, 3) := by decide +kernel
theorem dX1_become_58 : decode cX1_become 58 = .ok (.iconst 0, 1) := by decide +kernel
theorem dX1_become_59 : decode cX1_become 59 = .ok (.aload_n 0, 1) := by decide +kernel
theorem dX1_become_60 : decode cX1_become 60 = .ok (.getfield 21, 3) := by decide +kernel
theorem dX1_become_63 : decode cX1_become 63 = .ok (.iconst 0, 1) := by decide +kernel
theorem dX1_become_64 : decode cX1_become 64 = .ok (.aload_n 0, 1) := by decide +kernel
theorem dX1_become_65 : decode cX1_become 65 = .ok (.getfield 21, 3) := by decide +kernel
theorem dX1_become_68 : decode cX1_become 68 = .ok (.arraylength, 1) := by decide +kernel
theorem dX1_become_69 : decode cX1_become 69 = .ok (.invokestatic 37, 3) := by decide +kernel
theorem dX1_become_72 : decode cX1_become 72 = .ok (.aload_n 1, 1) := by decide +kernel
theorem dX1_become_73 : decode cX1_become 73 = .ok (.getfield 24, 3) := by decide +kernel
theorem dX1_become_76 : decode cX1_become 76 = .ok (.iconst 0, 1) := by decide +kernel
theorem dX1_become_77 : decode cX1_become 77 = .ok (.aload_n 0, 1) := by decide +kernel
theorem dX1_become_78 : decode cX1_become 78 = .ok (.getfield 24, 3) := by decide +kernel
theorem dX1_become_81 : decode cX1_become 81 = .ok (.iconst 0, 1) := by decide +kernel
theorem dX1_become_82 : decode cX1_become 82 = .ok (.aload_n 0, 1) := by decide +kernel
theorem dX1_become_83 : decode cX1_become 83 = .ok (.getfield 24, 3) := by decide +kernel
theorem dX1_become_86 : decode cX1_become 86 = .ok (.arraylength, 1) := by decide +kernel
theorem dX1_become_87 : decode cX1_become 87 = .ok (.invokestatic 37, 3) := by decide +kernel
theorem dX1_become_90 : decode cX1_become 90 = .ok (.aload_n 1, 1) := by decide +kernel
theorem dX1_become_91 : decode cX1_become 91 = .ok (.getfield 27, 3) := by decide +kernel
theorem dX1_become_94 : decode cX1_become 94 = .ok (.iconst 0, 1) := by decide +kernel
theorem dX1_become_95 : decode cX1_become 95 = .ok (.aload_n 0, 1) := by decide +kernel
theorem dX1_become_96 : decode cX1_become 96 = .ok (.getfield 27, 3) := by decide +kernel
theorem dX1_become_99 : decode cX1_become 99 = .ok (.iconst 0, 1) := by decide +kernel
theorem dX1_become_100 : decode cX1_become 100 = .ok (.aload_n 0, 1) := by decide +kernel
theorem dX1_become_101 : decode cX1_become 101 = .ok (.getfield 27, 3) := by decide +kernel
theorem dX1_become_104 : decode cX1_become 104 = .ok (.arraylength, 1) := by decide +kernel
theorem dX1_become_105 : decode cX1_become 105 = .ok (.invokestatic 37, 3) := by decide +kernel
theorem dX1_become_108 : decode cX1_become 108 = .ok (.aload_n 0, 1) := by decide +kernel
theorem dX1_become_109 : decode cX1_become 109 = .ok (.aload_n 1, 1) := by decide +kernel
theorem dX1_become_110 : decode cX1_become 110 = .ok (.getfield 30, 3) := by decide +kernel
theorem dX1_become_113 : decode cX1_become 113 = .ok (.putfield 30, 3) := by decide +kernel
theorem dX1_become_116 : decode cX1_become 116 = .ok (.aload_n 0, 1) := by decide +kernel
theorem dX1_become_117 : decode cX1_become 117 = .ok (.aload_n 1, 1) := by decide +kernel
theorem dX1_become_118 : decode cX1_become 118 = .ok (.getfield 34, 3) := by decide +kernel
theorem dX1_become_121 : decode cX1_become 121 = .ok (.putfield 34, 3) := by decide +kernel
theorem dX1_become_124 : decode cX1_become 124 = .ok (.return_, 1) := by decide +kernel
theorem dX1_isNumber_0 : decode cX1_isNumber 0 = .ok (.iload_n 0, 1) := by decide +kernel
theorem dX1_isNumber_1 : decode cX1_isNumber 1 = .ok (.iconst 1, 1) := by decide +kernel
theorem dX1_isNumber_2 : decode cX1_isNumber 2 = .ok (.if_icmp .lt 14, 3) := by decide +kernel
theorem dX1_isNumber_5 : decode cX1_isNumber 5 = .ok (.iload_n 0, 1) := by decide +kernel
theorem dX1_isNumber_6 : decode cX1_isNumber 6 = .ok (.sipush 600, 3) := by decide +kernel
theorem dX1_isNumber_9 : decode cX1_isNumber 9 = .ok (.if_icmp .gt 7, 3) := by decide +kernel
theorem dX1_isNumber_12 : decode cX1_isNumber 12 = .ok (.iconst 1, 1) := by decide +kernel
theorem dX1_isNumber_13 : decode cX1_isNumber 13 = .ok (.goto 4, 3) := by decide +kernel
theorem dX1_isNumber_16 : decode cX1_isNumber 16 = .ok (.iconst 0, 1) := by decide +kernel
theorem dX1_isNumber_17 : decode cX1_isNumber 17 = .ok (.ireturn, 1) := by decide +kernel
theorem dX1_put_0 : decode cX1_put 0 = .ok (.iload_n 2, 1) := by decide +kernel
theorem dX1_put_1 : decode cX1_put 1 = .ok (.sipush 600, 3) := by decide +kernel
theorem dX1_put_4 : decode cX1_put 4 = .ok (.invokestatic 43, 3) := by decide +kernel
theorem dX1_put_7 : decode cX1_put 7 = .ok (.istore 6, 2) := by decide +kernel
theorem dX1_put_9 : decode cX1_put 9 = .ok (.iload_n 1, 1) := by decide +kernel
theorem dX1_put_10 : decode cX1_put 10 = .ok (.iconst 1, 1) := by decide +kernel
theorem dX1_put_11 : decode cX1_put 11 = .ok (.invokestatic 49, 3) := by decide +kernel
theorem dX1_put_14 : decode cX1_put 14 = .ok (.istore 7, 2) := by decide +kernel
theorem dX1_put_16 : decode cX1_put 16 = .ok (.iload 7, 2) := by decide +kernel
theorem dX1_put_18 : decode cX1_put 18 = .ok (.iload 6, 2) := by decide +kernel
theorem dX1_put_20 : decode cX1_put 20 = .ok (.if_icmp .gt 35, 3) := by decide +kernel
theorem dX1_put_23 : decode cX1_put 23 = .ok (.aload_n 0, 1) := by decide +kernel
theorem dX1_put_24 : decode cX1_put 24 = .ok (.getfield 9, 3) := by decide +kernel
theorem dX1_put_27 : decode cX1_put 27 = .ok (.iload 7, 2) := by decide +kernel
theorem dX1_put_29 : decode cX1_put 29 = .ok (.iload_n 3, 1) := by decide +kernel
theorem dX1_put_30 : decode cX1_put 30 = .ok (.iastore, 1) := by decide +kernel
theorem dX1_put_31 : decode cX1_put 31 = .ok (.aload_n 0, 1) := by decide +kernel
theorem dX1_put_32 : decode cX1_put 32 = .ok (.getfield 15, 3) := by decide +kernel
theorem dX1_put_35 : decode cX1_put 35 = .ok (.iload 7, 2) := by decide +kernel
theorem dX1_put_37 : decode cX1_put 37 = .ok (.iload 4, 2) := by decide +kernel
theorem dX1_put_39 : decode cX1_put 39 = .ok (.iastore, 1) := by decide +kernel
theorem dX1_put_40 : decode cX1_put 40 = .ok (.aload_n 0, 1) := by decide +kernel
theorem dX1_put_41 : decode cX1_put 41 = .ok (.getfield 18, 3) := by decide +kernel
theorem dX1_put_44 : decode cX1_put 44 = .ok (.iload 7, 2) := by decide +kernel
theorem dX1_put_46 : decode cX1_put 46 = .ok (.iload 5, 2) := by decide +kernel
theorem dX1_put_48 : decode cX1_put 48 = .ok (.iastore, 1) := by decide +kernel
theorem dX1_put_49 : decode cX1_put 49 = .ok (.iinc 7 1, 3) := by decide +kernel
theorem dX1_put_52 : decode cX1_put 52 = .ok (.goto (-36), 3) := by decide +kernel
theorem dX1_put_55 : decode cX1_put 55 = .ok (.aload_n 0, 1) := by decide +kernel
theorem dX1_put_56 : decode cX1_put 56 = .ok (.aload_n 0, 1) := by decide +kernel
theorem dX1_put_57 : decode cX1_put 57 = .ok (.getfield 34, 3) := by decide +kernel
theorem dX1_put_60 : decode cX1_put 60 = .ok (.iload 6, 2) := by decide +kernel
theorem dX1_put_62 : decode cX1_put 62 = .ok (.iconst 1, 1) := by decide +kernel
theorem dX1_put_63 : decode cX1_put 63 = .ok (.iadd, 1) := by decide +kernel
theorem dX1_put_64 : decode cX1_put 64 = .ok (.invokestatic 49, 3) := by decide +kernel
theorem dX1_put_67 : decode cX1_put 67 = .ok (.putfield 34, 3) := by decide +kernel
theorem dX1_put_70 : decode cX1_put 70 = .ok (.return_, 1) := by decide +kernel
set_option maxRecDepth 20000 in
theorem ggX1_give_X1_isNumber : GoodIn wsX1_give wsX1_isNumber := goodIn_r _ [8] (by decide +kernel) (by decide +kernel)
set_option maxRecDepth 20000 in
theorem gX1_give_X1_isNumber : GoodIn wsX1_give (va_wsS RX1 52 yX1_isNumber wsX1_isNumber) := goodIn_app (goodIn_of _ (by decide +kernel)) ggX1_give_X1_isNumber
set_option maxRecDepth 20000 in
theorem ggX1_give_X1_put : GoodIn wsX1_give wsX1_put := goodIn_r _ [12, 13, 14, 15, 16, 17, 18, 19, 20, 21, 22, 23, 24, 25, 26, 27, 28, 29, 30, 31] (by decide +kernel) (by decide +kernel)
set_option maxRecDepth 20000 in
theorem gX1_give_X1_put : GoodIn wsX1_give (wsV RX1 56 RX1 yX1_put wsX1_put) := goodIn_app (goodIn_of _ (by decide +kernel)) ggX1_give_X1_put
theorem dX1_give_0 : decode cX1_give 0 = .ok (.iload_n 1, 1) := by decide +kernel
theorem dX1_give_1 : decode cX1_give 1 = .ok (.invokestatic 52, 3) := by decide +kernel
theorem dX1_give_4 : decode cX1_give 4 = .ok (.ifCond .eq 22, 3) := by decide +kernel
theorem dX1_give_7 : decode cX1_give 7 = .ok (.aload_n 0, 1) := by decide +kernel
theorem dX1_give_8 : decode cX1_give 8 = .ok (.getfield 30, 3) := by decide +kernel
theorem dX1_give_11 : decode cX1_give 11 = .ok (.ifCond .lt 15, 3) := by decide +kernel
theorem dX1_give_14 : decode cX1_give 14 = .ok (.aload_n 0, 1) := by decide +kernel
theorem dX1_give_15 : decode cX1_give 15 = .ok (.getfield 30, 3) := by decide +kernel
theorem dX1_give_18 : decode cX1_give 18 = .ok (.aload_n 0, 1) := by decide +kernel
theorem dX1_give_19 : decode cX1_give 19 = .ok (.getfield 27, 3) := by decide +kernel
theorem dX1_give_22 : decode cX1_give 22 = .ok (.arraylength, 1) := by decide +kernel
theorem dX1_give_23 : decode cX1_give 23 = .ok (.if_icmp .lt 4, 3) := by decide +kernel
theorem dX1_give_26 : decode cX1_give 26 = .ok (.return_, 1) := by decide +kernel
theorem dX1_give_27 : decode cX1_give 27 = .ok (.aload_n 0, 1) := by decide +kernel
theorem dX1_give_28 : decode cX1_give 28 = .ok (.iload_n 1, 1) := by decide +kernel
theorem dX1_give_29 : decode cX1_give 29 = .ok (.iload_n 1, 1) := by decide +kernel
theorem dX1_give_30 : decode cX1_give 30 = .ok (.iconst 2, 1) := by decide +kernel
theorem dX1_give_31 : decode cX1_give 31 = .ok (.iload_n 2, 1) := by decide +kernel
theorem dX1_give_32 : decode cX1_give 32 = .ok (.iconst (-1), 1) := by decide +kernel
theorem dX1_give_33 : decode cX1_give 33 = .ok (.invokevirtual 56, 3) := by decide +kernel
theorem dX1_give_36 : decode cX1_give 36 = .ok (.aload_n 0, 1) := by decide +kernel
theorem dX1_give_37 : decode cX1_give 37 = .ok (.getfield 21, 3) := by decide +kernel
theorem dX1_give_40 : decode cX1_give 40 = .ok (.iload_n 1, 1) := by decide +kernel
theorem dX1_give_41 : decode cX1_give 41 = .ok (.aload_n 0, 1) := by decide +kernel
theorem dX1_give_42 : decode cX1_give 42 = .ok (.getfield 30, 3) := by decide +kernel
theorem dX1_give_45 : decode cX1_give 45 = .ok (.iastore, 1) := by decide +kernel
theorem dX1_give_46 : decode cX1_give 46 = .ok (.aload_n 0, 1) := by decide +kernel
theorem dX1_give_47 : decode cX1_give 47 = .ok (.getfield 24, 3) := by decide +kernel
theorem dX1_give_50 : decode cX1_give 50 = .ok (.iload_n 1, 1) := by decide +kernel
theorem dX1_give_51 : decode cX1_give 51 = .ok (.iload_n 3, 1) := by decide +kernel
theorem dX1_give_52 : decode cX1_give 52 = .ok (.iastore, 1) := by decide +kernel
theorem dX1_give_53 : decode cX1_give 53 = .ok (.aload_n 0, 1) := by decide +kernel
theorem dX1_give_54 : decode cX1_give 54 = .ok (.getfield 27, 3) := by decide +kernel
theorem dX1_give_57 : decode cX1_give 57 = .ok (.aload_n 0, 1) := by decide +kernel
theorem dX1_give_58 : decode cX1_give 58 = .ok (.getfield 30, 3) := by decide +kernel
theorem dX1_give_61 : decode cX1_give 61 = .ok (.iload_n 1, 1) := by decide +kernel
theorem dX1_give_62 : decode cX1_give 62 = .ok (.iastore, 1) := by decide +kernel
theorem dX1_give_63 : decode cX1_give 63 = .ok (.aload_n 0, 1) := by decide +kernel
theorem dX1_give_64 : decode cX1_give 64 = .ok (.dup, 1) := by decide +kernel
theorem dX1_give_65 : decode cX1_give 65 = .ok (.getfield 30, 3) := by decide +kernel
theorem dX1_give_68 : decode cX1_give 68 = .ok (.iconst 1, 1) := by decide +kernel
theorem dX1_give_69 : decode cX1_give 69 = .ok (.iadd, 1) := by decide +kernel
theorem dX1_give_70 : decode cX1_give 70 = .ok (.putfield 30, 3) := by decide +kernel
theorem dX1_give_73 : decode cX1_give 73 = .ok (.return_, 1) := by decide +kernel
set_option maxRecDepth 20000 in
theorem ggX1_closeAll_X1_put : GoodIn wsX1_closeAll wsX1_put := goodIn_r _ [7, 8, 9, 10, 11, 12, 13, 14, 1, 2, 15, 16, 17, 18, 19, 20, 21, 22, 23, 24] (by decide +kernel) (by decide +kernel)
set_option maxRecDepth 20000 in
theorem gX1_closeAll_X1_put : GoodIn wsX1_closeAll (wsV RX1 56 RX1 yX1_put wsX1_put) := goodIn_app (goodIn_of _ (by decide +kernel)) ggX1_closeAll_X1_put
theorem dX1_closeAll_0 : decode cX1_closeAll 0 = .ok (.iconst 0, 1) := by decide +kernel
theorem dX1_closeAll_1 : decode cX1_closeAll 1 = .ok (.istore_n 1, 1) := by decide +kernel
theorem dX1_closeAll_2 : decode cX1_closeAll 2 = .ok (.iconst 1, 1) := by decide +kernel
theorem dX1_closeAll_3 : decode cX1_closeAll 3 = .ok (.istore_n 2, 1) := by decide +kernel
theorem dX1_closeAll_4 : decode cX1_closeAll 4 = .ok (.iload_n 2, 1) := by decide +kernel
theorem dX1_closeAll_5 : decode cX1_closeAll 5 = .ok (.sipush 600, 3) := by decide +kernel
theorem dX1_closeAll_8 : decode cX1_closeAll 8 = .ok (.if_icmp .gt 46, 3) := by decide +kernel
theorem dX1_closeAll_11 : decode cX1_closeAll 11 = .ok (.aload_n 0, 1) := by decide +kernel
theorem dX1_closeAll_12 : decode cX1_closeAll 12 = .ok (.getfield 9, 3) := by decide +kernel
theorem dX1_closeAll_15 : decode cX1_closeAll 15 = .ok (.iload_n 2, 1) := by decide +kernel
theorem dX1_closeAll_16 : decode cX1_closeAll 16 = .ok (.iaload, 1) := by decide +kernel
theorem dX1_closeAll_17 : decode cX1_closeAll 17 = .ok (.iconst 1, 1) := by decide +kernel
theorem dX1_closeAll_18 : decode cX1_closeAll 18 = .ok (.if_icmp .eq 13, 3) := by decide +kernel
theorem dX1_closeAll_21 : decode cX1_closeAll 21 = .ok (.aload_n 0, 1) := by decide +kernel
theorem dX1_closeAll_22 : decode cX1_closeAll 22 = .ok (.getfield 9, 3) := by decide +kernel
theorem dX1_closeAll_25 : decode cX1_closeAll 25 = .ok (.iload_n 2, 1) := by decide +kernel
theorem dX1_closeAll_26 : decode cX1_closeAll 26 = .ok (.iaload, 1) := by decide +kernel
theorem dX1_closeAll_27 : decode cX1_closeAll 27 = .ok (.iconst 3, 1) := by decide +kernel
theorem dX1_closeAll_28 : decode cX1_closeAll 28 = .ok (.if_icmp .ne 20, 3) := by decide +kernel
theorem dX1_closeAll_31 : decode cX1_closeAll 31 = .ok (.aload_n 0, 1) := by decide +kernel
theorem dX1_closeAll_32 : decode cX1_closeAll 32 = .ok (.iload_n 2, 1) := by decide +kernel
theorem dX1_closeAll_33 : decode cX1_closeAll 33 = .ok (.iload_n 2, 1) := by decide +kernel
theorem dX1_closeAll_34 : decode cX1_closeAll 34 = .ok (.iconst 4, 1) := by decide +kernel
theorem dX1_closeAll_35 : decode cX1_closeAll 35 = .ok (.aload_n 0, 1) := by decide +kernel
theorem dX1_closeAll_36 : decode cX1_closeAll 36 = .ok (.getfield 15, 3) := by decide +kernel
theorem dX1_closeAll_39 : decode cX1_closeAll 39 = .ok (.iload_n 2, 1) := by decide +kernel
theorem dX1_closeAll_40 : decode cX1_closeAll 40 = .ok (.iaload, 1) := by decide +kernel
theorem dX1_closeAll_41 : decode cX1_closeAll 41 = .ok (.iconst 3, 1) := by decide +kernel
theorem dX1_closeAll_42 : decode cX1_closeAll 42 = .ok (.invokevirtual 56, 3) := by decide +kernel
theorem dX1_closeAll_45 : decode cX1_closeAll 45 = .ok (.iinc 1 1, 3) := by decide +kernel
theorem dX1_closeAll_48 : decode cX1_closeAll 48 = .ok (.iinc 2 1, 3) := by decide +kernel
theorem dX1_closeAll_51 : decode cX1_closeAll 51 = .ok (.goto (-47), 3) := by decide +kernel
theorem dX1_closeAll_54 : decode cX1_closeAll 54 = .ok (.iload_n 1, 1) := by decide +kernel
theorem dX1_closeAll_55 : decode cX1_closeAll 55 = .ok (.ireturn, 1) := by decide +kernel
theorem dX1_lowestFree_0 : decode cX1_lowestFree 0 = .ok (.iconst 1, 1) := by decide +kernel
theorem dX1_lowestFree_1 : decode cX1_lowestFree 1 = .ok (.istore_n 1, 1) := by decide +kernel
theorem dX1_lowestFree_2 : decode cX1_lowestFree 2 = .ok (.iload_n 1, 1) := by decide +kernel
theorem dX1_lowestFree_3 : decode cX1_lowestFree 3 = .ok (.sipush 600, 3) := by decide +kernel
theorem dX1_lowestFree_6 : decode cX1_lowestFree 6 = .ok (.if_icmp .gt 29, 3) := by decide +kernel
theorem dX1_lowestFree_9 : decode cX1_lowestFree 9 = .ok (.iload_n 1, 1) := by decide +kernel
theorem dX1_lowestFree_10 : decode cX1_lowestFree 10 = .ok (.aload_n 0, 1) := by decide +kernel
theorem dX1_lowestFree_11 : decode cX1_lowestFree 11 = .ok (.getfield 34, 3) := by decide +kernel
theorem dX1_lowestFree_14 : decode cX1_lowestFree 14 = .ok (.if_icmp .ge 21, 3) := by decide +kernel
theorem dX1_lowestFree_17 : decode cX1_lowestFree 17 = .ok (.aload_n 0, 1) := by decide +kernel
theorem dX1_lowestFree_18 : decode cX1_lowestFree 18 = .ok (.getfield 9, 3) := by decide +kernel
theorem dX1_lowestFree_21 : decode cX1_lowestFree 21 = .ok (.iload_n 1, 1) := by decide +kernel
theorem dX1_lowestFree_22 : decode cX1_lowestFree 22 = .ok (.iaload, 1) := by decide +kernel
theorem dX1_lowestFree_23 : decode cX1_lowestFree 23 = .ok (.iconst 3, 1) := by decide +kernel
theorem dX1_lowestFree_24 : decode cX1_lowestFree 24 = .ok (.if_icmp .ne 5, 3) := by decide +kernel
theorem dX1_lowestFree_27 : decode cX1_lowestFree 27 = .ok (.iload_n 1, 1) := by decide +kernel
theorem dX1_lowestFree_28 : decode cX1_lowestFree 28 = .ok (.ireturn, 1) := by decide +kernel
theorem dX1_lowestFree_29 : decode cX1_lowestFree 29 = .ok (.iinc 1 1, 3) := by decide +kernel
theorem dX1_lowestFree_32 : decode cX1_lowestFree 32 = .ok (.goto (-30), 3) := by decide +kernel
theorem dX1_lowestFree_35 : decode cX1_lowestFree 35 = .ok (.iconst (-1), 1) := by decide +kernel
theorem dX1_lowestFree_36 : decode cX1_lowestFree 36 = .ok (.ireturn, 1) := by decide +kernel
theorem dX1_goesOn_0 : decode cX1_goesOn 0 = .ok (.iload_n 1, 1) := by decide +kernel
theorem dX1_goesOn_1 : decode cX1_goesOn 1 = .ok (.iconst 1, 1) := by decide +kernel
theorem dX1_goesOn_2 : decode cX1_goesOn 2 = .ok (.if_icmp .lt 65, 3) := by decide +kernel
theorem dX1_goesOn_5 : decode cX1_goesOn 5 = .ok (.iload_n 1, 1) := by decide +kernel
theorem dX1_goesOn_6 : decode cX1_goesOn 6 = .ok (.sipush 600, 3) := by decide +kernel
theorem dX1_goesOn_9 : decode cX1_goesOn 9 = .ok (.if_icmp .ge 58, 3) := by decide +kernel
theorem dX1_goesOn_12 : decode cX1_goesOn 12 = .ok (.aload_n 0, 1) := by decide +kernel
theorem dX1_goesOn_13 : decode cX1_goesOn 13 = .ok (.getfield 9, 3) := by decide +kernel
theorem dX1_goesOn_16 : decode cX1_goesOn 16 = .ok (.iload_n 1, 1) := by decide +kernel
theorem dX1_goesOn_17 : decode cX1_goesOn 17 = .ok (.iaload, 1) := by decide +kernel
theorem dX1_goesOn_18 : decode cX1_goesOn 18 = .ok (.aload_n 0, 1) := by decide +kernel
theorem dX1_goesOn_19 : decode cX1_goesOn 19 = .ok (.getfield 9, 3) := by decide +kernel
theorem dX1_goesOn_22 : decode cX1_goesOn 22 = .ok (.iload_n 1, 1) := by decide +kernel
theorem dX1_goesOn_23 : decode cX1_goesOn 23 = .ok (.iconst 1, 1) := by decide +kernel
theorem dX1_goesOn_24 : decode cX1_goesOn 24 = .ok (.iadd, 1) := by decide +kernel
theorem dX1_goesOn_25 : decode cX1_goesOn 25 = .ok (.iaload, 1) := by decide +kernel
theorem dX1_goesOn_26 : decode cX1_goesOn 26 = .ok (.if_icmp .ne 41, 3) := by decide +kernel
theorem dX1_goesOn_29 : decode cX1_goesOn 29 = .ok (.aload_n 0, 1) := by decide +kernel
theorem dX1_goesOn_30 : decode cX1_goesOn 30 = .ok (.getfield 15, 3) := by decide +kernel
theorem dX1_goesOn_33 : decode cX1_goesOn 33 = .ok (.iload_n 1, 1) := by decide +kernel
theorem dX1_goesOn_34 : decode cX1_goesOn 34 = .ok (.iaload, 1) := by decide +kernel
theorem dX1_goesOn_35 : decode cX1_goesOn 35 = .ok (.aload_n 0, 1) := by decide +kernel
theorem dX1_goesOn_36 : decode cX1_goesOn 36 = .ok (.getfield 15, 3) := by decide +kernel
theorem dX1_goesOn_39 : decode cX1_goesOn 39 = .ok (.iload_n 1, 1) := by decide +kernel
theorem dX1_goesOn_40 : decode cX1_goesOn 40 = .ok (.iconst 1, 1) := by decide +kernel
theorem dX1_goesOn_41 : decode cX1_goesOn 41 = .ok (.iadd, 1) := by decide +kernel
theorem dX1_goesOn_42 : decode cX1_goesOn 42 = .ok (.iaload, 1) := by decide +kernel
theorem dX1_goesOn_43 : decode cX1_goesOn 43 = .ok (.if_icmp .ne 24, 3) := by decide +kernel
theorem dX1_goesOn_46 : decode cX1_goesOn 46 = .ok (.aload_n 0, 1) := by decide +kernel
theorem dX1_goesOn_47 : decode cX1_goesOn 47 = .ok (.getfield 18, 3) := by decide +kernel
theorem dX1_goesOn_50 : decode cX1_goesOn 50 = .ok (.iload_n 1, 1) := by decide +kernel
theorem dX1_goesOn_51 : decode cX1_goesOn 51 = .ok (.iaload, 1) := by decide +kernel
theorem dX1_goesOn_52 : decode cX1_goesOn 52 = .ok (.aload_n 0, 1) := by decide +kernel
theorem dX1_goesOn_53 : decode cX1_goesOn 53 = .ok (.getfield 18, 3) := by decide +kernel
theorem dX1_goesOn_56 : decode cX1_goesOn 56 = .ok (.iload_n 1, 1) := by decide +kernel
theorem dX1_goesOn_57 : decode cX1_goesOn 57 = .ok (.iconst 1, 1) := by decide +kernel
theorem dX1_goesOn_58 : decode cX1_goesOn 58 = .ok (.iadd, 1) := by decide +kernel
theorem dX1_goesOn_59 : decode cX1_goesOn 59 = .ok (.iaload, 1) := by decide +kernel
theorem dX1_goesOn_60 : decode cX1_goesOn 60 = .ok (.if_icmp .ne 7, 3) := by decide +kernel
theorem dX1_goesOn_63 : decode cX1_goesOn 63 = .ok (.iconst 1, 1) := by decide +kernel
theorem dX1_goesOn_64 : decode cX1_goesOn 64 = .ok (.goto 4, 3) := by decide +kernel
theorem dX1_goesOn_67 : decode cX1_goesOn 67 = .ok (.iconst 0, 1) := by decide +kernel
theorem dX1_goesOn_68 : decode cX1_goesOn 68 = .ok (.ireturn, 1) := by decide +kernel
set_option maxRecDepth 20000 in
theorem ggX1_lastOfRow_X1_goesOn : GoodIn wsX1_lastOfRow wsX1_goesOn := goodIn_r _ [5, 6, 7, 8, 9, 10, 11, 12, 13, 14, 15, 16] (by decide +kernel) (by decide +kernel)
set_option maxRecDepth 20000 in
theorem gX1_lastOfRow_X1_goesOn : GoodIn wsX1_lastOfRow (wsV RX1 60 RX1 yX1_goesOn wsX1_goesOn) := goodIn_app (goodIn_of _ (by decide +kernel)) ggX1_lastOfRow_X1_goesOn
theorem dX1_lastOfRow_0 : decode cX1_lastOfRow 0 = .ok (.iload_n 1, 1) := by decide +kernel
theorem dX1_lastOfRow_1 : decode cX1_lastOfRow 1 = .ok (.istore_n 3, 1) := by decide +kernel
theorem dX1_lastOfRow_2 : decode cX1_lastOfRow 2 = .ok (.iload_n 3, 1) := by decide +kernel
theorem dX1_lastOfRow_3 : decode cX1_lastOfRow 3 = .ok (.iload_n 2, 1) := by decide +kernel
theorem dX1_lastOfRow_4 : decode cX1_lastOfRow 4 = .ok (.if_icmp .ge 17, 3) := by decide +kernel
theorem dX1_lastOfRow_7 : decode cX1_lastOfRow 7 = .ok (.aload_n 0, 1) := by decide +kernel
theorem dX1_lastOfRow_8 : decode cX1_lastOfRow 8 = .ok (.iload_n 3, 1) := by decide +kernel
theorem dX1_lastOfRow_9 : decode cX1_lastOfRow 9 = .ok (.invokevirtual 60, 3) := by decide +kernel
theorem dX1_lastOfRow_12 : decode cX1_lastOfRow 12 = .ok (.ifCond .eq 9, 3) := by decide +kernel
theorem dX1_lastOfRow_15 : decode cX1_lastOfRow 15 = .ok (.iinc 3 1, 3) := by decide +kernel
theorem dX1_lastOfRow_18 : decode cX1_lastOfRow 18 = .ok (.goto (-16), 3) := by decide +kernel
theorem dX1_lastOfRow_21 : decode cX1_lastOfRow 21 = .ok (.iload_n 3, 1) := by decide +kernel
theorem dX1_lastOfRow_22 : decode cX1_lastOfRow 22 = .ok (.ireturn, 1) := by decide +kernel
set_option maxRecDepth 20000 in
theorem ggX1_startsRow_X1_isNumber : GoodIn wsX1_startsRow wsX1_isNumber := goodIn_r _ [5] (by decide +kernel) (by decide +kernel)
set_option maxRecDepth 20000 in
theorem gX1_startsRow_X1_isNumber : GoodIn wsX1_startsRow (va_wsS RX1 52 yX1_isNumber wsX1_isNumber) := goodIn_app (goodIn_of _ (by decide +kernel)) ggX1_startsRow_X1_isNumber
set_option maxRecDepth 20000 in
theorem ggX1_startsRow_X1_goesOn : GoodIn wsX1_startsRow wsX1_goesOn := goodIn_r _ [9, 1, 10, 11, 12, 13, 14, 15, 16, 17, 18, 19] (by decide +kernel) (by decide +kernel)
set_option maxRecDepth 20000 in
theorem gX1_startsRow_X1_goesOn : GoodIn wsX1_startsRow (wsV RX1 60 RX1 yX1_goesOn wsX1_goesOn) := goodIn_app (goodIn_of _ (by decide +kernel)) ggX1_startsRow_X1_goesOn
theorem dX1_startsRow_0 : decode cX1_startsRow 0 = .ok (.iload_n 1, 1) := by decide +kernel
theorem dX1_startsRow_1 : decode cX1_startsRow 1 = .ok (.invokestatic 52, 3) := by decide +kernel
theorem dX1_startsRow_4 : decode cX1_startsRow 4 = .ok (.ifCond .eq 27, 3) := by decide +kernel
theorem dX1_startsRow_7 : decode cX1_startsRow 7 = .ok (.aload_n 0, 1) := by decide +kernel
theorem dX1_startsRow_8 : decode cX1_startsRow 8 = .ok (.getfield 9, 3) := by decide +kernel
theorem dX1_startsRow_11 : decode cX1_startsRow 11 = .ok (.iload_n 1, 1) := by decide +kernel
theorem dX1_startsRow_12 : decode cX1_startsRow 12 = .ok (.iaload, 1) := by decide +kernel
theorem dX1_startsRow_13 : decode cX1_startsRow 13 = .ok (.iload_n 2, 1) := by decide +kernel
theorem dX1_startsRow_14 : decode cX1_startsRow 14 = .ok (.if_icmp .ne 17, 3) := by decide +kernel
theorem dX1_startsRow_17 : decode cX1_startsRow 17 = .ok (.aload_n 0, 1) := by decide +kernel
theorem dX1_startsRow_18 : decode cX1_startsRow 18 = .ok (.iload_n 1, 1) := by decide +kernel
theorem dX1_startsRow_19 : decode cX1_startsRow 19 = .ok (.iconst 1, 1) := by decide +kernel
theorem dX1_startsRow_20 : decode cX1_startsRow 20 = .ok (.isub, 1) := by decide +kernel
theorem dX1_startsRow_21 : decode cX1_startsRow 21 = .ok (.invokevirtual 60, 3) := by decide +kernel
theorem dX1_startsRow_24 : decode cX1_startsRow 24 = .ok (.ifCond .ne 7, 3) := by decide +kernel
theorem dX1_startsRow_27 : decode cX1_startsRow 27 = .ok (.iconst 1, 1) := by decide +kernel
theorem dX1_startsRow_28 : decode cX1_startsRow 28 = .ok (.goto 4, 3) := by decide +kernel
theorem dX1_startsRow_31 : decode cX1_startsRow 31 = .ok (.iconst 0, 1) := by decide +kernel
theorem dX1_startsRow_32 : decode cX1_startsRow 32 = .ok (.ireturn, 1) := by decide +kernel
set_option maxRecDepth 20000 in
theorem ggX1_rows_X1_startsRow : GoodIn wsX1_rows wsX1_startsRow := goodIn_r _ [5, 6, 7, 8, 4, 9, 10, 11, 12, 13, 14, 15, 16, 17, 18, 19, 20, 21, 22, 23] (by decide +kernel) (by decide +kernel)
set_option maxRecDepth 20000 in
theorem gX1_rows_X1_startsRow : GoodIn wsX1_rows (wsV RX1 63 RX1 yX1_startsRow wsX1_startsRow) := goodIn_app (goodIn_of _ (by decide +kernel)) ggX1_rows_X1_startsRow
theorem dX1_rows_0 : decode cX1_rows 0 = .ok (.iconst 0, 1) := by decide +kernel
theorem dX1_rows_1 : decode cX1_rows 1 = .ok (.istore_n 2, 1) := by decide +kernel
theorem dX1_rows_2 : decode cX1_rows 2 = .ok (.iconst 1, 1) := by decide +kernel
theorem dX1_rows_3 : decode cX1_rows 3 = .ok (.istore_n 3, 1) := by decide +kernel
theorem dX1_rows_4 : decode cX1_rows 4 = .ok (.iload_n 3, 1) := by decide +kernel
theorem dX1_rows_5 : decode cX1_rows 5 = .ok (.sipush 600, 3) := by decide +kernel
theorem dX1_rows_8 : decode cX1_rows 8 = .ok (.if_icmp .gt 21, 3) := by decide +kernel
theorem dX1_rows_11 : decode cX1_rows 11 = .ok (.aload_n 0, 1) := by decide +kernel
theorem dX1_rows_12 : decode cX1_rows 12 = .ok (.iload_n 3, 1) := by decide +kernel
theorem dX1_rows_13 : decode cX1_rows 13 = .ok (.iload_n 1, 1) := by decide +kernel
theorem dX1_rows_14 : decode cX1_rows 14 = .ok (.invokevirtual 63, 3) := by decide +kernel
theorem dX1_rows_17 : decode cX1_rows 17 = .ok (.ifCond .eq 6, 3) := by decide +kernel
theorem dX1_rows_20 : decode cX1_rows 20 = .ok (.iinc 2 1, 3) := by decide +kernel
theorem dX1_rows_23 : decode cX1_rows 23 = .ok (.iinc 3 1, 3) := by decide +kernel
theorem dX1_rows_26 : decode cX1_rows 26 = .ok (.goto (-22), 3) := by decide +kernel
theorem dX1_rows_29 : decode cX1_rows 29 = .ok (.iload_n 2, 1) := by decide +kernel
theorem dX1_rows_30 : decode cX1_rows 30 = .ok (.ireturn, 1) := by decide +kernel
set_option maxRecDepth 20000 in
theorem ggX1_startOfRow_X1_startsRow : GoodIn wsX1_startOfRow wsX1_startsRow := goodIn_r _ [5, 6, 7, 8, 4, 9, 10, 11, 12, 13, 14, 15, 16, 17, 18, 19, 20, 21, 22, 23] (by decide +kernel) (by decide +kernel)
set_option maxRecDepth 20000 in
theorem gX1_startOfRow_X1_startsRow : GoodIn wsX1_startOfRow (wsV RX1 63 RX1 yX1_startsRow wsX1_startsRow) := goodIn_app (goodIn_of _ (by decide +kernel)) ggX1_startOfRow_X1_startsRow
theorem dX1_startOfRow_0 : decode cX1_startOfRow 0 = .ok (.iconst 0, 1) := by decide +kernel
theorem dX1_startOfRow_1 : decode cX1_startOfRow 1 = .ok (.istore_n 3, 1) := by decide +kernel
theorem dX1_startOfRow_2 : decode cX1_startOfRow 2 = .ok (.iconst 1, 1) := by decide +kernel
theorem dX1_startOfRow_3 : decode cX1_startOfRow 3 = .ok (.istore 4, 2) := by decide +kernel
theorem dX1_startOfRow_5 : decode cX1_startOfRow 5 = .ok (.iload 4, 2) := by decide +kernel
theorem dX1_startOfRow_7 : decode cX1_startOfRow 7 = .ok (.sipush 600, 3) := by decide +kernel
theorem dX1_startOfRow_10 : decode cX1_startOfRow 10 = .ok (.if_icmp .gt 30, 3) := by decide +kernel
theorem dX1_startOfRow_13 : decode cX1_startOfRow 13 = .ok (.aload_n 0, 1) := by decide +kernel
theorem dX1_startOfRow_14 : decode cX1_startOfRow 14 = .ok (.iload 4, 2) := by decide +kernel
theorem dX1_startOfRow_16 : decode cX1_startOfRow 16 = .ok (.iload_n 1, 1) := by decide +kernel
theorem dX1_startOfRow_17 : decode cX1_startOfRow 17 = .ok (.invokevirtual 63, 3) := by decide +kernel
theorem dX1_startOfRow_20 : decode cX1_startOfRow 20 = .ok (.ifCond .eq 14, 3) := by decide +kernel
theorem dX1_startOfRow_23 : decode cX1_startOfRow 23 = .ok (.iload_n 3, 1) := by decide +kernel
theorem dX1_startOfRow_24 : decode cX1_startOfRow 24 = .ok (.iload_n 2, 1) := by decide +kernel
theorem dX1_startOfRow_25 : decode cX1_startOfRow 25 = .ok (.if_icmp .ne 6, 3) := by decide +kernel
theorem dX1_startOfRow_28 : decode cX1_startOfRow 28 = .ok (.iload 4, 2) := by decide +kernel
theorem dX1_startOfRow_30 : decode cX1_startOfRow 30 = .ok (.ireturn, 1) := by decide +kernel
theorem dX1_startOfRow_31 : decode cX1_startOfRow 31 = .ok (.iinc 3 1, 3) := by decide +kernel
theorem dX1_startOfRow_34 : decode cX1_startOfRow 34 = .ok (.iinc 4 1, 3) := by decide +kernel
theorem dX1_startOfRow_37 : decode cX1_startOfRow 37 = .ok (.goto (-32), 3) := by decide +kernel
theorem dX1_startOfRow_40 : decode cX1_startOfRow 40 = .ok (.iconst (-1), 1) := by decide +kernel
theorem dX1_startOfRow_41 : decode cX1_startOfRow 41 = .ok (.ireturn, 1) := by decide +kernel
set_option maxRecDepth 20000 in
theorem ggX1_tellOfRow_X1_startOfRow : GoodIn wsX1_tellOfRow wsX1_startOfRow := goodIn_r _ [7, 8, 9, 10, 6, 11, 12, 13, 14, 15, 16, 17, 18, 19, 2, 1, 27, 28, 29, 30, 31, 32, 33, 34] (by decide +kernel) (by decide +kernel)
set_option maxRecDepth 20000 in
theorem gX1_tellOfRow_X1_startOfRow : GoodIn wsX1_tellOfRow (wsV RX1 67 RX1 yX1_startOfRow wsX1_startOfRow) := goodIn_app (goodIn_of _ (by decide +kernel)) ggX1_tellOfRow_X1_startOfRow
set_option maxRecDepth 20000 in
theorem ggX1_tellOfRow_X1_isNumber : GoodIn wsX1_tellOfRow wsX1_isNumber := goodIn_r _ [15] (by decide +kernel) (by decide +kernel)
set_option maxRecDepth 20000 in
theorem gX1_tellOfRow_X1_isNumber : GoodIn wsX1_tellOfRow (va_wsS RX1 52 yX1_isNumber wsX1_isNumber) := goodIn_app (goodIn_of _ (by decide +kernel)) ggX1_tellOfRow_X1_isNumber
set_option maxRecDepth 20000 in
theorem ggX1_tellOfRow_X1_lastOfRow : GoodIn wsX1_tellOfRow wsX1_lastOfRow := goodIn_r _ [23, 16, 17, 18, 6, 19, 12, 2, 1, 27, 28, 29, 30, 31, 32, 33, 34] (by decide +kernel) (by decide +kernel)
set_option maxRecDepth 20000 in
theorem gX1_tellOfRow_X1_lastOfRow : GoodIn wsX1_tellOfRow (wsV RX1 70 RX1 yX1_lastOfRow wsX1_lastOfRow) := goodIn_app (goodIn_of _ (by decide +kernel)) ggX1_tellOfRow_X1_lastOfRow
set_option maxRecDepth 20000 in
theorem ggX1_tellOfRow_X4_orNotFound : GoodIn wsX1_tellOfRow wsX4_orNotFound := goodIn_r _ [26] (by decide +kernel) (by decide +kernel)
set_option maxRecDepth 20000 in
theorem gX1_tellOfRow_X4_orNotFound_n73 : GoodIn wsX1_tellOfRow (wsX4_orNotFound) := ggX1_tellOfRow_X4_orNotFound
theorem dX1_tellOfRow_0 : decode cX1_tellOfRow 0 = .ok (.aload_n 0, 1) := by decide +kernel
theorem dX1_tellOfRow_1 : decode cX1_tellOfRow 1 = .ok (.iload_n 1, 1) := by decide +kernel
theorem dX1_tellOfRow_2 : decode cX1_tellOfRow 2 = .ok (.iload_n 2, 1) := by decide +kernel
theorem dX1_tellOfRow_3 : decode cX1_tellOfRow 3 = .ok (.invokevirtual 67, 3) := by decide +kernel
theorem dX1_tellOfRow_6 : decode cX1_tellOfRow 6 = .ok (.istore 4, 2) := by decide +kernel
theorem dX1_tellOfRow_8 : decode cX1_tellOfRow 8 = .ok (.iload 4, 2) := by decide +kernel
theorem dX1_tellOfRow_10 : decode cX1_tellOfRow 10 = .ok (.invokestatic 52, 3) := by decide +kernel
theorem dX1_tellOfRow_13 : decode cX1_tellOfRow 13 = .ok (.ifCond .ne 6, 3) := by decide +kernel
theorem dX1_tellOfRow_16 : decode cX1_tellOfRow 16 = .ok (.bipush (-4), 2) := by decide +kernel
theorem dX1_tellOfRow_18 : decode cX1_tellOfRow 18 = .ok (.ireturn, 1) := by decide +kernel
theorem dX1_tellOfRow_19 : decode cX1_tellOfRow 19 = .ok (.iload_n 3, 1) := by decide +kernel
theorem dX1_tellOfRow_20 : decode cX1_tellOfRow 20 = .ok (.tableswitch 67 0 3 #[32, 35, 45, 56], 32) := by decide +kernel
theorem dX1_tellOfRow_52 : decode cX1_tellOfRow 52 = .ok (.iload 4, 2) := by decide +kernel
theorem dX1_tellOfRow_54 : decode cX1_tellOfRow 54 = .ok (.ireturn, 1) := by decide +kernel
theorem dX1_tellOfRow_55 : decode cX1_tellOfRow 55 = .ok (.aload_n 0, 1) := by decide +kernel
theorem dX1_tellOfRow_56 : decode cX1_tellOfRow 56 = .ok (.iload 4, 2) := by decide +kernel
theorem dX1_tellOfRow_58 : decode cX1_tellOfRow 58 = .ok (.sipush 600, 3) := by decide +kernel
theorem dX1_tellOfRow_61 : decode cX1_tellOfRow 61 = .ok (.invokevirtual 70, 3) := by decide +kernel
theorem dX1_tellOfRow_64 : decode cX1_tellOfRow 64 = .ok (.ireturn, 1) := by decide +kernel
theorem dX1_tellOfRow_65 : decode cX1_tellOfRow 65 = .ok (.aload_n 0, 1) := by decide +kernel
theorem dX1_tellOfRow_66 : decode cX1_tellOfRow 66 = .ok (.getfield 18, 3) := by decide +kernel
theorem dX1_tellOfRow_69 : decode cX1_tellOfRow 69 = .ok (.iload 4, 2) := by decide +kernel
theorem dX1_tellOfRow_71 : decode cX1_tellOfRow 71 = .ok (.iaload, 1) := by decide +kernel
theorem dX1_tellOfRow_72 : decode cX1_tellOfRow 72 = .ok (.invokestatic 73, 3) := by decide +kernel
theorem dX1_tellOfRow_75 : decode cX1_tellOfRow 75 = .ok (.ireturn, 1) := by decide +kernel
theorem dX1_tellOfRow_76 : decode cX1_tellOfRow 76 = .ok (.aload_n 0, 1) := by decide +kernel
theorem dX1_tellOfRow_77 : decode cX1_tellOfRow 77 = .ok (.getfield 15, 3) := by decide +kernel
theorem dX1_tellOfRow_80 : decode cX1_tellOfRow 80 = .ok (.iload 4, 2) := by decide +kernel
theorem dX1_tellOfRow_82 : decode cX1_tellOfRow 82 = .ok (.iaload, 1) := by decide +kernel
theorem dX1_tellOfRow_83 : decode cX1_tellOfRow 83 = .ok (.invokestatic 73, 3) := by decide +kernel
theorem dX1_tellOfRow_86 : decode cX1_tellOfRow 86 = .ok (.ireturn, 1) := by decide +kernel
theorem dX1_tellOfRow_87 : decode cX1_tellOfRow 87 = .ok (.iconst (-1), 1) := by decide +kernel
theorem dX1_tellOfRow_88 : decode cX1_tellOfRow 88 = .ok (.ireturn, 1) := by decide +kernel
set_option maxRecDepth 20000 in
theorem ggX1_tell_X1_isNumber : GoodIn wsX1_tell wsX1_isNumber := goodIn_r _ [9] (by decide +kernel) (by decide +kernel)
set_option maxRecDepth 20000 in
theorem gX1_tell_X1_isNumber : GoodIn wsX1_tell (va_wsS RX1 52 yX1_isNumber wsX1_isNumber) := goodIn_app (goodIn_of _ (by decide +kernel)) ggX1_tell_X1_isNumber
set_option maxRecDepth 20000 in
theorem ggX1_tell_X4_orNotFound : GoodIn wsX1_tell wsX4_orNotFound := goodIn_r _ [12] (by decide +kernel) (by decide +kernel)
set_option maxRecDepth 20000 in
theorem gX1_tell_X4_orNotFound_n73 : GoodIn wsX1_tell (wsX4_orNotFound) := ggX1_tell_X4_orNotFound
set_option maxRecDepth 20000 in
theorem ggX1_tell_X1_tellLateness : GoodIn wsX1_tell wsX1_tellLateness := goodIn_r _ [16, 3, 17, 6, 7, 8, 9, 18, 19, 20, 21, 22, 23, 24, 25] (by decide +kernel) (by decide +kernel)
set_option maxRecDepth 20000 in
theorem gX1_tell_X1_tellLateness : GoodIn wsX1_tell (wsV RX1 77 RX1 yX1_tellLateness wsX1_tellLateness) := goodIn_app (goodIn_of _ (by decide +kernel)) ggX1_tell_X1_tellLateness
theorem dX1_tell_0 : decode cX1_tell 0 = .ok (.iload_n 1, 1) := by decide +kernel
theorem dX1_tell_1 : decode cX1_tell 1 = .ok (.invokestatic 52, 3) := by decide +kernel
theorem dX1_tell_4 : decode cX1_tell 4 = .ok (.ifCond .ne 5, 3) := by decide +kernel
theorem dX1_tell_7 : decode cX1_tell 7 = .ok (.iconst (-1), 1) := by decide +kernel
theorem dX1_tell_8 : decode cX1_tell 8 = .ok (.ireturn, 1) := by decide +kernel
theorem dX1_tell_9 : decode cX1_tell 9 = .ok (.iload_n 2, 1) := by decide +kernel
theorem dX1_tell_10 : decode cX1_tell 10 = .ok (.tableswitch 91 0 5 #[38, 45, 55, 65, 75, 85], 38) := by decide +kernel
theorem dX1_tell_48 : decode cX1_tell 48 = .ok (.aload_n 0, 1) := by decide +kernel
theorem dX1_tell_49 : decode cX1_tell 49 = .ok (.getfield 9, 3) := by decide +kernel
theorem dX1_tell_52 : decode cX1_tell 52 = .ok (.iload_n 1, 1) := by decide +kernel
theorem dX1_tell_53 : decode cX1_tell 53 = .ok (.iaload, 1) := by decide +kernel
theorem dX1_tell_54 : decode cX1_tell 54 = .ok (.ireturn, 1) := by decide +kernel
theorem dX1_tell_55 : decode cX1_tell 55 = .ok (.aload_n 0, 1) := by decide +kernel
theorem dX1_tell_56 : decode cX1_tell 56 = .ok (.getfield 15, 3) := by decide +kernel
theorem dX1_tell_59 : decode cX1_tell 59 = .ok (.iload_n 1, 1) := by decide +kernel
theorem dX1_tell_60 : decode cX1_tell 60 = .ok (.iaload, 1) := by decide +kernel
theorem dX1_tell_61 : decode cX1_tell 61 = .ok (.invokestatic 73, 3) := by decide +kernel
theorem dX1_tell_64 : decode cX1_tell 64 = .ok (.ireturn, 1) := by decide +kernel
theorem dX1_tell_65 : decode cX1_tell 65 = .ok (.aload_n 0, 1) := by decide +kernel
theorem dX1_tell_66 : decode cX1_tell 66 = .ok (.getfield 21, 3) := by decide +kernel
theorem dX1_tell_69 : decode cX1_tell 69 = .ok (.iload_n 1, 1) := by decide +kernel
theorem dX1_tell_70 : decode cX1_tell 70 = .ok (.iaload, 1) := by decide +kernel
theorem dX1_tell_71 : decode cX1_tell 71 = .ok (.invokestatic 73, 3) := by decide +kernel
theorem dX1_tell_74 : decode cX1_tell 74 = .ok (.ireturn, 1) := by decide +kernel
theorem dX1_tell_75 : decode cX1_tell 75 = .ok (.aload_n 0, 1) := by decide +kernel
theorem dX1_tell_76 : decode cX1_tell 76 = .ok (.getfield 24, 3) := by decide +kernel
theorem dX1_tell_79 : decode cX1_tell 79 = .ok (.iload_n 1, 1) := by decide +kernel
theorem dX1_tell_80 : decode cX1_tell 80 = .ok (.iaload, 1) := by decide +kernel
theorem dX1_tell_81 : decode cX1_tell 81 = .ok (.invokestatic 73, 3) := by decide +kernel
theorem dX1_tell_84 : decode cX1_tell 84 = .ok (.ireturn, 1) := by decide +kernel
theorem dX1_tell_85 : decode cX1_tell 85 = .ok (.aload_n 0, 1) := by decide +kernel
theorem dX1_tell_86 : decode cX1_tell 86 = .ok (.getfield 18, 3) := by decide +kernel
theorem dX1_tell_89 : decode cX1_tell 89 = .ok (.iload_n 1, 1) := by decide +kernel
theorem dX1_tell_90 : decode cX1_tell 90 = .ok (.iaload, 1) := by decide +kernel
theorem dX1_tell_91 : decode cX1_tell 91 = .ok (.invokestatic 73, 3) := by decide +kernel
theorem dX1_tell_94 : decode cX1_tell 94 = .ok (.ireturn, 1) := by decide +kernel
theorem dX1_tell_95 : decode cX1_tell 95 = .ok (.aload_n 0, 1) := by decide +kernel
theorem dX1_tell_96 : decode cX1_tell 96 = .ok (.iload_n 1, 1) := by decide +kernel
theorem dX1_tell_97 : decode cX1_tell 97 = .ok (.invokevirtual 77, 3) := by decide +kernel
theorem dX1_tell_100 : decode cX1_tell 100 = .ok (.ireturn, 1) := by decide +kernel
theorem dX1_tell_101 : decode cX1_tell 101 = .ok (.iconst (-1), 1) := by decide +kernel
theorem dX1_tell_102 : decode cX1_tell 102 = .ok (.ireturn, 1) := by decide +kernel
set_option maxRecDepth 20000 in
theorem ggX1_tellLateness_X1_isNumber : GoodIn wsX1_tellLateness wsX1_isNumber := goodIn_r _ [6] (by decide +kernel) (by decide +kernel)
set_option maxRecDepth 20000 in
theorem gX1_tellLateness_X1_isNumber : GoodIn wsX1_tellLateness (va_wsS RX1 52 yX1_isNumber wsX1_isNumber) := goodIn_app (goodIn_of _ (by decide +kernel)) ggX1_tellLateness_X1_isNumber
theorem dX1_tellLateness_0 : decode cX1_tellLateness 0 = .ok (.iload_n 1, 1) := by decide +kernel
theorem dX1_tellLateness_1 : decode cX1_tellLateness 1 = .ok (.invokestatic 52, 3) := by decide +kernel
theorem dX1_tellLateness_4 : decode cX1_tellLateness 4 = .ok (.ifCond .eq 13, 3) := by decide +kernel
theorem dX1_tellLateness_7 : decode cX1_tellLateness 7 = .ok (.aload_n 0, 1) := by decide +kernel
theorem dX1_tellLateness_8 : decode cX1_tellLateness 8 = .ok (.getfield 21, 3) := by decide +kernel
theorem dX1_tellLateness_11 : decode cX1_tellLateness 11 = .ok (.iload_n 1, 1) := by decide +kernel
theorem dX1_tellLateness_12 : decode cX1_tellLateness 12 = .ok (.iaload, 1) := by decide +kernel
theorem dX1_tellLateness_13 : decode cX1_tellLateness 13 = .ok (.iconst (-1), 1) := by decide +kernel
theorem dX1_tellLateness_14 : decode cX1_tellLateness 14 = .ok (.if_icmp .ne 6, 3) := by decide +kernel
theorem dX1_tellLateness_17 : decode cX1_tellLateness 17 = .ok (.bipush (-4), 2) := by decide +kernel
theorem dX1_tellLateness_19 : decode cX1_tellLateness 19 = .ok (.ireturn, 1) := by decide +kernel
theorem dX1_tellLateness_20 : decode cX1_tellLateness 20 = .ok (.iconst 0, 1) := by decide +kernel
theorem dX1_tellLateness_21 : decode cX1_tellLateness 21 = .ok (.istore_n 2, 1) := by decide +kernel
theorem dX1_tellLateness_22 : decode cX1_tellLateness 22 = .ok (.iload_n 2, 1) := by decide +kernel
theorem dX1_tellLateness_23 : decode cX1_tellLateness 23 = .ok (.aload_n 0, 1) := by decide +kernel
theorem dX1_tellLateness_24 : decode cX1_tellLateness 24 = .ok (.getfield 27, 3) := by decide +kernel
theorem dX1_tellLateness_27 : decode cX1_tellLateness 27 = .ok (.arraylength, 1) := by decide +kernel
theorem dX1_tellLateness_28 : decode cX1_tellLateness 28 = .ok (.if_icmp .ge 31, 3) := by decide +kernel
theorem dX1_tellLateness_31 : decode cX1_tellLateness 31 = .ok (.iload_n 2, 1) := by decide +kernel
theorem dX1_tellLateness_32 : decode cX1_tellLateness 32 = .ok (.aload_n 0, 1) := by decide +kernel
theorem dX1_tellLateness_33 : decode cX1_tellLateness 33 = .ok (.getfield 21, 3) := by decide +kernel
theorem dX1_tellLateness_36 : decode cX1_tellLateness 36 = .ok (.iload_n 1, 1) := by decide +kernel
theorem dX1_tellLateness_37 : decode cX1_tellLateness 37 = .ok (.iaload, 1) := by decide +kernel
theorem dX1_tellLateness_38 : decode cX1_tellLateness 38 = .ok (.if_icmp .ge 21, 3) := by decide +kernel
theorem dX1_tellLateness_41 : decode cX1_tellLateness 41 = .ok (.aload_n 0, 1) := by decide +kernel
theorem dX1_tellLateness_42 : decode cX1_tellLateness 42 = .ok (.getfield 27, 3) := by decide +kernel
theorem dX1_tellLateness_45 : decode cX1_tellLateness 45 = .ok (.iload_n 2, 1) := by decide +kernel
theorem dX1_tellLateness_46 : decode cX1_tellLateness 46 = .ok (.iaload, 1) := by decide +kernel
theorem dX1_tellLateness_47 : decode cX1_tellLateness 47 = .ok (.iload_n 1, 1) := by decide +kernel
theorem dX1_tellLateness_48 : decode cX1_tellLateness 48 = .ok (.if_icmp .le 5, 3) := by decide +kernel
theorem dX1_tellLateness_51 : decode cX1_tellLateness 51 = .ok (.iconst 1, 1) := by decide +kernel
theorem dX1_tellLateness_52 : decode cX1_tellLateness 52 = .ok (.ireturn, 1) := by decide +kernel
theorem dX1_tellLateness_53 : decode cX1_tellLateness 53 = .ok (.iinc 2 1, 3) := by decide +kernel
theorem dX1_tellLateness_56 : decode cX1_tellLateness 56 = .ok (.goto (-34), 3) := by decide +kernel
theorem dX1_tellLateness_59 : decode cX1_tellLateness 59 = .ok (.iconst 0, 1) := by decide +kernel
theorem dX1_tellLateness_60 : decode cX1_tellLateness 60 = .ok (.ireturn, 1) := by decide +kernel
theorem dX1_lateOnes_0 : decode cX1_lateOnes 0 = .ok (.iconst 0, 1) := by decide +kernel
theorem dX1_lateOnes_1 : decode cX1_lateOnes 1 = .ok (.istore_n 1, 1) := by decide +kernel
theorem dX1_lateOnes_2 : decode cX1_lateOnes 2 = .ok (.iconst 0, 1) := by decide +kernel
theorem dX1_lateOnes_3 : decode cX1_lateOnes 3 = .ok (.istore_n 2, 1) := by decide +kernel
theorem dX1_lateOnes_4 : decode cX1_lateOnes 4 = .ok (.iconst 0, 1) := by decide +kernel
theorem dX1_lateOnes_5 : decode cX1_lateOnes 5 = .ok (.istore_n 3, 1) := by decide +kernel
theorem dX1_lateOnes_6 : decode cX1_lateOnes 6 = .ok (.iload_n 3, 1) := by decide +kernel
theorem dX1_lateOnes_7 : decode cX1_lateOnes 7 = .ok (.aload_n 0, 1) := by decide +kernel
theorem dX1_lateOnes_8 : decode cX1_lateOnes 8 = .ok (.getfield 27, 3) := by decide +kernel
theorem dX1_lateOnes_11 : decode cX1_lateOnes 11 = .ok (.arraylength, 1) := by decide +kernel
theorem dX1_lateOnes_12 : decode cX1_lateOnes 12 = .ok (.if_icmp .ge 41, 3) := by decide +kernel
theorem dX1_lateOnes_15 : decode cX1_lateOnes 15 = .ok (.iload_n 3, 1) := by decide +kernel
theorem dX1_lateOnes_16 : decode cX1_lateOnes 16 = .ok (.aload_n 0, 1) := by decide +kernel
theorem dX1_lateOnes_17 : decode cX1_lateOnes 17 = .ok (.getfield 30, 3) := by decide +kernel
theorem dX1_lateOnes_20 : decode cX1_lateOnes 20 = .ok (.if_icmp .ge 33, 3) := by decide +kernel
theorem dX1_lateOnes_23 : decode cX1_lateOnes 23 = .ok (.aload_n 0, 1) := by decide +kernel
theorem dX1_lateOnes_24 : decode cX1_lateOnes 24 = .ok (.getfield 27, 3) := by decide +kernel
theorem dX1_lateOnes_27 : decode cX1_lateOnes 27 = .ok (.iload_n 3, 1) := by decide +kernel
theorem dX1_lateOnes_28 : decode cX1_lateOnes 28 = .ok (.iaload, 1) := by decide +kernel
theorem dX1_lateOnes_29 : decode cX1_lateOnes 29 = .ok (.iload_n 2, 1) := by decide +kernel
theorem dX1_lateOnes_30 : decode cX1_lateOnes 30 = .ok (.if_icmp .ge 6, 3) := by decide +kernel
theorem dX1_lateOnes_33 : decode cX1_lateOnes 33 = .ok (.iinc 1 1, 3) := by decide +kernel
theorem dX1_lateOnes_36 : decode cX1_lateOnes 36 = .ok (.iload_n 2, 1) := by decide +kernel
theorem dX1_lateOnes_37 : decode cX1_lateOnes 37 = .ok (.aload_n 0, 1) := by decide +kernel
theorem dX1_lateOnes_38 : decode cX1_lateOnes 38 = .ok (.getfield 27, 3) := by decide +kernel
theorem dX1_lateOnes_41 : decode cX1_lateOnes 41 = .ok (.iload_n 3, 1) := by decide +kernel
theorem dX1_lateOnes_42 : decode cX1_lateOnes 42 = .ok (.iaload, 1) := by decide +kernel
theorem dX1_lateOnes_43 : decode cX1_lateOnes 43 = .ok (.invokestatic 49, 3) := by decide +kernel
theorem dX1_lateOnes_46 : decode cX1_lateOnes 46 = .ok (.istore_n 2, 1) := by decide +kernel
theorem dX1_lateOnes_47 : decode cX1_lateOnes 47 = .ok (.iinc 3 1, 3) := by decide +kernel
theorem dX1_lateOnes_50 : decode cX1_lateOnes 50 = .ok (.goto (-44), 3) := by decide +kernel
theorem dX1_lateOnes_53 : decode cX1_lateOnes 53 = .ok (.iload_n 1, 1) := by decide +kernel
theorem dX1_lateOnes_54 : decode cX1_lateOnes 54 = .ok (.ireturn, 1) := by decide +kernel
theorem dX1_givenIn_0 : decode cX1_givenIn 0 = .ok (.iload_n 1, 1) := by decide +kernel
theorem dX1_givenIn_1 : decode cX1_givenIn 1 = .ok (.ifCond .lt 29, 3) := by decide +kernel
theorem dX1_givenIn_4 : decode cX1_givenIn 4 = .ok (.iload_n 1, 1) := by decide +kernel
theorem dX1_givenIn_5 : decode cX1_givenIn 5 = .ok (.aload_n 0, 1) := by decide +kernel
theorem dX1_givenIn_6 : decode cX1_givenIn 6 = .ok (.getfield 30, 3) := by decide +kernel
theorem dX1_givenIn_9 : decode cX1_givenIn 9 = .ok (.if_icmp .ge 21, 3) := by decide +kernel
theorem dX1_givenIn_12 : decode cX1_givenIn 12 = .ok (.iload_n 1, 1) := by decide +kernel
theorem dX1_givenIn_13 : decode cX1_givenIn 13 = .ok (.aload_n 0, 1) := by decide +kernel
theorem dX1_givenIn_14 : decode cX1_givenIn 14 = .ok (.getfield 27, 3) := by decide +kernel
theorem dX1_givenIn_17 : decode cX1_givenIn 17 = .ok (.arraylength, 1) := by decide +kernel
theorem dX1_givenIn_18 : decode cX1_givenIn 18 = .ok (.if_icmp .ge 12, 3) := by decide +kernel
theorem dX1_givenIn_21 : decode cX1_givenIn 21 = .ok (.aload_n 0, 1) := by decide +kernel
theorem dX1_givenIn_22 : decode cX1_givenIn 22 = .ok (.getfield 27, 3) := by decide +kernel
theorem dX1_givenIn_25 : decode cX1_givenIn 25 = .ok (.iload_n 1, 1) := by decide +kernel
theorem dX1_givenIn_26 : decode cX1_givenIn 26 = .ok (.iaload, 1) := by decide +kernel
theorem dX1_givenIn_27 : decode cX1_givenIn 27 = .ok (.goto 5, 3) := by decide +kernel
theorem dX1_givenIn_30 : decode cX1_givenIn 30 = .ok (.bipush (-4), 2) := by decide +kernel
theorem dX1_givenIn_32 : decode cX1_givenIn 32 = .ok (.ireturn, 1) := by decide +kernel
theorem dX1_givenWithoutGap_0 : decode cX1_givenWithoutGap 0 = .ok (.iconst 0, 1) := by decide +kernel
theorem dX1_givenWithoutGap_1 : decode cX1_givenWithoutGap 1 = .ok (.istore_n 1, 1) := by decide +kernel
theorem dX1_givenWithoutGap_2 : decode cX1_givenWithoutGap 2 = .ok (.iload_n 1, 1) := by decide +kernel
theorem dX1_givenWithoutGap_3 : decode cX1_givenWithoutGap 3 = .ok (.sipush 600, 3) := by decide +kernel
theorem dX1_givenWithoutGap_6 : decode cX1_givenWithoutGap 6 = .ok (.if_icmp .ge 21, 3) := by decide +kernel
theorem dX1_givenWithoutGap_9 : decode cX1_givenWithoutGap 9 = .ok (.aload_n 0, 1) := by decide +kernel
theorem dX1_givenWithoutGap_10 : decode cX1_givenWithoutGap 10 = .ok (.getfield 9, 3) := by decide +kernel
theorem dX1_givenWithoutGap_13 : decode cX1_givenWithoutGap 13 = .ok (.iload_n 1, 1) := by decide +kernel
theorem dX1_givenWithoutGap_14 : decode cX1_givenWithoutGap 14 = .ok (.iconst 1, 1) := by decide +kernel
theorem dX1_givenWithoutGap_15 : decode cX1_givenWithoutGap 15 = .ok (.iadd, 1) := by decide +kernel
theorem dX1_givenWithoutGap_16 : decode cX1_givenWithoutGap 16 = .ok (.iaload, 1) := by decide +kernel
theorem dX1_givenWithoutGap_17 : decode cX1_givenWithoutGap 17 = .ok (.iconst 2, 1) := by decide +kernel
theorem dX1_givenWithoutGap_18 : decode cX1_givenWithoutGap 18 = .ok (.if_icmp .ne 9, 3) := by decide +kernel
theorem dX1_givenWithoutGap_21 : decode cX1_givenWithoutGap 21 = .ok (.iinc 1 1, 3) := by decide +kernel
theorem dX1_givenWithoutGap_24 : decode cX1_givenWithoutGap 24 = .ok (.goto (-22), 3) := by decide +kernel
theorem dX1_givenWithoutGap_27 : decode cX1_givenWithoutGap 27 = .ok (.iload_n 1, 1) := by decide +kernel
theorem dX1_givenWithoutGap_28 : decode cX1_givenWithoutGap 28 = .ok (.ireturn, 1) := by decide +kernel
theorem dX1_inState_0 : decode cX1_inState 0 = .ok (.iconst 0, 1) := by decide +kernel
theorem dX1_inState_1 : decode cX1_inState 1 = .ok (.istore 4, 2) := by decide +kernel
theorem dX1_inState_3 : decode cX1_inState 3 = .ok (.iload_n 1, 1) := by decide +kernel
theorem dX1_inState_4 : decode cX1_inState 4 = .ok (.iconst 1, 1) := by decide +kernel
theorem dX1_inState_5 : decode cX1_inState 5 = .ok (.invokestatic 49, 3) := by decide +kernel
theorem dX1_inState_8 : decode cX1_inState 8 = .ok (.istore 5, 2) := by decide +kernel
theorem dX1_inState_10 : decode cX1_inState 10 = .ok (.iload 5, 2) := by decide +kernel
theorem dX1_inState_12 : decode cX1_inState 12 = .ok (.iload_n 2, 1) := by decide +kernel
theorem dX1_inState_13 : decode cX1_inState 13 = .ok (.if_icmp .gt 31, 3) := by decide +kernel
theorem dX1_inState_16 : decode cX1_inState 16 = .ok (.iload 5, 2) := by decide +kernel
theorem dX1_inState_18 : decode cX1_inState 18 = .ok (.sipush 600, 3) := by decide +kernel
theorem dX1_inState_21 : decode cX1_inState 21 = .ok (.if_icmp .gt 23, 3) := by decide +kernel
theorem dX1_inState_24 : decode cX1_inState 24 = .ok (.aload_n 0, 1) := by decide +kernel
theorem dX1_inState_25 : decode cX1_inState 25 = .ok (.getfield 9, 3) := by decide +kernel
theorem dX1_inState_28 : decode cX1_inState 28 = .ok (.iload 5, 2) := by decide +kernel
theorem dX1_inState_30 : decode cX1_inState 30 = .ok (.iaload, 1) := by decide +kernel
theorem dX1_inState_31 : decode cX1_inState 31 = .ok (.iload_n 3, 1) := by decide +kernel
theorem dX1_inState_32 : decode cX1_inState 32 = .ok (.if_icmp .ne 6, 3) := by decide +kernel
theorem dX1_inState_35 : decode cX1_inState 35 = .ok (.iinc 4 1, 3) := by decide +kernel
theorem dX1_inState_38 : decode cX1_inState 38 = .ok (.iinc 5 1, 3) := by decide +kernel
theorem dX1_inState_41 : decode cX1_inState 41 = .ok (.goto (-31), 3) := by decide +kernel
theorem dX1_inState_44 : decode cX1_inState 44 = .ok (.iload 4, 2) := by decide +kernel
theorem dX1_inState_46 : decode cX1_inState 46 = .ok (.ireturn, 1) := by decide +kernel
theorem dX1_withReason_0 : decode cX1_withReason 0 = .ok (.iconst 0, 1) := by decide +kernel
theorem dX1_withReason_1 : decode cX1_withReason 1 = .ok (.istore 4, 2) := by decide +kernel
theorem dX1_withReason_3 : decode cX1_withReason 3 = .ok (.iload_n 1, 1) := by decide +kernel
theorem dX1_withReason_4 : decode cX1_withReason 4 = .ok (.iconst 1, 1) := by decide +kernel
theorem dX1_withReason_5 : decode cX1_withReason 5 = .ok (.invokestatic 49, 3) := by decide +kernel
theorem dX1_withReason_8 : decode cX1_withReason 8 = .ok (.istore 5, 2) := by decide +kernel
theorem dX1_withReason_10 : decode cX1_withReason 10 = .ok (.iload 5, 2) := by decide +kernel
theorem dX1_withReason_12 : decode cX1_withReason 12 = .ok (.iload_n 2, 1) := by decide +kernel
theorem dX1_withReason_13 : decode cX1_withReason 13 = .ok (.if_icmp .gt 31, 3) := by decide +kernel
theorem dX1_withReason_16 : decode cX1_withReason 16 = .ok (.iload 5, 2) := by decide +kernel
theorem dX1_withReason_18 : decode cX1_withReason 18 = .ok (.sipush 600, 3) := by decide +kernel
theorem dX1_withReason_21 : decode cX1_withReason 21 = .ok (.if_icmp .gt 23, 3) := by decide +kernel
theorem dX1_withReason_24 : decode cX1_withReason 24 = .ok (.aload_n 0, 1) := by decide +kernel
theorem dX1_withReason_25 : decode cX1_withReason 25 = .ok (.getfield 18, 3) := by decide +kernel
theorem dX1_withReason_28 : decode cX1_withReason 28 = .ok (.iload 5, 2) := by decide +kernel
theorem dX1_withReason_30 : decode cX1_withReason 30 = .ok (.iaload, 1) := by decide +kernel
theorem dX1_withReason_31 : decode cX1_withReason 31 = .ok (.iload_n 3, 1) := by decide +kernel
theorem dX1_withReason_32 : decode cX1_withReason 32 = .ok (.if_icmp .ne 6, 3) := by decide +kernel
theorem dX1_withReason_35 : decode cX1_withReason 35 = .ok (.iinc 4 1, 3) := by decide +kernel
theorem dX1_withReason_38 : decode cX1_withReason 38 = .ok (.iinc 5 1, 3) := by decide +kernel
theorem dX1_withReason_41 : decode cX1_withReason 41 = .ok (.goto (-31), 3) := by decide +kernel
theorem dX1_withReason_44 : decode cX1_withReason 44 = .ok (.iload 4, 2) := by decide +kernel
theorem dX1_withReason_46 : decode cX1_withReason 46 = .ok (.ireturn, 1) := by decide +kernel
theorem dX1_holesOf_0 : decode cX1_holesOf 0 = .ok (.iconst 0, 1) := by decide +kernel
theorem dX1_holesOf_1 : decode cX1_holesOf 1 = .ok (.istore_n 2, 1) := by decide +kernel
theorem dX1_holesOf_2 : decode cX1_holesOf 2 = .ok (.iconst 1, 1) := by decide +kernel
theorem dX1_holesOf_3 : decode cX1_holesOf 3 = .ok (.istore_n 3, 1) := by decide +kernel
theorem dX1_holesOf_4 : decode cX1_holesOf 4 = .ok (.iload_n 3, 1) := by decide +kernel
theorem dX1_holesOf_5 : decode cX1_holesOf 5 = .ok (.sipush 600, 3) := by decide +kernel
theorem dX1_holesOf_8 : decode cX1_holesOf 8 = .ok (.if_icmp .gt 32, 3) := by decide +kernel
theorem dX1_holesOf_11 : decode cX1_holesOf 11 = .ok (.aload_n 0, 1) := by decide +kernel
theorem dX1_holesOf_12 : decode cX1_holesOf 12 = .ok (.getfield 9, 3) := by decide +kernel
theorem dX1_holesOf_15 : decode cX1_holesOf 15 = .ok (.iload_n 3, 1) := by decide +kernel
theorem dX1_holesOf_16 : decode cX1_holesOf 16 = .ok (.iaload, 1) := by decide +kernel
theorem dX1_holesOf_17 : decode cX1_holesOf 17 = .ok (.iconst 4, 1) := by decide +kernel
theorem dX1_holesOf_18 : decode cX1_holesOf 18 = .ok (.if_icmp .ne 16, 3) := by decide +kernel
theorem dX1_holesOf_21 : decode cX1_holesOf 21 = .ok (.aload_n 0, 1) := by decide +kernel
theorem dX1_holesOf_22 : decode cX1_holesOf 22 = .ok (.getfield 15, 3) := by decide +kernel
theorem dX1_holesOf_25 : decode cX1_holesOf 25 = .ok (.iload_n 3, 1) := by decide +kernel
theorem dX1_holesOf_26 : decode cX1_holesOf 26 = .ok (.iaload, 1) := by decide +kernel
theorem dX1_holesOf_27 : decode cX1_holesOf 27 = .ok (.iload_n 1, 1) := by decide +kernel
theorem dX1_holesOf_28 : decode cX1_holesOf 28 = .ok (.if_icmp .ne 6, 3) := by decide +kernel
theorem dX1_holesOf_31 : decode cX1_holesOf 31 = .ok (.iinc 2 1, 3) := by decide +kernel
theorem dX1_holesOf_34 : decode cX1_holesOf 34 = .ok (.iinc 3 1, 3) := by decide +kernel
theorem dX1_holesOf_37 : decode cX1_holesOf 37 = .ok (.goto (-33), 3) := by decide +kernel
theorem dX1_holesOf_40 : decode cX1_holesOf 40 = .ok (.iload_n 2, 1) := by decide +kernel
theorem dX1_holesOf_41 : decode cX1_holesOf 41 = .ok (.ireturn, 1) := by decide +kernel
theorem dX1_forgottenOf_0 : decode cX1_forgottenOf 0 = .ok (.iconst 0, 1) := by decide +kernel
theorem dX1_forgottenOf_1 : decode cX1_forgottenOf 1 = .ok (.istore_n 2, 1) := by decide +kernel
theorem dX1_forgottenOf_2 : decode cX1_forgottenOf 2 = .ok (.iconst 1, 1) := by decide +kernel
theorem dX1_forgottenOf_3 : decode cX1_forgottenOf 3 = .ok (.istore_n 3, 1) := by decide +kernel
theorem dX1_forgottenOf_4 : decode cX1_forgottenOf 4 = .ok (.iload_n 3, 1) := by decide +kernel
theorem dX1_forgottenOf_5 : decode cX1_forgottenOf 5 = .ok (.sipush 600, 3) := by decide +kernel
theorem dX1_forgottenOf_8 : decode cX1_forgottenOf 8 = .ok (.if_icmp .gt 31, 3) := by decide +kernel
theorem dX1_forgottenOf_11 : decode cX1_forgottenOf 11 = .ok (.aload_n 0, 1) := by decide +kernel
theorem dX1_forgottenOf_12 : decode cX1_forgottenOf 12 = .ok (.getfield 18, 3) := by decide +kernel
theorem dX1_forgottenOf_15 : decode cX1_forgottenOf 15 = .ok (.iload_n 3, 1) := by decide +kernel
theorem dX1_forgottenOf_16 : decode cX1_forgottenOf 16 = .ok (.iaload, 1) := by decide +kernel
theorem dX1_forgottenOf_17 : decode cX1_forgottenOf 17 = .ok (.ifCond .ne 16, 3) := by decide +kernel
theorem dX1_forgottenOf_20 : decode cX1_forgottenOf 20 = .ok (.aload_n 0, 1) := by decide +kernel
theorem dX1_forgottenOf_21 : decode cX1_forgottenOf 21 = .ok (.getfield 15, 3) := by decide +kernel
theorem dX1_forgottenOf_24 : decode cX1_forgottenOf 24 = .ok (.iload_n 3, 1) := by decide +kernel
theorem dX1_forgottenOf_25 : decode cX1_forgottenOf 25 = .ok (.iaload, 1) := by decide +kernel
theorem dX1_forgottenOf_26 : decode cX1_forgottenOf 26 = .ok (.iload_n 1, 1) := by decide +kernel
theorem dX1_forgottenOf_27 : decode cX1_forgottenOf 27 = .ok (.if_icmp .ne 6, 3) := by decide +kernel
theorem dX1_forgottenOf_30 : decode cX1_forgottenOf 30 = .ok (.iinc 2 1, 3) := by decide +kernel
theorem dX1_forgottenOf_33 : decode cX1_forgottenOf 33 = .ok (.iinc 3 1, 3) := by decide +kernel
theorem dX1_forgottenOf_36 : decode cX1_forgottenOf 36 = .ok (.goto (-32), 3) := by decide +kernel
theorem dX1_forgottenOf_39 : decode cX1_forgottenOf 39 = .ok (.iload_n 2, 1) := by decide +kernel
theorem dX1_forgottenOf_40 : decode cX1_forgottenOf 40 = .ok (.ireturn, 1) := by decide +kernel
