set_option maxRecDepth 20000 in
theorem ggX2_init_X1_init : GoodIn wsX2_init wsX1_init := goodIn_r _ [18, 19, 2, 3, 11, 20, 21, 22, 23, 24, 25, 26, 27, 38, 39, 40, 41, 42, 43, 44, 45] (by decide +kernel) (by decide +kernel)
set_option maxRecDepth 20000 in
theorem gX2_init_X1_init : GoodIn wsX2_init (wsX1_init) := ggX2_init_X1_init
set_option maxRecDepth 20000 in
theorem ggX2_init_X0_init : GoodIn wsX2_init wsX0_init := goodIn_r _ [29, 30, 2, 3, 31, 32, 33, 34, 35, 36, 37, 51, 52, 53, 54, 55, 56, 57] (by decide +kernel) (by decide +kernel)
set_option maxRecDepth 20000 in
theorem gX2_init_X0_init_n35 : GoodIn wsX2_init (wsX0_init) := ggX2_init_X0_init
theorem dX2_init_0 : decode cX2_init 0 = .ok (.aload_n 0, 1) := by decide +kernel
theorem dX2_init_1 : decode cX2_init 1 = .ok (.invokespecial 3, 3) := by decide +kernel
theorem dX2_init_4 : decode cX2_init 4 = .ok (.aload_n 0, 1) := by decide +kernel
theorem dX2_init_5 : decode cX2_init 5 = .ok (.new 9, 3) := by decide +kernel
theorem dX2_init_8 : decode cX2_init 8 = .ok (.dup, 1) := by decide +kernel
theorem dX2_init_9 : decode cX2_init 9 = .ok (.invokespecial 11, 3) := by decide +kernel
theorem dX2_init_12 : decode cX2_init 12 = .ok (.putfield 12, 3) := by decide +kernel
theorem dX2_init_15 : decode cX2_init 15 = .ok (.aload_n 0, 1) := by decide +kernel
theorem dX2_init_16 : decode cX2_init 16 = .ok (.bipush 6, 2) := by decide +kernel
theorem dX2_init_18 : decode cX2_init 18 = .ok (.anewarray 18, 3) := by decide +kernel
theorem dX2_init_21 : decode cX2_init 21 = .ok (.putfield 20, 3) := by decide +kernel
theorem dX2_init_24 : decode cX2_init 24 = .ok (.aload_n 0, 1) := by decide +kernel
theorem dX2_init_25 : decode cX2_init 25 = .ok (.iconst 0, 1) := by decide +kernel
theorem dX2_init_26 : decode cX2_init 26 = .ok (.putfield 24, 3) := by decide +kernel
theorem dX2_init_29 : decode cX2_init 29 = .ok (.aload_n 0, 1) := by decide +kernel
theorem dX2_init_30 : decode cX2_init 30 = .ok (.iconst 3, 1) := by decide +kernel
theorem dX2_init_31 : decode cX2_init 31 = .ok (.newarray .int, 2) := by decide +kernel
theorem dX2_init_33 : decode cX2_init 33 = .ok (.dup, 1) := by decide +kernel
theorem dX2_init_34 : decode cX2_init 34 = .ok (.iconst 0, 1) := by decide +kernel
theorem dX2_init_35 : decode cX2_init 35 = .ok (.bipush 10, 2) := by decide +kernel
theorem dX2_init_37 : decode cX2_init 37 = .ok (.iastore, 1) := by decide +kernel
theorem dX2_init_38 : decode cX2_init 38 = .ok (.dup, 1) := by decide +kernel
theorem dX2_init_39 : decode cX2_init 39 = .ok (.iconst 1, 1) := by decide +kernel
theorem dX2_init_40 : decode cX2_init 40 = .ok (.iconst 1, 1) := by decide +kernel
theorem dX2_init_41 : decode cX2_init 41 = .ok (.iastore, 1) := by decide +kernel
theorem dX2_init_42 : decode cX2_init 42 = .ok (.dup, 1) := by decide +kernel
theorem dX2_init_43 : decode cX2_init 43 = .ok (.iconst 2, 1) := by decide +kernel
theorem dX2_init_44 : decode cX2_init 44 = .ok (.iconst 4, 1) := by decide +kernel
theorem dX2_init_45 : decode cX2_init 45 = .ok (.iastore, 1) := by decide +kernel
theorem dX2_init_46 : decode cX2_init 46 = .ok (.putfield 28, 3) := by decide +kernel
theorem dX2_init_49 : decode cX2_init 49 = .ok (.aload_n 0, 1) := by decide +kernel
theorem dX2_init_50 : decode cX2_init 50 = .ok (.iconst 0, 1) := by decide +kernel
theorem dX2_init_51 : decode cX2_init 51 = .ok (.putfield 32, 3) := by decide +kernel
theorem dX2_init_54 : decode cX2_init 54 = .ok (.iconst 0, 1) := by decide +kernel
theorem dX2_init_55 : decode cX2_init 55 = .ok (.istore_n 1, 1) := by decide +kernel
theorem dX2_init_56 : decode cX2_init 56 = .ok (.iload_n 1, 1) := by decide +kernel
theorem dX2_init_57 : decode cX2_init 57 = .ok (.aload_n 0, 1) := by decide +kernel
theorem dX2_init_58 : decode cX2_init 58 = .ok (.getfield 20, 3) := by decide +kernel
theorem dX2_init_61 : decode cX2_init 61 = .ok (.arraylength, 1) := by decide +kernel
theorem dX2_init_62 : decode cX2_init 62 = .ok (.if_icmp .ge 22, 3) := by decide +kernel
theorem dX2_init_65 : decode cX2_init 65 = .ok (.aload_n 0, 1) := by decide +kernel
theorem dX2_init_66 : decode cX2_init 66 = .ok (.getfield 20, 3) := by decide +kernel
theorem dX2_init_69 : decode cX2_init 69 = .ok (.iload_n 1, 1) := by decide +kernel
theorem dX2_init_70 : decode cX2_init 70 = .ok (.new 18, 3) := by decide +kernel
theorem dX2_init_73 : decode cX2_init 73 = .ok (.dup, 1) := by decide +kernel
theorem dX2_init_74 : decode cX2_init 74 = .ok (.invokespecial 35, 3) := by decide +kernel
theorem dX2_init_77 : decode cX2_init 77 = .ok (.aastore, 1) := by decide +kernel
theorem dX2_init_78 : decode cX2_init 78 = .ok (.iinc 1 1, 3) := by decide +kernel
theorem dX2_init_81 : decode cX2_init 81 = .ok (.goto (-25), 3) := by decide +kernel
theorem dX2_init_84 : decode cX2_init 84 = .ok (.return_, 1) := by decide +kernel
set_option maxRecDepth 20000 in
theorem ggX2_become_X1_become : GoodIn wsX2_become wsX1_become := goodIn_r _ [14, 15, 16, 6, 7, 8, 17, 18, 19, 20, 21, 22, 23, 41, 42, 43, 44, 45, 46, 47, 48] (by decide +kernel) (by decide +kernel)
set_option maxRecDepth 20000 in
theorem gX2_become_X1_become : GoodIn wsX2_become (wsV RX2 36 RX1 yX1_become wsX1_become) := goodIn_app (goodIn_of _ (by decide +kernel)) ggX2_become_X1_become
set_option maxRecDepth 20000 in
theorem ggX2_become_X0_become : GoodIn wsX2_become wsX0_become := goodIn_r _ [28, 29, 30, 31, 32, 33, 34, 35, 49, 50, 51, 52, 53, 54, 55] (by decide +kernel) (by decide +kernel)
set_option maxRecDepth 20000 in
theorem gX2_become_X0_become : GoodIn wsX2_become (wsV RX2 40 RX0 yX0_become wsX0_become) := goodIn_app (goodIn_of _ (by decide +kernel)) ggX2_become_X0_become
theorem dX2_become_0 : decode cX2_become 0 = .ok (.aload_n 0, 1) := by decide +kernel
theorem dX2_become_1 : decode cX2_become 1 = .ok (.getfield 12, 3) := by decide +kernel
theorem dX2_become_4 : decode cX2_become 4 = .ok (.aload_n 1, 1) := by decide +kernel
theorem dX2_become_5 : decode cX2_become 5 = .ok (.getfield 12, 3) := by decide +kernel
theorem dX2_become_8 : decode cX2_become 8 = .ok (.invokevirtual 36, 3) := by decide +kernel
theorem dX2_become_11 : decode cX2_become 11 = .ok (.iconst 0, 1) := by decide +kernel
theorem dX2_become_12 : decode cX2_become 12 = .ok (.istore_n 2, 1) := by decide +kernel
theorem dX2_become_13 : decode cX2_become 13 = .ok (.iload_n 2, 1) := by decide +kernel
theorem dX2_become_14 : decode cX2_become 14 = .ok (.aload_n 0, 1) := by decide +kernel
theorem dX2_become_15 : decode cX2_become 15 = .ok (.getfield 20, 3) := by decide +kernel
theorem dX2_become_18 : decode cX2_become 18 = .ok (.arraylength, 1) := by decide +kernel
theorem dX2_become_19 : decode cX2_become 19 = .ok (.if_icmp .ge 33, 3) := by decide +kernel
theorem dX2_become_22 : decode cX2_become 22 = .ok (.iload_n 2, 1) := by decide +kernel
theorem dX2_become_23 : decode cX2_become 23 = .ok (.aload_n 1, 1) := by decide +kernel
theorem dX2_become_24 : decode cX2_become 24 = .ok (.getfield 20, 3) := by decide +kernel
theorem dX2_become_27 : decode cX2_become 27 = .ok (.arraylength, 1) := by decide +kernel
theorem dX2_become_28 : decode cX2_become 28 = .ok (.if_icmp .ge 24, 3) := by decide +kernel
theorem dX2_become_31 : decode cX2_become 31 = .ok (.aload_n 0, 1) := by decide +kernel
theorem dX2_become_32 : decode cX2_become 32 = .ok (.getfield 20, 3) := by decide +kernel
theorem dX2_become_35 : decode cX2_become 35 = .ok (.iload_n 2, 1) := by decide +kernel
theorem dX2_become_36 : decode cX2_become 36 = .ok (.aaload, 1) := by decide +kernel
theorem dX2_become_37 : decode cX2_become 37 = .ok (.aload_n 1, 1) := by decide +kernel
theorem dX2_become_38 : decode cX2_become 38 = .ok (.getfield 20, 3) := by decide +kernel
theorem dX2_become_41 : decode cX2_become 41 = .ok (.iload_n 2, 1) := by decide +kernel
theorem dX2_become_42 : decode cX2_become 42 = .ok (.aaload, 1) := by decide +kernel
theorem dX2_become_43 : decode cX2_become 43 = .ok (.invokevirtual 40, 3) := by decide +kernel
theorem dX2_become_46 : decode cX2_become 46 = .ok (.iinc 2 1, 3) := by decide +kernel
theorem dX2_become_49 : decode cX2_become 49 = .ok (.goto (-36), 3) := by decide +kernel
theorem dX2_become_52 : decode cX2_become 52 = .ok (.aload_n 0, 1) := by decide +kernel
theorem dX2_become_53 : decode cX2_become 53 = .ok (.aload_n 1, 1) := by decide +kernel
theorem dX2_become_54 : decode cX2_become 54 = .ok (.getfield 24, 3) := by decide +kernel
theorem dX2_become_57 : decode cX2_become 57 = .ok (.putfield 24, 3) := by decide +kernel
theorem dX2_become_60 : decode cX2_become 60 = .ok (.aload_n 1, 1) := by decide +kernel
theorem dX2_become_61 : decode cX2_become 61 = .ok (.getfield 28, 3) := by decide +kernel
theorem dX2_become_64 : decode cX2_become 64 = .ok (.iconst 0, 1) := by decide +kernel
theorem dX2_become_65 : decode cX2_become 65 = .ok (.aload_n 0, 1) := by decide +kernel
theorem dX2_become_66 : decode cX2_become 66 = .ok (.getfield 28, 3) := by decide +kernel
theorem dX2_become_69 : decode cX2_become 69 = .ok (.iconst 0, 1) := by decide +kernel
theorem dX2_become_70 : decode cX2_become 70 = .ok (.aload_n 0, 1) := by decide +kernel
theorem dX2_become_71 : decode cX2_become 71 = .ok (.getfield 28, 3) := by decide +kernel
theorem dX2_become_74 : decode cX2_become 74 = .ok (.arraylength, 1) := by decide +kernel
theorem dX2_become_75 : decode cX2_become 75 = .ok (.invokestatic 43, 3) := by decide +kernel
theorem dX2_become_78 : decode cX2_become 78 = .ok (.aload_n 0, 1) := by decide +kernel
theorem dX2_become_79 : decode cX2_become 79 = .ok (.aload_n 1, 1) := by decide +kernel
theorem dX2_become_80 : decode cX2_become 80 = .ok (.getfield 32, 3) := by decide +kernel
theorem dX2_become_83 : decode cX2_become 83 = .ok (.putfield 32, 3) := by decide +kernel
theorem dX2_become_86 : decode cX2_become 86 = .ok (.return_, 1) := by decide +kernel
theorem dX2_isClerk_0 : decode cX2_isClerk 0 = .ok (.iload_n 1, 1) := by decide +kernel
theorem dX2_isClerk_1 : decode cX2_isClerk 1 = .ok (.ifCond .lt 24, 3) := by decide +kernel
theorem dX2_isClerk_4 : decode cX2_isClerk 4 = .ok (.iload_n 1, 1) := by decide +kernel
theorem dX2_isClerk_5 : decode cX2_isClerk 5 = .ok (.aload_n 0, 1) := by decide +kernel
theorem dX2_isClerk_6 : decode cX2_isClerk 6 = .ok (.getfield 24, 3) := by decide +kernel
theorem dX2_isClerk_9 : decode cX2_isClerk 9 = .ok (.if_icmp .ge 16, 3) := by decide +kernel
theorem dX2_isClerk_12 : decode cX2_isClerk 12 = .ok (.iload_n 1, 1) := by decide +kernel
theorem dX2_isClerk_13 : decode cX2_isClerk 13 = .ok (.aload_n 0, 1) := by decide +kernel
theorem dX2_isClerk_14 : decode cX2_isClerk 14 = .ok (.getfield 20, 3) := by decide +kernel
theorem dX2_isClerk_17 : decode cX2_isClerk 17 = .ok (.arraylength, 1) := by decide +kernel
theorem dX2_isClerk_18 : decode cX2_isClerk 18 = .ok (.if_icmp .ge 7, 3) := by decide +kernel
theorem dX2_isClerk_21 : decode cX2_isClerk 21 = .ok (.iconst 1, 1) := by decide +kernel
theorem dX2_isClerk_22 : decode cX2_isClerk 22 = .ok (.goto 4, 3) := by decide +kernel
theorem dX2_isClerk_25 : decode cX2_isClerk 25 = .ok (.iconst 0, 1) := by decide +kernel
theorem dX2_isClerk_26 : decode cX2_isClerk 26 = .ok (.ireturn, 1) := by decide +kernel
theorem dX2_addClerk_0 : decode cX2_addClerk 0 = .ok (.iload_n 1, 1) := by decide +kernel
theorem dX2_addClerk_1 : decode cX2_addClerk 1 = .ok (.ifCond .lt 8, 3) := by decide +kernel
theorem dX2_addClerk_4 : decode cX2_addClerk 4 = .ok (.iload_n 1, 1) := by decide +kernel
theorem dX2_addClerk_5 : decode cX2_addClerk 5 = .ok (.iconst 2, 1) := by decide +kernel
theorem dX2_addClerk_6 : decode cX2_addClerk 6 = .ok (.if_icmp .le 5, 3) := by decide +kernel
theorem dX2_addClerk_9 : decode cX2_addClerk 9 = .ok (.iconst (-1), 1) := by decide +kernel
theorem dX2_addClerk_10 : decode cX2_addClerk 10 = .ok (.ireturn, 1) := by decide +kernel
theorem dX2_addClerk_11 : decode cX2_addClerk 11 = .ok (.aload_n 0, 1) := by decide +kernel
theorem dX2_addClerk_12 : decode cX2_addClerk 12 = .ok (.getfield 24, 3) := by decide +kernel
theorem dX2_addClerk_15 : decode cX2_addClerk 15 = .ok (.ifCond .lt 15, 3) := by decide +kernel
theorem dX2_addClerk_18 : decode cX2_addClerk 18 = .ok (.aload_n 0, 1) := by decide +kernel
theorem dX2_addClerk_19 : decode cX2_addClerk 19 = .ok (.getfield 24, 3) := by decide +kernel
theorem dX2_addClerk_22 : decode cX2_addClerk 22 = .ok (.aload_n 0, 1) := by decide +kernel
theorem dX2_addClerk_23 : decode cX2_addClerk 23 = .ok (.getfield 20, 3) := by decide +kernel
theorem dX2_addClerk_26 : decode cX2_addClerk 26 = .ok (.arraylength, 1) := by decide +kernel
theorem dX2_addClerk_27 : decode cX2_addClerk 27 = .ok (.if_icmp .lt 6, 3) := by decide +kernel
theorem dX2_addClerk_30 : decode cX2_addClerk 30 = .ok (.bipush (-3), 2) := by decide +kernel
theorem dX2_addClerk_32 : decode cX2_addClerk 32 = .ok (.ireturn, 1) := by decide +kernel
theorem dX2_addClerk_33 : decode cX2_addClerk 33 = .ok (.aload_n 0, 1) := by decide +kernel
theorem dX2_addClerk_34 : decode cX2_addClerk 34 = .ok (.getfield 20, 3) := by decide +kernel
theorem dX2_addClerk_37 : decode cX2_addClerk 37 = .ok (.aload_n 0, 1) := by decide +kernel
theorem dX2_addClerk_38 : decode cX2_addClerk 38 = .ok (.getfield 24, 3) := by decide +kernel
theorem dX2_addClerk_41 : decode cX2_addClerk 41 = .ok (.aaload, 1) := by decide +kernel
theorem dX2_addClerk_42 : decode cX2_addClerk 42 = .ok (.iload_n 1, 1) := by decide +kernel
theorem dX2_addClerk_43 : decode cX2_addClerk 43 = .ok (.putfield 49, 3) := by decide +kernel
theorem dX2_addClerk_46 : decode cX2_addClerk 46 = .ok (.aload_n 0, 1) := by decide +kernel
theorem dX2_addClerk_47 : decode cX2_addClerk 47 = .ok (.dup, 1) := by decide +kernel
theorem dX2_addClerk_48 : decode cX2_addClerk 48 = .ok (.getfield 24, 3) := by decide +kernel
theorem dX2_addClerk_51 : decode cX2_addClerk 51 = .ok (.iconst 1, 1) := by decide +kernel
theorem dX2_addClerk_52 : decode cX2_addClerk 52 = .ok (.iadd, 1) := by decide +kernel
theorem dX2_addClerk_53 : decode cX2_addClerk 53 = .ok (.putfield 24, 3) := by decide +kernel
theorem dX2_addClerk_56 : decode cX2_addClerk 56 = .ok (.aload_n 0, 1) := by decide +kernel
theorem dX2_addClerk_57 : decode cX2_addClerk 57 = .ok (.getfield 24, 3) := by decide +kernel
theorem dX2_addClerk_60 : decode cX2_addClerk 60 = .ok (.iconst 1, 1) := by decide +kernel
theorem dX2_addClerk_61 : decode cX2_addClerk 61 = .ok (.isub, 1) := by decide +kernel
theorem dX2_addClerk_62 : decode cX2_addClerk 62 = .ok (.ireturn, 1) := by decide +kernel
set_option maxRecDepth 20000 in
theorem ggX2_serve_X2_isClerk : GoodIn wsX2_serve wsX2_isClerk := goodIn_r _ [9, 10, 1, 90, 91, 92, 93, 94] (by decide +kernel) (by decide +kernel)
set_option maxRecDepth 20000 in
theorem gX2_serve_X2_isClerk : GoodIn wsX2_serve (wsV RX2 52 RX2 yX2_isClerk wsX2_isClerk) := goodIn_app (goodIn_of _ (by decide +kernel)) ggX2_serve_X2_isClerk
set_option maxRecDepth 20000 in
theorem ggX2_serve_X2_available : GoodIn wsX2_serve wsX2_available := goodIn_r _ [14, 2, 3, 1, 5, 6, 7, 8, 9, 10, 15, 16, 17, 18, 19, 20, 21, 22, 23, 24, 25, 26, 27, 28, 29, 30, 31, 90, 91, 92, 93, 94, 95, 96, 97, 98, 99, 100, 101, 102, 103, 104, 105, 106, 107, 108, 109] (by decide +kernel) (by decide +kernel)
set_option maxRecDepth 20000 in
theorem gX2_serve_X2_available : GoodIn wsX2_serve (wsV RX2 56 RX2 yX2_available wsX2_available) := goodIn_app (goodIn_of _ (by decide +kernel)) ggX2_serve_X2_available
set_option maxRecDepth 20000 in
theorem ggX2_serve_X0_held : GoodIn wsX2_serve wsX0_held := goodIn_r _ [29, 30, 31, 103, 104, 105, 106, 107, 108, 109] (by decide +kernel) (by decide +kernel)
set_option maxRecDepth 20000 in
theorem gX2_serve_X0_held : GoodIn wsX2_serve (wsV RX2 60 RX0 yX0_held wsX0_held) := goodIn_app (goodIn_of _ (by decide +kernel)) ggX2_serve_X0_held
set_option maxRecDepth 20000 in
theorem ggX2_serve_X2_handOut : GoodIn wsX2_serve wsX2_handOut := goodIn_r _ [35, 3, 2, 1, 36, 37, 38, 8, 39, 40, 41, 42, 43, 18, 44, 45, 24, 5, 6, 7, 9, 10, 46, 47, 48, 49, 50, 51, 52, 53, 54, 55, 56, 57, 58, 59, 60, 61, 62, 63, 64, 22, 65, 20, 21, 23, 66, 67, 68, 28, 69, 31, 30, 70, 71, 72, 90, 91, 92, 93, 94, 95, 96, 97, 98, 99, 100, 101, 102, 103, 104, 105, 106, 107, 108, 109] (by decide +kernel) (by decide +kernel)
set_option maxRecDepth 20000 in
theorem gX2_serve_X2_handOut : GoodIn wsX2_serve (wsV RX2 64 RX2 yX2_handOut wsX2_handOut) := goodIn_app (goodIn_of _ (by decide +kernel)) ggX2_serve_X2_handOut
set_option maxRecDepth 20000 in
theorem ggX2_serve_X0_giveLowest : GoodIn wsX2_serve wsX0_giveLowest := goodIn_r _ [76, 31, 77, 78, 70, 71, 30, 79, 64, 22, 65, 103, 104, 105, 106, 107, 108, 109] (by decide +kernel) (by decide +kernel)
set_option maxRecDepth 20000 in
theorem gX2_serve_X0_giveLowest : GoodIn wsX2_serve (wsV RX2 68 RX0 yX0_giveLowest wsX0_giveLowest) := goodIn_app (goodIn_of _ (by decide +kernel)) ggX2_serve_X0_giveLowest
set_option maxRecDepth 20000 in
theorem ggX2_serve_X1_give : GoodIn wsX2_serve wsX1_give := goodIn_r _ [83, 84, 85, 86, 87, 88, 47, 18, 48, 89, 60, 61, 62, 63, 64, 22, 65, 20, 21, 23, 24, 57, 58, 45, 95, 96, 97, 98, 99, 100, 101, 102] (by decide +kernel) (by decide +kernel)
set_option maxRecDepth 20000 in
theorem gX2_serve_X1_give : GoodIn wsX2_serve (wsV RX2 71 RX1 yX1_give wsX1_give) := goodIn_app (goodIn_of _ (by decide +kernel)) ggX2_serve_X1_give
theorem dX2_serve_0 : decode cX2_serve 0 = .ok (.aload_n 0, 1) := by decide +kernel
theorem dX2_serve_1 : decode cX2_serve 1 = .ok (.iload_n 1, 1) := by decide +kernel
theorem dX2_serve_2 : decode cX2_serve 2 = .ok (.invokevirtual 52, 3) := by decide +kernel
theorem dX2_serve_5 : decode cX2_serve 5 = .ok (.ifCond .eq 14, 3) := by decide +kernel
theorem dX2_serve_8 : decode cX2_serve 8 = .ok (.iload_n 2, 1) := by decide +kernel
theorem dX2_serve_9 : decode cX2_serve 9 = .ok (.iconst 1, 1) := by decide +kernel
theorem dX2_serve_10 : decode cX2_serve 10 = .ok (.if_icmp .lt 9, 3) := by decide +kernel
theorem dX2_serve_13 : decode cX2_serve 13 = .ok (.iload_n 2, 1) := by decide +kernel
theorem dX2_serve_14 : decode cX2_serve 14 = .ok (.bipush 50, 2) := by decide +kernel
theorem dX2_serve_16 : decode cX2_serve 16 = .ok (.if_icmp .le 5, 3) := by decide +kernel
theorem dX2_serve_19 : decode cX2_serve 19 = .ok (.iconst (-1), 1) := by decide +kernel
theorem dX2_serve_20 : decode cX2_serve 20 = .ok (.ireturn, 1) := by decide +kernel
theorem dX2_serve_21 : decode cX2_serve 21 = .ok (.aload_n 0, 1) := by decide +kernel
theorem dX2_serve_22 : decode cX2_serve 22 = .ok (.iload_n 1, 1) := by decide +kernel
theorem dX2_serve_23 : decode cX2_serve 23 = .ok (.invokevirtual 56, 3) := by decide +kernel
theorem dX2_serve_26 : decode cX2_serve 26 = .ok (.iload_n 2, 1) := by decide +kernel
theorem dX2_serve_27 : decode cX2_serve 27 = .ok (.if_icmp .ge 6, 3) := by decide +kernel
theorem dX2_serve_30 : decode cX2_serve 30 = .ok (.bipush (-3), 2) := by decide +kernel
theorem dX2_serve_32 : decode cX2_serve 32 = .ok (.ireturn, 1) := by decide +kernel
theorem dX2_serve_33 : decode cX2_serve 33 = .ok (.iconst (-1), 1) := by decide +kernel
theorem dX2_serve_34 : decode cX2_serve 34 = .ok (.istore_n 3, 1) := by decide +kernel
theorem dX2_serve_35 : decode cX2_serve 35 = .ok (.iconst 0, 1) := by decide +kernel
theorem dX2_serve_36 : decode cX2_serve 36 = .ok (.istore 4, 2) := by decide +kernel
theorem dX2_serve_38 : decode cX2_serve 38 = .ok (.iload 4, 2) := by decide +kernel
theorem dX2_serve_40 : decode cX2_serve 40 = .ok (.iload_n 2, 1) := by decide +kernel
theorem dX2_serve_41 : decode cX2_serve 41 = .ok (.if_icmp .ge 55, 3) := by decide +kernel
theorem dX2_serve_44 : decode cX2_serve 44 = .ok (.aload_n 0, 1) := by decide +kernel
theorem dX2_serve_45 : decode cX2_serve 45 = .ok (.getfield 20, 3) := by decide +kernel
theorem dX2_serve_48 : decode cX2_serve 48 = .ok (.iload_n 1, 1) := by decide +kernel
theorem dX2_serve_49 : decode cX2_serve 49 = .ok (.aaload, 1) := by decide +kernel
theorem dX2_serve_50 : decode cX2_serve 50 = .ok (.invokevirtual 60, 3) := by decide +kernel
theorem dX2_serve_53 : decode cX2_serve 53 = .ok (.ifCond .gt 8, 3) := by decide +kernel
theorem dX2_serve_56 : decode cX2_serve 56 = .ok (.aload_n 0, 1) := by decide +kernel
theorem dX2_serve_57 : decode cX2_serve 57 = .ok (.iload_n 1, 1) := by decide +kernel
theorem dX2_serve_58 : decode cX2_serve 58 = .ok (.invokevirtual 64, 3) := by decide +kernel
theorem dX2_serve_61 : decode cX2_serve 61 = .ok (.aload_n 0, 1) := by decide +kernel
theorem dX2_serve_62 : decode cX2_serve 62 = .ok (.getfield 20, 3) := by decide +kernel
theorem dX2_serve_65 : decode cX2_serve 65 = .ok (.iload_n 1, 1) := by decide +kernel
theorem dX2_serve_66 : decode cX2_serve 66 = .ok (.aaload, 1) := by decide +kernel
theorem dX2_serve_67 : decode cX2_serve 67 = .ok (.aload_n 0, 1) := by decide +kernel
theorem dX2_serve_68 : decode cX2_serve 68 = .ok (.getfield 28, 3) := by decide +kernel
theorem dX2_serve_71 : decode cX2_serve 71 = .ok (.iconst 2, 1) := by decide +kernel
theorem dX2_serve_72 : decode cX2_serve 72 = .ok (.iaload, 1) := by decide +kernel
theorem dX2_serve_73 : decode cX2_serve 73 = .ok (.invokevirtual 68, 3) := by decide +kernel
theorem dX2_serve_76 : decode cX2_serve 76 = .ok (.istore_n 3, 1) := by decide +kernel
theorem dX2_serve_77 : decode cX2_serve 77 = .ok (.aload_n 0, 1) := by decide +kernel
theorem dX2_serve_78 : decode cX2_serve 78 = .ok (.getfield 12, 3) := by decide +kernel
theorem dX2_serve_81 : decode cX2_serve 81 = .ok (.iload_n 3, 1) := by decide +kernel
theorem dX2_serve_82 : decode cX2_serve 82 = .ok (.iload_n 1, 1) := by decide +kernel
theorem dX2_serve_83 : decode cX2_serve 83 = .ok (.aload_n 0, 1) := by decide +kernel
theorem dX2_serve_84 : decode cX2_serve 84 = .ok (.getfield 32, 3) := by decide +kernel
theorem dX2_serve_87 : decode cX2_serve 87 = .ok (.invokevirtual 71, 3) := by decide +kernel
theorem dX2_serve_90 : decode cX2_serve 90 = .ok (.iinc 4 1, 3) := by decide +kernel
theorem dX2_serve_93 : decode cX2_serve 93 = .ok (.goto (-55), 3) := by decide +kernel
theorem dX2_serve_96 : decode cX2_serve 96 = .ok (.iload_n 3, 1) := by decide +kernel
theorem dX2_serve_97 : decode cX2_serve 97 = .ok (.ireturn, 1) := by decide +kernel
set_option maxRecDepth 20000 in
theorem ggX2_available_X2_isClerk : GoodIn wsX2_available wsX2_isClerk := goodIn_r _ [8, 9, 3, 27, 28, 29, 30, 31] (by decide +kernel) (by decide +kernel)
set_option maxRecDepth 20000 in
theorem gX2_available_X2_isClerk : GoodIn wsX2_available (wsV RX2 52 RX2 yX2_isClerk wsX2_isClerk) := goodIn_app (goodIn_of _ (by decide +kernel)) ggX2_available_X2_isClerk
set_option maxRecDepth 20000 in
theorem ggX2_available_X1_inState : GoodIn wsX2_available wsX1_inState := goodIn_r _ [14, 15, 16, 17, 18, 19, 32, 33, 34, 35, 36, 37, 38, 39] (by decide +kernel) (by decide +kernel)
set_option maxRecDepth 20000 in
theorem gX2_available_X1_inState : GoodIn wsX2_available (wsV RX2 75 RX1 yX1_inState wsX1_inState) := goodIn_app (goodIn_of _ (by decide +kernel)) ggX2_available_X1_inState
set_option maxRecDepth 20000 in
theorem ggX2_available_X0_held : GoodIn wsX2_available wsX0_held := goodIn_r _ [24, 25, 26, 40, 41, 42, 43, 44, 45, 46] (by decide +kernel) (by decide +kernel)
set_option maxRecDepth 20000 in
theorem gX2_available_X0_held : GoodIn wsX2_available (wsV RX2 60 RX0 yX0_held wsX0_held) := goodIn_app (goodIn_of _ (by decide +kernel)) ggX2_available_X0_held
theorem dX2_available_0 : decode cX2_available 0 = .ok (.aload_n 0, 1) := by decide +kernel
theorem dX2_available_1 : decode cX2_available 1 = .ok (.iload_n 1, 1) := by decide +kernel
theorem dX2_available_2 : decode cX2_available 2 = .ok (.invokevirtual 52, 3) := by decide +kernel
theorem dX2_available_5 : decode cX2_available 5 = .ok (.ifCond .ne 5, 3) := by decide +kernel
theorem dX2_available_8 : decode cX2_available 8 = .ok (.iconst 0, 1) := by decide +kernel
theorem dX2_available_9 : decode cX2_available 9 = .ok (.ireturn, 1) := by decide +kernel
theorem dX2_available_10 : decode cX2_available 10 = .ok (.aload_n 0, 1) := by decide +kernel
theorem dX2_available_11 : decode cX2_available 11 = .ok (.getfield 28, 3) := by decide +kernel
theorem dX2_available_14 : decode cX2_available 14 = .ok (.iconst 1, 1) := by decide +kernel
theorem dX2_available_15 : decode cX2_available 15 = .ok (.iaload, 1) := by decide +kernel
theorem dX2_available_16 : decode cX2_available 16 = .ok (.iconst 1, 1) := by decide +kernel
theorem dX2_available_17 : decode cX2_available 17 = .ok (.if_icmp .ne 18, 3) := by decide +kernel
theorem dX2_available_20 : decode cX2_available 20 = .ok (.aload_n 0, 1) := by decide +kernel
theorem dX2_available_21 : decode cX2_available 21 = .ok (.getfield 12, 3) := by decide +kernel
theorem dX2_available_24 : decode cX2_available 24 = .ok (.iconst 1, 1) := by decide +kernel
theorem dX2_available_25 : decode cX2_available 25 = .ok (.sipush 600, 3) := by decide +kernel
theorem dX2_available_28 : decode cX2_available 28 = .ok (.iconst 3, 1) := by decide +kernel
theorem dX2_available_29 : decode cX2_available 29 = .ok (.invokevirtual 75, 3) := by decide +kernel
theorem dX2_available_32 : decode cX2_available 32 = .ok (.goto 4, 3) := by decide +kernel
theorem dX2_available_35 : decode cX2_available 35 = .ok (.iconst 0, 1) := by decide +kernel
theorem dX2_available_36 : decode cX2_available 36 = .ok (.istore_n 2, 1) := by decide +kernel
theorem dX2_available_37 : decode cX2_available 37 = .ok (.aload_n 0, 1) := by decide +kernel
theorem dX2_available_38 : decode cX2_available 38 = .ok (.getfield 20, 3) := by decide +kernel
theorem dX2_available_41 : decode cX2_available 41 = .ok (.iload_n 1, 1) := by decide +kernel
theorem dX2_available_42 : decode cX2_available 42 = .ok (.aaload, 1) := by decide +kernel
theorem dX2_available_43 : decode cX2_available 43 = .ok (.invokevirtual 60, 3) := by decide +kernel
theorem dX2_available_46 : decode cX2_available 46 = .ok (.aload_n 0, 1) := by decide +kernel
theorem dX2_available_47 : decode cX2_available 47 = .ok (.getfield 12, 3) := by decide +kernel
theorem dX2_available_50 : decode cX2_available 50 = .ok (.iconst 1, 1) := by decide +kernel
theorem dX2_available_51 : decode cX2_available 51 = .ok (.sipush 600, 3) := by decide +kernel
theorem dX2_available_54 : decode cX2_available 54 = .ok (.iconst 0, 1) := by decide +kernel
theorem dX2_available_55 : decode cX2_available 55 = .ok (.invokevirtual 75, 3) := by decide +kernel
theorem dX2_available_58 : decode cX2_available 58 = .ok (.iadd, 1) := by decide +kernel
theorem dX2_available_59 : decode cX2_available 59 = .ok (.iload_n 2, 1) := by decide +kernel
theorem dX2_available_60 : decode cX2_available 60 = .ok (.iadd, 1) := by decide +kernel
theorem dX2_available_61 : decode cX2_available 61 = .ok (.ireturn, 1) := by decide +kernel
set_option maxRecDepth 20000 in
theorem ggX2_startOfBlock_X1_lowestFree : GoodIn wsX2_startOfBlock wsX1_lowestFree := goodIn_r _ [8, 9, 10, 16, 17, 18, 19, 20, 21, 22, 23] (by decide +kernel) (by decide +kernel)
set_option maxRecDepth 20000 in
theorem gX2_startOfBlock_X1_lowestFree : GoodIn wsX2_startOfBlock (wsV RX2 79 RX1 yX1_lowestFree wsX1_lowestFree) := goodIn_app (goodIn_of _ (by decide +kernel)) ggX2_startOfBlock_X1_lowestFree
theorem dX2_startOfBlock_0 : decode cX2_startOfBlock 0 = .ok (.aload_n 0, 1) := by decide +kernel
theorem dX2_startOfBlock_1 : decode cX2_startOfBlock 1 = .ok (.getfield 28, 3) := by decide +kernel
theorem dX2_startOfBlock_4 : decode cX2_startOfBlock 4 = .ok (.iconst 1, 1) := by decide +kernel
theorem dX2_startOfBlock_5 : decode cX2_startOfBlock 5 = .ok (.iaload, 1) := by decide +kernel
theorem dX2_startOfBlock_6 : decode cX2_startOfBlock 6 = .ok (.iconst 1, 1) := by decide +kernel
theorem dX2_startOfBlock_7 : decode cX2_startOfBlock 7 = .ok (.if_icmp .ne 13, 3) := by decide +kernel
theorem dX2_startOfBlock_10 : decode cX2_startOfBlock 10 = .ok (.aload_n 0, 1) := by decide +kernel
theorem dX2_startOfBlock_11 : decode cX2_startOfBlock 11 = .ok (.getfield 12, 3) := by decide +kernel
theorem dX2_startOfBlock_14 : decode cX2_startOfBlock 14 = .ok (.invokevirtual 79, 3) := by decide +kernel
theorem dX2_startOfBlock_17 : decode cX2_startOfBlock 17 = .ok (.goto 4, 3) := by decide +kernel
theorem dX2_startOfBlock_20 : decode cX2_startOfBlock 20 = .ok (.iconst (-1), 1) := by decide +kernel
theorem dX2_startOfBlock_21 : decode cX2_startOfBlock 21 = .ok (.istore_n 1, 1) := by decide +kernel
theorem dX2_startOfBlock_22 : decode cX2_startOfBlock 22 = .ok (.iload_n 1, 1) := by decide +kernel
theorem dX2_startOfBlock_23 : decode cX2_startOfBlock 23 = .ok (.iconst (-1), 1) := by decide +kernel
theorem dX2_startOfBlock_24 : decode cX2_startOfBlock 24 = .ok (.if_icmp .ne 13, 3) := by decide +kernel
theorem dX2_startOfBlock_27 : decode cX2_startOfBlock 27 = .ok (.aload_n 0, 1) := by decide +kernel
theorem dX2_startOfBlock_28 : decode cX2_startOfBlock 28 = .ok (.getfield 12, 3) := by decide +kernel
theorem dX2_startOfBlock_31 : decode cX2_startOfBlock 31 = .ok (.getfield 82, 3) := by decide +kernel
theorem dX2_startOfBlock_34 : decode cX2_startOfBlock 34 = .ok (.goto 4, 3) := by decide +kernel
theorem dX2_startOfBlock_37 : decode cX2_startOfBlock 37 = .ok (.iload_n 1, 1) := by decide +kernel
theorem dX2_startOfBlock_38 : decode cX2_startOfBlock 38 = .ok (.ireturn, 1) := by decide +kernel
set_option maxRecDepth 20000 in
theorem ggX2_handOut_X2_startOfBlock : GoodIn wsX2_handOut wsX2_startOfBlock := goodIn_r _ [8, 2, 1, 9, 10, 11, 12, 13, 14, 15, 16, 56, 57, 58, 59, 60, 61, 62, 63, 64, 65, 66, 67, 68] (by decide +kernel) (by decide +kernel)
set_option maxRecDepth 20000 in
theorem gX2_handOut_X2_startOfBlock : GoodIn wsX2_handOut (wsV RX2 85 RX2 yX2_startOfBlock wsX2_startOfBlock) := goodIn_app (goodIn_of _ (by decide +kernel)) ggX2_handOut_X2_startOfBlock
set_option maxRecDepth 20000 in
theorem ggX2_handOut_X2_isClerk : GoodIn wsX2_handOut wsX2_isClerk := goodIn_r _ [20, 21, 3, 56, 57, 58, 59, 60] (by decide +kernel) (by decide +kernel)
set_option maxRecDepth 20000 in
theorem gX2_handOut_X2_isClerk : GoodIn wsX2_handOut (wsV RX2 52 RX2 yX2_isClerk wsX2_isClerk) := goodIn_app (goodIn_of _ (by decide +kernel)) ggX2_handOut_X2_isClerk
set_option maxRecDepth 20000 in
theorem ggX2_handOut_X1_isNumber : GoodIn wsX2_handOut wsX1_isNumber := goodIn_r _ [24] (by decide +kernel) (by decide +kernel)
set_option maxRecDepth 20000 in
theorem gX2_handOut_X1_isNumber : GoodIn wsX2_handOut (va_wsS RX2 88 yX1_isNumber wsX1_isNumber) := goodIn_app (goodIn_of _ (by decide +kernel)) ggX2_handOut_X1_isNumber
set_option maxRecDepth 20000 in
theorem ggX2_handOut_X1_lastOfRow : GoodIn wsX2_handOut wsX1_lastOfRow := goodIn_r _ [28, 29, 30, 31, 13, 32, 16, 33, 34, 61, 62, 63, 64, 65, 66, 67, 68] (by decide +kernel) (by decide +kernel)
set_option maxRecDepth 20000 in
theorem gX2_handOut_X1_lastOfRow : GoodIn wsX2_handOut (wsV RX2 91 RX1 yX1_lastOfRow wsX1_lastOfRow) := goodIn_app (goodIn_of _ (by decide +kernel)) ggX2_handOut_X1_lastOfRow
set_option maxRecDepth 20000 in
theorem ggX2_handOut_X1_put : GoodIn wsX2_handOut wsX1_put := goodIn_r _ [38, 39, 40, 41, 42, 43, 44, 45, 16, 33, 34, 15, 61, 62, 63, 64, 65, 66, 67, 68] (by decide +kernel) (by decide +kernel)
set_option maxRecDepth 20000 in
theorem gX2_handOut_X1_put : GoodIn wsX2_handOut (wsV RX2 95 RX1 yX1_put wsX1_put) := goodIn_app (goodIn_of _ (by decide +kernel)) ggX2_handOut_X1_put
set_option maxRecDepth 20000 in
theorem ggX2_handOut_X0_receive : GoodIn wsX2_handOut wsX0_receive := goodIn_r _ [50, 51, 52, 53, 54, 55, 69, 70, 71, 72, 73, 74, 75] (by decide +kernel) (by decide +kernel)
set_option maxRecDepth 20000 in
theorem gX2_handOut_X0_receive : GoodIn wsX2_handOut (wsV RX2 99 RX0 yX0_receive wsX0_receive) := goodIn_app (goodIn_of _ (by decide +kernel)) ggX2_handOut_X0_receive
theorem dX2_handOut_0 : decode cX2_handOut 0 = .ok (.aload_n 0, 1) := by decide +kernel
theorem dX2_handOut_1 : decode cX2_handOut 1 = .ok (.invokevirtual 85, 3) := by decide +kernel
theorem dX2_handOut_4 : decode cX2_handOut 4 = .ok (.istore_n 2, 1) := by decide +kernel
theorem dX2_handOut_5 : decode cX2_handOut 5 = .ok (.aload_n 0, 1) := by decide +kernel
theorem dX2_handOut_6 : decode cX2_handOut 6 = .ok (.iload_n 1, 1) := by decide +kernel
theorem dX2_handOut_7 : decode cX2_handOut 7 = .ok (.invokevirtual 52, 3) := by decide +kernel
theorem dX2_handOut_10 : decode cX2_handOut 10 = .ok (.ifCond .eq 10, 3) := by decide +kernel
theorem dX2_handOut_13 : decode cX2_handOut 13 = .ok (.iload_n 2, 1) := by decide +kernel
theorem dX2_handOut_14 : decode cX2_handOut 14 = .ok (.invokestatic 88, 3) := by decide +kernel
theorem dX2_handOut_17 : decode cX2_handOut 17 = .ok (.ifCond .ne 4, 3) := by decide +kernel
theorem dX2_handOut_20 : decode cX2_handOut 20 = .ok (.return_, 1) := by decide +kernel
theorem dX2_handOut_21 : decode cX2_handOut 21 = .ok (.aload_n 0, 1) := by decide +kernel
theorem dX2_handOut_22 : decode cX2_handOut 22 = .ok (.getfield 12, 3) := by decide +kernel
theorem dX2_handOut_25 : decode cX2_handOut 25 = .ok (.iload_n 2, 1) := by decide +kernel
theorem dX2_handOut_26 : decode cX2_handOut 26 = .ok (.iload_n 2, 1) := by decide +kernel
theorem dX2_handOut_27 : decode cX2_handOut 27 = .ok (.aload_n 0, 1) := by decide +kernel
theorem dX2_handOut_28 : decode cX2_handOut 28 = .ok (.getfield 28, 3) := by decide +kernel
theorem dX2_handOut_31 : decode cX2_handOut 31 = .ok (.iconst 0, 1) := by decide +kernel
theorem dX2_handOut_32 : decode cX2_handOut 32 = .ok (.iaload, 1) := by decide +kernel
theorem dX2_handOut_33 : decode cX2_handOut 33 = .ok (.iadd, 1) := by decide +kernel
theorem dX2_handOut_34 : decode cX2_handOut 34 = .ok (.iconst 1, 1) := by decide +kernel
theorem dX2_handOut_35 : decode cX2_handOut 35 = .ok (.isub, 1) := by decide +kernel
theorem dX2_handOut_36 : decode cX2_handOut 36 = .ok (.invokevirtual 91, 3) := by decide +kernel
theorem dX2_handOut_39 : decode cX2_handOut 39 = .ok (.istore_n 3, 1) := by decide +kernel
theorem dX2_handOut_40 : decode cX2_handOut 40 = .ok (.aload_n 0, 1) := by decide +kernel
theorem dX2_handOut_41 : decode cX2_handOut 41 = .ok (.getfield 12, 3) := by decide +kernel
theorem dX2_handOut_44 : decode cX2_handOut 44 = .ok (.iload_n 2, 1) := by decide +kernel
theorem dX2_handOut_45 : decode cX2_handOut 45 = .ok (.iload_n 3, 1) := by decide +kernel
theorem dX2_handOut_46 : decode cX2_handOut 46 = .ok (.iconst 1, 1) := by decide +kernel
theorem dX2_handOut_47 : decode cX2_handOut 47 = .ok (.iload_n 1, 1) := by decide +kernel
theorem dX2_handOut_48 : decode cX2_handOut 48 = .ok (.iconst (-1), 1) := by decide +kernel
theorem dX2_handOut_49 : decode cX2_handOut 49 = .ok (.invokevirtual 95, 3) := by decide +kernel
theorem dX2_handOut_52 : decode cX2_handOut 52 = .ok (.aload_n 0, 1) := by decide +kernel
theorem dX2_handOut_53 : decode cX2_handOut 53 = .ok (.getfield 20, 3) := by decide +kernel
theorem dX2_handOut_56 : decode cX2_handOut 56 = .ok (.iload_n 1, 1) := by decide +kernel
theorem dX2_handOut_57 : decode cX2_handOut 57 = .ok (.aaload, 1) := by decide +kernel
theorem dX2_handOut_58 : decode cX2_handOut 58 = .ok (.iload_n 2, 1) := by decide +kernel
theorem dX2_handOut_59 : decode cX2_handOut 59 = .ok (.iload_n 3, 1) := by decide +kernel
theorem dX2_handOut_60 : decode cX2_handOut 60 = .ok (.invokevirtual 99, 3) := by decide +kernel
theorem dX2_handOut_63 : decode cX2_handOut 63 = .ok (.return_, 1) := by decide +kernel
set_option maxRecDepth 20000 in
theorem ggX2_letForget_X2_isClerk : GoodIn wsX2_letForget wsX2_isClerk := goodIn_r _ [8, 9, 1, 45, 46, 47, 48, 49] (by decide +kernel) (by decide +kernel)
set_option maxRecDepth 20000 in
theorem gX2_letForget_X2_isClerk : GoodIn wsX2_letForget (wsV RX2 52 RX2 yX2_isClerk wsX2_isClerk) := goodIn_app (goodIn_of _ (by decide +kernel)) ggX2_letForget_X2_isClerk
set_option maxRecDepth 20000 in
theorem ggX2_letForget_X0_held : GoodIn wsX2_letForget wsX0_held := goodIn_r _ [14, 15, 16, 50, 51, 52, 53, 54, 55, 56] (by decide +kernel) (by decide +kernel)
set_option maxRecDepth 20000 in
theorem gX2_letForget_X0_held : GoodIn wsX2_letForget (wsV RX2 60 RX0 yX0_held wsX0_held) := goodIn_app (goodIn_of _ (by decide +kernel)) ggX2_letForget_X0_held
set_option maxRecDepth 20000 in
theorem ggX2_letForget_X0_loss : GoodIn wsX2_letForget wsX0_loss := goodIn_r _ [20, 16, 21, 22, 23, 24, 25, 26, 27, 13, 28, 29, 15, 30, 31, 32, 50, 51, 52, 53, 54, 55, 56] (by decide +kernel) (by decide +kernel)
set_option maxRecDepth 20000 in
theorem gX2_letForget_X0_loss : GoodIn wsX2_letForget (wsV RX2 103 RX0 yX0_loss wsX0_loss) := goodIn_app (goodIn_of _ (by decide +kernel)) ggX2_letForget_X0_loss
set_option maxRecDepth 20000 in
theorem ggX2_letForget_X0_lastLost : GoodIn wsX2_letForget wsX0_lastLost := goodIn_r _ [28, 29, 15, 30, 31, 23, 32, 50, 51, 52, 53, 54, 55, 56] (by decide +kernel) (by decide +kernel)
set_option maxRecDepth 20000 in
theorem gX2_letForget_X0_lastLost : GoodIn wsX2_letForget (wsV RX2 109 RX0 yX0_lastLost wsX0_lastLost) := goodIn_app (goodIn_of _ (by decide +kernel)) ggX2_letForget_X0_lastLost
set_option maxRecDepth 20000 in
theorem ggX2_letForget_X1_put : GoodIn wsX2_letForget wsX1_put := goodIn_r _ [38, 39, 31, 23, 32, 40, 22, 24, 41, 42, 43, 44, 57, 58, 59, 60, 61, 62, 63, 64] (by decide +kernel) (by decide +kernel)
set_option maxRecDepth 20000 in
theorem gX2_letForget_X1_put : GoodIn wsX2_letForget (wsV RX2 95 RX1 yX1_put wsX1_put) := goodIn_app (goodIn_of _ (by decide +kernel)) ggX2_letForget_X1_put
theorem dX2_letForget_0 : decode cX2_letForget 0 = .ok (.aload_n 0, 1) := by decide +kernel
theorem dX2_letForget_1 : decode cX2_letForget 1 = .ok (.iload_n 1, 1) := by decide +kernel
theorem dX2_letForget_2 : decode cX2_letForget 2 = .ok (.invokevirtual 52, 3) := by decide +kernel
theorem dX2_letForget_5 : decode cX2_letForget 5 = .ok (.ifCond .ne 5, 3) := by decide +kernel
theorem dX2_letForget_8 : decode cX2_letForget 8 = .ok (.iconst (-1), 1) := by decide +kernel
theorem dX2_letForget_9 : decode cX2_letForget 9 = .ok (.ireturn, 1) := by decide +kernel
theorem dX2_letForget_10 : decode cX2_letForget 10 = .ok (.aload_n 0, 1) := by decide +kernel
theorem dX2_letForget_11 : decode cX2_letForget 11 = .ok (.getfield 20, 3) := by decide +kernel
theorem dX2_letForget_14 : decode cX2_letForget 14 = .ok (.iload_n 1, 1) := by decide +kernel
theorem dX2_letForget_15 : decode cX2_letForget 15 = .ok (.aaload, 1) := by decide +kernel
theorem dX2_letForget_16 : decode cX2_letForget 16 = .ok (.astore_n 2, 1) := by decide +kernel
theorem dX2_letForget_17 : decode cX2_letForget 17 = .ok (.aload_n 2, 1) := by decide +kernel
theorem dX2_letForget_18 : decode cX2_letForget 18 = .ok (.invokevirtual 60, 3) := by decide +kernel
theorem dX2_letForget_21 : decode cX2_letForget 21 = .ok (.ifCond .gt 6, 3) := by decide +kernel
theorem dX2_letForget_24 : decode cX2_letForget 24 = .ok (.bipush (-2), 2) := by decide +kernel
theorem dX2_letForget_26 : decode cX2_letForget 26 = .ok (.ireturn, 1) := by decide +kernel
theorem dX2_letForget_27 : decode cX2_letForget 27 = .ok (.aload_n 2, 1) := by decide +kernel
theorem dX2_letForget_28 : decode cX2_letForget 28 = .ok (.invokevirtual 103, 3) := by decide +kernel
theorem dX2_letForget_31 : decode cX2_letForget 31 = .ok (.istore_n 3, 1) := by decide +kernel
theorem dX2_letForget_32 : decode cX2_letForget 32 = .ok (.iload_n 3, 1) := by decide +kernel
theorem dX2_letForget_33 : decode cX2_letForget 33 = .ok (.ifCond .le 31, 3) := by decide +kernel
theorem dX2_letForget_36 : decode cX2_letForget 36 = .ok (.aload_n 0, 1) := by decide +kernel
theorem dX2_letForget_37 : decode cX2_letForget 37 = .ok (.getfield 12, 3) := by decide +kernel
theorem dX2_letForget_40 : decode cX2_letForget 40 = .ok (.aload_n 2, 1) := by decide +kernel
theorem dX2_letForget_41 : decode cX2_letForget 41 = .ok (.getfield 106, 3) := by decide +kernel
theorem dX2_letForget_44 : decode cX2_letForget 44 = .ok (.aload_n 2, 1) := by decide +kernel
theorem dX2_letForget_45 : decode cX2_letForget 45 = .ok (.invokevirtual 109, 3) := by decide +kernel
theorem dX2_letForget_48 : decode cX2_letForget 48 = .ok (.iconst 4, 1) := by decide +kernel
theorem dX2_letForget_49 : decode cX2_letForget 49 = .ok (.iload_n 1, 1) := by decide +kernel
theorem dX2_letForget_50 : decode cX2_letForget 50 = .ok (.iconst 0, 1) := by decide +kernel
theorem dX2_letForget_51 : decode cX2_letForget 51 = .ok (.invokevirtual 95, 3) := by decide +kernel
theorem dX2_letForget_54 : decode cX2_letForget 54 = .ok (.aload_n 2, 1) := by decide +kernel
theorem dX2_letForget_55 : decode cX2_letForget 55 = .ok (.dup, 1) := by decide +kernel
theorem dX2_letForget_56 : decode cX2_letForget 56 = .ok (.getfield 106, 3) := by decide +kernel
theorem dX2_letForget_59 : decode cX2_letForget 59 = .ok (.iload_n 3, 1) := by decide +kernel
theorem dX2_letForget_60 : decode cX2_letForget 60 = .ok (.iadd, 1) := by decide +kernel
theorem dX2_letForget_61 : decode cX2_letForget 61 = .ok (.putfield 106, 3) := by decide +kernel
theorem dX2_letForget_64 : decode cX2_letForget 64 = .ok (.iload_n 3, 1) := by decide +kernel
theorem dX2_letForget_65 : decode cX2_letForget 65 = .ok (.ireturn, 1) := by decide +kernel
set_option maxRecDepth 20000 in
theorem ggX2_takeBack_X2_isClerk : GoodIn wsX2_takeBack wsX2_isClerk := goodIn_r _ [10, 11, 1, 40, 41, 42, 43, 44] (by decide +kernel) (by decide +kernel)
set_option maxRecDepth 20000 in
theorem gX2_takeBack_X2_isClerk : GoodIn wsX2_takeBack (wsV RX2 52 RX2 yX2_isClerk wsX2_isClerk) := goodIn_app (goodIn_of _ (by decide +kernel)) ggX2_takeBack_X2_isClerk
set_option maxRecDepth 20000 in
theorem ggX2_takeBack_X0_held : GoodIn wsX2_takeBack wsX0_held := goodIn_r _ [16, 17, 18, 45, 46, 47, 48, 49, 50, 51] (by decide +kernel) (by decide +kernel)
set_option maxRecDepth 20000 in
theorem gX2_takeBack_X0_held : GoodIn wsX2_takeBack (wsV RX2 60 RX0 yX0_held wsX0_held) := goodIn_app (goodIn_of _ (by decide +kernel)) ggX2_takeBack_X0_held
set_option maxRecDepth 20000 in
theorem ggX2_takeBack_X1_put : GoodIn wsX2_takeBack wsX1_put := goodIn_r _ [23, 24, 25, 26, 27, 28, 29, 30, 31, 32, 33, 34, 52, 53, 54, 55, 56, 57, 58, 59] (by decide +kernel) (by decide +kernel)
set_option maxRecDepth 20000 in
theorem gX2_takeBack_X1_put : GoodIn wsX2_takeBack (wsV RX2 95 RX1 yX1_put wsX1_put) := goodIn_app (goodIn_of _ (by decide +kernel)) ggX2_takeBack_X1_put
set_option maxRecDepth 20000 in
theorem ggX2_takeBack_X0_drop : GoodIn wsX2_takeBack wsX0_drop := goodIn_r _ [38, 18, 17, 39, 45, 46, 47, 48, 49, 50, 51] (by decide +kernel) (by decide +kernel)
set_option maxRecDepth 20000 in
theorem gX2_takeBack_X0_drop : GoodIn wsX2_takeBack (wsV RX2 115 RX0 yX0_drop wsX0_drop) := goodIn_app (goodIn_of _ (by decide +kernel)) ggX2_takeBack_X0_drop
theorem dX2_takeBack_0 : decode cX2_takeBack 0 = .ok (.aload_n 0, 1) := by decide +kernel
theorem dX2_takeBack_1 : decode cX2_takeBack 1 = .ok (.iload_n 1, 1) := by decide +kernel
theorem dX2_takeBack_2 : decode cX2_takeBack 2 = .ok (.invokevirtual 52, 3) := by decide +kernel
theorem dX2_takeBack_5 : decode cX2_takeBack 5 = .ok (.ifCond .ne 5, 3) := by decide +kernel
theorem dX2_takeBack_8 : decode cX2_takeBack 8 = .ok (.iconst (-1), 1) := by decide +kernel
theorem dX2_takeBack_9 : decode cX2_takeBack 9 = .ok (.ireturn, 1) := by decide +kernel
theorem dX2_takeBack_10 : decode cX2_takeBack 10 = .ok (.aload_n 0, 1) := by decide +kernel
theorem dX2_takeBack_11 : decode cX2_takeBack 11 = .ok (.getfield 20, 3) := by decide +kernel
theorem dX2_takeBack_14 : decode cX2_takeBack 14 = .ok (.iload_n 1, 1) := by decide +kernel
theorem dX2_takeBack_15 : decode cX2_takeBack 15 = .ok (.aaload, 1) := by decide +kernel
theorem dX2_takeBack_16 : decode cX2_takeBack 16 = .ok (.astore_n 2, 1) := by decide +kernel
theorem dX2_takeBack_17 : decode cX2_takeBack 17 = .ok (.aload_n 2, 1) := by decide +kernel
theorem dX2_takeBack_18 : decode cX2_takeBack 18 = .ok (.invokevirtual 60, 3) := by decide +kernel
theorem dX2_takeBack_21 : decode cX2_takeBack 21 = .ok (.istore_n 3, 1) := by decide +kernel
theorem dX2_takeBack_22 : decode cX2_takeBack 22 = .ok (.iload_n 3, 1) := by decide +kernel
theorem dX2_takeBack_23 : decode cX2_takeBack 23 = .ok (.ifCond .gt 6, 3) := by decide +kernel
theorem dX2_takeBack_26 : decode cX2_takeBack 26 = .ok (.bipush (-2), 2) := by decide +kernel
theorem dX2_takeBack_28 : decode cX2_takeBack 28 = .ok (.ireturn, 1) := by decide +kernel
theorem dX2_takeBack_29 : decode cX2_takeBack 29 = .ok (.aload_n 0, 1) := by decide +kernel
theorem dX2_takeBack_30 : decode cX2_takeBack 30 = .ok (.getfield 28, 3) := by decide +kernel
theorem dX2_takeBack_33 : decode cX2_takeBack 33 = .ok (.iconst 1, 1) := by decide +kernel
theorem dX2_takeBack_34 : decode cX2_takeBack 34 = .ok (.iaload, 1) := by decide +kernel
theorem dX2_takeBack_35 : decode cX2_takeBack 35 = .ok (.iconst 1, 1) := by decide +kernel
theorem dX2_takeBack_36 : decode cX2_takeBack 36 = .ok (.if_icmp .ne 24, 3) := by decide +kernel
theorem dX2_takeBack_39 : decode cX2_takeBack 39 = .ok (.aload_n 0, 1) := by decide +kernel
theorem dX2_takeBack_40 : decode cX2_takeBack 40 = .ok (.getfield 12, 3) := by decide +kernel
theorem dX2_takeBack_43 : decode cX2_takeBack 43 = .ok (.aload_n 2, 1) := by decide +kernel
theorem dX2_takeBack_44 : decode cX2_takeBack 44 = .ok (.getfield 106, 3) := by decide +kernel
theorem dX2_takeBack_47 : decode cX2_takeBack 47 = .ok (.aload_n 2, 1) := by decide +kernel
theorem dX2_takeBack_48 : decode cX2_takeBack 48 = .ok (.getfield 112, 3) := by decide +kernel
theorem dX2_takeBack_51 : decode cX2_takeBack 51 = .ok (.iconst 3, 1) := by decide +kernel
theorem dX2_takeBack_52 : decode cX2_takeBack 52 = .ok (.iconst (-1), 1) := by decide +kernel
theorem dX2_takeBack_53 : decode cX2_takeBack 53 = .ok (.iconst (-1), 1) := by decide +kernel
theorem dX2_takeBack_54 : decode cX2_takeBack 54 = .ok (.invokevirtual 95, 3) := by decide +kernel
theorem dX2_takeBack_57 : decode cX2_takeBack 57 = .ok (.goto 21, 3) := by decide +kernel
theorem dX2_takeBack_60 : decode cX2_takeBack 60 = .ok (.aload_n 0, 1) := by decide +kernel
theorem dX2_takeBack_61 : decode cX2_takeBack 61 = .ok (.getfield 12, 3) := by decide +kernel
theorem dX2_takeBack_64 : decode cX2_takeBack 64 = .ok (.aload_n 2, 1) := by decide +kernel
theorem dX2_takeBack_65 : decode cX2_takeBack 65 = .ok (.getfield 106, 3) := by decide +kernel
theorem dX2_takeBack_68 : decode cX2_takeBack 68 = .ok (.aload_n 2, 1) := by decide +kernel
theorem dX2_takeBack_69 : decode cX2_takeBack 69 = .ok (.getfield 112, 3) := by decide +kernel
theorem dX2_takeBack_72 : decode cX2_takeBack 72 = .ok (.iconst 4, 1) := by decide +kernel
theorem dX2_takeBack_73 : decode cX2_takeBack 73 = .ok (.iload_n 1, 1) := by decide +kernel
theorem dX2_takeBack_74 : decode cX2_takeBack 74 = .ok (.iconst 1, 1) := by decide +kernel
theorem dX2_takeBack_75 : decode cX2_takeBack 75 = .ok (.invokevirtual 95, 3) := by decide +kernel
theorem dX2_takeBack_78 : decode cX2_takeBack 78 = .ok (.aload_n 2, 1) := by decide +kernel
theorem dX2_takeBack_79 : decode cX2_takeBack 79 = .ok (.invokevirtual 115, 3) := by decide +kernel
theorem dX2_takeBack_82 : decode cX2_takeBack 82 = .ok (.iload_n 3, 1) := by decide +kernel
theorem dX2_takeBack_83 : decode cX2_takeBack 83 = .ok (.ireturn, 1) := by decide +kernel
set_option maxRecDepth 20000 in
theorem ggX2_cancel_X1_isNumber : GoodIn wsX2_cancel wsX1_isNumber := goodIn_r _ [7] (by decide +kernel) (by decide +kernel)
set_option maxRecDepth 20000 in
theorem gX2_cancel_X1_isNumber : GoodIn wsX2_cancel (va_wsS RX2 88 yX1_isNumber wsX1_isNumber) := goodIn_app (goodIn_of _ (by decide +kernel)) ggX2_cancel_X1_isNumber
set_option maxRecDepth 20000 in
theorem ggX2_cancel_X1_put : GoodIn wsX2_cancel wsX1_put := goodIn_r _ [11, 12, 13, 14, 15, 16, 17, 18, 19, 20, 21, 22, 28, 29, 30, 31, 32, 33, 34, 35] (by decide +kernel) (by decide +kernel)
set_option maxRecDepth 20000 in
theorem gX2_cancel_X1_put : GoodIn wsX2_cancel (wsV RX2 95 RX1 yX1_put wsX1_put) := goodIn_app (goodIn_of _ (by decide +kernel)) ggX2_cancel_X1_put
theorem dX2_cancel_0 : decode cX2_cancel 0 = .ok (.iload_n 1, 1) := by decide +kernel
theorem dX2_cancel_1 : decode cX2_cancel 1 = .ok (.invokestatic 88, 3) := by decide +kernel
theorem dX2_cancel_4 : decode cX2_cancel 4 = .ok (.ifCond .ne 5, 3) := by decide +kernel
theorem dX2_cancel_7 : decode cX2_cancel 7 = .ok (.iconst (-1), 1) := by decide +kernel
theorem dX2_cancel_8 : decode cX2_cancel 8 = .ok (.ireturn, 1) := by decide +kernel
theorem dX2_cancel_9 : decode cX2_cancel 9 = .ok (.aload_n 0, 1) := by decide +kernel
theorem dX2_cancel_10 : decode cX2_cancel 10 = .ok (.getfield 12, 3) := by decide +kernel
theorem dX2_cancel_13 : decode cX2_cancel 13 = .ok (.getfield 118, 3) := by decide +kernel
theorem dX2_cancel_16 : decode cX2_cancel 16 = .ok (.iload_n 1, 1) := by decide +kernel
theorem dX2_cancel_17 : decode cX2_cancel 17 = .ok (.iaload, 1) := by decide +kernel
theorem dX2_cancel_18 : decode cX2_cancel 18 = .ok (.iconst 2, 1) := by decide +kernel
theorem dX2_cancel_19 : decode cX2_cancel 19 = .ok (.if_icmp .eq 6, 3) := by decide +kernel
theorem dX2_cancel_22 : decode cX2_cancel 22 = .ok (.bipush (-2), 2) := by decide +kernel
theorem dX2_cancel_24 : decode cX2_cancel 24 = .ok (.ireturn, 1) := by decide +kernel
theorem dX2_cancel_25 : decode cX2_cancel 25 = .ok (.aload_n 0, 1) := by decide +kernel
theorem dX2_cancel_26 : decode cX2_cancel 26 = .ok (.getfield 12, 3) := by decide +kernel
theorem dX2_cancel_29 : decode cX2_cancel 29 = .ok (.iload_n 1, 1) := by decide +kernel
theorem dX2_cancel_30 : decode cX2_cancel 30 = .ok (.iload_n 1, 1) := by decide +kernel
theorem dX2_cancel_31 : decode cX2_cancel 31 = .ok (.iconst 4, 1) := by decide +kernel
theorem dX2_cancel_32 : decode cX2_cancel 32 = .ok (.aload_n 0, 1) := by decide +kernel
theorem dX2_cancel_33 : decode cX2_cancel 33 = .ok (.getfield 12, 3) := by decide +kernel
theorem dX2_cancel_36 : decode cX2_cancel 36 = .ok (.getfield 121, 3) := by decide +kernel
theorem dX2_cancel_39 : decode cX2_cancel 39 = .ok (.iload_n 1, 1) := by decide +kernel
theorem dX2_cancel_40 : decode cX2_cancel 40 = .ok (.iaload, 1) := by decide +kernel
theorem dX2_cancel_41 : decode cX2_cancel 41 = .ok (.iconst 2, 1) := by decide +kernel
theorem dX2_cancel_42 : decode cX2_cancel 42 = .ok (.invokevirtual 95, 3) := by decide +kernel
theorem dX2_cancel_45 : decode cX2_cancel 45 = .ok (.aload_n 0, 1) := by decide +kernel
theorem dX2_cancel_46 : decode cX2_cancel 46 = .ok (.getfield 12, 3) := by decide +kernel
theorem dX2_cancel_49 : decode cX2_cancel 49 = .ok (.getfield 121, 3) := by decide +kernel
theorem dX2_cancel_52 : decode cX2_cancel 52 = .ok (.iload_n 1, 1) := by decide +kernel
theorem dX2_cancel_53 : decode cX2_cancel 53 = .ok (.iaload, 1) := by decide +kernel
theorem dX2_cancel_54 : decode cX2_cancel 54 = .ok (.ireturn, 1) := by decide +kernel
set_option maxRecDepth 20000 in
theorem ggX2_endDay_X1_closeAll : GoodIn wsX2_endDay wsX1_closeAll := goodIn_r _ [8, 9, 10, 11, 12, 13, 7, 14, 15, 16, 17, 18, 19, 20, 21, 22, 23, 37, 38, 39, 40, 41, 42, 43, 44] (by decide +kernel) (by decide +kernel)
set_option maxRecDepth 20000 in
theorem gX2_endDay_X1_closeAll : GoodIn wsX2_endDay (wsV RX2 124 RX1 yX1_closeAll wsX1_closeAll) := goodIn_app (goodIn_of _ (by decide +kernel)) ggX2_endDay_X1_closeAll
set_option maxRecDepth 20000 in
theorem ggX2_endDay_X0_drop : GoodIn wsX2_endDay wsX0_drop := goodIn_r _ [28, 29, 30, 31, 45, 46, 47, 48, 49, 50, 51] (by decide +kernel) (by decide +kernel)
set_option maxRecDepth 20000 in
theorem gX2_endDay_X0_drop : GoodIn wsX2_endDay (wsV RX2 115 RX0 yX0_drop wsX0_drop) := goodIn_app (goodIn_of _ (by decide +kernel)) ggX2_endDay_X0_drop
theorem dX2_endDay_0 : decode cX2_endDay 0 = .ok (.aload_n 0, 1) := by decide +kernel
theorem dX2_endDay_1 : decode cX2_endDay 1 = .ok (.getfield 12, 3) := by decide +kernel
theorem dX2_endDay_4 : decode cX2_endDay 4 = .ok (.invokevirtual 124, 3) := by decide +kernel
theorem dX2_endDay_7 : decode cX2_endDay 7 = .ok (.istore_n 1, 1) := by decide +kernel
theorem dX2_endDay_8 : decode cX2_endDay 8 = .ok (.iconst 0, 1) := by decide +kernel
theorem dX2_endDay_9 : decode cX2_endDay 9 = .ok (.istore_n 2, 1) := by decide +kernel
theorem dX2_endDay_10 : decode cX2_endDay 10 = .ok (.iload_n 2, 1) := by decide +kernel
theorem dX2_endDay_11 : decode cX2_endDay 11 = .ok (.aload_n 0, 1) := by decide +kernel
theorem dX2_endDay_12 : decode cX2_endDay 12 = .ok (.getfield 20, 3) := by decide +kernel
theorem dX2_endDay_15 : decode cX2_endDay 15 = .ok (.arraylength, 1) := by decide +kernel
theorem dX2_endDay_16 : decode cX2_endDay 16 = .ok (.if_icmp .ge 18, 3) := by decide +kernel
theorem dX2_endDay_19 : decode cX2_endDay 19 = .ok (.aload_n 0, 1) := by decide +kernel
theorem dX2_endDay_20 : decode cX2_endDay 20 = .ok (.getfield 20, 3) := by decide +kernel
theorem dX2_endDay_23 : decode cX2_endDay 23 = .ok (.iload_n 2, 1) := by decide +kernel
theorem dX2_endDay_24 : decode cX2_endDay 24 = .ok (.aaload, 1) := by decide +kernel
theorem dX2_endDay_25 : decode cX2_endDay 25 = .ok (.invokevirtual 115, 3) := by decide +kernel
theorem dX2_endDay_28 : decode cX2_endDay 28 = .ok (.iinc 2 1, 3) := by decide +kernel
theorem dX2_endDay_31 : decode cX2_endDay 31 = .ok (.goto (-21), 3) := by decide +kernel
theorem dX2_endDay_34 : decode cX2_endDay 34 = .ok (.aload_n 0, 1) := by decide +kernel
theorem dX2_endDay_35 : decode cX2_endDay 35 = .ok (.dup, 1) := by decide +kernel
theorem dX2_endDay_36 : decode cX2_endDay 36 = .ok (.getfield 32, 3) := by decide +kernel
theorem dX2_endDay_39 : decode cX2_endDay 39 = .ok (.iconst 1, 1) := by decide +kernel
theorem dX2_endDay_40 : decode cX2_endDay 40 = .ok (.iadd, 1) := by decide +kernel
theorem dX2_endDay_41 : decode cX2_endDay 41 = .ok (.putfield 32, 3) := by decide +kernel
theorem dX2_endDay_44 : decode cX2_endDay 44 = .ok (.iload_n 1, 1) := by decide +kernel
theorem dX2_endDay_45 : decode cX2_endDay 45 = .ok (.ireturn, 1) := by decide +kernel
theorem dX2_change_0 : decode cX2_change 0 = .ok (.iload_n 1, 1) := by decide +kernel
theorem dX2_change_1 : decode cX2_change 1 = .ok (.ifCond .lt 26, 3) := by decide +kernel
theorem dX2_change_4 : decode cX2_change 4 = .ok (.iload_n 1, 1) := by decide +kernel
theorem dX2_change_5 : decode cX2_change 5 = .ok (.iconst 3, 1) := by decide +kernel
theorem dX2_change_6 : decode cX2_change 6 = .ok (.if_icmp .ge 21, 3) := by decide +kernel
theorem dX2_change_9 : decode cX2_change 9 = .ok (.iload_n 2, 1) := by decide +kernel
theorem dX2_change_10 : decode cX2_change 10 = .ok (.getstatic 127, 3) := by decide +kernel
theorem dX2_change_13 : decode cX2_change 13 = .ok (.iload_n 1, 1) := by decide +kernel
theorem dX2_change_14 : decode cX2_change 14 = .ok (.iaload, 1) := by decide +kernel
theorem dX2_change_15 : decode cX2_change 15 = .ok (.if_icmp .lt 12, 3) := by decide +kernel
theorem dX2_change_18 : decode cX2_change 18 = .ok (.iload_n 2, 1) := by decide +kernel
theorem dX2_change_19 : decode cX2_change 19 = .ok (.getstatic 130, 3) := by decide +kernel
theorem dX2_change_22 : decode cX2_change 22 = .ok (.iload_n 1, 1) := by decide +kernel
theorem dX2_change_23 : decode cX2_change 23 = .ok (.iaload, 1) := by decide +kernel
theorem dX2_change_24 : decode cX2_change 24 = .ok (.if_icmp .le 5, 3) := by decide +kernel
theorem dX2_change_27 : decode cX2_change 27 = .ok (.iconst (-1), 1) := by decide +kernel
theorem dX2_change_28 : decode cX2_change 28 = .ok (.ireturn, 1) := by decide +kernel
theorem dX2_change_29 : decode cX2_change 29 = .ok (.aload_n 0, 1) := by decide +kernel
theorem dX2_change_30 : decode cX2_change 30 = .ok (.getfield 28, 3) := by decide +kernel
theorem dX2_change_33 : decode cX2_change 33 = .ok (.iload_n 1, 1) := by decide +kernel
theorem dX2_change_34 : decode cX2_change 34 = .ok (.iaload, 1) := by decide +kernel
theorem dX2_change_35 : decode cX2_change 35 = .ok (.istore_n 3, 1) := by decide +kernel
theorem dX2_change_36 : decode cX2_change 36 = .ok (.aload_n 0, 1) := by decide +kernel
theorem dX2_change_37 : decode cX2_change 37 = .ok (.getfield 28, 3) := by decide +kernel
theorem dX2_change_40 : decode cX2_change 40 = .ok (.iload_n 1, 1) := by decide +kernel
theorem dX2_change_41 : decode cX2_change 41 = .ok (.iload_n 2, 1) := by decide +kernel
theorem dX2_change_42 : decode cX2_change 42 = .ok (.iastore, 1) := by decide +kernel
theorem dX2_change_43 : decode cX2_change 43 = .ok (.iload_n 3, 1) := by decide +kernel
theorem dX2_change_44 : decode cX2_change 44 = .ok (.ireturn, 1) := by decide +kernel
set_option maxRecDepth 20000 in
theorem ggX2_tellOfClerk_X2_isClerk : GoodIn wsX2_tellOfClerk wsX2_isClerk := goodIn_r _ [14, 15, 1, 38, 39, 40, 41, 42] (by decide +kernel) (by decide +kernel)
set_option maxRecDepth 20000 in
theorem gX2_tellOfClerk_X2_isClerk : GoodIn wsX2_tellOfClerk (wsV RX2 52 RX2 yX2_isClerk wsX2_isClerk) := goodIn_app (goodIn_of _ (by decide +kernel)) ggX2_tellOfClerk_X2_isClerk
set_option maxRecDepth 20000 in
theorem ggX2_tellOfClerk_X0_held : GoodIn wsX2_tellOfClerk wsX0_held := goodIn_r _ [20, 21, 22, 43, 44, 45, 46, 47, 48, 49] (by decide +kernel) (by decide +kernel)
set_option maxRecDepth 20000 in
theorem gX2_tellOfClerk_X0_held : GoodIn wsX2_tellOfClerk (wsV RX2 60 RX0 yX0_held wsX0_held) := goodIn_app (goodIn_of _ (by decide +kernel)) ggX2_tellOfClerk_X0_held
set_option maxRecDepth 20000 in
theorem ggX2_tellOfClerk_X1_holesOf : GoodIn wsX2_tellOfClerk wsX1_holesOf := goodIn_r _ [27, 28, 29, 50, 51, 52, 53, 54, 55, 56, 57] (by decide +kernel) (by decide +kernel)
set_option maxRecDepth 20000 in
theorem gX2_tellOfClerk_X1_holesOf : GoodIn wsX2_tellOfClerk (wsV RX2 139 RX1 yX1_holesOf wsX1_holesOf) := goodIn_app (goodIn_of _ (by decide +kernel)) ggX2_tellOfClerk_X1_holesOf
set_option maxRecDepth 20000 in
theorem ggX2_tellOfClerk_X1_forgottenOf : GoodIn wsX2_tellOfClerk wsX1_forgottenOf := goodIn_r _ [33, 34, 29, 50, 51, 52, 53, 54, 55, 56, 57] (by decide +kernel) (by decide +kernel)
set_option maxRecDepth 20000 in
theorem gX2_tellOfClerk_X1_forgottenOf : GoodIn wsX2_tellOfClerk (wsV RX2 142 RX1 yX1_forgottenOf wsX1_forgottenOf) := goodIn_app (goodIn_of _ (by decide +kernel)) ggX2_tellOfClerk_X1_forgottenOf
set_option maxRecDepth 20000 in
theorem ggX2_tellOfClerk_X4_orNotFound : GoodIn wsX2_tellOfClerk wsX4_orNotFound := goodIn_r _ [37] (by decide +kernel) (by decide +kernel)
set_option maxRecDepth 20000 in
theorem gX2_tellOfClerk_X4_orNotFound_n151 : GoodIn wsX2_tellOfClerk (wsX4_orNotFound) := ggX2_tellOfClerk_X4_orNotFound
theorem dX2_tellOfClerk_0 : decode cX2_tellOfClerk 0 = .ok (.aload_n 0, 1) := by decide +kernel
theorem dX2_tellOfClerk_1 : decode cX2_tellOfClerk 1 = .ok (.iload_n 1, 1) := by decide +kernel
theorem dX2_tellOfClerk_2 : decode cX2_tellOfClerk 2 = .ok (.invokevirtual 52, 3) := by decide +kernel
theorem dX2_tellOfClerk_5 : decode cX2_tellOfClerk 5 = .ok (.ifCond .ne 5, 3) := by decide +kernel
theorem dX2_tellOfClerk_8 : decode cX2_tellOfClerk 8 = .ok (.iconst (-1), 1) := by decide +kernel
theorem dX2_tellOfClerk_9 : decode cX2_tellOfClerk 9 = .ok (.ireturn, 1) := by decide +kernel
theorem dX2_tellOfClerk_10 : decode cX2_tellOfClerk 10 = .ok (.aload_n 0, 1) := by decide +kernel
theorem dX2_tellOfClerk_11 : decode cX2_tellOfClerk 11 = .ok (.getfield 20, 3) := by decide +kernel
theorem dX2_tellOfClerk_14 : decode cX2_tellOfClerk 14 = .ok (.iload_n 1, 1) := by decide +kernel
theorem dX2_tellOfClerk_15 : decode cX2_tellOfClerk 15 = .ok (.aaload, 1) := by decide +kernel
theorem dX2_tellOfClerk_16 : decode cX2_tellOfClerk 16 = .ok (.astore_n 3, 1) := by decide +kernel
theorem dX2_tellOfClerk_17 : decode cX2_tellOfClerk 17 = .ok (.aload_n 3, 1) := by decide +kernel
theorem dX2_tellOfClerk_18 : decode cX2_tellOfClerk 18 = .ok (.invokevirtual 60, 3) := by decide +kernel
theorem dX2_tellOfClerk_21 : decode cX2_tellOfClerk 21 = .ok (.ifCond .le 7, 3) := by decide +kernel
theorem dX2_tellOfClerk_24 : decode cX2_tellOfClerk 24 = .ok (.iconst 1, 1) := by decide +kernel
theorem dX2_tellOfClerk_25 : decode cX2_tellOfClerk 25 = .ok (.goto 4, 3) := by decide +kernel
theorem dX2_tellOfClerk_28 : decode cX2_tellOfClerk 28 = .ok (.iconst 0, 1) := by decide +kernel
theorem dX2_tellOfClerk_29 : decode cX2_tellOfClerk 29 = .ok (.istore 4, 2) := by decide +kernel
theorem dX2_tellOfClerk_31 : decode cX2_tellOfClerk 31 = .ok (.iload_n 2, 1) := by decide +kernel
theorem dX2_tellOfClerk_32 : decode cX2_tellOfClerk 32 = .ok (.tableswitch 147 0 9 #[56, 61, 66, 81, 96, 111, 116, 125, 134, 139], 56) := by decide +kernel
theorem dX2_tellOfClerk_88 : decode cX2_tellOfClerk 88 = .ok (.aload_n 3, 1) := by decide +kernel
theorem dX2_tellOfClerk_89 : decode cX2_tellOfClerk 89 = .ok (.getfield 49, 3) := by decide +kernel
theorem dX2_tellOfClerk_92 : decode cX2_tellOfClerk 92 = .ok (.ireturn, 1) := by decide +kernel
theorem dX2_tellOfClerk_93 : decode cX2_tellOfClerk 93 = .ok (.aload_n 3, 1) := by decide +kernel
theorem dX2_tellOfClerk_94 : decode cX2_tellOfClerk 94 = .ok (.invokevirtual 60, 3) := by decide +kernel
theorem dX2_tellOfClerk_97 : decode cX2_tellOfClerk 97 = .ok (.ireturn, 1) := by decide +kernel
theorem dX2_tellOfClerk_98 : decode cX2_tellOfClerk 98 = .ok (.iload 4, 2) := by decide +kernel
theorem dX2_tellOfClerk_100 : decode cX2_tellOfClerk 100 = .ok (.ifCond .eq 10, 3) := by decide +kernel
theorem dX2_tellOfClerk_103 : decode cX2_tellOfClerk 103 = .ok (.aload_n 3, 1) := by decide +kernel
theorem dX2_tellOfClerk_104 : decode cX2_tellOfClerk 104 = .ok (.getfield 106, 3) := by decide +kernel
theorem dX2_tellOfClerk_107 : decode cX2_tellOfClerk 107 = .ok (.goto 5, 3) := by decide +kernel
theorem dX2_tellOfClerk_110 : decode cX2_tellOfClerk 110 = .ok (.bipush (-4), 2) := by decide +kernel
theorem dX2_tellOfClerk_112 : decode cX2_tellOfClerk 112 = .ok (.ireturn, 1) := by decide +kernel
theorem dX2_tellOfClerk_113 : decode cX2_tellOfClerk 113 = .ok (.iload 4, 2) := by decide +kernel
theorem dX2_tellOfClerk_115 : decode cX2_tellOfClerk 115 = .ok (.ifCond .eq 10, 3) := by decide +kernel
theorem dX2_tellOfClerk_118 : decode cX2_tellOfClerk 118 = .ok (.aload_n 3, 1) := by decide +kernel
theorem dX2_tellOfClerk_119 : decode cX2_tellOfClerk 119 = .ok (.getfield 112, 3) := by decide +kernel
theorem dX2_tellOfClerk_122 : decode cX2_tellOfClerk 122 = .ok (.goto 5, 3) := by decide +kernel
theorem dX2_tellOfClerk_125 : decode cX2_tellOfClerk 125 = .ok (.bipush (-4), 2) := by decide +kernel
theorem dX2_tellOfClerk_127 : decode cX2_tellOfClerk 127 = .ok (.ireturn, 1) := by decide +kernel
theorem dX2_tellOfClerk_128 : decode cX2_tellOfClerk 128 = .ok (.iload 4, 2) := by decide +kernel
theorem dX2_tellOfClerk_130 : decode cX2_tellOfClerk 130 = .ok (.ifCond .eq 10, 3) := by decide +kernel
theorem dX2_tellOfClerk_133 : decode cX2_tellOfClerk 133 = .ok (.aload_n 3, 1) := by decide +kernel
theorem dX2_tellOfClerk_134 : decode cX2_tellOfClerk 134 = .ok (.getfield 133, 3) := by decide +kernel
theorem dX2_tellOfClerk_137 : decode cX2_tellOfClerk 137 = .ok (.goto 5, 3) := by decide +kernel
theorem dX2_tellOfClerk_140 : decode cX2_tellOfClerk 140 = .ok (.bipush (-4), 2) := by decide +kernel
theorem dX2_tellOfClerk_142 : decode cX2_tellOfClerk 142 = .ok (.ireturn, 1) := by decide +kernel
theorem dX2_tellOfClerk_143 : decode cX2_tellOfClerk 143 = .ok (.aload_n 3, 1) := by decide +kernel
theorem dX2_tellOfClerk_144 : decode cX2_tellOfClerk 144 = .ok (.getfield 136, 3) := by decide +kernel
theorem dX2_tellOfClerk_147 : decode cX2_tellOfClerk 147 = .ok (.ireturn, 1) := by decide +kernel
theorem dX2_tellOfClerk_148 : decode cX2_tellOfClerk 148 = .ok (.aload_n 0, 1) := by decide +kernel
theorem dX2_tellOfClerk_149 : decode cX2_tellOfClerk 149 = .ok (.getfield 12, 3) := by decide +kernel
theorem dX2_tellOfClerk_152 : decode cX2_tellOfClerk 152 = .ok (.iload_n 1, 1) := by decide +kernel
theorem dX2_tellOfClerk_153 : decode cX2_tellOfClerk 153 = .ok (.invokevirtual 139, 3) := by decide +kernel
theorem dX2_tellOfClerk_156 : decode cX2_tellOfClerk 156 = .ok (.ireturn, 1) := by decide +kernel
theorem dX2_tellOfClerk_157 : decode cX2_tellOfClerk 157 = .ok (.aload_n 0, 1) := by decide +kernel
theorem dX2_tellOfClerk_158 : decode cX2_tellOfClerk 158 = .ok (.getfield 12, 3) := by decide +kernel
theorem dX2_tellOfClerk_161 : decode cX2_tellOfClerk 161 = .ok (.iload_n 1, 1) := by decide +kernel
theorem dX2_tellOfClerk_162 : decode cX2_tellOfClerk 162 = .ok (.invokevirtual 142, 3) := by decide +kernel
theorem dX2_tellOfClerk_165 : decode cX2_tellOfClerk 165 = .ok (.ireturn, 1) := by decide +kernel
theorem dX2_tellOfClerk_166 : decode cX2_tellOfClerk 166 = .ok (.aload_n 3, 1) := by decide +kernel
theorem dX2_tellOfClerk_167 : decode cX2_tellOfClerk 167 = .ok (.getfield 145, 3) := by decide +kernel
theorem dX2_tellOfClerk_170 : decode cX2_tellOfClerk 170 = .ok (.ireturn, 1) := by decide +kernel
theorem dX2_tellOfClerk_171 : decode cX2_tellOfClerk 171 = .ok (.aload_n 3, 1) := by decide +kernel
theorem dX2_tellOfClerk_172 : decode cX2_tellOfClerk 172 = .ok (.getfield 148, 3) := by decide +kernel
theorem dX2_tellOfClerk_175 : decode cX2_tellOfClerk 175 = .ok (.invokestatic 151, 3) := by decide +kernel
theorem dX2_tellOfClerk_178 : decode cX2_tellOfClerk 178 = .ok (.ireturn, 1) := by decide +kernel
theorem dX2_tellOfClerk_179 : decode cX2_tellOfClerk 179 = .ok (.iconst (-1), 1) := by decide +kernel
theorem dX2_tellOfClerk_180 : decode cX2_tellOfClerk 180 = .ok (.ireturn, 1) := by decide +kernel
set_option maxRecDepth 20000 in
theorem ggX2_tally_X1_inState : GoodIn wsX2_tally wsX1_inState := goodIn_r _ [10, 11, 12, 13, 14, 15, 54, 55, 56, 57, 58, 59, 60, 61] (by decide +kernel) (by decide +kernel)
set_option maxRecDepth 20000 in
theorem gX2_tally_X1_inState : GoodIn wsX2_tally (wsV RX2 75 RX1 yX1_inState wsX1_inState) := goodIn_app (goodIn_of _ (by decide +kernel)) ggX2_tally_X1_inState
set_option maxRecDepth 20000 in
theorem ggX2_tally_X1_lateOnes : GoodIn wsX2_tally wsX1_lateOnes := goodIn_r _ [19, 20, 21, 11, 12, 13, 14, 54, 55, 56, 57, 58, 59, 60, 61] (by decide +kernel) (by decide +kernel)
set_option maxRecDepth 20000 in
theorem gX2_tally_X1_lateOnes : GoodIn wsX2_tally (wsV RX2 157 RX1 yX1_lateOnes wsX1_lateOnes) := goodIn_app (goodIn_of _ (by decide +kernel)) ggX2_tally_X1_lateOnes
set_option maxRecDepth 20000 in
theorem ggX2_tally_X1_givenWithoutGap : GoodIn wsX2_tally wsX1_givenWithoutGap := goodIn_r _ [25, 15, 54, 55, 56, 57, 58, 59, 60, 61] (by decide +kernel) (by decide +kernel)
set_option maxRecDepth 20000 in
theorem gX2_tally_X1_givenWithoutGap : GoodIn wsX2_tally (wsV RX2 160 RX1 yX1_givenWithoutGap wsX1_givenWithoutGap) := goodIn_app (goodIn_of _ (by decide +kernel)) ggX2_tally_X1_givenWithoutGap
set_option maxRecDepth 20000 in
theorem ggX2_tally_X1_rows : GoodIn wsX2_tally wsX1_rows := goodIn_r _ [29, 30, 31, 32, 9, 33, 15, 34, 35, 36, 37, 38, 39, 40, 41, 42, 54, 55, 56, 57, 58, 59, 60, 61] (by decide +kernel) (by decide +kernel)
set_option maxRecDepth 20000 in
theorem gX2_tally_X1_rows : GoodIn wsX2_tally (wsV RX2 163 RX1 yX1_rows wsX1_rows) := goodIn_app (goodIn_of _ (by decide +kernel)) ggX2_tally_X1_rows
set_option maxRecDepth 20000 in
theorem ggX2_tally_X2_settingAt : GoodIn wsX2_tally wsX2_settingAt := goodIn_r _ [47, 48, 49, 50, 51, 52, 53] (by decide +kernel) (by decide +kernel)
set_option maxRecDepth 20000 in
theorem gX2_tally_X2_settingAt : GoodIn wsX2_tally (wsV RX2 166 RX2 yX2_settingAt wsX2_settingAt) := goodIn_app (goodIn_of _ (by decide +kernel)) ggX2_tally_X2_settingAt
theorem dX2_tally_0 : decode cX2_tally 0 = .ok (.iload_n 1, 1) := by decide +kernel
theorem dX2_tally_1 : decode cX2_tally 1 = .ok (.tableswitch 145 0 9 #[55, 60, 65, 73, 86, 99, 112, 120, 128, 136], 55) := by decide +kernel
theorem dX2_tally_56 : decode cX2_tally 56 = .ok (.aload_n 0, 1) := by decide +kernel
theorem dX2_tally_57 : decode cX2_tally 57 = .ok (.getfield 24, 3) := by decide +kernel
theorem dX2_tally_60 : decode cX2_tally 60 = .ok (.ireturn, 1) := by decide +kernel
theorem dX2_tally_61 : decode cX2_tally 61 = .ok (.aload_n 0, 1) := by decide +kernel
theorem dX2_tally_62 : decode cX2_tally 62 = .ok (.getfield 32, 3) := by decide +kernel
theorem dX2_tally_65 : decode cX2_tally 65 = .ok (.ireturn, 1) := by decide +kernel
theorem dX2_tally_66 : decode cX2_tally 66 = .ok (.aload_n 0, 1) := by decide +kernel
theorem dX2_tally_67 : decode cX2_tally 67 = .ok (.getfield 12, 3) := by decide +kernel
theorem dX2_tally_70 : decode cX2_tally 70 = .ok (.getfield 154, 3) := by decide +kernel
theorem dX2_tally_73 : decode cX2_tally 73 = .ok (.ireturn, 1) := by decide +kernel
theorem dX2_tally_74 : decode cX2_tally 74 = .ok (.aload_n 0, 1) := by decide +kernel
theorem dX2_tally_75 : decode cX2_tally 75 = .ok (.getfield 12, 3) := by decide +kernel
theorem dX2_tally_78 : decode cX2_tally 78 = .ok (.iconst 1, 1) := by decide +kernel
theorem dX2_tally_79 : decode cX2_tally 79 = .ok (.sipush 600, 3) := by decide +kernel
theorem dX2_tally_82 : decode cX2_tally 82 = .ok (.iconst 1, 1) := by decide +kernel
theorem dX2_tally_83 : decode cX2_tally 83 = .ok (.invokevirtual 75, 3) := by decide +kernel
theorem dX2_tally_86 : decode cX2_tally 86 = .ok (.ireturn, 1) := by decide +kernel
theorem dX2_tally_87 : decode cX2_tally 87 = .ok (.aload_n 0, 1) := by decide +kernel
theorem dX2_tally_88 : decode cX2_tally 88 = .ok (.getfield 12, 3) := by decide +kernel
theorem dX2_tally_91 : decode cX2_tally 91 = .ok (.iconst 1, 1) := by decide +kernel
theorem dX2_tally_92 : decode cX2_tally 92 = .ok (.sipush 600, 3) := by decide +kernel
theorem dX2_tally_95 : decode cX2_tally 95 = .ok (.iconst 3, 1) := by decide +kernel
theorem dX2_tally_96 : decode cX2_tally 96 = .ok (.invokevirtual 75, 3) := by decide +kernel
theorem dX2_tally_99 : decode cX2_tally 99 = .ok (.ireturn, 1) := by decide +kernel
theorem dX2_tally_100 : decode cX2_tally 100 = .ok (.aload_n 0, 1) := by decide +kernel
theorem dX2_tally_101 : decode cX2_tally 101 = .ok (.getfield 12, 3) := by decide +kernel
theorem dX2_tally_104 : decode cX2_tally 104 = .ok (.iconst 1, 1) := by decide +kernel
theorem dX2_tally_105 : decode cX2_tally 105 = .ok (.sipush 600, 3) := by decide +kernel
theorem dX2_tally_108 : decode cX2_tally 108 = .ok (.iconst 4, 1) := by decide +kernel
theorem dX2_tally_109 : decode cX2_tally 109 = .ok (.invokevirtual 75, 3) := by decide +kernel
theorem dX2_tally_112 : decode cX2_tally 112 = .ok (.ireturn, 1) := by decide +kernel
theorem dX2_tally_113 : decode cX2_tally 113 = .ok (.aload_n 0, 1) := by decide +kernel
theorem dX2_tally_114 : decode cX2_tally 114 = .ok (.getfield 12, 3) := by decide +kernel
theorem dX2_tally_117 : decode cX2_tally 117 = .ok (.getfield 82, 3) := by decide +kernel
theorem dX2_tally_120 : decode cX2_tally 120 = .ok (.ireturn, 1) := by decide +kernel
theorem dX2_tally_121 : decode cX2_tally 121 = .ok (.aload_n 0, 1) := by decide +kernel
theorem dX2_tally_122 : decode cX2_tally 122 = .ok (.getfield 12, 3) := by decide +kernel
theorem dX2_tally_125 : decode cX2_tally 125 = .ok (.invokevirtual 157, 3) := by decide +kernel
theorem dX2_tally_128 : decode cX2_tally 128 = .ok (.ireturn, 1) := by decide +kernel
theorem dX2_tally_129 : decode cX2_tally 129 = .ok (.aload_n 0, 1) := by decide +kernel
theorem dX2_tally_130 : decode cX2_tally 130 = .ok (.getfield 12, 3) := by decide +kernel
theorem dX2_tally_133 : decode cX2_tally 133 = .ok (.invokevirtual 160, 3) := by decide +kernel
theorem dX2_tally_136 : decode cX2_tally 136 = .ok (.ireturn, 1) := by decide +kernel
theorem dX2_tally_137 : decode cX2_tally 137 = .ok (.aload_n 0, 1) := by decide +kernel
theorem dX2_tally_138 : decode cX2_tally 138 = .ok (.getfield 12, 3) := by decide +kernel
theorem dX2_tally_141 : decode cX2_tally 141 = .ok (.iconst 4, 1) := by decide +kernel
theorem dX2_tally_142 : decode cX2_tally 142 = .ok (.invokevirtual 163, 3) := by decide +kernel
theorem dX2_tally_145 : decode cX2_tally 145 = .ok (.ireturn, 1) := by decide +kernel
theorem dX2_tally_146 : decode cX2_tally 146 = .ok (.aload_n 0, 1) := by decide +kernel
theorem dX2_tally_147 : decode cX2_tally 147 = .ok (.iload_n 1, 1) := by decide +kernel
theorem dX2_tally_148 : decode cX2_tally 148 = .ok (.invokevirtual 166, 3) := by decide +kernel
theorem dX2_tally_151 : decode cX2_tally 151 = .ok (.ireturn, 1) := by decide +kernel
theorem dX2_settingAt_0 : decode cX2_settingAt 0 = .ok (.iload_n 1, 1) := by decide +kernel
theorem dX2_settingAt_1 : decode cX2_settingAt 1 = .ok (.bipush 20, 2) := by decide +kernel
theorem dX2_settingAt_3 : decode cX2_settingAt 3 = .ok (.if_icmp .lt 13, 3) := by decide +kernel
theorem dX2_settingAt_6 : decode cX2_settingAt 6 = .ok (.iload_n 1, 1) := by decide +kernel
theorem dX2_settingAt_7 : decode cX2_settingAt 7 = .ok (.bipush 23, 2) := by decide +kernel
theorem dX2_settingAt_9 : decode cX2_settingAt 9 = .ok (.if_icmp .ge 7, 3) := by decide +kernel
theorem dX2_settingAt_12 : decode cX2_settingAt 12 = .ok (.iconst 1, 1) := by decide +kernel
theorem dX2_settingAt_13 : decode cX2_settingAt 13 = .ok (.goto 4, 3) := by decide +kernel
theorem dX2_settingAt_16 : decode cX2_settingAt 16 = .ok (.iconst 0, 1) := by decide +kernel
theorem dX2_settingAt_17 : decode cX2_settingAt 17 = .ok (.istore_n 2, 1) := by decide +kernel
theorem dX2_settingAt_18 : decode cX2_settingAt 18 = .ok (.iload_n 2, 1) := by decide +kernel
theorem dX2_settingAt_19 : decode cX2_settingAt 19 = .ok (.ifCond .eq 15, 3) := by decide +kernel
theorem dX2_settingAt_22 : decode cX2_settingAt 22 = .ok (.aload_n 0, 1) := by decide +kernel
theorem dX2_settingAt_23 : decode cX2_settingAt 23 = .ok (.getfield 28, 3) := by decide +kernel
theorem dX2_settingAt_26 : decode cX2_settingAt 26 = .ok (.iload_n 1, 1) := by decide +kernel
theorem dX2_settingAt_27 : decode cX2_settingAt 27 = .ok (.bipush 20, 2) := by decide +kernel
theorem dX2_settingAt_29 : decode cX2_settingAt 29 = .ok (.isub, 1) := by decide +kernel
theorem dX2_settingAt_30 : decode cX2_settingAt 30 = .ok (.iaload, 1) := by decide +kernel
theorem dX2_settingAt_31 : decode cX2_settingAt 31 = .ok (.goto 4, 3) := by decide +kernel
theorem dX2_settingAt_34 : decode cX2_settingAt 34 = .ok (.iconst (-1), 1) := by decide +kernel
theorem dX2_settingAt_35 : decode cX2_settingAt 35 = .ok (.ireturn, 1) := by decide +kernel
set_option maxRecDepth 20000 in
theorem ggX2_upcoming_X2_isClerk : GoodIn wsX2_upcoming wsX2_isClerk := goodIn_r _ [7, 8, 1, 33, 34, 35, 36, 37] (by decide +kernel) (by decide +kernel)
set_option maxRecDepth 20000 in
theorem gX2_upcoming_X2_isClerk : GoodIn wsX2_upcoming (wsV RX2 52 RX2 yX2_isClerk wsX2_isClerk) := goodIn_app (goodIn_of _ (by decide +kernel)) ggX2_upcoming_X2_isClerk
set_option maxRecDepth 20000 in
theorem ggX2_upcoming_X0_held : GoodIn wsX2_upcoming wsX0_held := goodIn_r _ [13, 14, 15, 38, 39, 40, 41, 42, 43, 44] (by decide +kernel) (by decide +kernel)
set_option maxRecDepth 20000 in
theorem gX2_upcoming_X0_held : GoodIn wsX2_upcoming (wsV RX2 60 RX0 yX0_held wsX0_held) := goodIn_app (goodIn_of _ (by decide +kernel)) ggX2_upcoming_X0_held
set_option maxRecDepth 20000 in
theorem ggX2_upcoming_X2_startOfBlock : GoodIn wsX2_upcoming wsX2_startOfBlock := goodIn_r _ [19, 20, 21, 22, 23, 24, 25, 26, 27, 28, 29, 33, 34, 35, 36, 37, 45, 46, 47, 48, 49, 50, 51, 52] (by decide +kernel) (by decide +kernel)
set_option maxRecDepth 20000 in
theorem gX2_upcoming_X2_startOfBlock : GoodIn wsX2_upcoming (wsV RX2 85 RX2 yX2_startOfBlock wsX2_startOfBlock) := goodIn_app (goodIn_of _ (by decide +kernel)) ggX2_upcoming_X2_startOfBlock
set_option maxRecDepth 20000 in
theorem ggX2_upcoming_X1_isNumber : GoodIn wsX2_upcoming wsX1_isNumber := goodIn_r _ [32] (by decide +kernel) (by decide +kernel)
set_option maxRecDepth 20000 in
theorem gX2_upcoming_X1_isNumber : GoodIn wsX2_upcoming (va_wsS RX2 88 yX1_isNumber wsX1_isNumber) := goodIn_app (goodIn_of _ (by decide +kernel)) ggX2_upcoming_X1_isNumber
theorem dX2_upcoming_0 : decode cX2_upcoming 0 = .ok (.aload_n 0, 1) := by decide +kernel
theorem dX2_upcoming_1 : decode cX2_upcoming 1 = .ok (.iload_n 1, 1) := by decide +kernel
theorem dX2_upcoming_2 : decode cX2_upcoming 2 = .ok (.invokevirtual 52, 3) := by decide +kernel
theorem dX2_upcoming_5 : decode cX2_upcoming 5 = .ok (.ifCond .ne 5, 3) := by decide +kernel
theorem dX2_upcoming_8 : decode cX2_upcoming 8 = .ok (.iconst (-1), 1) := by decide +kernel
theorem dX2_upcoming_9 : decode cX2_upcoming 9 = .ok (.ireturn, 1) := by decide +kernel
theorem dX2_upcoming_10 : decode cX2_upcoming 10 = .ok (.aload_n 0, 1) := by decide +kernel
theorem dX2_upcoming_11 : decode cX2_upcoming 11 = .ok (.getfield 20, 3) := by decide +kernel
theorem dX2_upcoming_14 : decode cX2_upcoming 14 = .ok (.iload_n 1, 1) := by decide +kernel
theorem dX2_upcoming_15 : decode cX2_upcoming 15 = .ok (.aaload, 1) := by decide +kernel
theorem dX2_upcoming_16 : decode cX2_upcoming 16 = .ok (.invokevirtual 60, 3) := by decide +kernel
theorem dX2_upcoming_19 : decode cX2_upcoming 19 = .ok (.ifCond .le 15, 3) := by decide +kernel
theorem dX2_upcoming_22 : decode cX2_upcoming 22 = .ok (.aload_n 0, 1) := by decide +kernel
theorem dX2_upcoming_23 : decode cX2_upcoming 23 = .ok (.getfield 20, 3) := by decide +kernel
theorem dX2_upcoming_26 : decode cX2_upcoming 26 = .ok (.iload_n 1, 1) := by decide +kernel
theorem dX2_upcoming_27 : decode cX2_upcoming 27 = .ok (.aaload, 1) := by decide +kernel
theorem dX2_upcoming_28 : decode cX2_upcoming 28 = .ok (.getfield 106, 3) := by decide +kernel
theorem dX2_upcoming_31 : decode cX2_upcoming 31 = .ok (.goto 7, 3) := by decide +kernel
theorem dX2_upcoming_34 : decode cX2_upcoming 34 = .ok (.aload_n 0, 1) := by decide +kernel
theorem dX2_upcoming_35 : decode cX2_upcoming 35 = .ok (.invokevirtual 85, 3) := by decide +kernel
theorem dX2_upcoming_38 : decode cX2_upcoming 38 = .ok (.istore_n 2, 1) := by decide +kernel
theorem dX2_upcoming_39 : decode cX2_upcoming 39 = .ok (.iload_n 2, 1) := by decide +kernel
theorem dX2_upcoming_40 : decode cX2_upcoming 40 = .ok (.invokestatic 88, 3) := by decide +kernel
theorem dX2_upcoming_43 : decode cX2_upcoming 43 = .ok (.ifCond .eq 7, 3) := by decide +kernel
theorem dX2_upcoming_46 : decode cX2_upcoming 46 = .ok (.iload_n 2, 1) := by decide +kernel
theorem dX2_upcoming_47 : decode cX2_upcoming 47 = .ok (.goto 5, 3) := by decide +kernel
theorem dX2_upcoming_50 : decode cX2_upcoming 50 = .ok (.bipush (-3), 2) := by decide +kernel
theorem dX2_upcoming_52 : decode cX2_upcoming 52 = .ok (.ireturn, 1) := by decide +kernel
set_option maxRecDepth 20000 in
theorem ggX2_lossOf_X2_isClerk : GoodIn wsX2_lossOf wsX2_isClerk := goodIn_r _ [6, 7, 1, 27, 28, 29, 30, 31] (by decide +kernel) (by decide +kernel)
set_option maxRecDepth 20000 in
theorem gX2_lossOf_X2_isClerk : GoodIn wsX2_lossOf (wsV RX2 52 RX2 yX2_isClerk wsX2_isClerk) := goodIn_app (goodIn_of _ (by decide +kernel)) ggX2_lossOf_X2_isClerk
set_option maxRecDepth 20000 in
theorem ggX2_lossOf_X0_loss : GoodIn wsX2_lossOf wsX0_loss := goodIn_r _ [12, 13, 14, 15, 16, 17, 18, 19, 20, 11, 21, 22, 23, 24, 25, 26, 32, 33, 34, 35, 36, 37, 38] (by decide +kernel) (by decide +kernel)
set_option maxRecDepth 20000 in
theorem gX2_lossOf_X0_loss : GoodIn wsX2_lossOf (wsV RX2 103 RX0 yX0_loss wsX0_loss) := goodIn_app (goodIn_of _ (by decide +kernel)) ggX2_lossOf_X0_loss
theorem dX2_lossOf_0 : decode cX2_lossOf 0 = .ok (.aload_n 0, 1) := by decide +kernel
theorem dX2_lossOf_1 : decode cX2_lossOf 1 = .ok (.iload_n 1, 1) := by decide +kernel
theorem dX2_lossOf_2 : decode cX2_lossOf 2 = .ok (.invokevirtual 52, 3) := by decide +kernel
theorem dX2_lossOf_5 : decode cX2_lossOf 5 = .ok (.ifCond .eq 15, 3) := by decide +kernel
theorem dX2_lossOf_8 : decode cX2_lossOf 8 = .ok (.aload_n 0, 1) := by decide +kernel
theorem dX2_lossOf_9 : decode cX2_lossOf 9 = .ok (.getfield 20, 3) := by decide +kernel
theorem dX2_lossOf_12 : decode cX2_lossOf 12 = .ok (.iload_n 1, 1) := by decide +kernel
theorem dX2_lossOf_13 : decode cX2_lossOf 13 = .ok (.aaload, 1) := by decide +kernel
theorem dX2_lossOf_14 : decode cX2_lossOf 14 = .ok (.invokevirtual 103, 3) := by decide +kernel
theorem dX2_lossOf_17 : decode cX2_lossOf 17 = .ok (.goto 4, 3) := by decide +kernel
theorem dX2_lossOf_20 : decode cX2_lossOf 20 = .ok (.iconst 0, 1) := by decide +kernel
theorem dX2_lossOf_21 : decode cX2_lossOf 21 = .ok (.ireturn, 1) := by decide +kernel
set_option maxRecDepth 20000 in
theorem ggX2_mostForgetful_X0_loss : GoodIn wsX2_mostForgetful wsX0_loss := goodIn_r _ [7, 8, 9, 10, 11, 12, 13, 14, 15, 6, 16, 17, 18, 19, 20, 21, 27, 28, 29, 30, 31, 32, 33] (by decide +kernel) (by decide +kernel)
set_option maxRecDepth 20000 in
theorem gX2_mostForgetful_X0_loss : GoodIn wsX2_mostForgetful (wsV RX2 103 RX0 yX0_loss wsX0_loss) := goodIn_app (goodIn_of _ (by decide +kernel)) ggX2_mostForgetful_X0_loss
theorem dX2_mostForgetful_0 : decode cX2_mostForgetful 0 = .ok (.bipush (-4), 2) := by decide +kernel
theorem dX2_mostForgetful_2 : decode cX2_mostForgetful 2 = .ok (.istore_n 1, 1) := by decide +kernel
theorem dX2_mostForgetful_3 : decode cX2_mostForgetful 3 = .ok (.iconst 0, 1) := by decide +kernel
theorem dX2_mostForgetful_4 : decode cX2_mostForgetful 4 = .ok (.istore_n 2, 1) := by decide +kernel
theorem dX2_mostForgetful_5 : decode cX2_mostForgetful 5 = .ok (.iconst 0, 1) := by decide +kernel
theorem dX2_mostForgetful_6 : decode cX2_mostForgetful 6 = .ok (.istore_n 3, 1) := by decide +kernel
theorem dX2_mostForgetful_7 : decode cX2_mostForgetful 7 = .ok (.iload_n 3, 1) := by decide +kernel
theorem dX2_mostForgetful_8 : decode cX2_mostForgetful 8 = .ok (.aload_n 0, 1) := by decide +kernel
theorem dX2_mostForgetful_9 : decode cX2_mostForgetful 9 = .ok (.getfield 20, 3) := by decide +kernel
theorem dX2_mostForgetful_12 : decode cX2_mostForgetful 12 = .ok (.arraylength, 1) := by decide +kernel
theorem dX2_mostForgetful_13 : decode cX2_mostForgetful 13 = .ok (.if_icmp .ge 42, 3) := by decide +kernel
theorem dX2_mostForgetful_16 : decode cX2_mostForgetful 16 = .ok (.iload_n 3, 1) := by decide +kernel
theorem dX2_mostForgetful_17 : decode cX2_mostForgetful 17 = .ok (.aload_n 0, 1) := by decide +kernel
theorem dX2_mostForgetful_18 : decode cX2_mostForgetful 18 = .ok (.getfield 24, 3) := by decide +kernel
theorem dX2_mostForgetful_21 : decode cX2_mostForgetful 21 = .ok (.if_icmp .ge 34, 3) := by decide +kernel
theorem dX2_mostForgetful_24 : decode cX2_mostForgetful 24 = .ok (.aload_n 0, 1) := by decide +kernel
theorem dX2_mostForgetful_25 : decode cX2_mostForgetful 25 = .ok (.getfield 20, 3) := by decide +kernel
theorem dX2_mostForgetful_28 : decode cX2_mostForgetful 28 = .ok (.iload_n 3, 1) := by decide +kernel
theorem dX2_mostForgetful_29 : decode cX2_mostForgetful 29 = .ok (.aaload, 1) := by decide +kernel
theorem dX2_mostForgetful_30 : decode cX2_mostForgetful 30 = .ok (.invokevirtual 103, 3) := by decide +kernel
theorem dX2_mostForgetful_33 : decode cX2_mostForgetful 33 = .ok (.iload_n 2, 1) := by decide +kernel
theorem dX2_mostForgetful_34 : decode cX2_mostForgetful 34 = .ok (.if_icmp .le 15, 3) := by decide +kernel
theorem dX2_mostForgetful_37 : decode cX2_mostForgetful 37 = .ok (.aload_n 0, 1) := by decide +kernel
theorem dX2_mostForgetful_38 : decode cX2_mostForgetful 38 = .ok (.getfield 20, 3) := by decide +kernel
theorem dX2_mostForgetful_41 : decode cX2_mostForgetful 41 = .ok (.iload_n 3, 1) := by decide +kernel
theorem dX2_mostForgetful_42 : decode cX2_mostForgetful 42 = .ok (.aaload, 1) := by decide +kernel
theorem dX2_mostForgetful_43 : decode cX2_mostForgetful 43 = .ok (.invokevirtual 103, 3) := by decide +kernel
theorem dX2_mostForgetful_46 : decode cX2_mostForgetful 46 = .ok (.istore_n 2, 1) := by decide +kernel
theorem dX2_mostForgetful_47 : decode cX2_mostForgetful 47 = .ok (.iload_n 3, 1) := by decide +kernel
theorem dX2_mostForgetful_48 : decode cX2_mostForgetful 48 = .ok (.istore_n 1, 1) := by decide +kernel
theorem dX2_mostForgetful_49 : decode cX2_mostForgetful 49 = .ok (.iinc 3 1, 3) := by decide +kernel
theorem dX2_mostForgetful_52 : decode cX2_mostForgetful 52 = .ok (.goto (-45), 3) := by decide +kernel
theorem dX2_mostForgetful_55 : decode cX2_mostForgetful 55 = .ok (.iload_n 1, 1) := by decide +kernel
theorem dX2_mostForgetful_56 : decode cX2_mostForgetful 56 = .ok (.ireturn, 1) := by decide +kernel
