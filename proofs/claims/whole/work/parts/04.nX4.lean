set_option maxRecDepth 20000 in
theorem ggX4_init_X2_init : GoodIn wsX4_init wsX2_init := goodIn_r _ [19, 20, 2, 3, 21, 22, 23, 24, 25, 26, 27, 28, 29, 30, 31, 32, 33, 34, 35, 36, 37, 38, 39, 40, 41, 42, 43, 44, 45, 46, 47, 48, 49, 50, 51, 52, 53, 54, 83, 84, 85, 86, 87, 88, 89, 90, 65, 66, 67, 68, 69, 91, 92, 93, 94, 95, 96, 97] (by decide +kernel) (by decide +kernel)
set_option maxRecDepth 20000 in
theorem gX4_init_X2_init : GoodIn wsX4_init (wsX2_init) := ggX4_init_X2_init
set_option maxRecDepth 20000 in
theorem ggX4_init_X3_init : GoodIn wsX4_init wsX3_init := goodIn_r _ [56, 57, 2, 3, 58, 59, 60, 61, 62, 63, 64, 77, 78, 79, 80, 81, 82] (by decide +kernel) (by decide +kernel)
set_option maxRecDepth 20000 in
theorem gX4_init_X3_init_n29 : GoodIn wsX4_init (wsX3_init) := ggX4_init_X3_init
theorem dX4_init_0 : decode cX4_init 0 = .ok (.aload_n 0, 1) := by decide +kernel
theorem dX4_init_1 : decode cX4_init 1 = .ok (.invokespecial 1, 3) := by decide +kernel
theorem dX4_init_4 : decode cX4_init 4 = .ok (.aload_n 0, 1) := by decide +kernel
theorem dX4_init_5 : decode cX4_init 5 = .ok (.new 7, 3) := by decide +kernel
theorem dX4_init_8 : decode cX4_init 8 = .ok (.dup, 1) := by decide +kernel
theorem dX4_init_9 : decode cX4_init 9 = .ok (.invokespecial 9, 3) := by decide +kernel
theorem dX4_init_12 : decode cX4_init 12 = .ok (.putfield 10, 3) := by decide +kernel
theorem dX4_init_15 : decode cX4_init 15 = .ok (.aload_n 0, 1) := by decide +kernel
theorem dX4_init_16 : decode cX4_init 16 = .ok (.new 7, 3) := by decide +kernel
theorem dX4_init_19 : decode cX4_init 19 = .ok (.dup, 1) := by decide +kernel
theorem dX4_init_20 : decode cX4_init 20 = .ok (.invokespecial 9, 3) := by decide +kernel
theorem dX4_init_23 : decode cX4_init 23 = .ok (.putfield 16, 3) := by decide +kernel
theorem dX4_init_26 : decode cX4_init 26 = .ok (.aload_n 0, 1) := by decide +kernel
theorem dX4_init_27 : decode cX4_init 27 = .ok (.iconst 4, 1) := by decide +kernel
theorem dX4_init_28 : decode cX4_init 28 = .ok (.anewarray 7, 3) := by decide +kernel
theorem dX4_init_31 : decode cX4_init 31 = .ok (.putfield 19, 3) := by decide +kernel
theorem dX4_init_34 : decode cX4_init 34 = .ok (.aload_n 0, 1) := by decide +kernel
theorem dX4_init_35 : decode cX4_init 35 = .ok (.iconst 0, 1) := by decide +kernel
theorem dX4_init_36 : decode cX4_init 36 = .ok (.putfield 23, 3) := by decide +kernel
theorem dX4_init_39 : decode cX4_init 39 = .ok (.aload_n 0, 1) := by decide +kernel
theorem dX4_init_40 : decode cX4_init 40 = .ok (.new 27, 3) := by decide +kernel
theorem dX4_init_43 : decode cX4_init 43 = .ok (.dup, 1) := by decide +kernel
theorem dX4_init_44 : decode cX4_init 44 = .ok (.invokespecial 29, 3) := by decide +kernel
theorem dX4_init_47 : decode cX4_init 47 = .ok (.putfield 30, 3) := by decide +kernel
theorem dX4_init_50 : decode cX4_init 50 = .ok (.aload_n 0, 1) := by decide +kernel
theorem dX4_init_51 : decode cX4_init 51 = .ok (.iconst (-1), 1) := by decide +kernel
theorem dX4_init_52 : decode cX4_init 52 = .ok (.putfield 34, 3) := by decide +kernel
theorem dX4_init_55 : decode cX4_init 55 = .ok (.aload_n 0, 1) := by decide +kernel
theorem dX4_init_56 : decode cX4_init 56 = .ok (.iconst 0, 1) := by decide +kernel
theorem dX4_init_57 : decode cX4_init 57 = .ok (.putfield 37, 3) := by decide +kernel
theorem dX4_init_60 : decode cX4_init 60 = .ok (.iconst 0, 1) := by decide +kernel
theorem dX4_init_61 : decode cX4_init 61 = .ok (.istore_n 1, 1) := by decide +kernel
theorem dX4_init_62 : decode cX4_init 62 = .ok (.iload_n 1, 1) := by decide +kernel
theorem dX4_init_63 : decode cX4_init 63 = .ok (.aload_n 0, 1) := by decide +kernel
theorem dX4_init_64 : decode cX4_init 64 = .ok (.getfield 19, 3) := by decide +kernel
theorem dX4_init_67 : decode cX4_init 67 = .ok (.arraylength, 1) := by decide +kernel
theorem dX4_init_68 : decode cX4_init 68 = .ok (.if_icmp .ge 22, 3) := by decide +kernel
theorem dX4_init_71 : decode cX4_init 71 = .ok (.aload_n 0, 1) := by decide +kernel
theorem dX4_init_72 : decode cX4_init 72 = .ok (.getfield 19, 3) := by decide +kernel
theorem dX4_init_75 : decode cX4_init 75 = .ok (.iload_n 1, 1) := by decide +kernel
theorem dX4_init_76 : decode cX4_init 76 = .ok (.new 7, 3) := by decide +kernel
theorem dX4_init_79 : decode cX4_init 79 = .ok (.dup, 1) := by decide +kernel
theorem dX4_init_80 : decode cX4_init 80 = .ok (.invokespecial 9, 3) := by decide +kernel
theorem dX4_init_83 : decode cX4_init 83 = .ok (.aastore, 1) := by decide +kernel
theorem dX4_init_84 : decode cX4_init 84 = .ok (.iinc 1 1, 3) := by decide +kernel
theorem dX4_init_87 : decode cX4_init 87 = .ok (.goto (-25), 3) := by decide +kernel
theorem dX4_init_90 : decode cX4_init 90 = .ok (.return_, 1) := by decide +kernel
set_option maxRecDepth 20000 in
theorem ggX4_clerk_X2_become : GoodIn wsX4_clerk wsX2_become := goodIn_r _ [7, 8, 9, 10, 11, 12, 13, 14, 15, 16, 17, 18, 19, 20, 21, 22, 23, 24, 25, 26, 27, 28, 29, 30, 31, 32, 33, 34, 35, 36, 37, 38, 39, 40, 41, 42, 70, 71, 72, 73, 74, 75, 76, 77, 78, 79, 80, 81, 82, 83, 84, 85, 86, 87, 88, 89] (by decide +kernel) (by decide +kernel)
set_option maxRecDepth 20000 in
theorem gX4_clerk_X2_become : GoodIn wsX4_clerk (wsV RX4 40 RX2 yX2_become wsX2_become) := goodIn_app (goodIn_of _ (by decide +kernel)) ggX4_clerk_X2_become
set_option maxRecDepth 20000 in
theorem ggX4_clerk_X2_addClerk : GoodIn wsX4_clerk wsX2_addClerk := goodIn_r _ [46, 10, 9, 47, 70, 71, 72, 73, 74, 83, 84, 85, 86, 87, 88, 89] (by decide +kernel) (by decide +kernel)
set_option maxRecDepth 20000 in
theorem gX4_clerk_X2_addClerk : GoodIn wsX4_clerk (wsV RX4 44 RX2 yX2_addClerk wsX2_addClerk) := goodIn_app (goodIn_of _ (by decide +kernel)) ggX4_clerk_X2_addClerk
set_option maxRecDepth 20000 in
theorem ggX4_clerk_X4_adopt : GoodIn wsX4_clerk wsX4_adopt := goodIn_r _ [52, 2, 1, 53, 54, 55, 51, 56, 57, 58, 59, 60, 61, 62, 3, 4, 5, 6, 7, 8, 9, 10, 11, 12, 13, 14, 15, 16, 17, 18, 19, 20, 21, 22, 23, 24, 25, 26, 27, 28, 29, 30, 31, 32, 33, 34, 35, 36, 37, 38, 39, 40, 41, 42, 63, 64, 65, 66, 67, 68, 69, 70, 71, 72, 73, 74, 75, 76, 77, 78, 79, 80, 81, 82, 83, 84, 85, 86, 87, 88, 89] (by decide +kernel) (by decide +kernel)
set_option maxRecDepth 20000 in
theorem gX4_clerk_X4_adopt : GoodIn wsX4_clerk (wsV RX4 48 RX4 yX4_adopt wsX4_adopt) := goodIn_app (goodIn_of _ (by decide +kernel)) ggX4_clerk_X4_adopt
theorem dX4_clerk_0 : decode cX4_clerk 0 = .ok (.aload_n 0, 1) := by decide +kernel
theorem dX4_clerk_1 : decode cX4_clerk 1 = .ok (.getfield 16, 3) := by decide +kernel
theorem dX4_clerk_4 : decode cX4_clerk 4 = .ok (.aload_n 0, 1) := by decide +kernel
theorem dX4_clerk_5 : decode cX4_clerk 5 = .ok (.getfield 10, 3) := by decide +kernel
theorem dX4_clerk_8 : decode cX4_clerk 8 = .ok (.invokevirtual 40, 3) := by decide +kernel
theorem dX4_clerk_11 : decode cX4_clerk 11 = .ok (.aload_n 0, 1) := by decide +kernel
theorem dX4_clerk_12 : decode cX4_clerk 12 = .ok (.aload_n 0, 1) := by decide +kernel
theorem dX4_clerk_13 : decode cX4_clerk 13 = .ok (.getfield 16, 3) := by decide +kernel
theorem dX4_clerk_16 : decode cX4_clerk 16 = .ok (.iload_n 1, 1) := by decide +kernel
theorem dX4_clerk_17 : decode cX4_clerk 17 = .ok (.invokevirtual 44, 3) := by decide +kernel
theorem dX4_clerk_20 : decode cX4_clerk 20 = .ok (.invokevirtual 48, 3) := by decide +kernel
theorem dX4_clerk_23 : decode cX4_clerk 23 = .ok (.ireturn, 1) := by decide +kernel
set_option maxRecDepth 20000 in
theorem ggX4_ask_X2_become : GoodIn wsX4_ask wsX2_become := goodIn_r _ [7, 8, 9, 10, 11, 12, 13, 14, 15, 16, 17, 18, 19, 20, 21, 22, 23, 24, 25, 26, 27, 28, 29, 30, 31, 32, 33, 34, 35, 36, 37, 38, 39, 40, 41, 42, 135, 136, 137, 138, 139, 140, 141, 142, 143, 144, 145, 146, 147, 148, 149, 150, 151, 152, 153, 154] (by decide +kernel) (by decide +kernel)
set_option maxRecDepth 20000 in
theorem gX4_ask_X2_become : GoodIn wsX4_ask (wsV RX4 40 RX2 yX2_become wsX2_become) := goodIn_app (goodIn_of _ (by decide +kernel)) ggX4_ask_X2_become
set_option maxRecDepth 20000 in
theorem ggX4_ask_X2_serve : GoodIn wsX4_ask wsX2_serve := goodIn_r _ [46, 9, 11, 8, 16, 47, 48, 49, 6, 50, 10, 51, 52, 53, 54, 55, 56, 57, 20, 58, 59, 60, 61, 62, 22, 63, 64, 65, 34, 66, 38, 37, 67, 68, 69, 70, 71, 72, 73, 74, 75, 76, 77, 78, 79, 30, 80, 81, 82, 83, 84, 85, 86, 87, 88, 89, 90, 24, 25, 91, 92, 93, 94, 95, 96, 97, 98, 99, 100, 101, 36, 39, 41, 102, 103, 104, 105, 40, 42, 106, 107, 108, 109, 110, 29, 28, 26, 27, 111, 112, 135, 136, 137, 138, 139, 140, 141, 142, 143, 144, 145, 146, 147, 148, 149, 150, 151, 152, 153, 154] (by decide +kernel) (by decide +kernel)
set_option maxRecDepth 20000 in
theorem gX4_ask_X2_serve : GoodIn wsX4_ask (wsV RX4 51 RX2 yX2_serve wsX2_serve) := goodIn_app (goodIn_of _ (by decide +kernel)) ggX4_ask_X2_serve
set_option maxRecDepth 20000 in
theorem ggX4_ask_X4_adopt : GoodIn wsX4_ask wsX4_adopt := goodIn_r _ [117, 2, 1, 118, 119, 120, 116, 121, 122, 123, 124, 125, 126, 127, 3, 4, 5, 6, 7, 8, 9, 10, 11, 12, 13, 14, 15, 16, 17, 18, 19, 20, 21, 22, 23, 24, 25, 26, 27, 28, 29, 30, 31, 32, 33, 34, 35, 36, 37, 38, 39, 40, 41, 42, 128, 129, 130, 131, 132, 133, 134, 135, 136, 137, 138, 139, 140, 141, 142, 143, 144, 145, 146, 147, 148, 149, 150, 151, 152, 153, 154] (by decide +kernel) (by decide +kernel)
set_option maxRecDepth 20000 in
theorem gX4_ask_X4_adopt : GoodIn wsX4_ask (wsV RX4 48 RX4 yX4_adopt wsX4_adopt) := goodIn_app (goodIn_of _ (by decide +kernel)) ggX4_ask_X4_adopt
theorem dX4_ask_0 : decode cX4_ask 0 = .ok (.aload_n 0, 1) := by decide +kernel
theorem dX4_ask_1 : decode cX4_ask 1 = .ok (.getfield 16, 3) := by decide +kernel
theorem dX4_ask_4 : decode cX4_ask 4 = .ok (.aload_n 0, 1) := by decide +kernel
theorem dX4_ask_5 : decode cX4_ask 5 = .ok (.getfield 10, 3) := by decide +kernel
theorem dX4_ask_8 : decode cX4_ask 8 = .ok (.invokevirtual 40, 3) := by decide +kernel
theorem dX4_ask_11 : decode cX4_ask 11 = .ok (.aload_n 0, 1) := by decide +kernel
theorem dX4_ask_12 : decode cX4_ask 12 = .ok (.aload_n 0, 1) := by decide +kernel
theorem dX4_ask_13 : decode cX4_ask 13 = .ok (.getfield 16, 3) := by decide +kernel
theorem dX4_ask_16 : decode cX4_ask 16 = .ok (.iload_n 1, 1) := by decide +kernel
theorem dX4_ask_17 : decode cX4_ask 17 = .ok (.iload_n 2, 1) := by decide +kernel
theorem dX4_ask_18 : decode cX4_ask 18 = .ok (.invokevirtual 51, 3) := by decide +kernel
theorem dX4_ask_21 : decode cX4_ask 21 = .ok (.invokevirtual 48, 3) := by decide +kernel
theorem dX4_ask_24 : decode cX4_ask 24 = .ok (.ireturn, 1) := by decide +kernel
set_option maxRecDepth 20000 in
theorem ggX4_forget_X2_become : GoodIn wsX4_forget wsX2_become := goodIn_r _ [7, 8, 9, 10, 11, 12, 13, 14, 15, 16, 17, 18, 19, 20, 21, 22, 23, 24, 25, 26, 27, 28, 29, 30, 31, 32, 33, 34, 35, 36, 37, 38, 39, 40, 41, 42, 100, 101, 102, 103, 104, 105, 106, 107, 108, 109, 110, 111, 112, 113, 114, 115, 116, 117, 118, 119] (by decide +kernel) (by decide +kernel)
set_option maxRecDepth 20000 in
theorem gX4_forget_X2_become : GoodIn wsX4_forget (wsV RX4 40 RX2 yX2_become wsX2_become) := goodIn_app (goodIn_of _ (by decide +kernel)) ggX4_forget_X2_become
set_option maxRecDepth 20000 in
theorem ggX4_forget_X2_letForget : GoodIn wsX4_forget wsX2_letForget := goodIn_r _ [46, 9, 8, 47, 48, 49, 50, 6, 51, 10, 52, 53, 54, 34, 55, 38, 37, 56, 57, 58, 59, 60, 61, 62, 63, 64, 65, 66, 67, 39, 68, 69, 70, 71, 72, 73, 74, 20, 75, 76, 77, 22, 24, 25, 30, 100, 101, 102, 103, 104, 113, 114, 115, 116, 117, 118, 119, 105, 106, 107, 108, 109, 110, 111, 112] (by decide +kernel) (by decide +kernel)
set_option maxRecDepth 20000 in
theorem gX4_forget_X2_letForget : GoodIn wsX4_forget (wsV RX4 55 RX2 yX2_letForget wsX2_letForget) := goodIn_app (goodIn_of _ (by decide +kernel)) ggX4_forget_X2_letForget
set_option maxRecDepth 20000 in
theorem ggX4_forget_X4_adopt : GoodIn wsX4_forget wsX4_adopt := goodIn_r _ [82, 2, 1, 83, 84, 85, 81, 86, 87, 88, 89, 90, 91, 92, 3, 4, 5, 6, 7, 8, 9, 10, 11, 12, 13, 14, 15, 16, 17, 18, 19, 20, 21, 22, 23, 24, 25, 26, 27, 28, 29, 30, 31, 32, 33, 34, 35, 36, 37, 38, 39, 40, 41, 42, 93, 94, 95, 96, 97, 98, 99, 100, 101, 102, 103, 104, 105, 106, 107, 108, 109, 110, 111, 112, 113, 114, 115, 116, 117, 118, 119] (by decide +kernel) (by decide +kernel)
set_option maxRecDepth 20000 in
theorem gX4_forget_X4_adopt : GoodIn wsX4_forget (wsV RX4 48 RX4 yX4_adopt wsX4_adopt) := goodIn_app (goodIn_of _ (by decide +kernel)) ggX4_forget_X4_adopt
theorem dX4_forget_0 : decode cX4_forget 0 = .ok (.aload_n 0, 1) := by decide +kernel
theorem dX4_forget_1 : decode cX4_forget 1 = .ok (.getfield 16, 3) := by decide +kernel
theorem dX4_forget_4 : decode cX4_forget 4 = .ok (.aload_n 0, 1) := by decide +kernel
theorem dX4_forget_5 : decode cX4_forget 5 = .ok (.getfield 10, 3) := by decide +kernel
theorem dX4_forget_8 : decode cX4_forget 8 = .ok (.invokevirtual 40, 3) := by decide +kernel
theorem dX4_forget_11 : decode cX4_forget 11 = .ok (.aload_n 0, 1) := by decide +kernel
theorem dX4_forget_12 : decode cX4_forget 12 = .ok (.aload_n 0, 1) := by decide +kernel
theorem dX4_forget_13 : decode cX4_forget 13 = .ok (.getfield 16, 3) := by decide +kernel
theorem dX4_forget_16 : decode cX4_forget 16 = .ok (.iload_n 1, 1) := by decide +kernel
theorem dX4_forget_17 : decode cX4_forget 17 = .ok (.invokevirtual 55, 3) := by decide +kernel
theorem dX4_forget_20 : decode cX4_forget 20 = .ok (.invokevirtual 48, 3) := by decide +kernel
theorem dX4_forget_23 : decode cX4_forget 23 = .ok (.ireturn, 1) := by decide +kernel
set_option maxRecDepth 20000 in
theorem ggX4_giveBack_X2_become : GoodIn wsX4_giveBack wsX2_become := goodIn_r _ [7, 8, 9, 10, 11, 12, 13, 14, 15, 16, 17, 18, 19, 20, 21, 22, 23, 24, 25, 26, 27, 28, 29, 30, 31, 32, 33, 34, 35, 36, 37, 38, 39, 40, 41, 42, 94, 95, 96, 97, 98, 99, 100, 101, 102, 103, 104, 105, 106, 107, 108, 109, 110, 111, 112, 113] (by decide +kernel) (by decide +kernel)
set_option maxRecDepth 20000 in
theorem gX4_giveBack_X2_become : GoodIn wsX4_giveBack (wsV RX4 40 RX2 yX2_become wsX2_become) := goodIn_app (goodIn_of _ (by decide +kernel)) ggX4_giveBack_X2_become
set_option maxRecDepth 20000 in
theorem ggX4_giveBack_X2_takeBack : GoodIn wsX4_giveBack wsX2_takeBack := goodIn_r _ [46, 9, 11, 8, 47, 48, 49, 50, 51, 6, 52, 10, 53, 54, 55, 34, 56, 38, 37, 57, 58, 59, 20, 60, 61, 62, 63, 64, 65, 66, 67, 22, 24, 25, 30, 68, 69, 70, 71, 39, 94, 95, 96, 97, 98, 107, 108, 109, 110, 111, 112, 113, 99, 100, 101, 102, 103, 104, 105, 106] (by decide +kernel) (by decide +kernel)
set_option maxRecDepth 20000 in
theorem gX4_giveBack_X2_takeBack : GoodIn wsX4_giveBack (wsV RX4 58 RX2 yX2_takeBack wsX2_takeBack) := goodIn_app (goodIn_of _ (by decide +kernel)) ggX4_giveBack_X2_takeBack
set_option maxRecDepth 20000 in
theorem ggX4_giveBack_X4_adopt : GoodIn wsX4_giveBack wsX4_adopt := goodIn_r _ [76, 2, 1, 77, 78, 79, 75, 80, 81, 82, 83, 84, 85, 86, 3, 4, 5, 6, 7, 8, 9, 10, 11, 12, 13, 14, 15, 16, 17, 18, 19, 20, 21, 22, 23, 24, 25, 26, 27, 28, 29, 30, 31, 32, 33, 34, 35, 36, 37, 38, 39, 40, 41, 42, 87, 88, 89, 90, 91, 92, 93, 94, 95, 96, 97, 98, 99, 100, 101, 102, 103, 104, 105, 106, 107, 108, 109, 110, 111, 112, 113] (by decide +kernel) (by decide +kernel)
set_option maxRecDepth 20000 in
theorem gX4_giveBack_X4_adopt : GoodIn wsX4_giveBack (wsV RX4 48 RX4 yX4_adopt wsX4_adopt) := goodIn_app (goodIn_of _ (by decide +kernel)) ggX4_giveBack_X4_adopt
theorem dX4_giveBack_0 : decode cX4_giveBack 0 = .ok (.aload_n 0, 1) := by decide +kernel
theorem dX4_giveBack_1 : decode cX4_giveBack 1 = .ok (.getfield 16, 3) := by decide +kernel
theorem dX4_giveBack_4 : decode cX4_giveBack 4 = .ok (.aload_n 0, 1) := by decide +kernel
theorem dX4_giveBack_5 : decode cX4_giveBack 5 = .ok (.getfield 10, 3) := by decide +kernel
theorem dX4_giveBack_8 : decode cX4_giveBack 8 = .ok (.invokevirtual 40, 3) := by decide +kernel
theorem dX4_giveBack_11 : decode cX4_giveBack 11 = .ok (.aload_n 0, 1) := by decide +kernel
theorem dX4_giveBack_12 : decode cX4_giveBack 12 = .ok (.aload_n 0, 1) := by decide +kernel
theorem dX4_giveBack_13 : decode cX4_giveBack 13 = .ok (.getfield 16, 3) := by decide +kernel
theorem dX4_giveBack_16 : decode cX4_giveBack 16 = .ok (.iload_n 1, 1) := by decide +kernel
theorem dX4_giveBack_17 : decode cX4_giveBack 17 = .ok (.invokevirtual 58, 3) := by decide +kernel
theorem dX4_giveBack_20 : decode cX4_giveBack 20 = .ok (.invokevirtual 48, 3) := by decide +kernel
theorem dX4_giveBack_23 : decode cX4_giveBack 23 = .ok (.ireturn, 1) := by decide +kernel
set_option maxRecDepth 20000 in
theorem ggX4_makeVoid_X2_become : GoodIn wsX4_makeVoid wsX2_become := goodIn_r _ [7, 8, 9, 10, 11, 12, 13, 14, 15, 16, 17, 18, 19, 20, 21, 22, 23, 24, 25, 26, 27, 28, 29, 30, 31, 32, 33, 34, 35, 36, 37, 38, 39, 40, 41, 42, 85, 86, 87, 88, 89, 90, 91, 92, 93, 94, 95, 96, 97, 98, 99, 100, 101, 102, 103, 104] (by decide +kernel) (by decide +kernel)
set_option maxRecDepth 20000 in
theorem gX4_makeVoid_X2_become : GoodIn wsX4_makeVoid (wsV RX4 40 RX2 yX2_become wsX2_become) := goodIn_app (goodIn_of _ (by decide +kernel)) ggX4_makeVoid_X2_become
set_option maxRecDepth 20000 in
theorem ggX4_makeVoid_X2_cancel : GoodIn wsX4_makeVoid wsX2_cancel := goodIn_r _ [46, 8, 47, 48, 49, 50, 20, 51, 52, 53, 54, 55, 56, 57, 58, 59, 60, 61, 62, 22, 24, 25, 30, 85, 86, 87, 88, 89, 90, 91, 92, 93, 94, 95, 96, 97] (by decide +kernel) (by decide +kernel)
set_option maxRecDepth 20000 in
theorem gX4_makeVoid_X2_cancel : GoodIn wsX4_makeVoid (wsV RX4 61 RX2 yX2_cancel wsX2_cancel) := goodIn_app (goodIn_of _ (by decide +kernel)) ggX4_makeVoid_X2_cancel
set_option maxRecDepth 20000 in
theorem ggX4_makeVoid_X4_adopt : GoodIn wsX4_makeVoid wsX4_adopt := goodIn_r _ [67, 2, 1, 68, 69, 70, 66, 71, 72, 73, 74, 75, 76, 77, 3, 4, 5, 6, 7, 8, 9, 10, 11, 12, 13, 14, 15, 16, 17, 18, 19, 20, 21, 22, 23, 24, 25, 26, 27, 28, 29, 30, 31, 32, 33, 34, 35, 36, 37, 38, 39, 40, 41, 42, 78, 79, 80, 81, 82, 83, 84, 85, 86, 87, 88, 89, 90, 91, 92, 93, 94, 95, 96, 97, 98, 99, 100, 101, 102, 103, 104] (by decide +kernel) (by decide +kernel)
set_option maxRecDepth 20000 in
theorem gX4_makeVoid_X4_adopt : GoodIn wsX4_makeVoid (wsV RX4 48 RX4 yX4_adopt wsX4_adopt) := goodIn_app (goodIn_of _ (by decide +kernel)) ggX4_makeVoid_X4_adopt
theorem dX4_makeVoid_0 : decode cX4_makeVoid 0 = .ok (.aload_n 0, 1) := by decide +kernel
theorem dX4_makeVoid_1 : decode cX4_makeVoid 1 = .ok (.getfield 16, 3) := by decide +kernel
theorem dX4_makeVoid_4 : decode cX4_makeVoid 4 = .ok (.aload_n 0, 1) := by decide +kernel
theorem dX4_makeVoid_5 : decode cX4_makeVoid 5 = .ok (.getfield 10, 3) := by decide +kernel
theorem dX4_makeVoid_8 : decode cX4_makeVoid 8 = .ok (.invokevirtual 40, 3) := by decide +kernel
theorem dX4_makeVoid_11 : decode cX4_makeVoid 11 = .ok (.aload_n 0, 1) := by decide +kernel
theorem dX4_makeVoid_12 : decode cX4_makeVoid 12 = .ok (.aload_n 0, 1) := by decide +kernel
theorem dX4_makeVoid_13 : decode cX4_makeVoid 13 = .ok (.getfield 16, 3) := by decide +kernel
theorem dX4_makeVoid_16 : decode cX4_makeVoid 16 = .ok (.iload_n 1, 1) := by decide +kernel
theorem dX4_makeVoid_17 : decode cX4_makeVoid 17 = .ok (.invokevirtual 61, 3) := by decide +kernel
theorem dX4_makeVoid_20 : decode cX4_makeVoid 20 = .ok (.invokevirtual 48, 3) := by decide +kernel
theorem dX4_makeVoid_23 : decode cX4_makeVoid 23 = .ok (.ireturn, 1) := by decide +kernel
set_option maxRecDepth 20000 in
theorem ggX4_close_X2_become : GoodIn wsX4_close wsX2_become := goodIn_r _ [7, 8, 9, 10, 11, 12, 13, 14, 15, 16, 17, 18, 19, 20, 21, 22, 23, 24, 25, 26, 27, 28, 29, 30, 31, 32, 33, 34, 35, 36, 37, 38, 39, 40, 41, 42, 88, 89, 90, 91, 92, 93, 94, 95, 96, 97, 98, 99, 100, 101, 102, 103, 104, 105, 106, 107] (by decide +kernel) (by decide +kernel)
set_option maxRecDepth 20000 in
theorem gX4_close_X2_become : GoodIn wsX4_close (wsV RX4 40 RX2 yX2_become wsX2_become) := goodIn_app (goodIn_of _ (by decide +kernel)) ggX4_close_X2_become
set_option maxRecDepth 20000 in
theorem ggX4_close_X2_endDay : GoodIn wsX4_close wsX2_endDay := goodIn_r _ [46, 8, 9, 16, 47, 48, 49, 20, 50, 22, 24, 51, 52, 53, 54, 55, 56, 57, 58, 59, 60, 61, 25, 30, 62, 63, 64, 34, 65, 37, 38, 39, 88, 89, 90, 91, 92, 93, 94, 95, 96, 97, 98, 99, 100, 101, 102, 103, 104, 105, 106, 107] (by decide +kernel) (by decide +kernel)
set_option maxRecDepth 20000 in
theorem gX4_close_X2_endDay : GoodIn wsX4_close (wsV RX4 64 RX2 yX2_endDay wsX2_endDay) := goodIn_app (goodIn_of _ (by decide +kernel)) ggX4_close_X2_endDay
set_option maxRecDepth 20000 in
theorem ggX4_close_X4_adopt : GoodIn wsX4_close wsX4_adopt := goodIn_r _ [70, 2, 1, 71, 72, 73, 69, 74, 75, 76, 77, 78, 79, 80, 3, 4, 5, 6, 7, 8, 9, 10, 11, 12, 13, 14, 15, 16, 17, 18, 19, 20, 21, 22, 23, 24, 25, 26, 27, 28, 29, 30, 31, 32, 33, 34, 35, 36, 37, 38, 39, 40, 41, 42, 81, 82, 83, 84, 85, 86, 87, 88, 89, 90, 91, 92, 93, 94, 95, 96, 97, 98, 99, 100, 101, 102, 103, 104, 105, 106, 107] (by decide +kernel) (by decide +kernel)
set_option maxRecDepth 20000 in
theorem gX4_close_X4_adopt : GoodIn wsX4_close (wsV RX4 48 RX4 yX4_adopt wsX4_adopt) := goodIn_app (goodIn_of _ (by decide +kernel)) ggX4_close_X4_adopt
theorem dX4_close_0 : decode cX4_close 0 = .ok (.aload_n 0, 1) := by decide +kernel
theorem dX4_close_1 : decode cX4_close 1 = .ok (.getfield 16, 3) := by decide +kernel
theorem dX4_close_4 : decode cX4_close 4 = .ok (.aload_n 0, 1) := by decide +kernel
theorem dX4_close_5 : decode cX4_close 5 = .ok (.getfield 10, 3) := by decide +kernel
theorem dX4_close_8 : decode cX4_close 8 = .ok (.invokevirtual 40, 3) := by decide +kernel
theorem dX4_close_11 : decode cX4_close 11 = .ok (.aload_n 0, 1) := by decide +kernel
theorem dX4_close_12 : decode cX4_close 12 = .ok (.aload_n 0, 1) := by decide +kernel
theorem dX4_close_13 : decode cX4_close 13 = .ok (.getfield 16, 3) := by decide +kernel
theorem dX4_close_16 : decode cX4_close 16 = .ok (.invokevirtual 64, 3) := by decide +kernel
theorem dX4_close_19 : decode cX4_close 19 = .ok (.invokevirtual 48, 3) := by decide +kernel
theorem dX4_close_22 : decode cX4_close 22 = .ok (.ireturn, 1) := by decide +kernel
set_option maxRecDepth 20000 in
theorem ggX4_set_X2_become : GoodIn wsX4_set wsX2_become := goodIn_r _ [7, 8, 9, 10, 11, 12, 13, 14, 15, 16, 17, 18, 19, 20, 21, 22, 23, 24, 25, 26, 27, 28, 29, 30, 31, 32, 33, 34, 35, 36, 37, 38, 39, 40, 41, 42, 71, 72, 73, 74, 75, 76, 77, 78, 79, 80, 81, 82, 83, 84, 85, 86, 87, 88, 89, 90] (by decide +kernel) (by decide +kernel)
set_option maxRecDepth 20000 in
theorem gX4_set_X2_become : GoodIn wsX4_set (wsV RX4 40 RX2 yX2_become wsX2_become) := goodIn_app (goodIn_of _ (by decide +kernel)) ggX4_set_X2_become
set_option maxRecDepth 20000 in
theorem ggX4_set_X2_change : GoodIn wsX4_set wsX2_change := goodIn_r _ [46, 47, 48, 11, 71, 72, 73, 74, 75] (by decide +kernel) (by decide +kernel)
set_option maxRecDepth 20000 in
theorem gX4_set_X2_change : GoodIn wsX4_set (wsV RX4 68 RX2 yX2_change wsX2_change) := goodIn_app (goodIn_of _ (by decide +kernel)) ggX4_set_X2_change
set_option maxRecDepth 20000 in
theorem ggX4_set_X4_adopt : GoodIn wsX4_set wsX4_adopt := goodIn_r _ [53, 2, 1, 54, 55, 56, 52, 57, 58, 59, 60, 61, 62, 63, 3, 4, 5, 6, 7, 8, 9, 10, 11, 12, 13, 14, 15, 16, 17, 18, 19, 20, 21, 22, 23, 24, 25, 26, 27, 28, 29, 30, 31, 32, 33, 34, 35, 36, 37, 38, 39, 40, 41, 42, 64, 65, 66, 67, 68, 69, 70, 71, 72, 73, 74, 75, 76, 77, 78, 79, 80, 81, 82, 83, 84, 85, 86, 87, 88, 89, 90] (by decide +kernel) (by decide +kernel)
set_option maxRecDepth 20000 in
theorem gX4_set_X4_adopt : GoodIn wsX4_set (wsV RX4 48 RX4 yX4_adopt wsX4_adopt) := goodIn_app (goodIn_of _ (by decide +kernel)) ggX4_set_X4_adopt
theorem dX4_set_0 : decode cX4_set 0 = .ok (.aload_n 0, 1) := by decide +kernel
theorem dX4_set_1 : decode cX4_set 1 = .ok (.getfield 16, 3) := by decide +kernel
theorem dX4_set_4 : decode cX4_set 4 = .ok (.aload_n 0, 1) := by decide +kernel
theorem dX4_set_5 : decode cX4_set 5 = .ok (.getfield 10, 3) := by decide +kernel
theorem dX4_set_8 : decode cX4_set 8 = .ok (.invokevirtual 40, 3) := by decide +kernel
theorem dX4_set_11 : decode cX4_set 11 = .ok (.aload_n 0, 1) := by decide +kernel
theorem dX4_set_12 : decode cX4_set 12 = .ok (.aload_n 0, 1) := by decide +kernel
theorem dX4_set_13 : decode cX4_set 13 = .ok (.getfield 16, 3) := by decide +kernel
theorem dX4_set_16 : decode cX4_set 16 = .ok (.iload_n 1, 1) := by decide +kernel
theorem dX4_set_17 : decode cX4_set 17 = .ok (.iload_n 2, 1) := by decide +kernel
theorem dX4_set_18 : decode cX4_set 18 = .ok (.invokevirtual 68, 3) := by decide +kernel
theorem dX4_set_21 : decode cX4_set 21 = .ok (.invokevirtual 48, 3) := by decide +kernel
theorem dX4_set_24 : decode cX4_set 24 = .ok (.ireturn, 1) := by decide +kernel
set_option maxRecDepth 20000 in
theorem ggX4_numberOf_X1_tell : GoodIn wsX4_numberOf wsX1_tell := goodIn_r _ [7, 8, 9, 10, 11, 12, 13, 14, 6, 15, 16, 17, 18, 19, 20, 21, 22, 23, 36, 37, 38, 39, 40, 41, 42, 43] (by decide +kernel) (by decide +kernel)
set_option maxRecDepth 20000 in
theorem gX4_numberOf_X1_tell : GoodIn wsX4_numberOf (wsV RX4 75 RX1 yX1_tell wsX1_tell) := goodIn_app (goodIn_of _ (by decide +kernel)) ggX4_numberOf_X1_tell
theorem dX4_numberOf_0 : decode cX4_numberOf 0 = .ok (.aload_n 0, 1) := by decide +kernel
theorem dX4_numberOf_1 : decode cX4_numberOf 1 = .ok (.getfield 10, 3) := by decide +kernel
theorem dX4_numberOf_4 : decode cX4_numberOf 4 = .ok (.getfield 71, 3) := by decide +kernel
theorem dX4_numberOf_7 : decode cX4_numberOf 7 = .ok (.iload_n 1, 1) := by decide +kernel
theorem dX4_numberOf_8 : decode cX4_numberOf 8 = .ok (.iload_n 2, 1) := by decide +kernel
theorem dX4_numberOf_9 : decode cX4_numberOf 9 = .ok (.invokevirtual 75, 3) := by decide +kernel
theorem dX4_numberOf_12 : decode cX4_numberOf 12 = .ok (.ireturn, 1) := by decide +kernel
set_option maxRecDepth 20000 in
theorem ggX4_clerkOf_X2_tellOfClerk : GoodIn wsX4_clerkOf wsX2_tellOfClerk := goodIn_r _ [6, 7, 8, 9, 10, 11, 12, 13, 14, 15, 16, 17, 18, 5, 19, 20, 21, 22, 23, 24, 25, 26, 27, 28, 29, 30, 31, 32, 33, 34, 35, 36, 37, 38, 39, 40, 41, 42, 50, 51, 52, 53, 54, 55, 56, 57, 58, 59, 60, 61, 62, 63, 64, 65, 66, 67, 68, 69] (by decide +kernel) (by decide +kernel)
set_option maxRecDepth 20000 in
theorem gX4_clerkOf_X2_tellOfClerk : GoodIn wsX4_clerkOf (wsV RX4 80 RX2 yX2_tellOfClerk wsX2_tellOfClerk) := goodIn_app (goodIn_of _ (by decide +kernel)) ggX4_clerkOf_X2_tellOfClerk
theorem dX4_clerkOf_0 : decode cX4_clerkOf 0 = .ok (.aload_n 0, 1) := by decide +kernel
theorem dX4_clerkOf_1 : decode cX4_clerkOf 1 = .ok (.getfield 10, 3) := by decide +kernel
theorem dX4_clerkOf_4 : decode cX4_clerkOf 4 = .ok (.iload_n 1, 1) := by decide +kernel
theorem dX4_clerkOf_5 : decode cX4_clerkOf 5 = .ok (.iload_n 2, 1) := by decide +kernel
theorem dX4_clerkOf_6 : decode cX4_clerkOf 6 = .ok (.invokevirtual 80, 3) := by decide +kernel
theorem dX4_clerkOf_9 : decode cX4_clerkOf 9 = .ok (.ireturn, 1) := by decide +kernel
set_option maxRecDepth 20000 in
theorem ggX4_holesAt_X1_tellOfRow : GoodIn wsX4_holesAt wsX1_tellOfRow := goodIn_r _ [7, 8, 9, 10, 11, 12, 6, 13, 14, 15, 16, 17, 18, 19, 20, 21, 22, 23, 24, 25, 26, 27, 28, 29, 30, 31, 32, 45, 46, 47, 48, 49, 50, 51, 52] (by decide +kernel) (by decide +kernel)
set_option maxRecDepth 20000 in
theorem gX4_holesAt_X1_tellOfRow : GoodIn wsX4_holesAt (wsV RX4 83 RX1 yX1_tellOfRow wsX1_tellOfRow) := goodIn_app (goodIn_of _ (by decide +kernel)) ggX4_holesAt_X1_tellOfRow
theorem dX4_holesAt_0 : decode cX4_holesAt 0 = .ok (.iload_n 1, 1) := by decide +kernel
theorem dX4_holesAt_1 : decode cX4_holesAt 1 = .ok (.ifCond .lt 12, 3) := by decide +kernel
theorem dX4_holesAt_4 : decode cX4_holesAt 4 = .ok (.iload_n 2, 1) := by decide +kernel
theorem dX4_holesAt_5 : decode cX4_holesAt 5 = .ok (.ifCond .lt 8, 3) := by decide +kernel
theorem dX4_holesAt_8 : decode cX4_holesAt 8 = .ok (.iload_n 2, 1) := by decide +kernel
theorem dX4_holesAt_9 : decode cX4_holesAt 9 = .ok (.iconst 3, 1) := by decide +kernel
theorem dX4_holesAt_10 : decode cX4_holesAt 10 = .ok (.if_icmp .le 5, 3) := by decide +kernel
theorem dX4_holesAt_13 : decode cX4_holesAt 13 = .ok (.iconst (-1), 1) := by decide +kernel
theorem dX4_holesAt_14 : decode cX4_holesAt 14 = .ok (.ireturn, 1) := by decide +kernel
theorem dX4_holesAt_15 : decode cX4_holesAt 15 = .ok (.aload_n 0, 1) := by decide +kernel
theorem dX4_holesAt_16 : decode cX4_holesAt 16 = .ok (.getfield 10, 3) := by decide +kernel
theorem dX4_holesAt_19 : decode cX4_holesAt 19 = .ok (.getfield 71, 3) := by decide +kernel
theorem dX4_holesAt_22 : decode cX4_holesAt 22 = .ok (.iconst 4, 1) := by decide +kernel
theorem dX4_holesAt_23 : decode cX4_holesAt 23 = .ok (.iload_n 1, 1) := by decide +kernel
theorem dX4_holesAt_24 : decode cX4_holesAt 24 = .ok (.iload_n 2, 1) := by decide +kernel
theorem dX4_holesAt_25 : decode cX4_holesAt 25 = .ok (.invokevirtual 83, 3) := by decide +kernel
theorem dX4_holesAt_28 : decode cX4_holesAt 28 = .ok (.ireturn, 1) := by decide +kernel
set_option maxRecDepth 20000 in
theorem ggX4_freeAt_X1_tellOfRow : GoodIn wsX4_freeAt wsX1_tellOfRow := goodIn_r _ [7, 8, 9, 10, 11, 12, 6, 13, 14, 15, 16, 17, 18, 19, 20, 21, 22, 23, 24, 25, 26, 27, 28, 29, 30, 31, 32, 45, 46, 47, 48, 49, 50, 51, 52] (by decide +kernel) (by decide +kernel)
set_option maxRecDepth 20000 in
theorem gX4_freeAt_X1_tellOfRow : GoodIn wsX4_freeAt (wsV RX4 83 RX1 yX1_tellOfRow wsX1_tellOfRow) := goodIn_app (goodIn_of _ (by decide +kernel)) ggX4_freeAt_X1_tellOfRow
theorem dX4_freeAt_0 : decode cX4_freeAt 0 = .ok (.iload_n 1, 1) := by decide +kernel
theorem dX4_freeAt_1 : decode cX4_freeAt 1 = .ok (.ifCond .lt 12, 3) := by decide +kernel
theorem dX4_freeAt_4 : decode cX4_freeAt 4 = .ok (.iload_n 2, 1) := by decide +kernel
theorem dX4_freeAt_5 : decode cX4_freeAt 5 = .ok (.ifCond .lt 8, 3) := by decide +kernel
theorem dX4_freeAt_8 : decode cX4_freeAt 8 = .ok (.iload_n 2, 1) := by decide +kernel
theorem dX4_freeAt_9 : decode cX4_freeAt 9 = .ok (.iconst 1, 1) := by decide +kernel
theorem dX4_freeAt_10 : decode cX4_freeAt 10 = .ok (.if_icmp .le 5, 3) := by decide +kernel
theorem dX4_freeAt_13 : decode cX4_freeAt 13 = .ok (.iconst (-1), 1) := by decide +kernel
theorem dX4_freeAt_14 : decode cX4_freeAt 14 = .ok (.ireturn, 1) := by decide +kernel
theorem dX4_freeAt_15 : decode cX4_freeAt 15 = .ok (.aload_n 0, 1) := by decide +kernel
theorem dX4_freeAt_16 : decode cX4_freeAt 16 = .ok (.getfield 10, 3) := by decide +kernel
theorem dX4_freeAt_19 : decode cX4_freeAt 19 = .ok (.getfield 71, 3) := by decide +kernel
theorem dX4_freeAt_22 : decode cX4_freeAt 22 = .ok (.iconst 3, 1) := by decide +kernel
theorem dX4_freeAt_23 : decode cX4_freeAt 23 = .ok (.iload_n 1, 1) := by decide +kernel
theorem dX4_freeAt_24 : decode cX4_freeAt 24 = .ok (.iload_n 2, 1) := by decide +kernel
theorem dX4_freeAt_25 : decode cX4_freeAt 25 = .ok (.invokevirtual 83, 3) := by decide +kernel
theorem dX4_freeAt_28 : decode cX4_freeAt 28 = .ok (.ireturn, 1) := by decide +kernel
set_option maxRecDepth 20000 in
theorem ggX4_turnAt_X1_givenIn : GoodIn wsX4_turnAt wsX1_givenIn := goodIn_r _ [7, 8, 9, 22, 23, 24, 25, 26, 27, 28, 29] (by decide +kernel) (by decide +kernel)
set_option maxRecDepth 20000 in
theorem gX4_turnAt_X1_givenIn : GoodIn wsX4_turnAt (wsV RX4 87 RX1 yX1_givenIn wsX1_givenIn) := goodIn_app (goodIn_of _ (by decide +kernel)) ggX4_turnAt_X1_givenIn
theorem dX4_turnAt_0 : decode cX4_turnAt 0 = .ok (.iload_n 1, 1) := by decide +kernel
theorem dX4_turnAt_1 : decode cX4_turnAt 1 = .ok (.ifCond .ge 7, 3) := by decide +kernel
theorem dX4_turnAt_4 : decode cX4_turnAt 4 = .ok (.iconst (-1), 1) := by decide +kernel
theorem dX4_turnAt_5 : decode cX4_turnAt 5 = .ok (.goto 14, 3) := by decide +kernel
theorem dX4_turnAt_8 : decode cX4_turnAt 8 = .ok (.aload_n 0, 1) := by decide +kernel
theorem dX4_turnAt_9 : decode cX4_turnAt 9 = .ok (.getfield 10, 3) := by decide +kernel
theorem dX4_turnAt_12 : decode cX4_turnAt 12 = .ok (.getfield 71, 3) := by decide +kernel
theorem dX4_turnAt_15 : decode cX4_turnAt 15 = .ok (.iload_n 1, 1) := by decide +kernel
theorem dX4_turnAt_16 : decode cX4_turnAt 16 = .ok (.invokevirtual 87, 3) := by decide +kernel
theorem dX4_turnAt_19 : decode cX4_turnAt 19 = .ok (.ireturn, 1) := by decide +kernel
set_option maxRecDepth 20000 in
theorem ggX4_among_X1_inState : GoodIn wsX4_among wsX1_inState := goodIn_r _ [7, 8, 9, 10, 11, 12, 30, 31, 32, 33, 34, 35, 36, 37] (by decide +kernel) (by decide +kernel)
set_option maxRecDepth 20000 in
theorem gX4_among_X1_inState : GoodIn wsX4_among (wsV RX4 90 RX1 yX1_inState wsX1_inState) := goodIn_app (goodIn_of _ (by decide +kernel)) ggX4_among_X1_inState
set_option maxRecDepth 20000 in
theorem ggX4_among_X1_withReason : GoodIn wsX4_among wsX1_withReason := goodIn_r _ [16, 8, 9, 10, 11, 17, 30, 31, 32, 33, 34, 35, 36, 37] (by decide +kernel) (by decide +kernel)
set_option maxRecDepth 20000 in
theorem gX4_among_X1_withReason : GoodIn wsX4_among (wsV RX4 93 RX1 yX1_withReason wsX1_withReason) := goodIn_app (goodIn_of _ (by decide +kernel)) ggX4_among_X1_withReason
theorem dX4_among_0 : decode cX4_among 0 = .ok (.iload_n 3, 1) := by decide +kernel
theorem dX4_among_1 : decode cX4_among 1 = .ok (.ifCond .lt 12, 3) := by decide +kernel
theorem dX4_among_4 : decode cX4_among 4 = .ok (.iload_n 3, 1) := by decide +kernel
theorem dX4_among_5 : decode cX4_among 5 = .ok (.iconst 4, 1) := by decide +kernel
theorem dX4_among_6 : decode cX4_among 6 = .ok (.if_icmp .gt 7, 3) := by decide +kernel
theorem dX4_among_9 : decode cX4_among 9 = .ok (.iconst 1, 1) := by decide +kernel
theorem dX4_among_10 : decode cX4_among 10 = .ok (.goto 4, 3) := by decide +kernel
theorem dX4_among_13 : decode cX4_among 13 = .ok (.iconst 0, 1) := by decide +kernel
theorem dX4_among_14 : decode cX4_among 14 = .ok (.istore 4, 2) := by decide +kernel
theorem dX4_among_16 : decode cX4_among 16 = .ok (.iload_n 3, 1) := by decide +kernel
theorem dX4_among_17 : decode cX4_among 17 = .ok (.bipush 10, 2) := by decide +kernel
theorem dX4_among_19 : decode cX4_among 19 = .ok (.if_icmp .lt 13, 3) := by decide +kernel
theorem dX4_among_22 : decode cX4_among 22 = .ok (.iload_n 3, 1) := by decide +kernel
theorem dX4_among_23 : decode cX4_among 23 = .ok (.bipush 13, 2) := by decide +kernel
theorem dX4_among_25 : decode cX4_among 25 = .ok (.if_icmp .gt 7, 3) := by decide +kernel
theorem dX4_among_28 : decode cX4_among 28 = .ok (.iconst 1, 1) := by decide +kernel
theorem dX4_among_29 : decode cX4_among 29 = .ok (.goto 4, 3) := by decide +kernel
theorem dX4_among_32 : decode cX4_among 32 = .ok (.iconst 0, 1) := by decide +kernel
theorem dX4_among_33 : decode cX4_among 33 = .ok (.istore 5, 2) := by decide +kernel
theorem dX4_among_35 : decode cX4_among 35 = .ok (.iload_n 1, 1) := by decide +kernel
theorem dX4_among_36 : decode cX4_among 36 = .ok (.iconst 1, 1) := by decide +kernel
theorem dX4_among_37 : decode cX4_among 37 = .ok (.if_icmp .lt 25, 3) := by decide +kernel
theorem dX4_among_40 : decode cX4_among 40 = .ok (.iload_n 2, 1) := by decide +kernel
theorem dX4_among_41 : decode cX4_among 41 = .ok (.iload_n 1, 1) := by decide +kernel
theorem dX4_among_42 : decode cX4_among 42 = .ok (.if_icmp .lt 20, 3) := by decide +kernel
theorem dX4_among_45 : decode cX4_among 45 = .ok (.iload_n 2, 1) := by decide +kernel
theorem dX4_among_46 : decode cX4_among 46 = .ok (.sipush 600, 3) := by decide +kernel
theorem dX4_among_49 : decode cX4_among 49 = .ok (.if_icmp .gt 13, 3) := by decide +kernel
theorem dX4_among_52 : decode cX4_among 52 = .ok (.iload 4, 2) := by decide +kernel
theorem dX4_among_54 : decode cX4_among 54 = .ok (.ifCond .ne 10, 3) := by decide +kernel
theorem dX4_among_57 : decode cX4_among 57 = .ok (.iload 5, 2) := by decide +kernel
theorem dX4_among_59 : decode cX4_among 59 = .ok (.ifCond .ne 5, 3) := by decide +kernel
theorem dX4_among_62 : decode cX4_among 62 = .ok (.iconst (-1), 1) := by decide +kernel
theorem dX4_among_63 : decode cX4_among 63 = .ok (.ireturn, 1) := by decide +kernel
theorem dX4_among_64 : decode cX4_among 64 = .ok (.iload 4, 2) := by decide +kernel
theorem dX4_among_66 : decode cX4_among 66 = .ok (.ifCond .eq 19, 3) := by decide +kernel
theorem dX4_among_69 : decode cX4_among 69 = .ok (.aload_n 0, 1) := by decide +kernel
theorem dX4_among_70 : decode cX4_among 70 = .ok (.getfield 10, 3) := by decide +kernel
theorem dX4_among_73 : decode cX4_among 73 = .ok (.getfield 71, 3) := by decide +kernel
theorem dX4_among_76 : decode cX4_among 76 = .ok (.iload_n 1, 1) := by decide +kernel
theorem dX4_among_77 : decode cX4_among 77 = .ok (.iload_n 2, 1) := by decide +kernel
theorem dX4_among_78 : decode cX4_among 78 = .ok (.iload_n 3, 1) := by decide +kernel
theorem dX4_among_79 : decode cX4_among 79 = .ok (.invokevirtual 90, 3) := by decide +kernel
theorem dX4_among_82 : decode cX4_among 82 = .ok (.goto 19, 3) := by decide +kernel
theorem dX4_among_85 : decode cX4_among 85 = .ok (.aload_n 0, 1) := by decide +kernel
theorem dX4_among_86 : decode cX4_among 86 = .ok (.getfield 10, 3) := by decide +kernel
theorem dX4_among_89 : decode cX4_among 89 = .ok (.getfield 71, 3) := by decide +kernel
theorem dX4_among_92 : decode cX4_among 92 = .ok (.iload_n 1, 1) := by decide +kernel
theorem dX4_among_93 : decode cX4_among 93 = .ok (.iload_n 2, 1) := by decide +kernel
theorem dX4_among_94 : decode cX4_among 94 = .ok (.iload_n 3, 1) := by decide +kernel
theorem dX4_among_95 : decode cX4_among 95 = .ok (.bipush 10, 2) := by decide +kernel
theorem dX4_among_97 : decode cX4_among 97 = .ok (.isub, 1) := by decide +kernel
theorem dX4_among_98 : decode cX4_among 98 = .ok (.invokevirtual 93, 3) := by decide +kernel
theorem dX4_among_101 : decode cX4_among 101 = .ok (.ireturn, 1) := by decide +kernel
set_option maxRecDepth 20000 in
theorem ggX4_count_X2_tally : GoodIn wsX4_count wsX2_tally := goodIn_r _ [9, 10, 11, 12, 13, 14, 15, 16, 17, 18, 19, 20, 21, 22, 23, 24, 25, 26, 27, 28, 29, 30, 31, 32, 33, 34, 35, 36, 37, 38, 39, 40, 41, 42, 43, 44, 45, 46, 47, 48, 49, 50, 51, 52, 53, 54, 8, 55, 56, 70, 71, 72, 73, 74, 75, 76, 77, 78, 79, 80, 81, 82] (by decide +kernel) (by decide +kernel)
set_option maxRecDepth 20000 in
theorem gX4_count_X2_tally : GoodIn wsX4_count (wsV RX4 99 RX2 yX2_tally wsX2_tally) := goodIn_app (goodIn_of _ (by decide +kernel)) ggX4_count_X2_tally
theorem dX4_count_0 : decode cX4_count 0 = .ok (.iload_n 1, 1) := by decide +kernel
theorem dX4_count_1 : decode cX4_count 1 = .ok (.lookupswitch 40 #[(10, 27), (11, 32)], 27) := by decide +kernel
theorem dX4_count_28 : decode cX4_count 28 = .ok (.aload_n 0, 1) := by decide +kernel
theorem dX4_count_29 : decode cX4_count 29 = .ok (.getfield 23, 3) := by decide +kernel
theorem dX4_count_32 : decode cX4_count 32 = .ok (.ireturn, 1) := by decide +kernel
theorem dX4_count_33 : decode cX4_count 33 = .ok (.aload_n 0, 1) := by decide +kernel
theorem dX4_count_34 : decode cX4_count 34 = .ok (.getfield 30, 3) := by decide +kernel
theorem dX4_count_37 : decode cX4_count 37 = .ok (.getfield 96, 3) := by decide +kernel
theorem dX4_count_40 : decode cX4_count 40 = .ok (.ireturn, 1) := by decide +kernel
theorem dX4_count_41 : decode cX4_count 41 = .ok (.aload_n 0, 1) := by decide +kernel
theorem dX4_count_42 : decode cX4_count 42 = .ok (.getfield 10, 3) := by decide +kernel
theorem dX4_count_45 : decode cX4_count 45 = .ok (.iload_n 1, 1) := by decide +kernel
theorem dX4_count_46 : decode cX4_count 46 = .ok (.invokevirtual 99, 3) := by decide +kernel
theorem dX4_count_49 : decode cX4_count 49 = .ok (.ireturn, 1) := by decide +kernel
set_option maxRecDepth 20000 in
theorem ggX4_next_X2_upcoming : GoodIn wsX4_next wsX2_upcoming := goodIn_r _ [6, 7, 8, 9, 10, 11, 5, 12, 13, 14, 15, 16, 17, 18, 19, 20, 21, 22, 23, 24, 25, 26, 27, 28, 29, 30, 31, 32, 33, 34, 35, 36, 37, 45, 46, 47, 48, 49, 50, 51, 52, 53, 54, 55, 56, 57, 58, 59, 60, 61, 62, 63, 64] (by decide +kernel) (by decide +kernel)
set_option maxRecDepth 20000 in
theorem gX4_next_X2_upcoming : GoodIn wsX4_next (wsV RX4 102 RX2 yX2_upcoming wsX2_upcoming) := goodIn_app (goodIn_of _ (by decide +kernel)) ggX4_next_X2_upcoming
theorem dX4_next_0 : decode cX4_next 0 = .ok (.aload_n 0, 1) := by decide +kernel
theorem dX4_next_1 : decode cX4_next 1 = .ok (.getfield 10, 3) := by decide +kernel
theorem dX4_next_4 : decode cX4_next 4 = .ok (.iload_n 1, 1) := by decide +kernel
theorem dX4_next_5 : decode cX4_next 5 = .ok (.invokevirtual 102, 3) := by decide +kernel
theorem dX4_next_8 : decode cX4_next 8 = .ok (.ireturn, 1) := by decide +kernel
set_option maxRecDepth 20000 in
theorem ggX4_cost_X2_isClerk : GoodIn wsX4_cost wsX2_isClerk := goodIn_r _ [7, 8, 9, 134, 135, 136, 137, 138] (by decide +kernel) (by decide +kernel)
set_option maxRecDepth 20000 in
theorem gX4_cost_X2_isClerk : GoodIn wsX4_cost (wsV RX4 105 RX2 yX2_isClerk wsX2_isClerk) := goodIn_app (goodIn_of _ (by decide +kernel)) ggX4_cost_X2_isClerk
set_option maxRecDepth 20000 in
theorem ggX4_cost_X2_become : GoodIn wsX4_cost wsX2_become := goodIn_r _ [13, 14, 9, 8, 15, 16, 17, 18, 19, 20, 21, 22, 23, 24, 25, 26, 27, 28, 29, 30, 31, 32, 33, 34, 35, 36, 37, 38, 39, 40, 41, 42, 43, 44, 45, 46, 134, 135, 136, 137, 138, 139, 140, 141, 142, 143, 144, 145, 146, 147, 148, 149, 150, 151, 152, 153] (by decide +kernel) (by decide +kernel)
set_option maxRecDepth 20000 in
theorem gX4_cost_X2_become : GoodIn wsX4_cost (wsV RX4 40 RX2 yX2_become wsX2_become) := goodIn_app (goodIn_of _ (by decide +kernel)) ggX4_cost_X2_become
set_option maxRecDepth 20000 in
theorem ggX4_cost_X2_serve : GoodIn wsX4_cost wsX2_serve := goodIn_r _ [50, 9, 15, 14, 20, 51, 4, 5, 6, 7, 8, 52, 53, 54, 55, 56, 57, 58, 24, 59, 60, 61, 62, 63, 26, 64, 65, 66, 38, 67, 42, 41, 68, 69, 70, 71, 72, 73, 74, 75, 76, 77, 78, 79, 80, 34, 81, 82, 83, 84, 85, 86, 87, 88, 89, 90, 91, 28, 29, 92, 93, 94, 95, 96, 97, 98, 99, 100, 101, 102, 40, 43, 45, 103, 104, 105, 106, 44, 46, 107, 108, 109, 110, 111, 33, 32, 30, 31, 112, 113, 134, 135, 136, 137, 138, 139, 140, 141, 142, 143, 144, 145, 146, 147, 148, 149, 150, 151, 152, 153] (by decide +kernel) (by decide +kernel)
set_option maxRecDepth 20000 in
theorem gX4_cost_X2_serve : GoodIn wsX4_cost (wsV RX4 51 RX2 yX2_serve wsX2_serve) := goodIn_app (goodIn_of _ (by decide +kernel)) ggX4_cost_X2_serve
set_option maxRecDepth 20000 in
theorem ggX4_cost_X2_lossOf : GoodIn wsX4_cost wsX2_lossOf := goodIn_r _ [117, 9, 51, 4, 5, 6, 7, 8, 118, 119, 120, 38, 121, 41, 122, 61, 62, 63, 123, 124, 125, 126, 43, 42, 107, 97, 98, 134, 135, 136, 137, 138, 147, 148, 149, 150, 151, 152, 153] (by decide +kernel) (by decide +kernel)
set_option maxRecDepth 20000 in
theorem gX4_cost_X2_lossOf : GoodIn wsX4_cost (wsV RX4 109 RX2 yX2_lossOf wsX2_lossOf) := goodIn_app (goodIn_of _ (by decide +kernel)) ggX4_cost_X2_lossOf
theorem dX4_cost_0 : decode cX4_cost 0 = .ok (.aload_n 0, 1) := by decide +kernel
theorem dX4_cost_1 : decode cX4_cost 1 = .ok (.getfield 10, 3) := by decide +kernel
theorem dX4_cost_4 : decode cX4_cost 4 = .ok (.iload_n 1, 1) := by decide +kernel
theorem dX4_cost_5 : decode cX4_cost 5 = .ok (.invokevirtual 105, 3) := by decide +kernel
theorem dX4_cost_8 : decode cX4_cost 8 = .ok (.ifCond .eq 13, 3) := by decide +kernel
theorem dX4_cost_11 : decode cX4_cost 11 = .ok (.iload_n 2, 1) := by decide +kernel
theorem dX4_cost_12 : decode cX4_cost 12 = .ok (.ifCond .lt 9, 3) := by decide +kernel
theorem dX4_cost_15 : decode cX4_cost 15 = .ok (.iload_n 2, 1) := by decide +kernel
theorem dX4_cost_16 : decode cX4_cost 16 = .ok (.bipush 50, 2) := by decide +kernel
theorem dX4_cost_18 : decode cX4_cost 18 = .ok (.if_icmp .le 5, 3) := by decide +kernel
theorem dX4_cost_21 : decode cX4_cost 21 = .ok (.iconst (-1), 1) := by decide +kernel
theorem dX4_cost_22 : decode cX4_cost 22 = .ok (.ireturn, 1) := by decide +kernel
theorem dX4_cost_23 : decode cX4_cost 23 = .ok (.aload_n 0, 1) := by decide +kernel
theorem dX4_cost_24 : decode cX4_cost 24 = .ok (.getfield 16, 3) := by decide +kernel
theorem dX4_cost_27 : decode cX4_cost 27 = .ok (.aload_n 0, 1) := by decide +kernel
theorem dX4_cost_28 : decode cX4_cost 28 = .ok (.getfield 10, 3) := by decide +kernel
theorem dX4_cost_31 : decode cX4_cost 31 = .ok (.invokevirtual 40, 3) := by decide +kernel
theorem dX4_cost_34 : decode cX4_cost 34 = .ok (.iload_n 2, 1) := by decide +kernel
theorem dX4_cost_35 : decode cX4_cost 35 = .ok (.ifCond .ne 7, 3) := by decide +kernel
theorem dX4_cost_38 : decode cX4_cost 38 = .ok (.iconst 0, 1) := by decide +kernel
theorem dX4_cost_39 : decode cX4_cost 39 = .ok (.goto 12, 3) := by decide +kernel
theorem dX4_cost_42 : decode cX4_cost 42 = .ok (.aload_n 0, 1) := by decide +kernel
theorem dX4_cost_43 : decode cX4_cost 43 = .ok (.getfield 16, 3) := by decide +kernel
theorem dX4_cost_46 : decode cX4_cost 46 = .ok (.iload_n 1, 1) := by decide +kernel
theorem dX4_cost_47 : decode cX4_cost 47 = .ok (.iload_n 2, 1) := by decide +kernel
theorem dX4_cost_48 : decode cX4_cost 48 = .ok (.invokevirtual 51, 3) := by decide +kernel
theorem dX4_cost_51 : decode cX4_cost 51 = .ok (.istore_n 3, 1) := by decide +kernel
theorem dX4_cost_52 : decode cX4_cost 52 = .ok (.iload_n 3, 1) := by decide +kernel
theorem dX4_cost_53 : decode cX4_cost 53 = .ok (.ifCond .ge 7, 3) := by decide +kernel
theorem dX4_cost_56 : decode cX4_cost 56 = .ok (.iload_n 3, 1) := by decide +kernel
theorem dX4_cost_57 : decode cX4_cost 57 = .ok (.goto 11, 3) := by decide +kernel
theorem dX4_cost_60 : decode cX4_cost 60 = .ok (.aload_n 0, 1) := by decide +kernel
theorem dX4_cost_61 : decode cX4_cost 61 = .ok (.getfield 16, 3) := by decide +kernel
theorem dX4_cost_64 : decode cX4_cost 64 = .ok (.iload_n 1, 1) := by decide +kernel
theorem dX4_cost_65 : decode cX4_cost 65 = .ok (.invokevirtual 109, 3) := by decide +kernel
theorem dX4_cost_68 : decode cX4_cost 68 = .ok (.ireturn, 1) := by decide +kernel
set_option maxRecDepth 20000 in
theorem ggX4_worst_X2_mostForgetful : GoodIn wsX4_worst wsX2_mostForgetful := goodIn_r _ [6, 7, 8, 9, 10, 11, 12, 13, 14, 15, 16, 17, 18, 19, 20, 21, 22, 23, 24, 25, 26, 27, 35, 36, 37, 38, 39, 40, 41, 42, 43, 44, 45, 46] (by decide +kernel) (by decide +kernel)
set_option maxRecDepth 20000 in
theorem gX4_worst_X2_mostForgetful : GoodIn wsX4_worst (wsV RX4 112 RX2 yX2_mostForgetful wsX2_mostForgetful) := goodIn_app (goodIn_of _ (by decide +kernel)) ggX4_worst_X2_mostForgetful
theorem dX4_worst_0 : decode cX4_worst 0 = .ok (.aload_n 0, 1) := by decide +kernel
theorem dX4_worst_1 : decode cX4_worst 1 = .ok (.getfield 10, 3) := by decide +kernel
theorem dX4_worst_4 : decode cX4_worst 4 = .ok (.invokevirtual 112, 3) := by decide +kernel
theorem dX4_worst_7 : decode cX4_worst 7 = .ok (.ireturn, 1) := by decide +kernel
set_option maxRecDepth 20000 in
theorem ggX4_undo_X2_become : GoodIn wsX4_undo wsX2_become := goodIn_r _ [8, 9, 10, 11, 12, 13, 14, 15, 16, 17, 18, 19, 20, 21, 22, 23, 24, 25, 26, 27, 28, 29, 30, 31, 32, 33, 34, 35, 36, 37, 38, 39, 40, 41, 42, 43, 51, 52, 53, 54, 55, 56, 57, 58, 59, 60, 61, 62, 63, 64, 65, 66, 67, 68, 69, 70] (by decide +kernel) (by decide +kernel)
set_option maxRecDepth 20000 in
theorem gX4_undo_X2_become : GoodIn wsX4_undo (wsV RX4 40 RX2 yX2_become wsX2_become) := goodIn_app (goodIn_of _ (by decide +kernel)) ggX4_undo_X2_become
theorem dX4_undo_0 : decode cX4_undo 0 = .ok (.aload_n 0, 1) := by decide +kernel
theorem dX4_undo_1 : decode cX4_undo 1 = .ok (.getfield 23, 3) := by decide +kernel
theorem dX4_undo_4 : decode cX4_undo 4 = .ok (.ifCond .le 15, 3) := by decide +kernel
theorem dX4_undo_7 : decode cX4_undo 7 = .ok (.aload_n 0, 1) := by decide +kernel
theorem dX4_undo_8 : decode cX4_undo 8 = .ok (.getfield 23, 3) := by decide +kernel
theorem dX4_undo_11 : decode cX4_undo 11 = .ok (.aload_n 0, 1) := by decide +kernel
theorem dX4_undo_12 : decode cX4_undo 12 = .ok (.getfield 19, 3) := by decide +kernel
theorem dX4_undo_15 : decode cX4_undo 15 = .ok (.arraylength, 1) := by decide +kernel
theorem dX4_undo_16 : decode cX4_undo 16 = .ok (.if_icmp .le 6, 3) := by decide +kernel
theorem dX4_undo_19 : decode cX4_undo 19 = .ok (.bipush (-2), 2) := by decide +kernel
theorem dX4_undo_21 : decode cX4_undo 21 = .ok (.ireturn, 1) := by decide +kernel
theorem dX4_undo_22 : decode cX4_undo 22 = .ok (.aload_n 0, 1) := by decide +kernel
theorem dX4_undo_23 : decode cX4_undo 23 = .ok (.dup, 1) := by decide +kernel
theorem dX4_undo_24 : decode cX4_undo 24 = .ok (.getfield 23, 3) := by decide +kernel
theorem dX4_undo_27 : decode cX4_undo 27 = .ok (.iconst 1, 1) := by decide +kernel
theorem dX4_undo_28 : decode cX4_undo 28 = .ok (.isub, 1) := by decide +kernel
theorem dX4_undo_29 : decode cX4_undo 29 = .ok (.putfield 23, 3) := by decide +kernel
theorem dX4_undo_32 : decode cX4_undo 32 = .ok (.aload_n 0, 1) := by decide +kernel
theorem dX4_undo_33 : decode cX4_undo 33 = .ok (.getfield 10, 3) := by decide +kernel
theorem dX4_undo_36 : decode cX4_undo 36 = .ok (.aload_n 0, 1) := by decide +kernel
theorem dX4_undo_37 : decode cX4_undo 37 = .ok (.getfield 19, 3) := by decide +kernel
theorem dX4_undo_40 : decode cX4_undo 40 = .ok (.aload_n 0, 1) := by decide +kernel
theorem dX4_undo_41 : decode cX4_undo 41 = .ok (.getfield 23, 3) := by decide +kernel
theorem dX4_undo_44 : decode cX4_undo 44 = .ok (.aaload, 1) := by decide +kernel
theorem dX4_undo_45 : decode cX4_undo 45 = .ok (.invokevirtual 40, 3) := by decide +kernel
theorem dX4_undo_48 : decode cX4_undo 48 = .ok (.aload_n 0, 1) := by decide +kernel
theorem dX4_undo_49 : decode cX4_undo 49 = .ok (.getfield 23, 3) := by decide +kernel
theorem dX4_undo_52 : decode cX4_undo 52 = .ok (.ireturn, 1) := by decide +kernel
set_option maxRecDepth 20000 in
theorem ggX4_type_X3_append : GoodIn wsX4_type wsX3_append := goodIn_r _ [6, 7, 8, 16, 17, 18, 19, 20, 21] (by decide +kernel) (by decide +kernel)
set_option maxRecDepth 20000 in
theorem gX4_type_X3_append : GoodIn wsX4_type (wsV RX4 115 RX3 yX3_append wsX3_append) := goodIn_app (goodIn_of _ (by decide +kernel)) ggX4_type_X3_append
theorem dX4_type_0 : decode cX4_type 0 = .ok (.aload_n 0, 1) := by decide +kernel
theorem dX4_type_1 : decode cX4_type 1 = .ok (.getfield 30, 3) := by decide +kernel
theorem dX4_type_4 : decode cX4_type 4 = .ok (.iload_n 1, 1) := by decide +kernel
theorem dX4_type_5 : decode cX4_type 5 = .ok (.invokevirtual 115, 3) := by decide +kernel
theorem dX4_type_8 : decode cX4_type 8 = .ok (.ireturn, 1) := by decide +kernel
theorem dX4_clearText_0 : decode cX4_clearText 0 = .ok (.aload_n 0, 1) := by decide +kernel
theorem dX4_clearText_1 : decode cX4_clearText 1 = .ok (.getfield 30, 3) := by decide +kernel
theorem dX4_clearText_4 : decode cX4_clearText 4 = .ok (.getfield 96, 3) := by decide +kernel
theorem dX4_clearText_7 : decode cX4_clearText 7 = .ok (.istore_n 1, 1) := by decide +kernel
theorem dX4_clearText_8 : decode cX4_clearText 8 = .ok (.aload_n 0, 1) := by decide +kernel
theorem dX4_clearText_9 : decode cX4_clearText 9 = .ok (.getfield 30, 3) := by decide +kernel
theorem dX4_clearText_12 : decode cX4_clearText 12 = .ok (.iconst 0, 1) := by decide +kernel
theorem dX4_clearText_13 : decode cX4_clearText 13 = .ok (.putfield 96, 3) := by decide +kernel
theorem dX4_clearText_16 : decode cX4_clearText 16 = .ok (.iload_n 1, 1) := by decide +kernel
theorem dX4_clearText_17 : decode cX4_clearText 17 = .ok (.ireturn, 1) := by decide +kernel
set_option maxRecDepth 20000 in
theorem ggX4_fault_X4_rehearse : GoodIn wsX4_fault wsX4_rehearse := goodIn_r _ [7, 8, 9, 10, 2, 1, 11, 12, 13, 14, 15, 16, 17, 18, 19, 20, 21, 22, 23, 24, 25, 26, 27, 28, 29, 30, 31, 32, 33, 34, 35, 36, 37, 38, 39, 40, 41, 42, 43, 44, 45, 46, 47, 48, 49, 50, 51, 52, 53, 54, 55, 56, 57, 58, 59, 60, 61, 62, 63, 64, 65, 66, 67, 68, 69, 70, 71, 72, 73, 74, 75, 76, 77, 78, 79, 80, 81, 82, 83, 84, 85, 86, 87, 88, 89, 90, 91, 92, 93, 94, 95, 96, 97, 98, 99, 100, 101, 102, 103, 104, 105, 106, 107, 108, 109, 110, 111, 112, 113, 114, 115, 116, 117, 118, 119, 120, 121, 122, 123, 124, 125, 126, 127, 128, 129, 130, 131, 132, 133, 134, 135, 136, 137, 138, 139, 140, 141, 142, 6, 143, 144, 145, 146, 147, 148, 149, 150, 151, 152, 153, 154, 155, 156, 157, 158, 159, 160, 161, 162, 163, 164, 165, 166, 167, 168, 169, 170, 171, 172, 173, 174, 175, 176, 177, 178, 179, 180, 181, 182, 183, 184, 185, 186, 187, 188, 189, 190, 191, 192, 193, 194, 195, 196, 197, 198, 199, 200, 201, 202, 203, 204, 205, 206, 207, 208, 209, 210, 211, 212, 213, 214, 215, 216, 217, 218, 219, 220, 221, 222, 223, 224, 225, 226, 227, 228, 229, 230, 231, 232, 233, 234, 235, 236, 237, 238, 239, 240, 241, 242, 243, 244, 245, 246, 247, 248, 249, 250, 251, 252, 253, 254, 255, 256, 257, 258, 259, 260, 261, 262, 263, 264, 265, 266, 267, 268, 269, 270, 271, 272, 273, 274, 275, 276, 277, 278, 279, 280, 281, 282, 283, 284, 285, 286, 287, 288, 289, 290, 291, 292] (by decide +kernel) (by decide +kernel)
set_option maxRecDepth 20000 in
theorem gX4_fault_X4_rehearse : GoodIn wsX4_fault (wsV RX4 118 RX4 yX4_rehearse wsX4_rehearse) := goodIn_app (goodIn_of _ (by decide +kernel)) ggX4_fault_X4_rehearse
theorem dX4_fault_0 : decode cX4_fault 0 = .ok (.iload_n 1, 1) := by decide +kernel
theorem dX4_fault_1 : decode cX4_fault 1 = .ok (.ifCond .eq 10, 3) := by decide +kernel
theorem dX4_fault_4 : decode cX4_fault 4 = .ok (.iload_n 1, 1) := by decide +kernel
theorem dX4_fault_5 : decode cX4_fault 5 = .ok (.iconst 1, 1) := by decide +kernel
theorem dX4_fault_6 : decode cX4_fault 6 = .ok (.if_icmp .eq 5, 3) := by decide +kernel
theorem dX4_fault_9 : decode cX4_fault 9 = .ok (.iconst (-1), 1) := by decide +kernel
theorem dX4_fault_10 : decode cX4_fault 10 = .ok (.ireturn, 1) := by decide +kernel
theorem dX4_fault_11 : decode cX4_fault 11 = .ok (.aload_n 0, 1) := by decide +kernel
theorem dX4_fault_12 : decode cX4_fault 12 = .ok (.invokevirtual 118, 3) := by decide +kernel
theorem dX4_fault_15 : decode cX4_fault 15 = .ok (.pop, 1) := by decide +kernel
theorem dX4_fault_16 : decode cX4_fault 16 = .ok (.aload_n 0, 1) := by decide +kernel
theorem dX4_fault_17 : decode cX4_fault 17 = .ok (.getfield 37, 3) := by decide +kernel
theorem dX4_fault_20 : decode cX4_fault 20 = .ok (.ifCond .ne 6, 3) := by decide +kernel
theorem dX4_fault_23 : decode cX4_fault 23 = .ok (.bipush (-4), 2) := by decide +kernel
theorem dX4_fault_25 : decode cX4_fault 25 = .ok (.ireturn, 1) := by decide +kernel
theorem dX4_fault_26 : decode cX4_fault 26 = .ok (.iload_n 1, 1) := by decide +kernel
theorem dX4_fault_27 : decode cX4_fault 27 = .ok (.ifCond .ne 10, 3) := by decide +kernel
theorem dX4_fault_30 : decode cX4_fault 30 = .ok (.aload_n 0, 1) := by decide +kernel
theorem dX4_fault_31 : decode cX4_fault 31 = .ok (.getfield 34, 3) := by decide +kernel
theorem dX4_fault_34 : decode cX4_fault 34 = .ok (.goto 7, 3) := by decide +kernel
theorem dX4_fault_37 : decode cX4_fault 37 = .ok (.aload_n 0, 1) := by decide +kernel
theorem dX4_fault_38 : decode cX4_fault 38 = .ok (.getfield 37, 3) := by decide +kernel
theorem dX4_fault_41 : decode cX4_fault 41 = .ok (.ireturn, 1) := by decide +kernel
set_option maxRecDepth 20000 in
theorem ggX4_play_X4_rehearse : GoodIn wsX4_play wsX4_rehearse := goodIn_r _ [6, 7, 8, 9, 10, 1, 11, 12, 13, 14, 15, 16, 17, 18, 19, 20, 21, 22, 23, 24, 25, 26, 27, 28, 29, 30, 31, 32, 33, 34, 35, 36, 37, 38, 39, 40, 41, 42, 43, 44, 45, 46, 47, 48, 49, 50, 51, 52, 53, 54, 55, 56, 57, 58, 59, 60, 61, 62, 63, 64, 65, 66, 67, 68, 69, 70, 71, 72, 73, 74, 75, 76, 77, 78, 79, 80, 81, 82, 83, 84, 85, 86, 87, 88, 89, 90, 91, 92, 93, 94, 95, 96, 97, 98, 99, 100, 101, 102, 103, 104, 105, 106, 107, 108, 109, 110, 111, 112, 113, 114, 115, 116, 117, 118, 119, 120, 121, 122, 123, 124, 125, 126, 127, 128, 129, 130, 131, 132, 133, 134, 135, 136, 137, 138, 139, 140, 141, 142, 5, 143, 144, 145, 146, 147, 148, 149, 150, 151, 152, 153, 154, 155, 156, 157, 158, 159, 160, 161, 162, 163, 164, 165, 166, 167, 168, 169, 170, 171, 172, 173, 174, 175, 176, 177, 178, 179, 180, 181, 182, 183, 184, 185, 186, 187, 188, 189, 190, 191, 192, 193, 194, 195, 196, 197, 198, 199, 200, 201, 202, 203, 204, 205, 206, 207, 208, 209, 210, 211, 212, 213, 214, 215, 216, 217, 218, 219, 220, 221, 222, 223, 224, 225, 226, 227, 228, 229, 230, 231, 232, 233, 234, 235, 236, 237, 238, 239, 240, 241, 242, 243, 244, 245, 246, 247, 248, 249, 250, 251, 252, 253, 254, 255, 256, 257, 258, 259, 274, 275, 276, 277, 278, 279, 280, 281, 282, 283, 284, 285, 286, 287, 288, 289, 290, 291, 292, 293, 294, 295, 296, 297, 298, 299, 300, 301, 302, 303, 304, 305, 306] (by decide +kernel) (by decide +kernel)
set_option maxRecDepth 20000 in
theorem gX4_play_X4_rehearse : GoodIn wsX4_play (wsV RX4 118 RX4 yX4_rehearse wsX4_rehearse) := goodIn_app (goodIn_of _ (by decide +kernel)) ggX4_play_X4_rehearse
set_option maxRecDepth 20000 in
theorem ggX4_play_X4_adopt : GoodIn wsX4_play wsX4_adopt := goodIn_r _ [263, 8, 7, 264, 265, 266, 5, 267, 268, 269, 270, 271, 272, 273, 13, 14, 15, 16, 17, 18, 19, 20, 21, 22, 23, 24, 25, 26, 27, 28, 29, 30, 31, 32, 33, 34, 35, 36, 37, 38, 39, 40, 41, 42, 43, 44, 45, 46, 47, 48, 49, 50, 51, 52, 274, 275, 276, 277, 278, 279, 280, 287, 288, 289, 290, 291, 292, 293, 294, 295, 296, 297, 298, 299, 300, 301, 302, 303, 304, 305, 306] (by decide +kernel) (by decide +kernel)
set_option maxRecDepth 20000 in
theorem gX4_play_X4_adopt : GoodIn wsX4_play (wsV RX4 48 RX4 yX4_adopt wsX4_adopt) := goodIn_app (goodIn_of _ (by decide +kernel)) ggX4_play_X4_adopt
theorem dX4_play_0 : decode cX4_play 0 = .ok (.aload_n 0, 1) := by decide +kernel
theorem dX4_play_1 : decode cX4_play 1 = .ok (.invokevirtual 118, 3) := by decide +kernel
theorem dX4_play_4 : decode cX4_play 4 = .ok (.istore_n 1, 1) := by decide +kernel
theorem dX4_play_5 : decode cX4_play 5 = .ok (.aload_n 0, 1) := by decide +kernel
theorem dX4_play_6 : decode cX4_play 6 = .ok (.getfield 37, 3) := by decide +kernel
theorem dX4_play_9 : decode cX4_play 9 = .ok (.ifCond .ne 11, 3) := by decide +kernel
theorem dX4_play_12 : decode cX4_play 12 = .ok (.aload_n 0, 1) := by decide +kernel
theorem dX4_play_13 : decode cX4_play 13 = .ok (.iload_n 1, 1) := by decide +kernel
theorem dX4_play_14 : decode cX4_play 14 = .ok (.invokevirtual 48, 3) := by decide +kernel
theorem dX4_play_17 : decode cX4_play 17 = .ok (.goto 5, 3) := by decide +kernel
theorem dX4_play_20 : decode cX4_play 20 = .ok (.bipush (-2), 2) := by decide +kernel
theorem dX4_play_22 : decode cX4_play 22 = .ok (.ireturn, 1) := by decide +kernel
set_option maxRecDepth 20000 in
theorem ggX4_adopt_X4_remember : GoodIn wsX4_adopt wsX4_remember := goodIn_r _ [7, 8, 9, 1, 10, 11, 12, 6, 13, 14, 15, 16, 17, 18, 19, 20, 21, 22, 23, 24, 25, 26, 27, 28, 29, 30, 31, 32, 33, 34, 35, 36, 37, 38, 39, 40, 41, 42, 43, 44, 45, 46, 47, 48, 49, 50, 51, 52, 53, 54, 55, 56, 57, 58, 59, 60, 61, 62, 63, 64, 65, 66, 67, 68, 69, 70, 71, 72, 73, 74, 75, 76, 77, 78, 79, 80] (by decide +kernel) (by decide +kernel)
set_option maxRecDepth 20000 in
theorem gX4_adopt_X4_remember : GoodIn wsX4_adopt (wsV RX4 121 RX4 yX4_remember wsX4_remember) := goodIn_app (goodIn_of _ (by decide +kernel)) ggX4_adopt_X4_remember
set_option maxRecDepth 20000 in
theorem ggX4_adopt_X2_become : GoodIn wsX4_adopt wsX2_become := goodIn_r _ [18, 19, 20, 21, 22, 23, 24, 25, 26, 27, 28, 29, 30, 31, 32, 33, 34, 35, 36, 37, 38, 39, 40, 41, 42, 43, 44, 45, 46, 47, 48, 49, 50, 51, 52, 53, 61, 62, 63, 64, 65, 66, 67, 68, 69, 70, 71, 72, 73, 74, 75, 76, 77, 78, 79, 80] (by decide +kernel) (by decide +kernel)
set_option maxRecDepth 20000 in
theorem gX4_adopt_X2_become : GoodIn wsX4_adopt (wsV RX4 40 RX2 yX2_become wsX2_become) := goodIn_app (goodIn_of _ (by decide +kernel)) ggX4_adopt_X2_become
theorem dX4_adopt_0 : decode cX4_adopt 0 = .ok (.iload_n 1, 1) := by decide +kernel
theorem dX4_adopt_1 : decode cX4_adopt 1 = .ok (.ifCond .lt 18, 3) := by decide +kernel
theorem dX4_adopt_4 : decode cX4_adopt 4 = .ok (.aload_n 0, 1) := by decide +kernel
theorem dX4_adopt_5 : decode cX4_adopt 5 = .ok (.invokevirtual 121, 3) := by decide +kernel
theorem dX4_adopt_8 : decode cX4_adopt 8 = .ok (.aload_n 0, 1) := by decide +kernel
theorem dX4_adopt_9 : decode cX4_adopt 9 = .ok (.getfield 10, 3) := by decide +kernel
theorem dX4_adopt_12 : decode cX4_adopt 12 = .ok (.aload_n 0, 1) := by decide +kernel
theorem dX4_adopt_13 : decode cX4_adopt 13 = .ok (.getfield 16, 3) := by decide +kernel
theorem dX4_adopt_16 : decode cX4_adopt 16 = .ok (.invokevirtual 40, 3) := by decide +kernel
theorem dX4_adopt_19 : decode cX4_adopt 19 = .ok (.iload_n 1, 1) := by decide +kernel
theorem dX4_adopt_20 : decode cX4_adopt 20 = .ok (.ireturn, 1) := by decide +kernel
set_option maxRecDepth 20000 in
theorem ggX4_remember_X4_dropOldest : GoodIn wsX4_remember wsX4_dropOldest := goodIn_r _ [8, 2, 1, 49, 50, 51, 52, 53, 54, 55] (by decide +kernel) (by decide +kernel)
set_option maxRecDepth 20000 in
theorem gX4_remember_X4_dropOldest : GoodIn wsX4_remember (wsV RX4 124 RX4 yX4_dropOldest wsX4_dropOldest) := goodIn_app (goodIn_of _ (by decide +kernel)) ggX4_remember_X4_dropOldest
set_option maxRecDepth 20000 in
theorem ggX4_remember_X2_become : GoodIn wsX4_remember wsX2_become := goodIn_r _ [13, 14, 15, 16, 17, 18, 19, 20, 21, 22, 23, 24, 25, 26, 27, 28, 29, 30, 31, 32, 33, 34, 35, 36, 37, 38, 39, 40, 41, 42, 43, 44, 45, 46, 47, 48, 56, 57, 58, 59, 60, 61, 62, 63, 64, 65, 66, 67, 68, 69, 70, 71, 72, 73, 74, 75] (by decide +kernel) (by decide +kernel)
set_option maxRecDepth 20000 in
theorem gX4_remember_X2_become : GoodIn wsX4_remember (wsV RX4 40 RX2 yX2_become wsX2_become) := goodIn_app (goodIn_of _ (by decide +kernel)) ggX4_remember_X2_become
theorem dX4_remember_0 : decode cX4_remember 0 = .ok (.aload_n 0, 1) := by decide +kernel
theorem dX4_remember_1 : decode cX4_remember 1 = .ok (.getfield 23, 3) := by decide +kernel
theorem dX4_remember_4 : decode cX4_remember 4 = .ok (.aload_n 0, 1) := by decide +kernel
theorem dX4_remember_5 : decode cX4_remember 5 = .ok (.getfield 19, 3) := by decide +kernel
theorem dX4_remember_8 : decode cX4_remember 8 = .ok (.arraylength, 1) := by decide +kernel
theorem dX4_remember_9 : decode cX4_remember 9 = .ok (.if_icmp .lt 7, 3) := by decide +kernel
theorem dX4_remember_12 : decode cX4_remember 12 = .ok (.aload_n 0, 1) := by decide +kernel
theorem dX4_remember_13 : decode cX4_remember 13 = .ok (.invokevirtual 124, 3) := by decide +kernel
theorem dX4_remember_16 : decode cX4_remember 16 = .ok (.aload_n 0, 1) := by decide +kernel
theorem dX4_remember_17 : decode cX4_remember 17 = .ok (.getfield 23, 3) := by decide +kernel
theorem dX4_remember_20 : decode cX4_remember 20 = .ok (.ifCond .lt 41, 3) := by decide +kernel
theorem dX4_remember_23 : decode cX4_remember 23 = .ok (.aload_n 0, 1) := by decide +kernel
theorem dX4_remember_24 : decode cX4_remember 24 = .ok (.getfield 23, 3) := by decide +kernel
theorem dX4_remember_27 : decode cX4_remember 27 = .ok (.aload_n 0, 1) := by decide +kernel
theorem dX4_remember_28 : decode cX4_remember 28 = .ok (.getfield 19, 3) := by decide +kernel
theorem dX4_remember_31 : decode cX4_remember 31 = .ok (.arraylength, 1) := by decide +kernel
theorem dX4_remember_32 : decode cX4_remember 32 = .ok (.if_icmp .ge 29, 3) := by decide +kernel
theorem dX4_remember_35 : decode cX4_remember 35 = .ok (.aload_n 0, 1) := by decide +kernel
theorem dX4_remember_36 : decode cX4_remember 36 = .ok (.getfield 19, 3) := by decide +kernel
theorem dX4_remember_39 : decode cX4_remember 39 = .ok (.aload_n 0, 1) := by decide +kernel
theorem dX4_remember_40 : decode cX4_remember 40 = .ok (.getfield 23, 3) := by decide +kernel
theorem dX4_remember_43 : decode cX4_remember 43 = .ok (.aaload, 1) := by decide +kernel
theorem dX4_remember_44 : decode cX4_remember 44 = .ok (.aload_n 0, 1) := by decide +kernel
theorem dX4_remember_45 : decode cX4_remember 45 = .ok (.getfield 10, 3) := by decide +kernel
theorem dX4_remember_48 : decode cX4_remember 48 = .ok (.invokevirtual 40, 3) := by decide +kernel
theorem dX4_remember_51 : decode cX4_remember 51 = .ok (.aload_n 0, 1) := by decide +kernel
theorem dX4_remember_52 : decode cX4_remember 52 = .ok (.dup, 1) := by decide +kernel
theorem dX4_remember_53 : decode cX4_remember 53 = .ok (.getfield 23, 3) := by decide +kernel
theorem dX4_remember_56 : decode cX4_remember 56 = .ok (.iconst 1, 1) := by decide +kernel
theorem dX4_remember_57 : decode cX4_remember 57 = .ok (.iadd, 1) := by decide +kernel
theorem dX4_remember_58 : decode cX4_remember 58 = .ok (.putfield 23, 3) := by decide +kernel
theorem dX4_remember_61 : decode cX4_remember 61 = .ok (.return_, 1) := by decide +kernel
theorem dX4_dropOldest_0 : decode cX4_dropOldest 0 = .ok (.aload_n 0, 1) := by decide +kernel
theorem dX4_dropOldest_1 : decode cX4_dropOldest 1 = .ok (.getfield 19, 3) := by decide +kernel
theorem dX4_dropOldest_4 : decode cX4_dropOldest 4 = .ok (.iconst 0, 1) := by decide +kernel
theorem dX4_dropOldest_5 : decode cX4_dropOldest 5 = .ok (.aaload, 1) := by decide +kernel
theorem dX4_dropOldest_6 : decode cX4_dropOldest 6 = .ok (.astore_n 1, 1) := by decide +kernel
theorem dX4_dropOldest_7 : decode cX4_dropOldest 7 = .ok (.iconst 1, 1) := by decide +kernel
theorem dX4_dropOldest_8 : decode cX4_dropOldest 8 = .ok (.istore_n 2, 1) := by decide +kernel
theorem dX4_dropOldest_9 : decode cX4_dropOldest 9 = .ok (.iload_n 2, 1) := by decide +kernel
theorem dX4_dropOldest_10 : decode cX4_dropOldest 10 = .ok (.aload_n 0, 1) := by decide +kernel
theorem dX4_dropOldest_11 : decode cX4_dropOldest 11 = .ok (.getfield 19, 3) := by decide +kernel
theorem dX4_dropOldest_14 : decode cX4_dropOldest 14 = .ok (.arraylength, 1) := by decide +kernel
theorem dX4_dropOldest_15 : decode cX4_dropOldest 15 = .ok (.if_icmp .ge 23, 3) := by decide +kernel
theorem dX4_dropOldest_18 : decode cX4_dropOldest 18 = .ok (.aload_n 0, 1) := by decide +kernel
theorem dX4_dropOldest_19 : decode cX4_dropOldest 19 = .ok (.getfield 19, 3) := by decide +kernel
theorem dX4_dropOldest_22 : decode cX4_dropOldest 22 = .ok (.iload_n 2, 1) := by decide +kernel
theorem dX4_dropOldest_23 : decode cX4_dropOldest 23 = .ok (.iconst 1, 1) := by decide +kernel
theorem dX4_dropOldest_24 : decode cX4_dropOldest 24 = .ok (.isub, 1) := by decide +kernel
theorem dX4_dropOldest_25 : decode cX4_dropOldest 25 = .ok (.aload_n 0, 1) := by decide +kernel
theorem dX4_dropOldest_26 : decode cX4_dropOldest 26 = .ok (.getfield 19, 3) := by decide +kernel
theorem dX4_dropOldest_29 : decode cX4_dropOldest 29 = .ok (.iload_n 2, 1) := by decide +kernel
theorem dX4_dropOldest_30 : decode cX4_dropOldest 30 = .ok (.aaload, 1) := by decide +kernel
theorem dX4_dropOldest_31 : decode cX4_dropOldest 31 = .ok (.aastore, 1) := by decide +kernel
theorem dX4_dropOldest_32 : decode cX4_dropOldest 32 = .ok (.iinc 2 1, 3) := by decide +kernel
theorem dX4_dropOldest_35 : decode cX4_dropOldest 35 = .ok (.goto (-26), 3) := by decide +kernel
theorem dX4_dropOldest_38 : decode cX4_dropOldest 38 = .ok (.aload_n 0, 1) := by decide +kernel
theorem dX4_dropOldest_39 : decode cX4_dropOldest 39 = .ok (.getfield 19, 3) := by decide +kernel
theorem dX4_dropOldest_42 : decode cX4_dropOldest 42 = .ok (.aload_n 0, 1) := by decide +kernel
theorem dX4_dropOldest_43 : decode cX4_dropOldest 43 = .ok (.getfield 19, 3) := by decide +kernel
theorem dX4_dropOldest_46 : decode cX4_dropOldest 46 = .ok (.arraylength, 1) := by decide +kernel
theorem dX4_dropOldest_47 : decode cX4_dropOldest 47 = .ok (.iconst 1, 1) := by decide +kernel
theorem dX4_dropOldest_48 : decode cX4_dropOldest 48 = .ok (.isub, 1) := by decide +kernel
theorem dX4_dropOldest_49 : decode cX4_dropOldest 49 = .ok (.aload_n 1, 1) := by decide +kernel
theorem dX4_dropOldest_50 : decode cX4_dropOldest 50 = .ok (.aastore, 1) := by decide +kernel
theorem dX4_dropOldest_51 : decode cX4_dropOldest 51 = .ok (.aload_n 0, 1) := by decide +kernel
theorem dX4_dropOldest_52 : decode cX4_dropOldest 52 = .ok (.aload_n 0, 1) := by decide +kernel
theorem dX4_dropOldest_53 : decode cX4_dropOldest 53 = .ok (.getfield 19, 3) := by decide +kernel
theorem dX4_dropOldest_56 : decode cX4_dropOldest 56 = .ok (.arraylength, 1) := by decide +kernel
theorem dX4_dropOldest_57 : decode cX4_dropOldest 57 = .ok (.iconst 1, 1) := by decide +kernel
theorem dX4_dropOldest_58 : decode cX4_dropOldest 58 = .ok (.isub, 1) := by decide +kernel
theorem dX4_dropOldest_59 : decode cX4_dropOldest 59 = .ok (.putfield 23, 3) := by decide +kernel
theorem dX4_dropOldest_62 : decode cX4_dropOldest 62 = .ok (.return_, 1) := by decide +kernel
set_option maxRecDepth 20000 in
theorem ggX4_rehearse_X2_become : GoodIn wsX4_rehearse wsX2_become := goodIn_r _ [12, 13, 14, 15, 16, 17, 18, 19, 20, 21, 22, 23, 24, 25, 26, 27, 28, 29, 30, 31, 32, 33, 34, 35, 36, 37, 38, 39, 40, 41, 42, 43, 44, 45, 46, 47, 269, 270, 271, 272, 273, 274, 275, 276, 277, 278, 279, 280, 281, 282, 283, 284, 285, 286, 287, 288] (by decide +kernel) (by decide +kernel)
set_option maxRecDepth 20000 in
theorem gX4_rehearse_X2_become : GoodIn wsX4_rehearse (wsV RX4 40 RX2 yX2_become wsX2_become) := goodIn_app (goodIn_of _ (by decide +kernel)) ggX4_rehearse_X2_become
set_option maxRecDepth 20000 in
theorem ggX4_rehearse_X3_rewind : GoodIn wsX4_rehearse wsX3_rewind := goodIn_r _ [52, 53, 263, 264, 265, 266, 267, 268] (by decide +kernel) (by decide +kernel)
set_option maxRecDepth 20000 in
theorem gX4_rehearse_X3_rewind : GoodIn wsX4_rehearse (wsV RX4 127 RX3 yX3_rewind wsX3_rewind) := goodIn_app (goodIn_of _ (by decide +kernel)) ggX4_rehearse_X3_rewind
set_option maxRecDepth 20000 in
theorem ggX4_rehearse_X3_readCommand : GoodIn wsX4_rehearse wsX3_readCommand := goodIn_r _ [57, 58, 59, 60, 61, 62, 63, 51, 64, 53, 65, 66, 67, 68, 69, 70, 71, 72, 73, 74, 75, 76, 77, 78, 79, 80, 81, 82, 83, 84, 85, 86, 87, 88, 89, 90, 91, 92, 93, 94, 95, 96, 97, 98, 99, 100, 101, 102, 103, 104, 105, 106, 107, 108, 109, 110, 111, 112, 113, 114, 115, 116, 117, 118, 119, 120, 121, 122, 123, 124, 125, 126, 127, 128, 129, 130, 131, 132, 133, 134, 263, 264, 265, 266, 267, 268] (by decide +kernel) (by decide +kernel)
set_option maxRecDepth 20000 in
theorem gX4_rehearse_X3_readCommand : GoodIn wsX4_rehearse (wsV RX4 133 RX3 yX3_readCommand wsX3_readCommand) := goodIn_app (goodIn_of _ (by decide +kernel)) ggX4_rehearse_X3_readCommand
set_option maxRecDepth 20000 in
theorem ggX4_rehearse_X4_perform : GoodIn wsX4_rehearse wsX4_perform := goodIn_r _ [139, 3, 140, 1, 141, 142, 143, 144, 145, 11, 146, 15, 14, 147, 148, 149, 150, 151, 16, 13, 21, 152, 153, 154, 155, 156, 157, 158, 159, 160, 161, 162, 25, 163, 164, 129, 130, 131, 27, 165, 166, 167, 39, 168, 43, 42, 169, 170, 171, 172, 173, 174, 175, 176, 177, 178, 179, 180, 181, 35, 182, 183, 184, 185, 186, 187, 188, 189, 190, 191, 192, 29, 30, 193, 194, 195, 196, 197, 198, 199, 200, 201, 202, 203, 41, 44, 46, 204, 205, 206, 207, 45, 47, 208, 209, 210, 211, 212, 34, 33, 31, 32, 213, 214, 215, 216, 217, 218, 219, 220, 221, 222, 223, 224, 225, 226, 227, 228, 229, 230, 231, 232, 233, 234, 235, 236, 237, 238, 239, 240, 241, 242, 243, 244, 245, 246, 247, 248, 249, 250, 251, 252, 256, 257, 258, 259, 260, 261, 262, 263, 264, 265, 266, 267, 268, 269, 270, 271, 272, 273, 282, 283, 284, 285, 286, 287, 288, 274, 275, 276, 277, 278, 279, 280, 281] (by decide +kernel) (by decide +kernel)
set_option maxRecDepth 20000 in
theorem gX4_rehearse_X4_perform : GoodIn wsX4_rehearse (wsV RX4 137 RX4 yX4_perform wsX4_perform) := goodIn_app (goodIn_of _ (by decide +kernel)) ggX4_rehearse_X4_perform
set_option maxRecDepth 20000 in
theorem ggX4_rehearse_X4_reasonOf : GoodIn wsX4_rehearse wsX4_reasonOf := goodIn_r _ [255] (by decide +kernel) (by decide +kernel)
set_option maxRecDepth 20000 in
theorem gX4_rehearse_X4_reasonOf : GoodIn wsX4_rehearse (va_wsS RX4 140 yX4_reasonOf wsX4_reasonOf) := goodIn_app (goodIn_of _ (by decide +kernel)) ggX4_rehearse_X4_reasonOf
theorem dX4_rehearse_0 : decode cX4_rehearse 0 = .ok (.aload_n 0, 1) := by decide +kernel
theorem dX4_rehearse_1 : decode cX4_rehearse 1 = .ok (.getfield 16, 3) := by decide +kernel
theorem dX4_rehearse_4 : decode cX4_rehearse 4 = .ok (.aload_n 0, 1) := by decide +kernel
theorem dX4_rehearse_5 : decode cX4_rehearse 5 = .ok (.getfield 10, 3) := by decide +kernel
theorem dX4_rehearse_8 : decode cX4_rehearse 8 = .ok (.invokevirtual 40, 3) := by decide +kernel
theorem dX4_rehearse_11 : decode cX4_rehearse 11 = .ok (.aload_n 0, 1) := by decide +kernel
theorem dX4_rehearse_12 : decode cX4_rehearse 12 = .ok (.getfield 30, 3) := by decide +kernel
theorem dX4_rehearse_15 : decode cX4_rehearse 15 = .ok (.invokevirtual 127, 3) := by decide +kernel
theorem dX4_rehearse_18 : decode cX4_rehearse 18 = .ok (.aload_n 0, 1) := by decide +kernel
theorem dX4_rehearse_19 : decode cX4_rehearse 19 = .ok (.iconst (-1), 1) := by decide +kernel
theorem dX4_rehearse_20 : decode cX4_rehearse 20 = .ok (.putfield 34, 3) := by decide +kernel
theorem dX4_rehearse_23 : decode cX4_rehearse 23 = .ok (.aload_n 0, 1) := by decide +kernel
theorem dX4_rehearse_24 : decode cX4_rehearse 24 = .ok (.iconst 0, 1) := by decide +kernel
theorem dX4_rehearse_25 : decode cX4_rehearse 25 = .ok (.putfield 37, 3) := by decide +kernel
theorem dX4_rehearse_28 : decode cX4_rehearse 28 = .ok (.iconst 0, 1) := by decide +kernel
theorem dX4_rehearse_29 : decode cX4_rehearse 29 = .ok (.istore_n 1, 1) := by decide +kernel
theorem dX4_rehearse_30 : decode cX4_rehearse 30 = .ok (.iload_n 1, 1) := by decide +kernel
theorem dX4_rehearse_31 : decode cX4_rehearse 31 = .ok (.bipush 80, 2) := by decide +kernel
theorem dX4_rehearse_33 : decode cX4_rehearse 33 = .ok (.if_icmp .ge 72, 3) := by decide +kernel
theorem dX4_rehearse_36 : decode cX4_rehearse 36 = .ok (.aload_n 0, 1) := by decide +kernel
theorem dX4_rehearse_37 : decode cX4_rehearse 37 = .ok (.getfield 30, 3) := by decide +kernel
theorem dX4_rehearse_40 : decode cX4_rehearse 40 = .ok (.getfield 130, 3) := by decide +kernel
theorem dX4_rehearse_43 : decode cX4_rehearse 43 = .ok (.aload_n 0, 1) := by decide +kernel
theorem dX4_rehearse_44 : decode cX4_rehearse 44 = .ok (.getfield 30, 3) := by decide +kernel
theorem dX4_rehearse_47 : decode cX4_rehearse 47 = .ok (.getfield 96, 3) := by decide +kernel
theorem dX4_rehearse_50 : decode cX4_rehearse 50 = .ok (.if_icmp .ge 55, 3) := by decide +kernel
theorem dX4_rehearse_53 : decode cX4_rehearse 53 = .ok (.aload_n 0, 1) := by decide +kernel
theorem dX4_rehearse_54 : decode cX4_rehearse 54 = .ok (.getfield 30, 3) := by decide +kernel
theorem dX4_rehearse_57 : decode cX4_rehearse 57 = .ok (.getfield 130, 3) := by decide +kernel
theorem dX4_rehearse_60 : decode cX4_rehearse 60 = .ok (.istore_n 2, 1) := by decide +kernel
theorem dX4_rehearse_61 : decode cX4_rehearse 61 = .ok (.aload_n 0, 1) := by decide +kernel
theorem dX4_rehearse_62 : decode cX4_rehearse 62 = .ok (.getfield 30, 3) := by decide +kernel
theorem dX4_rehearse_65 : decode cX4_rehearse 65 = .ok (.invokevirtual 133, 3) := by decide +kernel
theorem dX4_rehearse_68 : decode cX4_rehearse 68 = .ok (.ifCond .eq 13, 3) := by decide +kernel
theorem dX4_rehearse_71 : decode cX4_rehearse 71 = .ok (.aload_n 0, 1) := by decide +kernel
theorem dX4_rehearse_72 : decode cX4_rehearse 72 = .ok (.invokevirtual 137, 3) := by decide +kernel
theorem dX4_rehearse_75 : decode cX4_rehearse 75 = .ok (.invokestatic 140, 3) := by decide +kernel
theorem dX4_rehearse_78 : decode cX4_rehearse 78 = .ok (.goto 4, 3) := by decide +kernel
theorem dX4_rehearse_81 : decode cX4_rehearse 81 = .ok (.iconst 1, 1) := by decide +kernel
theorem dX4_rehearse_82 : decode cX4_rehearse 82 = .ok (.istore_n 3, 1) := by decide +kernel
theorem dX4_rehearse_83 : decode cX4_rehearse 83 = .ok (.iload_n 3, 1) := by decide +kernel
theorem dX4_rehearse_84 : decode cX4_rehearse 84 = .ok (.ifCond .eq 15, 3) := by decide +kernel
theorem dX4_rehearse_87 : decode cX4_rehearse 87 = .ok (.aload_n 0, 1) := by decide +kernel
theorem dX4_rehearse_88 : decode cX4_rehearse 88 = .ok (.iload_n 2, 1) := by decide +kernel
theorem dX4_rehearse_89 : decode cX4_rehearse 89 = .ok (.putfield 34, 3) := by decide +kernel
theorem dX4_rehearse_92 : decode cX4_rehearse 92 = .ok (.aload_n 0, 1) := by decide +kernel
theorem dX4_rehearse_93 : decode cX4_rehearse 93 = .ok (.iload_n 3, 1) := by decide +kernel
theorem dX4_rehearse_94 : decode cX4_rehearse 94 = .ok (.putfield 37, 3) := by decide +kernel
theorem dX4_rehearse_97 : decode cX4_rehearse 97 = .ok (.iload_n 1, 1) := by decide +kernel
theorem dX4_rehearse_98 : decode cX4_rehearse 98 = .ok (.ireturn, 1) := by decide +kernel
theorem dX4_rehearse_99 : decode cX4_rehearse 99 = .ok (.iinc 1 1, 3) := by decide +kernel
theorem dX4_rehearse_102 : decode cX4_rehearse 102 = .ok (.goto (-72), 3) := by decide +kernel
theorem dX4_rehearse_105 : decode cX4_rehearse 105 = .ok (.iload_n 1, 1) := by decide +kernel
theorem dX4_rehearse_106 : decode cX4_rehearse 106 = .ok (.ireturn, 1) := by decide +kernel
set_option maxRecDepth 20000 in
theorem ggX4_perform_X2_addClerk : GoodIn wsX4_perform wsX2_addClerk := goodIn_r _ [10, 11, 12, 13, 155, 156, 157, 158, 159, 160, 161, 162, 163, 164, 165, 166] (by decide +kernel) (by decide +kernel)
set_option maxRecDepth 20000 in
theorem gX4_perform_X2_addClerk : GoodIn wsX4_perform (wsV RX4 44 RX2 yX2_addClerk wsX2_addClerk) := goodIn_app (goodIn_of _ (by decide +kernel)) ggX4_perform_X2_addClerk
set_option maxRecDepth 20000 in
theorem ggX4_perform_X2_serve : GoodIn wsX4_perform wsX2_serve := goodIn_r _ [17, 12, 18, 19, 20, 21, 22, 23, 9, 24, 11, 25, 26, 27, 28, 29, 30, 31, 32, 33, 34, 35, 36, 37, 38, 39, 40, 41, 42, 43, 44, 45, 46, 47, 48, 49, 50, 51, 52, 53, 54, 55, 56, 57, 58, 59, 60, 61, 62, 63, 64, 65, 66, 67, 68, 69, 70, 71, 72, 73, 74, 75, 76, 77, 78, 79, 80, 81, 82, 83, 84, 85, 86, 87, 88, 89, 90, 91, 92, 93, 94, 95, 96, 97, 98, 99, 100, 101, 102, 103, 155, 156, 157, 158, 159, 167, 168, 169, 170, 171, 172, 173, 174, 160, 161, 162, 163, 164, 165, 166] (by decide +kernel) (by decide +kernel)
set_option maxRecDepth 20000 in
theorem gX4_perform_X2_serve : GoodIn wsX4_perform (wsV RX4 51 RX2 yX2_serve wsX2_serve) := goodIn_app (goodIn_of _ (by decide +kernel)) ggX4_perform_X2_serve
set_option maxRecDepth 20000 in
theorem ggX4_perform_X2_letForget : GoodIn wsX4_perform wsX2_letForget := goodIn_r _ [107, 12, 19, 108, 21, 22, 23, 9, 24, 11, 39, 40, 41, 42, 43, 44, 45, 109, 110, 111, 112, 113, 35, 36, 37, 114, 115, 116, 117, 85, 93, 78, 79, 118, 73, 74, 75, 32, 76, 77, 34, 38, 71, 72, 59, 155, 156, 157, 158, 159, 160, 161, 162, 163, 164, 165, 166, 167, 168, 169, 170, 171, 172, 173, 174] (by decide +kernel) (by decide +kernel)
set_option maxRecDepth 20000 in
theorem gX4_perform_X2_letForget : GoodIn wsX4_perform (wsV RX4 55 RX2 yX2_letForget wsX2_letForget) := goodIn_app (goodIn_of _ (by decide +kernel)) ggX4_perform_X2_letForget
set_option maxRecDepth 20000 in
theorem ggX4_perform_X2_takeBack : GoodIn wsX4_perform wsX2_takeBack := goodIn_r _ [122, 12, 18, 19, 108, 123, 21, 22, 23, 9, 24, 11, 39, 40, 41, 42, 43, 44, 45, 73, 74, 75, 32, 76, 77, 78, 36, 79, 34, 35, 37, 38, 71, 72, 59, 124, 125, 126, 127, 85, 155, 156, 157, 158, 159, 160, 161, 162, 163, 164, 165, 166, 167, 168, 169, 170, 171, 172, 173, 174] (by decide +kernel) (by decide +kernel)
set_option maxRecDepth 20000 in
theorem gX4_perform_X2_takeBack : GoodIn wsX4_perform (wsV RX4 58 RX2 yX2_takeBack wsX2_takeBack) := goodIn_app (goodIn_of _ (by decide +kernel)) ggX4_perform_X2_takeBack
set_option maxRecDepth 20000 in
theorem ggX4_perform_X2_cancel : GoodIn wsX4_perform wsX2_cancel := goodIn_r _ [131, 19, 132, 133, 60, 61, 32, 62, 73, 74, 75, 76, 77, 78, 36, 79, 34, 35, 37, 38, 71, 72, 59, 155, 156, 157, 158, 159, 167, 168, 169, 170, 171, 172, 173, 174] (by decide +kernel) (by decide +kernel)
set_option maxRecDepth 20000 in
theorem gX4_perform_X2_cancel : GoodIn wsX4_perform (wsV RX4 61 RX2 yX2_cancel wsX2_cancel) := goodIn_app (goodIn_of _ (by decide +kernel)) ggX4_perform_X2_cancel
set_option maxRecDepth 20000 in
theorem ggX4_perform_X2_endDay : GoodIn wsX4_perform wsX2_endDay := goodIn_r _ [137, 19, 12, 20, 138, 139, 140, 32, 141, 38, 71, 103, 74, 75, 76, 77, 78, 36, 79, 34, 35, 37, 72, 59, 124, 125, 126, 42, 127, 45, 44, 85, 155, 156, 157, 158, 159, 167, 168, 169, 170, 171, 172, 173, 174, 160, 161, 162, 163, 164, 165, 166] (by decide +kernel) (by decide +kernel)
set_option maxRecDepth 20000 in
theorem gX4_perform_X2_endDay : GoodIn wsX4_perform (wsV RX4 64 RX2 yX2_endDay wsX2_endDay) := goodIn_app (goodIn_of _ (by decide +kernel)) ggX4_perform_X2_endDay
theorem dX4_perform_0 : decode cX4_perform 0 = .ok (.aload_n 0, 1) := by decide +kernel
theorem dX4_perform_1 : decode cX4_perform 1 = .ok (.getfield 30, 3) := by decide +kernel
theorem dX4_perform_4 : decode cX4_perform 4 = .ok (.getfield 143, 3) := by decide +kernel
theorem dX4_perform_7 : decode cX4_perform 7 = .ok (.tableswitch 115 0 4 #[33, 48, 70, 85, 100], 33) := by decide +kernel
theorem dX4_perform_40 : decode cX4_perform 40 = .ok (.aload_n 0, 1) := by decide +kernel
theorem dX4_perform_41 : decode cX4_perform 41 = .ok (.getfield 16, 3) := by decide +kernel
theorem dX4_perform_44 : decode cX4_perform 44 = .ok (.aload_n 0, 1) := by decide +kernel
theorem dX4_perform_45 : decode cX4_perform 45 = .ok (.getfield 30, 3) := by decide +kernel
theorem dX4_perform_48 : decode cX4_perform 48 = .ok (.getfield 146, 3) := by decide +kernel
theorem dX4_perform_51 : decode cX4_perform 51 = .ok (.invokevirtual 44, 3) := by decide +kernel
theorem dX4_perform_54 : decode cX4_perform 54 = .ok (.ireturn, 1) := by decide +kernel
theorem dX4_perform_55 : decode cX4_perform 55 = .ok (.aload_n 0, 1) := by decide +kernel
theorem dX4_perform_56 : decode cX4_perform 56 = .ok (.getfield 16, 3) := by decide +kernel
theorem dX4_perform_59 : decode cX4_perform 59 = .ok (.aload_n 0, 1) := by decide +kernel
theorem dX4_perform_60 : decode cX4_perform 60 = .ok (.getfield 30, 3) := by decide +kernel
theorem dX4_perform_63 : decode cX4_perform 63 = .ok (.getfield 146, 3) := by decide +kernel
theorem dX4_perform_66 : decode cX4_perform 66 = .ok (.aload_n 0, 1) := by decide +kernel
theorem dX4_perform_67 : decode cX4_perform 67 = .ok (.getfield 30, 3) := by decide +kernel
theorem dX4_perform_70 : decode cX4_perform 70 = .ok (.getfield 149, 3) := by decide +kernel
theorem dX4_perform_73 : decode cX4_perform 73 = .ok (.invokevirtual 51, 3) := by decide +kernel
theorem dX4_perform_76 : decode cX4_perform 76 = .ok (.ireturn, 1) := by decide +kernel
theorem dX4_perform_77 : decode cX4_perform 77 = .ok (.aload_n 0, 1) := by decide +kernel
theorem dX4_perform_78 : decode cX4_perform 78 = .ok (.getfield 16, 3) := by decide +kernel
theorem dX4_perform_81 : decode cX4_perform 81 = .ok (.aload_n 0, 1) := by decide +kernel
theorem dX4_perform_82 : decode cX4_perform 82 = .ok (.getfield 30, 3) := by decide +kernel
theorem dX4_perform_85 : decode cX4_perform 85 = .ok (.getfield 146, 3) := by decide +kernel
theorem dX4_perform_88 : decode cX4_perform 88 = .ok (.invokevirtual 55, 3) := by decide +kernel
theorem dX4_perform_91 : decode cX4_perform 91 = .ok (.ireturn, 1) := by decide +kernel
theorem dX4_perform_92 : decode cX4_perform 92 = .ok (.aload_n 0, 1) := by decide +kernel
theorem dX4_perform_93 : decode cX4_perform 93 = .ok (.getfield 16, 3) := by decide +kernel
theorem dX4_perform_96 : decode cX4_perform 96 = .ok (.aload_n 0, 1) := by decide +kernel
theorem dX4_perform_97 : decode cX4_perform 97 = .ok (.getfield 30, 3) := by decide +kernel
theorem dX4_perform_100 : decode cX4_perform 100 = .ok (.getfield 146, 3) := by decide +kernel
theorem dX4_perform_103 : decode cX4_perform 103 = .ok (.invokevirtual 58, 3) := by decide +kernel
theorem dX4_perform_106 : decode cX4_perform 106 = .ok (.ireturn, 1) := by decide +kernel
theorem dX4_perform_107 : decode cX4_perform 107 = .ok (.aload_n 0, 1) := by decide +kernel
theorem dX4_perform_108 : decode cX4_perform 108 = .ok (.getfield 16, 3) := by decide +kernel
theorem dX4_perform_111 : decode cX4_perform 111 = .ok (.aload_n 0, 1) := by decide +kernel
theorem dX4_perform_112 : decode cX4_perform 112 = .ok (.getfield 30, 3) := by decide +kernel
theorem dX4_perform_115 : decode cX4_perform 115 = .ok (.getfield 146, 3) := by decide +kernel
theorem dX4_perform_118 : decode cX4_perform 118 = .ok (.invokevirtual 61, 3) := by decide +kernel
theorem dX4_perform_121 : decode cX4_perform 121 = .ok (.ireturn, 1) := by decide +kernel
theorem dX4_perform_122 : decode cX4_perform 122 = .ok (.aload_n 0, 1) := by decide +kernel
theorem dX4_perform_123 : decode cX4_perform 123 = .ok (.getfield 16, 3) := by decide +kernel
theorem dX4_perform_126 : decode cX4_perform 126 = .ok (.invokevirtual 64, 3) := by decide +kernel
theorem dX4_perform_129 : decode cX4_perform 129 = .ok (.ireturn, 1) := by decide +kernel
theorem dX4_reasonOf_0 : decode cX4_reasonOf 0 = .ok (.iload_n 0, 1) := by decide +kernel
theorem dX4_reasonOf_1 : decode cX4_reasonOf 1 = .ok (.ifCond .lt 5, 3) := by decide +kernel
theorem dX4_reasonOf_4 : decode cX4_reasonOf 4 = .ok (.iconst 0, 1) := by decide +kernel
theorem dX4_reasonOf_5 : decode cX4_reasonOf 5 = .ok (.ireturn, 1) := by decide +kernel
theorem dX4_reasonOf_6 : decode cX4_reasonOf 6 = .ok (.iload_n 0, 1) := by decide +kernel
theorem dX4_reasonOf_7 : decode cX4_reasonOf 7 = .ok (.iconst (-1), 1) := by decide +kernel
theorem dX4_reasonOf_8 : decode cX4_reasonOf 8 = .ok (.if_icmp .ne 7, 3) := by decide +kernel
theorem dX4_reasonOf_11 : decode cX4_reasonOf 11 = .ok (.iconst 2, 1) := by decide +kernel
theorem dX4_reasonOf_12 : decode cX4_reasonOf 12 = .ok (.goto 4, 3) := by decide +kernel
theorem dX4_reasonOf_15 : decode cX4_reasonOf 15 = .ok (.iconst 3, 1) := by decide +kernel
theorem dX4_reasonOf_16 : decode cX4_reasonOf 16 = .ok (.ireturn, 1) := by decide +kernel
theorem dX4_orNotFound_0 : decode cX4_orNotFound 0 = .ok (.iload_n 0, 1) := by decide +kernel
theorem dX4_orNotFound_1 : decode cX4_orNotFound 1 = .ok (.ifCond .ge 8, 3) := by decide +kernel
theorem dX4_orNotFound_4 : decode cX4_orNotFound 4 = .ok (.bipush (-4), 2) := by decide +kernel
theorem dX4_orNotFound_6 : decode cX4_orNotFound 6 = .ok (.goto 4, 3) := by decide +kernel
theorem dX4_orNotFound_9 : decode cX4_orNotFound 9 = .ok (.iload_n 0, 1) := by decide +kernel
theorem dX4_orNotFound_10 : decode cX4_orNotFound 10 = .ok (.ireturn, 1) := by decide +kernel
