theorem dX0_init_0 : decode cX0_init 0 = .ok (.aload_n 0, 1) := by decide +kernel
theorem dX0_init_1 : decode cX0_init 1 = .ok (.invokespecial 3, 3) := by decide +kernel
theorem dX0_init_4 : decode cX0_init 4 = .ok (.aload_n 0, 1) := by decide +kernel
theorem dX0_init_5 : decode cX0_init 5 = .ok (.iconst 0, 1) := by decide +kernel
theorem dX0_init_6 : decode cX0_init 6 = .ok (.putfield 9, 3) := by decide +kernel
theorem dX0_init_9 : decode cX0_init 9 = .ok (.aload_n 0, 1) := by decide +kernel
theorem dX0_init_10 : decode cX0_init 10 = .ok (.iconst 1, 1) := by decide +kernel
theorem dX0_init_11 : decode cX0_init 11 = .ok (.putfield 15, 3) := by decide +kernel
theorem dX0_init_14 : decode cX0_init 14 = .ok (.aload_n 0, 1) := by decide +kernel
theorem dX0_init_15 : decode cX0_init 15 = .ok (.iconst 0, 1) := by decide +kernel
theorem dX0_init_16 : decode cX0_init 16 = .ok (.putfield 18, 3) := by decide +kernel
theorem dX0_init_19 : decode cX0_init 19 = .ok (.aload_n 0, 1) := by decide +kernel
theorem dX0_init_20 : decode cX0_init 20 = .ok (.iconst 0, 1) := by decide +kernel
theorem dX0_init_21 : decode cX0_init 21 = .ok (.putfield 21, 3) := by decide +kernel
theorem dX0_init_24 : decode cX0_init 24 = .ok (.aload_n 0, 1) := by decide +kernel
theorem dX0_init_25 : decode cX0_init 25 = .ok (.iconst 0, 1) := by decide +kernel
theorem dX0_init_26 : decode cX0_init 26 = .ok (.putfield 24, 3) := by decide +kernel
theorem dX0_init_29 : decode cX0_init 29 = .ok (.aload_n 0, 1) := by decide +kernel
theorem dX0_init_30 : decode cX0_init 30 = .ok (.iconst 0, 1) := by decide +kernel
theorem dX0_init_31 : decode cX0_init 31 = .ok (.putfield 27, 3) := by decide +kernel
theorem dX0_init_34 : decode cX0_init 34 = .ok (.aload_n 0, 1) := by decide +kernel
theorem dX0_init_35 : decode cX0_init 35 = .ok (.iconst (-1), 1) := by decide +kernel
theorem dX0_init_36 : decode cX0_init 36 = .ok (.putfield 30, 3) := by decide +kernel
theorem dX0_init_39 : decode cX0_init 39 = .ok (.return_, 1) := by decide +kernel
theorem dX0_become_0 : decode cX0_become 0 = .ok (.aload_n 0, 1) := by decide +kernel
theorem dX0_become_1 : decode cX0_become 1 = .ok (.aload_n 1, 1) := by decide +kernel
theorem dX0_become_2 : decode cX0_become 2 = .ok (.getfield 9, 3) := by decide +kernel
theorem dX0_become_5 : decode cX0_become 5 = .ok (.putfield 9, 3) := by decide +kernel
theorem dX0_become_8 : decode cX0_become 8 = .ok (.aload_n 0, 1) := by decide +kernel
theorem dX0_become_9 : decode cX0_become 9 = .ok (.aload_n 1, 1) := by decide +kernel
theorem dX0_become_10 : decode cX0_become 10 = .ok (.getfield 15, 3) := by decide +kernel
theorem dX0_become_13 : decode cX0_become 13 = .ok (.putfield 15, 3) := by decide +kernel
theorem dX0_become_16 : decode cX0_become 16 = .ok (.aload_n 0, 1) := by decide +kernel
theorem dX0_become_17 : decode cX0_become 17 = .ok (.aload_n 1, 1) := by decide +kernel
theorem dX0_become_18 : decode cX0_become 18 = .ok (.getfield 18, 3) := by decide +kernel
theorem dX0_become_21 : decode cX0_become 21 = .ok (.putfield 18, 3) := by decide +kernel
theorem dX0_become_24 : decode cX0_become 24 = .ok (.aload_n 0, 1) := by decide +kernel
theorem dX0_become_25 : decode cX0_become 25 = .ok (.aload_n 1, 1) := by decide +kernel
theorem dX0_become_26 : decode cX0_become 26 = .ok (.getfield 21, 3) := by decide +kernel
theorem dX0_become_29 : decode cX0_become 29 = .ok (.putfield 21, 3) := by decide +kernel
theorem dX0_become_32 : decode cX0_become 32 = .ok (.aload_n 0, 1) := by decide +kernel
theorem dX0_become_33 : decode cX0_become 33 = .ok (.aload_n 1, 1) := by decide +kernel
theorem dX0_become_34 : decode cX0_become 34 = .ok (.getfield 24, 3) := by decide +kernel
theorem dX0_become_37 : decode cX0_become 37 = .ok (.putfield 24, 3) := by decide +kernel
theorem dX0_become_40 : decode cX0_become 40 = .ok (.aload_n 0, 1) := by decide +kernel
theorem dX0_become_41 : decode cX0_become 41 = .ok (.aload_n 1, 1) := by decide +kernel
theorem dX0_become_42 : decode cX0_become 42 = .ok (.getfield 27, 3) := by decide +kernel
theorem dX0_become_45 : decode cX0_become 45 = .ok (.putfield 27, 3) := by decide +kernel
theorem dX0_become_48 : decode cX0_become 48 = .ok (.aload_n 0, 1) := by decide +kernel
theorem dX0_become_49 : decode cX0_become 49 = .ok (.aload_n 1, 1) := by decide +kernel
theorem dX0_become_50 : decode cX0_become 50 = .ok (.getfield 30, 3) := by decide +kernel
theorem dX0_become_53 : decode cX0_become 53 = .ok (.putfield 30, 3) := by decide +kernel
theorem dX0_become_56 : decode cX0_become 56 = .ok (.return_, 1) := by decide +kernel
theorem dX0_drop_0 : decode cX0_drop 0 = .ok (.aload_n 0, 1) := by decide +kernel
theorem dX0_drop_1 : decode cX0_drop 1 = .ok (.iconst 1, 1) := by decide +kernel
theorem dX0_drop_2 : decode cX0_drop 2 = .ok (.putfield 15, 3) := by decide +kernel
theorem dX0_drop_5 : decode cX0_drop 5 = .ok (.aload_n 0, 1) := by decide +kernel
theorem dX0_drop_6 : decode cX0_drop 6 = .ok (.iconst 0, 1) := by decide +kernel
theorem dX0_drop_7 : decode cX0_drop 7 = .ok (.putfield 18, 3) := by decide +kernel
theorem dX0_drop_10 : decode cX0_drop 10 = .ok (.aload_n 0, 1) := by decide +kernel
theorem dX0_drop_11 : decode cX0_drop 11 = .ok (.iconst 0, 1) := by decide +kernel
theorem dX0_drop_12 : decode cX0_drop 12 = .ok (.putfield 21, 3) := by decide +kernel
theorem dX0_drop_15 : decode cX0_drop 15 = .ok (.return_, 1) := by decide +kernel
theorem dX0_held_0 : decode cX0_held 0 = .ok (.aload_n 0, 1) := by decide +kernel
theorem dX0_held_1 : decode cX0_held 1 = .ok (.getfield 18, 3) := by decide +kernel
theorem dX0_held_4 : decode cX0_held 4 = .ok (.aload_n 0, 1) := by decide +kernel
theorem dX0_held_5 : decode cX0_held 5 = .ok (.getfield 15, 3) := by decide +kernel
theorem dX0_held_8 : decode cX0_held 8 = .ok (.isub, 1) := by decide +kernel
theorem dX0_held_9 : decode cX0_held 9 = .ok (.iconst 1, 1) := by decide +kernel
theorem dX0_held_10 : decode cX0_held 10 = .ok (.iadd, 1) := by decide +kernel
theorem dX0_held_11 : decode cX0_held 11 = .ok (.ireturn, 1) := by decide +kernel
theorem dX0_lastLost_0 : decode cX0_lastLost 0 = .ok (.aload_n 0, 1) := by decide +kernel
theorem dX0_lastLost_1 : decode cX0_lastLost 1 = .ok (.getfield 21, 3) := by decide +kernel
theorem dX0_lastLost_4 : decode cX0_lastLost 4 = .ok (.aload_n 0, 1) := by decide +kernel
theorem dX0_lastLost_5 : decode cX0_lastLost 5 = .ok (.getfield 18, 3) := by decide +kernel
theorem dX0_lastLost_8 : decode cX0_lastLost 8 = .ok (.invokestatic 33, 3) := by decide +kernel
theorem dX0_lastLost_11 : decode cX0_lastLost 11 = .ok (.ireturn, 1) := by decide +kernel
set_option maxRecDepth 20000 in
theorem ggX0_loss_X0_lastLost : GoodIn wsX0_loss wsX0_lastLost := goodIn_r _ [10, 11, 12, 13, 14, 4, 15, 16, 17, 18, 19, 20, 21, 22] (by decide +kernel) (by decide +kernel)
set_option maxRecDepth 20000 in
theorem gX0_loss_X0_lastLost : GoodIn wsX0_loss (wsV RX0 39 RX0 yX0_lastLost wsX0_lastLost) := goodIn_app (goodIn_of _ (by decide +kernel)) ggX0_loss_X0_lastLost
theorem dX0_loss_0 : decode cX0_loss 0 = .ok (.iconst 0, 1) := by decide +kernel
theorem dX0_loss_1 : decode cX0_loss 1 = .ok (.aload_n 0, 1) := by decide +kernel
theorem dX0_loss_2 : decode cX0_loss 2 = .ok (.invokevirtual 39, 3) := by decide +kernel
theorem dX0_loss_5 : decode cX0_loss 5 = .ok (.aload_n 0, 1) := by decide +kernel
theorem dX0_loss_6 : decode cX0_loss 6 = .ok (.getfield 15, 3) := by decide +kernel
theorem dX0_loss_9 : decode cX0_loss 9 = .ok (.isub, 1) := by decide +kernel
theorem dX0_loss_10 : decode cX0_loss 10 = .ok (.iconst 1, 1) := by decide +kernel
theorem dX0_loss_11 : decode cX0_loss 11 = .ok (.iadd, 1) := by decide +kernel
theorem dX0_loss_12 : decode cX0_loss 12 = .ok (.invokestatic 43, 3) := by decide +kernel
theorem dX0_loss_15 : decode cX0_loss 15 = .ok (.ireturn, 1) := by decide +kernel
theorem dX0_receive_0 : decode cX0_receive 0 = .ok (.aload_n 0, 1) := by decide +kernel
theorem dX0_receive_1 : decode cX0_receive 1 = .ok (.iload_n 1, 1) := by decide +kernel
theorem dX0_receive_2 : decode cX0_receive 2 = .ok (.putfield 15, 3) := by decide +kernel
theorem dX0_receive_5 : decode cX0_receive 5 = .ok (.aload_n 0, 1) := by decide +kernel
theorem dX0_receive_6 : decode cX0_receive 6 = .ok (.iload_n 2, 1) := by decide +kernel
theorem dX0_receive_7 : decode cX0_receive 7 = .ok (.putfield 18, 3) := by decide +kernel
theorem dX0_receive_10 : decode cX0_receive 10 = .ok (.aload_n 0, 1) := by decide +kernel
theorem dX0_receive_11 : decode cX0_receive 11 = .ok (.aload_n 0, 1) := by decide +kernel
theorem dX0_receive_12 : decode cX0_receive 12 = .ok (.getfield 9, 3) := by decide +kernel
theorem dX0_receive_15 : decode cX0_receive 15 = .ok (.iconst 2, 1) := by decide +kernel
theorem dX0_receive_16 : decode cX0_receive 16 = .ok (.if_icmp .ne 7, 3) := by decide +kernel
theorem dX0_receive_19 : decode cX0_receive 19 = .ok (.iload_n 2, 1) := by decide +kernel
theorem dX0_receive_20 : decode cX0_receive 20 = .ok (.goto 6, 3) := by decide +kernel
theorem dX0_receive_23 : decode cX0_receive 23 = .ok (.iload_n 1, 1) := by decide +kernel
theorem dX0_receive_24 : decode cX0_receive 24 = .ok (.iconst 1, 1) := by decide +kernel
theorem dX0_receive_25 : decode cX0_receive 25 = .ok (.isub, 1) := by decide +kernel
theorem dX0_receive_26 : decode cX0_receive 26 = .ok (.putfield 21, 3) := by decide +kernel
theorem dX0_receive_29 : decode cX0_receive 29 = .ok (.aload_n 0, 1) := by decide +kernel
theorem dX0_receive_30 : decode cX0_receive 30 = .ok (.dup, 1) := by decide +kernel
theorem dX0_receive_31 : decode cX0_receive 31 = .ok (.getfield 27, 3) := by decide +kernel
theorem dX0_receive_34 : decode cX0_receive 34 = .ok (.iconst 1, 1) := by decide +kernel
theorem dX0_receive_35 : decode cX0_receive 35 = .ok (.iadd, 1) := by decide +kernel
theorem dX0_receive_36 : decode cX0_receive 36 = .ok (.putfield 27, 3) := by decide +kernel
theorem dX0_receive_39 : decode cX0_receive 39 = .ok (.return_, 1) := by decide +kernel
theorem dX0_giveLowest_0 : decode cX0_giveLowest 0 = .ok (.aload_n 0, 1) := by decide +kernel
theorem dX0_giveLowest_1 : decode cX0_giveLowest 1 = .ok (.getfield 15, 3) := by decide +kernel
theorem dX0_giveLowest_4 : decode cX0_giveLowest 4 = .ok (.istore_n 2, 1) := by decide +kernel
theorem dX0_giveLowest_5 : decode cX0_giveLowest 5 = .ok (.aload_n 0, 1) := by decide +kernel
theorem dX0_giveLowest_6 : decode cX0_giveLowest 6 = .ok (.dup, 1) := by decide +kernel
theorem dX0_giveLowest_7 : decode cX0_giveLowest 7 = .ok (.getfield 15, 3) := by decide +kernel
theorem dX0_giveLowest_10 : decode cX0_giveLowest 10 = .ok (.iconst 1, 1) := by decide +kernel
theorem dX0_giveLowest_11 : decode cX0_giveLowest 11 = .ok (.iadd, 1) := by decide +kernel
theorem dX0_giveLowest_12 : decode cX0_giveLowest 12 = .ok (.putfield 15, 3) := by decide +kernel
theorem dX0_giveLowest_15 : decode cX0_giveLowest 15 = .ok (.aload_n 0, 1) := by decide +kernel
theorem dX0_giveLowest_16 : decode cX0_giveLowest 16 = .ok (.dup, 1) := by decide +kernel
theorem dX0_giveLowest_17 : decode cX0_giveLowest 17 = .ok (.getfield 24, 3) := by decide +kernel
theorem dX0_giveLowest_20 : decode cX0_giveLowest 20 = .ok (.iconst 1, 1) := by decide +kernel
theorem dX0_giveLowest_21 : decode cX0_giveLowest 21 = .ok (.iadd, 1) := by decide +kernel
theorem dX0_giveLowest_22 : decode cX0_giveLowest 22 = .ok (.putfield 24, 3) := by decide +kernel
theorem dX0_giveLowest_25 : decode cX0_giveLowest 25 = .ok (.aload_n 0, 1) := by decide +kernel
theorem dX0_giveLowest_26 : decode cX0_giveLowest 26 = .ok (.iload_n 2, 1) := by decide +kernel
theorem dX0_giveLowest_27 : decode cX0_giveLowest 27 = .ok (.putfield 30, 3) := by decide +kernel
theorem dX0_giveLowest_30 : decode cX0_giveLowest 30 = .ok (.aload_n 0, 1) := by decide +kernel
theorem dX0_giveLowest_31 : decode cX0_giveLowest 31 = .ok (.getfield 9, 3) := by decide +kernel
theorem dX0_giveLowest_34 : decode cX0_giveLowest 34 = .ok (.ifCond .ne 11, 3) := by decide +kernel
theorem dX0_giveLowest_37 : decode cX0_giveLowest 37 = .ok (.aload_n 0, 1) := by decide +kernel
theorem dX0_giveLowest_38 : decode cX0_giveLowest 38 = .ok (.iload_n 2, 1) := by decide +kernel
theorem dX0_giveLowest_39 : decode cX0_giveLowest 39 = .ok (.putfield 21, 3) := by decide +kernel
theorem dX0_giveLowest_42 : decode cX0_giveLowest 42 = .ok (.goto 35, 3) := by decide +kernel
theorem dX0_giveLowest_45 : decode cX0_giveLowest 45 = .ok (.aload_n 0, 1) := by decide +kernel
theorem dX0_giveLowest_46 : decode cX0_giveLowest 46 = .ok (.getfield 9, 3) := by decide +kernel
theorem dX0_giveLowest_49 : decode cX0_giveLowest 49 = .ok (.iconst 1, 1) := by decide +kernel
theorem dX0_giveLowest_50 : decode cX0_giveLowest 50 = .ok (.if_icmp .ne 27, 3) := by decide +kernel
theorem dX0_giveLowest_53 : decode cX0_giveLowest 53 = .ok (.iload_n 2, 1) := by decide +kernel
theorem dX0_giveLowest_54 : decode cX0_giveLowest 54 = .ok (.aload_n 0, 1) := by decide +kernel
theorem dX0_giveLowest_55 : decode cX0_giveLowest 55 = .ok (.getfield 21, 3) := by decide +kernel
theorem dX0_giveLowest_58 : decode cX0_giveLowest 58 = .ok (.if_icmp .le 19, 3) := by decide +kernel
theorem dX0_giveLowest_61 : decode cX0_giveLowest 61 = .ok (.aload_n 0, 1) := by decide +kernel
theorem dX0_giveLowest_62 : decode cX0_giveLowest 62 = .ok (.iload_n 2, 1) := by decide +kernel
theorem dX0_giveLowest_63 : decode cX0_giveLowest 63 = .ok (.iload_n 1, 1) := by decide +kernel
theorem dX0_giveLowest_64 : decode cX0_giveLowest 64 = .ok (.iadd, 1) := by decide +kernel
theorem dX0_giveLowest_65 : decode cX0_giveLowest 65 = .ok (.iconst 1, 1) := by decide +kernel
theorem dX0_giveLowest_66 : decode cX0_giveLowest 66 = .ok (.isub, 1) := by decide +kernel
theorem dX0_giveLowest_67 : decode cX0_giveLowest 67 = .ok (.aload_n 0, 1) := by decide +kernel
theorem dX0_giveLowest_68 : decode cX0_giveLowest 68 = .ok (.getfield 18, 3) := by decide +kernel
theorem dX0_giveLowest_71 : decode cX0_giveLowest 71 = .ok (.invokestatic 33, 3) := by decide +kernel
theorem dX0_giveLowest_74 : decode cX0_giveLowest 74 = .ok (.putfield 21, 3) := by decide +kernel
theorem dX0_giveLowest_77 : decode cX0_giveLowest 77 = .ok (.iload_n 2, 1) := by decide +kernel
theorem dX0_giveLowest_78 : decode cX0_giveLowest 78 = .ok (.ireturn, 1) := by decide +kernel
