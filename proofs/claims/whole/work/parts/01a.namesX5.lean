theorem dX5_init_0 : decode cX5_init 0 = .ok (.aload_n 0, 1) := by decide +kernel
theorem dX5_init_1 : decode cX5_init 1 = .ok (.invokespecial 1, 3) := by decide +kernel
theorem dX5_init_4 : decode cX5_init 4 = .ok (.aload_n 0, 1) := by decide +kernel
theorem dX5_init_5 : decode cX5_init 5 = .ok (.bipush 118, 2) := by decide +kernel
theorem dX5_init_7 : decode cX5_init 7 = .ok (.newarray .int, 2) := by decide +kernel
theorem dX5_init_9 : decode cX5_init 9 = .ok (.putfield 7, 3) := by decide +kernel
theorem dX5_init_12 : decode cX5_init 12 = .ok (.aload_n 0, 1) := by decide +kernel
theorem dX5_init_13 : decode cX5_init 13 = .ok (.bipush 118, 2) := by decide +kernel
theorem dX5_init_15 : decode cX5_init 15 = .ok (.newarray .int, 2) := by decide +kernel
theorem dX5_init_17 : decode cX5_init 17 = .ok (.putfield 13, 3) := by decide +kernel
theorem dX5_init_20 : decode cX5_init 20 = .ok (.aload_n 0, 1) := by decide +kernel
theorem dX5_init_21 : decode cX5_init 21 = .ok (.sipush 708, 3) := by decide +kernel
theorem dX5_init_24 : decode cX5_init 24 = .ok (.newarray .int, 2) := by decide +kernel
theorem dX5_init_26 : decode cX5_init 26 = .ok (.putfield 16, 3) := by decide +kernel
theorem dX5_init_29 : decode cX5_init 29 = .ok (.aload_n 0, 1) := by decide +kernel
theorem dX5_init_30 : decode cX5_init 30 = .ok (.bipush 60, 2) := by decide +kernel
theorem dX5_init_32 : decode cX5_init 32 = .ok (.newarray .int, 2) := by decide +kernel
theorem dX5_init_34 : decode cX5_init 34 = .ok (.putfield 19, 3) := by decide +kernel
theorem dX5_init_37 : decode cX5_init 37 = .ok (.aload_n 0, 1) := by decide +kernel
theorem dX5_init_38 : decode cX5_init 38 = .ok (.bipush 88, 2) := by decide +kernel
theorem dX5_init_40 : decode cX5_init 40 = .ok (.newarray .int, 2) := by decide +kernel
theorem dX5_init_42 : decode cX5_init 42 = .ok (.putfield 22, 3) := by decide +kernel
theorem dX5_init_45 : decode cX5_init 45 = .ok (.aload_n 0, 1) := by decide +kernel
theorem dX5_init_46 : decode cX5_init 46 = .ok (.iconst 0, 1) := by decide +kernel
theorem dX5_init_47 : decode cX5_init 47 = .ok (.putfield 25, 3) := by decide +kernel
theorem dX5_init_50 : decode cX5_init 50 = .ok (.aload_n 0, 1) := by decide +kernel
theorem dX5_init_51 : decode cX5_init 51 = .ok (.getfield 7, 3) := by decide +kernel
theorem dX5_init_54 : decode cX5_init 54 = .ok (.bipush 6, 2) := by decide +kernel
theorem dX5_init_56 : decode cX5_init 56 = .ok (.bipush 6, 2) := by decide +kernel
theorem dX5_init_58 : decode cX5_init 58 = .ok (.iastore, 1) := by decide +kernel
theorem dX5_init_59 : decode cX5_init 59 = .ok (.aload_n 0, 1) := by decide +kernel
theorem dX5_init_60 : decode cX5_init 60 = .ok (.getfield 7, 3) := by decide +kernel
theorem dX5_init_63 : decode cX5_init 63 = .ok (.bipush 7, 2) := by decide +kernel
theorem dX5_init_65 : decode cX5_init 65 = .ok (.iconst 3, 1) := by decide +kernel
theorem dX5_init_66 : decode cX5_init 66 = .ok (.iastore, 1) := by decide +kernel
theorem dX5_init_67 : decode cX5_init 67 = .ok (.aload_n 0, 1) := by decide +kernel
theorem dX5_init_68 : decode cX5_init 68 = .ok (.getfield 7, 3) := by decide +kernel
theorem dX5_init_71 : decode cX5_init 71 = .ok (.bipush 8, 2) := by decide +kernel
theorem dX5_init_73 : decode cX5_init 73 = .ok (.bipush 20, 2) := by decide +kernel
theorem dX5_init_75 : decode cX5_init 75 = .ok (.iastore, 1) := by decide +kernel
theorem dX5_init_76 : decode cX5_init 76 = .ok (.aload_n 0, 1) := by decide +kernel
theorem dX5_init_77 : decode cX5_init 77 = .ok (.getfield 7, 3) := by decide +kernel
theorem dX5_init_80 : decode cX5_init 80 = .ok (.bipush 9, 2) := by decide +kernel
theorem dX5_init_82 : decode cX5_init 82 = .ok (.sipush 200, 3) := by decide +kernel
theorem dX5_init_85 : decode cX5_init 85 = .ok (.iastore, 1) := by decide +kernel
theorem dX5_init_86 : decode cX5_init 86 = .ok (.iconst 0, 1) := by decide +kernel
theorem dX5_init_87 : decode cX5_init 87 = .ok (.istore_n 1, 1) := by decide +kernel
theorem dX5_init_88 : decode cX5_init 88 = .ok (.iload_n 1, 1) := by decide +kernel
theorem dX5_init_89 : decode cX5_init 89 = .ok (.bipush 6, 2) := by decide +kernel
theorem dX5_init_91 : decode cX5_init 91 = .ok (.if_icmp .ge 25, 3) := by decide +kernel
theorem dX5_init_94 : decode cX5_init 94 = .ok (.aload_n 0, 1) := by decide +kernel
theorem dX5_init_95 : decode cX5_init 95 = .ok (.getfield 7, 3) := by decide +kernel
theorem dX5_init_98 : decode cX5_init 98 = .ok (.bipush 106, 2) := by decide +kernel
theorem dX5_init_100 : decode cX5_init 100 = .ok (.iconst 2, 1) := by decide +kernel
theorem dX5_init_101 : decode cX5_init 101 = .ok (.iload_n 1, 1) := by decide +kernel
theorem dX5_init_102 : decode cX5_init 102 = .ok (.imul, 1) := by decide +kernel
theorem dX5_init_103 : decode cX5_init 103 = .ok (.iadd, 1) := by decide +kernel
theorem dX5_init_104 : decode cX5_init 104 = .ok (.iconst 1, 1) := by decide +kernel
theorem dX5_init_105 : decode cX5_init 105 = .ok (.iadd, 1) := by decide +kernel
theorem dX5_init_106 : decode cX5_init 106 = .ok (.sipush 500, 3) := by decide +kernel
theorem dX5_init_109 : decode cX5_init 109 = .ok (.iastore, 1) := by decide +kernel
theorem dX5_init_110 : decode cX5_init 110 = .ok (.iinc 1 1, 3) := by decide +kernel
theorem dX5_init_113 : decode cX5_init 113 = .ok (.goto (-25), 3) := by decide +kernel
theorem dX5_init_116 : decode cX5_init 116 = .ok (.return_, 1) := by decide +kernel
theorem dX5_thrown_0 : decode cX5_thrown 0 = .ok (.aload_n 0, 1) := by decide +kernel
theorem dX5_thrown_1 : decode cX5_thrown 1 = .ok (.getfield 25, 3) := by decide +kernel
theorem dX5_thrown_4 : decode cX5_thrown 4 = .ok (.ireturn, 1) := by decide +kernel
theorem dX5_in_0 : decode cX5_in 0 = .ok (.iload_n 0, 1) := by decide +kernel
theorem dX5_in_1 : decode cX5_in 1 = .ok (.iload_n 1, 1) := by decide +kernel
theorem dX5_in_2 : decode cX5_in 2 = .ok (.if_icmp .lt 12, 3) := by decide +kernel
theorem dX5_in_5 : decode cX5_in 5 = .ok (.iload_n 0, 1) := by decide +kernel
theorem dX5_in_6 : decode cX5_in 6 = .ok (.iload_n 2, 1) := by decide +kernel
theorem dX5_in_7 : decode cX5_in 7 = .ok (.if_icmp .gt 7, 3) := by decide +kernel
theorem dX5_in_10 : decode cX5_in 10 = .ok (.iconst 1, 1) := by decide +kernel
theorem dX5_in_11 : decode cX5_in 11 = .ok (.goto 4, 3) := by decide +kernel
theorem dX5_in_14 : decode cX5_in 14 = .ok (.iconst 0, 1) := by decide +kernel
theorem dX5_in_15 : decode cX5_in 15 = .ok (.ireturn, 1) := by decide +kernel
theorem dX5_fails_0 : decode cX5_fails 0 = .ok (.aload_n 0, 1) := by decide +kernel
theorem dX5_fails_1 : decode cX5_fails 1 = .ok (.iload_n 1, 1) := by decide +kernel
theorem dX5_fails_2 : decode cX5_fails 2 = .ok (.putfield 25, 3) := by decide +kernel
theorem dX5_fails_5 : decode cX5_fails 5 = .ok (.iconst 0, 1) := by decide +kernel
theorem dX5_fails_6 : decode cX5_fails 6 = .ok (.ireturn, 1) := by decide +kernel
theorem dX5_lesser_0 : decode cX5_lesser 0 = .ok (.iload_n 0, 1) := by decide +kernel
theorem dX5_lesser_1 : decode cX5_lesser 1 = .ok (.iload_n 1, 1) := by decide +kernel
theorem dX5_lesser_2 : decode cX5_lesser 2 = .ok (.if_icmp .ge 7, 3) := by decide +kernel
theorem dX5_lesser_5 : decode cX5_lesser 5 = .ok (.iload_n 0, 1) := by decide +kernel
theorem dX5_lesser_6 : decode cX5_lesser 6 = .ok (.goto 4, 3) := by decide +kernel
theorem dX5_lesser_9 : decode cX5_lesser 9 = .ok (.iload_n 1, 1) := by decide +kernel
theorem dX5_lesser_10 : decode cX5_lesser 10 = .ok (.ireturn, 1) := by decide +kernel
set_option maxRecDepth 20000 in
theorem ggX5_isSilo_X5_in : GoodIn wsX5_isSilo wsX5_in := goodIn_r _ [4] (by decide +kernel) (by decide +kernel)
set_option maxRecDepth 20000 in
theorem gX5_isSilo_X5_in : GoodIn wsX5_isSilo (va_wsS RX5 29 yX5_in wsX5_in) := goodIn_app (goodIn_of _ (by decide +kernel)) ggX5_isSilo_X5_in
theorem dX5_isSilo_0 : decode cX5_isSilo 0 = .ok (.iload_n 0, 1) := by decide +kernel
theorem dX5_isSilo_1 : decode cX5_isSilo 1 = .ok (.iconst 0, 1) := by decide +kernel
theorem dX5_isSilo_2 : decode cX5_isSilo 2 = .ok (.iconst 3, 1) := by decide +kernel
theorem dX5_isSilo_3 : decode cX5_isSilo 3 = .ok (.invokestatic 29, 3) := by decide +kernel
theorem dX5_isSilo_6 : decode cX5_isSilo 6 = .ok (.ireturn, 1) := by decide +kernel
set_option maxRecDepth 20000 in
theorem ggX5_isShip_X5_in : GoodIn wsX5_isShip wsX5_in := goodIn_r _ [4] (by decide +kernel) (by decide +kernel)
set_option maxRecDepth 20000 in
theorem gX5_isShip_X5_in : GoodIn wsX5_isShip (va_wsS RX5 29 yX5_in wsX5_in) := goodIn_app (goodIn_of _ (by decide +kernel)) ggX5_isShip_X5_in
theorem dX5_isShip_0 : decode cX5_isShip 0 = .ok (.iload_n 0, 1) := by decide +kernel
theorem dX5_isShip_1 : decode cX5_isShip 1 = .ok (.iconst 0, 1) := by decide +kernel
theorem dX5_isShip_2 : decode cX5_isShip 2 = .ok (.iconst 5, 1) := by decide +kernel
theorem dX5_isShip_3 : decode cX5_isShip 3 = .ok (.invokestatic 29, 3) := by decide +kernel
theorem dX5_isShip_6 : decode cX5_isShip 6 = .ok (.ireturn, 1) := by decide +kernel
theorem dX5_of_0 : decode cX5_of 0 = .ok (.aload_n 0, 1) := by decide +kernel
theorem dX5_of_1 : decode cX5_of 1 = .ok (.getfield 7, 3) := by decide +kernel
theorem dX5_of_4 : decode cX5_of 4 = .ok (.bipush 10, 2) := by decide +kernel
theorem dX5_of_6 : decode cX5_of 6 = .ok (.bipush 24, 2) := by decide +kernel
theorem dX5_of_8 : decode cX5_of 8 = .ok (.iload_n 1, 1) := by decide +kernel
theorem dX5_of_9 : decode cX5_of 9 = .ok (.imul, 1) := by decide +kernel
theorem dX5_of_10 : decode cX5_of 10 = .ok (.iadd, 1) := by decide +kernel
theorem dX5_of_11 : decode cX5_of 11 = .ok (.iload_n 2, 1) := by decide +kernel
theorem dX5_of_12 : decode cX5_of 12 = .ok (.iadd, 1) := by decide +kernel
theorem dX5_of_13 : decode cX5_of 13 = .ok (.iaload, 1) := by decide +kernel
theorem dX5_of_14 : decode cX5_of 14 = .ok (.ireturn, 1) := by decide +kernel
theorem dX5_lay_0 : decode cX5_lay 0 = .ok (.aload_n 0, 1) := by decide +kernel
theorem dX5_lay_1 : decode cX5_lay 1 = .ok (.getfield 7, 3) := by decide +kernel
theorem dX5_lay_4 : decode cX5_lay 4 = .ok (.bipush 10, 2) := by decide +kernel
theorem dX5_lay_6 : decode cX5_lay 6 = .ok (.bipush 24, 2) := by decide +kernel
theorem dX5_lay_8 : decode cX5_lay 8 = .ok (.iload_n 1, 1) := by decide +kernel
theorem dX5_lay_9 : decode cX5_lay 9 = .ok (.imul, 1) := by decide +kernel
theorem dX5_lay_10 : decode cX5_lay 10 = .ok (.iadd, 1) := by decide +kernel
theorem dX5_lay_11 : decode cX5_lay 11 = .ok (.iload_n 2, 1) := by decide +kernel
theorem dX5_lay_12 : decode cX5_lay 12 = .ok (.iadd, 1) := by decide +kernel
theorem dX5_lay_13 : decode cX5_lay 13 = .ok (.iload_n 3, 1) := by decide +kernel
theorem dX5_lay_14 : decode cX5_lay 14 = .ok (.iastore, 1) := by decide +kernel
theorem dX5_lay_15 : decode cX5_lay 15 = .ok (.return_, 1) := by decide +kernel
set_option maxRecDepth 20000 in
theorem ggX5_tonnes_X5_of : GoodIn wsX5_tonnes wsX5_of := goodIn_r _ [5, 6, 7, 8, 9, 10, 11, 12, 13, 14, 15, 16, 17, 18] (by decide +kernel) (by decide +kernel)
set_option maxRecDepth 20000 in
theorem gX5_tonnes_X5_of : GoodIn wsX5_tonnes (wsV RX5 33 RX5 yX5_of wsX5_of) := goodIn_app (goodIn_of _ (by decide +kernel)) ggX5_tonnes_X5_of
theorem dX5_tonnes_0 : decode cX5_tonnes 0 = .ok (.aload_n 0, 1) := by decide +kernel
theorem dX5_tonnes_1 : decode cX5_tonnes 1 = .ok (.iload_n 1, 1) := by decide +kernel
theorem dX5_tonnes_2 : decode cX5_tonnes 2 = .ok (.iconst 4, 1) := by decide +kernel
theorem dX5_tonnes_3 : decode cX5_tonnes 3 = .ok (.iconst 2, 1) := by decide +kernel
theorem dX5_tonnes_4 : decode cX5_tonnes 4 = .ok (.iload_n 2, 1) := by decide +kernel
theorem dX5_tonnes_5 : decode cX5_tonnes 5 = .ok (.imul, 1) := by decide +kernel
theorem dX5_tonnes_6 : decode cX5_tonnes 6 = .ok (.iadd, 1) := by decide +kernel
theorem dX5_tonnes_7 : decode cX5_tonnes 7 = .ok (.invokevirtual 33, 3) := by decide +kernel
theorem dX5_tonnes_10 : decode cX5_tonnes 10 = .ok (.ireturn, 1) := by decide +kernel
set_option maxRecDepth 20000 in
theorem ggX5_age_X5_of : GoodIn wsX5_age wsX5_of := goodIn_r _ [5, 6, 7, 8, 9, 10, 11, 12, 13, 14, 15, 16, 17, 18] (by decide +kernel) (by decide +kernel)
set_option maxRecDepth 20000 in
theorem gX5_age_X5_of : GoodIn wsX5_age (wsV RX5 33 RX5 yX5_of wsX5_of) := goodIn_app (goodIn_of _ (by decide +kernel)) ggX5_age_X5_of
theorem dX5_age_0 : decode cX5_age 0 = .ok (.aload_n 0, 1) := by decide +kernel
theorem dX5_age_1 : decode cX5_age 1 = .ok (.iload_n 1, 1) := by decide +kernel
theorem dX5_age_2 : decode cX5_age 2 = .ok (.iconst 4, 1) := by decide +kernel
theorem dX5_age_3 : decode cX5_age 3 = .ok (.iconst 2, 1) := by decide +kernel
theorem dX5_age_4 : decode cX5_age 4 = .ok (.iload_n 2, 1) := by decide +kernel
theorem dX5_age_5 : decode cX5_age 5 = .ok (.imul, 1) := by decide +kernel
theorem dX5_age_6 : decode cX5_age 6 = .ok (.iadd, 1) := by decide +kernel
theorem dX5_age_7 : decode cX5_age 7 = .ok (.iconst 1, 1) := by decide +kernel
theorem dX5_age_8 : decode cX5_age 8 = .ok (.iadd, 1) := by decide +kernel
theorem dX5_age_9 : decode cX5_age 9 = .ok (.invokevirtual 33, 3) := by decide +kernel
theorem dX5_age_12 : decode cX5_age 12 = .ok (.ireturn, 1) := by decide +kernel
theorem dX5_room_0 : decode cX5_room 0 = .ok (.aload_n 0, 1) := by decide +kernel
theorem dX5_room_1 : decode cX5_room 1 = .ok (.getfield 7, 3) := by decide +kernel
theorem dX5_room_4 : decode cX5_room 4 = .ok (.bipush 106, 2) := by decide +kernel
theorem dX5_room_6 : decode cX5_room 6 = .ok (.iconst 2, 1) := by decide +kernel
theorem dX5_room_7 : decode cX5_room 7 = .ok (.iload_n 1, 1) := by decide +kernel
theorem dX5_room_8 : decode cX5_room 8 = .ok (.imul, 1) := by decide +kernel
theorem dX5_room_9 : decode cX5_room 9 = .ok (.iadd, 1) := by decide +kernel
theorem dX5_room_10 : decode cX5_room 10 = .ok (.iconst 1, 1) := by decide +kernel
theorem dX5_room_11 : decode cX5_room 11 = .ok (.iadd, 1) := by decide +kernel
theorem dX5_room_12 : decode cX5_room 12 = .ok (.iaload, 1) := by decide +kernel
theorem dX5_room_13 : decode cX5_room 13 = .ok (.aload_n 0, 1) := by decide +kernel
theorem dX5_room_14 : decode cX5_room 14 = .ok (.getfield 7, 3) := by decide +kernel
theorem dX5_room_17 : decode cX5_room 17 = .ok (.bipush 106, 2) := by decide +kernel
theorem dX5_room_19 : decode cX5_room 19 = .ok (.iconst 2, 1) := by decide +kernel
theorem dX5_room_20 : decode cX5_room 20 = .ok (.iload_n 1, 1) := by decide +kernel
theorem dX5_room_21 : decode cX5_room 21 = .ok (.imul, 1) := by decide +kernel
theorem dX5_room_22 : decode cX5_room 22 = .ok (.iadd, 1) := by decide +kernel
theorem dX5_room_23 : decode cX5_room 23 = .ok (.iaload, 1) := by decide +kernel
theorem dX5_room_24 : decode cX5_room 24 = .ok (.isub, 1) := by decide +kernel
theorem dX5_room_25 : decode cX5_room 25 = .ok (.ireturn, 1) := by decide +kernel
theorem dX5_saves_0 : decode cX5_saves 0 = .ok (.aload_n 0, 1) := by decide +kernel
theorem dX5_saves_1 : decode cX5_saves 1 = .ok (.getfield 37, 3) := by decide +kernel
theorem dX5_saves_4 : decode cX5_saves 4 = .ok (.bipush 6, 2) := by decide +kernel
theorem dX5_saves_6 : decode cX5_saves 6 = .ok (.if_icmp .ne 43, 3) := by decide +kernel
theorem dX5_saves_9 : decode cX5_saves 9 = .ok (.iconst 0, 1) := by decide +kernel
theorem dX5_saves_10 : decode cX5_saves 10 = .ok (.istore_n 1, 1) := by decide +kernel
theorem dX5_saves_11 : decode cX5_saves 11 = .ok (.iload_n 1, 1) := by decide +kernel
theorem dX5_saves_12 : decode cX5_saves 12 = .ok (.sipush 590, 3) := by decide +kernel
theorem dX5_saves_15 : decode cX5_saves 15 = .ok (.if_icmp .ge 24, 3) := by decide +kernel
theorem dX5_saves_18 : decode cX5_saves 18 = .ok (.aload_n 0, 1) := by decide +kernel
theorem dX5_saves_19 : decode cX5_saves 19 = .ok (.getfield 16, 3) := by decide +kernel
theorem dX5_saves_22 : decode cX5_saves 22 = .ok (.iload_n 1, 1) := by decide +kernel
theorem dX5_saves_23 : decode cX5_saves 23 = .ok (.aload_n 0, 1) := by decide +kernel
theorem dX5_saves_24 : decode cX5_saves 24 = .ok (.getfield 16, 3) := by decide +kernel
theorem dX5_saves_27 : decode cX5_saves 27 = .ok (.iload_n 1, 1) := by decide +kernel
theorem dX5_saves_28 : decode cX5_saves 28 = .ok (.bipush 118, 2) := by decide +kernel
theorem dX5_saves_30 : decode cX5_saves 30 = .ok (.iadd, 1) := by decide +kernel
theorem dX5_saves_31 : decode cX5_saves 31 = .ok (.iaload, 1) := by decide +kernel
theorem dX5_saves_32 : decode cX5_saves 32 = .ok (.iastore, 1) := by decide +kernel
theorem dX5_saves_33 : decode cX5_saves 33 = .ok (.iinc 1 1, 3) := by decide +kernel
theorem dX5_saves_36 : decode cX5_saves 36 = .ok (.goto (-25), 3) := by decide +kernel
theorem dX5_saves_39 : decode cX5_saves 39 = .ok (.aload_n 0, 1) := by decide +kernel
theorem dX5_saves_40 : decode cX5_saves 40 = .ok (.dup, 1) := by decide +kernel
theorem dX5_saves_41 : decode cX5_saves 41 = .ok (.getfield 37, 3) := by decide +kernel
theorem dX5_saves_44 : decode cX5_saves 44 = .ok (.iconst 1, 1) := by decide +kernel
theorem dX5_saves_45 : decode cX5_saves 45 = .ok (.isub, 1) := by decide +kernel
theorem dX5_saves_46 : decode cX5_saves 46 = .ok (.putfield 37, 3) := by decide +kernel
theorem dX5_saves_49 : decode cX5_saves 49 = .ok (.iconst 0, 1) := by decide +kernel
theorem dX5_saves_50 : decode cX5_saves 50 = .ok (.istore_n 1, 1) := by decide +kernel
theorem dX5_saves_51 : decode cX5_saves 51 = .ok (.iload_n 1, 1) := by decide +kernel
theorem dX5_saves_52 : decode cX5_saves 52 = .ok (.bipush 118, 2) := by decide +kernel
theorem dX5_saves_54 : decode cX5_saves 54 = .ok (.if_icmp .ge 29, 3) := by decide +kernel
theorem dX5_saves_57 : decode cX5_saves 57 = .ok (.aload_n 0, 1) := by decide +kernel
theorem dX5_saves_58 : decode cX5_saves 58 = .ok (.getfield 16, 3) := by decide +kernel
theorem dX5_saves_61 : decode cX5_saves 61 = .ok (.bipush 118, 2) := by decide +kernel
theorem dX5_saves_63 : decode cX5_saves 63 = .ok (.aload_n 0, 1) := by decide +kernel
theorem dX5_saves_64 : decode cX5_saves 64 = .ok (.getfield 37, 3) := by decide +kernel
theorem dX5_saves_67 : decode cX5_saves 67 = .ok (.imul, 1) := by decide +kernel
theorem dX5_saves_68 : decode cX5_saves 68 = .ok (.iload_n 1, 1) := by decide +kernel
theorem dX5_saves_69 : decode cX5_saves 69 = .ok (.iadd, 1) := by decide +kernel
theorem dX5_saves_70 : decode cX5_saves 70 = .ok (.aload_n 0, 1) := by decide +kernel
theorem dX5_saves_71 : decode cX5_saves 71 = .ok (.getfield 7, 3) := by decide +kernel
theorem dX5_saves_74 : decode cX5_saves 74 = .ok (.iload_n 1, 1) := by decide +kernel
theorem dX5_saves_75 : decode cX5_saves 75 = .ok (.iaload, 1) := by decide +kernel
theorem dX5_saves_76 : decode cX5_saves 76 = .ok (.iastore, 1) := by decide +kernel
theorem dX5_saves_77 : decode cX5_saves 77 = .ok (.iinc 1 1, 3) := by decide +kernel
theorem dX5_saves_80 : decode cX5_saves 80 = .ok (.goto (-29), 3) := by decide +kernel
theorem dX5_saves_83 : decode cX5_saves 83 = .ok (.aload_n 0, 1) := by decide +kernel
theorem dX5_saves_84 : decode cX5_saves 84 = .ok (.dup, 1) := by decide +kernel
theorem dX5_saves_85 : decode cX5_saves 85 = .ok (.getfield 37, 3) := by decide +kernel
theorem dX5_saves_88 : decode cX5_saves 88 = .ok (.iconst 1, 1) := by decide +kernel
theorem dX5_saves_89 : decode cX5_saves 89 = .ok (.iadd, 1) := by decide +kernel
theorem dX5_saves_90 : decode cX5_saves 90 = .ok (.putfield 37, 3) := by decide +kernel
theorem dX5_saves_93 : decode cX5_saves 93 = .ok (.return_, 1) := by decide +kernel
theorem dX5_putAside_0 : decode cX5_putAside 0 = .ok (.iconst 0, 1) := by decide +kernel
theorem dX5_putAside_1 : decode cX5_putAside 1 = .ok (.istore_n 1, 1) := by decide +kernel
theorem dX5_putAside_2 : decode cX5_putAside 2 = .ok (.iload_n 1, 1) := by decide +kernel
theorem dX5_putAside_3 : decode cX5_putAside 3 = .ok (.bipush 118, 2) := by decide +kernel
theorem dX5_putAside_5 : decode cX5_putAside 5 = .ok (.if_icmp .ge 21, 3) := by decide +kernel
theorem dX5_putAside_8 : decode cX5_putAside 8 = .ok (.aload_n 0, 1) := by decide +kernel
theorem dX5_putAside_9 : decode cX5_putAside 9 = .ok (.getfield 13, 3) := by decide +kernel
theorem dX5_putAside_12 : decode cX5_putAside 12 = .ok (.iload_n 1, 1) := by decide +kernel
theorem dX5_putAside_13 : decode cX5_putAside 13 = .ok (.aload_n 0, 1) := by decide +kernel
theorem dX5_putAside_14 : decode cX5_putAside 14 = .ok (.getfield 7, 3) := by decide +kernel
theorem dX5_putAside_17 : decode cX5_putAside 17 = .ok (.iload_n 1, 1) := by decide +kernel
theorem dX5_putAside_18 : decode cX5_putAside 18 = .ok (.iaload, 1) := by decide +kernel
theorem dX5_putAside_19 : decode cX5_putAside 19 = .ok (.iastore, 1) := by decide +kernel
theorem dX5_putAside_20 : decode cX5_putAside 20 = .ok (.iinc 1 1, 3) := by decide +kernel
theorem dX5_putAside_23 : decode cX5_putAside 23 = .ok (.goto (-21), 3) := by decide +kernel
theorem dX5_putAside_26 : decode cX5_putAside 26 = .ok (.return_, 1) := by decide +kernel
theorem dX5_takeBack_0 : decode cX5_takeBack 0 = .ok (.iconst 0, 1) := by decide +kernel
theorem dX5_takeBack_1 : decode cX5_takeBack 1 = .ok (.istore_n 1, 1) := by decide +kernel
theorem dX5_takeBack_2 : decode cX5_takeBack 2 = .ok (.iload_n 1, 1) := by decide +kernel
theorem dX5_takeBack_3 : decode cX5_takeBack 3 = .ok (.bipush 118, 2) := by decide +kernel
theorem dX5_takeBack_5 : decode cX5_takeBack 5 = .ok (.if_icmp .ge 21, 3) := by decide +kernel
theorem dX5_takeBack_8 : decode cX5_takeBack 8 = .ok (.aload_n 0, 1) := by decide +kernel
theorem dX5_takeBack_9 : decode cX5_takeBack 9 = .ok (.getfield 7, 3) := by decide +kernel
theorem dX5_takeBack_12 : decode cX5_takeBack 12 = .ok (.iload_n 1, 1) := by decide +kernel
theorem dX5_takeBack_13 : decode cX5_takeBack 13 = .ok (.aload_n 0, 1) := by decide +kernel
theorem dX5_takeBack_14 : decode cX5_takeBack 14 = .ok (.getfield 13, 3) := by decide +kernel
theorem dX5_takeBack_17 : decode cX5_takeBack 17 = .ok (.iload_n 1, 1) := by decide +kernel
theorem dX5_takeBack_18 : decode cX5_takeBack 18 = .ok (.iaload, 1) := by decide +kernel
theorem dX5_takeBack_19 : decode cX5_takeBack 19 = .ok (.iastore, 1) := by decide +kernel
theorem dX5_takeBack_20 : decode cX5_takeBack 20 = .ok (.iinc 1 1, 3) := by decide +kernel
theorem dX5_takeBack_23 : decode cX5_takeBack 23 = .ok (.goto (-21), 3) := by decide +kernel
theorem dX5_takeBack_26 : decode cX5_takeBack 26 = .ok (.return_, 1) := by decide +kernel
set_option maxRecDepth 20000 in
theorem ggX5_setOf_X5_age : GoodIn wsX5_setOf wsX5_age := goodIn_r _ [6, 7, 8, 9, 5, 10, 1, 11, 12, 13, 14, 15, 16, 17, 18, 19, 20, 21, 22] (by decide +kernel) (by decide +kernel)
set_option maxRecDepth 20000 in
theorem gX5_setOf_X5_age : GoodIn wsX5_setOf (wsV RX5 40 RX5 yX5_age wsX5_age) := goodIn_app (goodIn_of _ (by decide +kernel)) ggX5_setOf_X5_age
theorem dX5_setOf_0 : decode cX5_setOf 0 = .ok (.aload_n 0, 1) := by decide +kernel
theorem dX5_setOf_1 : decode cX5_setOf 1 = .ok (.iload_n 1, 1) := by decide +kernel
theorem dX5_setOf_2 : decode cX5_setOf 2 = .ok (.iload_n 2, 1) := by decide +kernel
theorem dX5_setOf_3 : decode cX5_setOf 3 = .ok (.invokevirtual 40, 3) := by decide +kernel
theorem dX5_setOf_6 : decode cX5_setOf 6 = .ok (.istore_n 3, 1) := by decide +kernel
theorem dX5_setOf_7 : decode cX5_setOf 7 = .ok (.iload_n 3, 1) := by decide +kernel
theorem dX5_setOf_8 : decode cX5_setOf 8 = .ok (.aload_n 0, 1) := by decide +kernel
theorem dX5_setOf_9 : decode cX5_setOf 9 = .ok (.getfield 7, 3) := by decide +kernel
theorem dX5_setOf_12 : decode cX5_setOf 12 = .ok (.bipush 7, 2) := by decide +kernel
theorem dX5_setOf_14 : decode cX5_setOf 14 = .ok (.iaload, 1) := by decide +kernel
theorem dX5_setOf_15 : decode cX5_setOf 15 = .ok (.if_icmp .gt 7, 3) := by decide +kernel
theorem dX5_setOf_18 : decode cX5_setOf 18 = .ok (.iconst 0, 1) := by decide +kernel
theorem dX5_setOf_19 : decode cX5_setOf 19 = .ok (.goto 21, 3) := by decide +kernel
theorem dX5_setOf_22 : decode cX5_setOf 22 = .ok (.iload_n 3, 1) := by decide +kernel
theorem dX5_setOf_23 : decode cX5_setOf 23 = .ok (.iconst 2, 1) := by decide +kernel
theorem dX5_setOf_24 : decode cX5_setOf 24 = .ok (.aload_n 0, 1) := by decide +kernel
theorem dX5_setOf_25 : decode cX5_setOf 25 = .ok (.getfield 7, 3) := by decide +kernel
theorem dX5_setOf_28 : decode cX5_setOf 28 = .ok (.bipush 7, 2) := by decide +kernel
theorem dX5_setOf_30 : decode cX5_setOf 30 = .ok (.iaload, 1) := by decide +kernel
theorem dX5_setOf_31 : decode cX5_setOf 31 = .ok (.imul, 1) := by decide +kernel
theorem dX5_setOf_32 : decode cX5_setOf 32 = .ok (.if_icmp .gt 7, 3) := by decide +kernel
theorem dX5_setOf_35 : decode cX5_setOf 35 = .ok (.iconst 1, 1) := by decide +kernel
theorem dX5_setOf_36 : decode cX5_setOf 36 = .ok (.goto 4, 3) := by decide +kernel
theorem dX5_setOf_39 : decode cX5_setOf 39 = .ok (.iconst 2, 1) := by decide +kernel
theorem dX5_setOf_40 : decode cX5_setOf 40 = .ok (.ireturn, 1) := by decide +kernel
set_option maxRecDepth 20000 in
theorem ggX5_sumFrom_X5_of : GoodIn wsX5_sumFrom wsX5_of := goodIn_r _ [5, 6, 11, 12, 13, 14, 15, 16, 17, 18, 19, 20, 21, 22] (by decide +kernel) (by decide +kernel)
set_option maxRecDepth 20000 in
theorem gX5_sumFrom_X5_of : GoodIn wsX5_sumFrom (wsV RX5 33 RX5 yX5_of wsX5_of) := goodIn_app (goodIn_of _ (by decide +kernel)) ggX5_sumFrom_X5_of
set_option maxRecDepth 20000 in
theorem ggX5_sumFrom_X5_tonnes : GoodIn wsX5_sumFrom wsX5_tonnes := goodIn_r _ [10, 1, 2, 3, 4, 5, 6, 11, 12, 13, 14, 15, 16, 17, 18, 19, 20, 21, 22] (by decide +kernel) (by decide +kernel)
set_option maxRecDepth 20000 in
theorem gX5_sumFrom_X5_tonnes : GoodIn wsX5_sumFrom (wsV RX5 43 RX5 yX5_tonnes wsX5_tonnes) := goodIn_app (goodIn_of _ (by decide +kernel)) ggX5_sumFrom_X5_tonnes
theorem dX5_sumFrom_0 : decode cX5_sumFrom 0 = .ok (.iconst 0, 1) := by decide +kernel
theorem dX5_sumFrom_1 : decode cX5_sumFrom 1 = .ok (.istore_n 3, 1) := by decide +kernel
theorem dX5_sumFrom_2 : decode cX5_sumFrom 2 = .ok (.iload_n 2, 1) := by decide +kernel
theorem dX5_sumFrom_3 : decode cX5_sumFrom 3 = .ok (.istore 4, 2) := by decide +kernel
theorem dX5_sumFrom_5 : decode cX5_sumFrom 5 = .ok (.iload 4, 2) := by decide +kernel
theorem dX5_sumFrom_7 : decode cX5_sumFrom 7 = .ok (.aload_n 0, 1) := by decide +kernel
theorem dX5_sumFrom_8 : decode cX5_sumFrom 8 = .ok (.iload_n 1, 1) := by decide +kernel
theorem dX5_sumFrom_9 : decode cX5_sumFrom 9 = .ok (.iconst 3, 1) := by decide +kernel
theorem dX5_sumFrom_10 : decode cX5_sumFrom 10 = .ok (.invokevirtual 33, 3) := by decide +kernel
theorem dX5_sumFrom_13 : decode cX5_sumFrom 13 = .ok (.if_icmp .ge 19, 3) := by decide +kernel
theorem dX5_sumFrom_16 : decode cX5_sumFrom 16 = .ok (.iload_n 3, 1) := by decide +kernel
theorem dX5_sumFrom_17 : decode cX5_sumFrom 17 = .ok (.aload_n 0, 1) := by decide +kernel
theorem dX5_sumFrom_18 : decode cX5_sumFrom 18 = .ok (.iload_n 1, 1) := by decide +kernel
theorem dX5_sumFrom_19 : decode cX5_sumFrom 19 = .ok (.iload 4, 2) := by decide +kernel
theorem dX5_sumFrom_21 : decode cX5_sumFrom 21 = .ok (.invokevirtual 43, 3) := by decide +kernel
theorem dX5_sumFrom_24 : decode cX5_sumFrom 24 = .ok (.iadd, 1) := by decide +kernel
theorem dX5_sumFrom_25 : decode cX5_sumFrom 25 = .ok (.istore_n 3, 1) := by decide +kernel
theorem dX5_sumFrom_26 : decode cX5_sumFrom 26 = .ok (.iinc 4 1, 3) := by decide +kernel
theorem dX5_sumFrom_29 : decode cX5_sumFrom 29 = .ok (.goto (-24), 3) := by decide +kernel
theorem dX5_sumFrom_32 : decode cX5_sumFrom 32 = .ok (.iload_n 3, 1) := by decide +kernel
theorem dX5_sumFrom_33 : decode cX5_sumFrom 33 = .ok (.ireturn, 1) := by decide +kernel
set_option maxRecDepth 20000 in
theorem ggX5_flows_X5_of : GoodIn wsX5_flows wsX5_of := goodIn_r _ [5, 6, 15, 16, 17, 18, 19, 20, 21, 22, 23, 24, 25, 26] (by decide +kernel) (by decide +kernel)
set_option maxRecDepth 20000 in
theorem gX5_flows_X5_of : GoodIn wsX5_flows (wsV RX5 33 RX5 yX5_of wsX5_of) := goodIn_app (goodIn_of _ (by decide +kernel)) ggX5_flows_X5_of
set_option maxRecDepth 20000 in
theorem ggX5_flows_X5_setOf : GoodIn wsX5_flows wsX5_setOf := goodIn_r _ [10, 6, 11, 12, 13, 4, 14, 1, 2, 3, 5, 15, 16, 17, 18, 19, 20, 21, 22, 23, 24, 25, 26] (by decide +kernel) (by decide +kernel)
set_option maxRecDepth 20000 in
theorem gX5_flows_X5_setOf : GoodIn wsX5_flows (wsV RX5 46 RX5 yX5_setOf wsX5_setOf) := goodIn_app (goodIn_of _ (by decide +kernel)) ggX5_flows_X5_setOf
theorem dX5_flows_0 : decode cX5_flows 0 = .ok (.aload_n 0, 1) := by decide +kernel
theorem dX5_flows_1 : decode cX5_flows 1 = .ok (.iload_n 1, 1) := by decide +kernel
theorem dX5_flows_2 : decode cX5_flows 2 = .ok (.iconst 3, 1) := by decide +kernel
theorem dX5_flows_3 : decode cX5_flows 3 = .ok (.invokevirtual 33, 3) := by decide +kernel
theorem dX5_flows_6 : decode cX5_flows 6 = .ok (.ifCond .ne 5, 3) := by decide +kernel
theorem dX5_flows_9 : decode cX5_flows 9 = .ok (.iconst 0, 1) := by decide +kernel
theorem dX5_flows_10 : decode cX5_flows 10 = .ok (.ireturn, 1) := by decide +kernel
theorem dX5_flows_11 : decode cX5_flows 11 = .ok (.aload_n 0, 1) := by decide +kernel
theorem dX5_flows_12 : decode cX5_flows 12 = .ok (.iload_n 1, 1) := by decide +kernel
theorem dX5_flows_13 : decode cX5_flows 13 = .ok (.iconst 0, 1) := by decide +kernel
theorem dX5_flows_14 : decode cX5_flows 14 = .ok (.invokevirtual 33, 3) := by decide +kernel
theorem dX5_flows_17 : decode cX5_flows 17 = .ok (.istore_n 2, 1) := by decide +kernel
theorem dX5_flows_18 : decode cX5_flows 18 = .ok (.aload_n 0, 1) := by decide +kernel
theorem dX5_flows_19 : decode cX5_flows 19 = .ok (.iload_n 1, 1) := by decide +kernel
theorem dX5_flows_20 : decode cX5_flows 20 = .ok (.iconst 0, 1) := by decide +kernel
theorem dX5_flows_21 : decode cX5_flows 21 = .ok (.invokevirtual 46, 3) := by decide +kernel
theorem dX5_flows_24 : decode cX5_flows 24 = .ok (.lookupswitch 56 #[(0, 28), (1, 41)], 28) := by decide +kernel
theorem dX5_flows_52 : decode cX5_flows 52 = .ok (.iload_n 2, 1) := by decide +kernel
theorem dX5_flows_53 : decode cX5_flows 53 = .ok (.ifCond .ne 7, 3) := by decide +kernel
theorem dX5_flows_56 : decode cX5_flows 56 = .ok (.iconst 5, 1) := by decide +kernel
theorem dX5_flows_57 : decode cX5_flows 57 = .ok (.goto 7, 3) := by decide +kernel
theorem dX5_flows_60 : decode cX5_flows 60 = .ok (.bipush 40, 2) := by decide +kernel
theorem dX5_flows_62 : decode cX5_flows 62 = .ok (.iload_n 2, 1) := by decide +kernel
theorem dX5_flows_63 : decode cX5_flows 63 = .ok (.imul, 1) := by decide +kernel
theorem dX5_flows_64 : decode cX5_flows 64 = .ok (.ireturn, 1) := by decide +kernel
theorem dX5_flows_65 : decode cX5_flows 65 = .ok (.iload_n 2, 1) := by decide +kernel
theorem dX5_flows_66 : decode cX5_flows 66 = .ok (.ifCond .ne 7, 3) := by decide +kernel
theorem dX5_flows_69 : decode cX5_flows 69 = .ok (.iconst 0, 1) := by decide +kernel
theorem dX5_flows_70 : decode cX5_flows 70 = .ok (.goto 9, 3) := by decide +kernel
theorem dX5_flows_73 : decode cX5_flows 73 = .ok (.bipush 20, 2) := by decide +kernel
theorem dX5_flows_75 : decode cX5_flows 75 = .ok (.iload_n 2, 1) := by decide +kernel
theorem dX5_flows_76 : decode cX5_flows 76 = .ok (.iconst 1, 1) := by decide +kernel
theorem dX5_flows_77 : decode cX5_flows 77 = .ok (.isub, 1) := by decide +kernel
theorem dX5_flows_78 : decode cX5_flows 78 = .ok (.imul, 1) := by decide +kernel
theorem dX5_flows_79 : decode cX5_flows 79 = .ok (.ireturn, 1) := by decide +kernel
theorem dX5_flows_80 : decode cX5_flows 80 = .ok (.iload_n 2, 1) := by decide +kernel
theorem dX5_flows_81 : decode cX5_flows 81 = .ok (.iconst 4, 1) := by decide +kernel
theorem dX5_flows_82 : decode cX5_flows 82 = .ok (.if_icmp .ne 8, 3) := by decide +kernel
theorem dX5_flows_85 : decode cX5_flows 85 = .ok (.bipush 10, 2) := by decide +kernel
theorem dX5_flows_87 : decode cX5_flows 87 = .ok (.goto 4, 3) := by decide +kernel
theorem dX5_flows_90 : decode cX5_flows 90 = .ok (.iconst 0, 1) := by decide +kernel
theorem dX5_flows_91 : decode cX5_flows 91 = .ok (.ireturn, 1) := by decide +kernel
set_option maxRecDepth 20000 in
theorem ggX5_drops_X5_of : GoodIn wsX5_drops wsX5_of := goodIn_r _ [5, 6, 11, 12, 13, 14, 15, 16, 17, 18, 19, 20, 21, 22] (by decide +kernel) (by decide +kernel)
set_option maxRecDepth 20000 in
theorem gX5_drops_X5_of : GoodIn wsX5_drops (wsV RX5 33 RX5 yX5_of wsX5_of) := goodIn_app (goodIn_of _ (by decide +kernel)) ggX5_drops_X5_of
set_option maxRecDepth 20000 in
theorem ggX5_drops_X5_lay : GoodIn wsX5_drops wsX5_lay := goodIn_r _ [10, 6, 11, 12, 13, 14, 15, 16, 17, 18, 19, 20, 21, 22] (by decide +kernel) (by decide +kernel)
set_option maxRecDepth 20000 in
theorem gX5_drops_X5_lay : GoodIn wsX5_drops (wsV RX5 49 RX5 yX5_lay wsX5_lay) := goodIn_app (goodIn_of _ (by decide +kernel)) ggX5_drops_X5_lay
theorem dX5_drops_0 : decode cX5_drops 0 = .ok (.aload_n 0, 1) := by decide +kernel
theorem dX5_drops_1 : decode cX5_drops 1 = .ok (.iload_n 1, 1) := by decide +kernel
theorem dX5_drops_2 : decode cX5_drops 2 = .ok (.iconst 3, 1) := by decide +kernel
theorem dX5_drops_3 : decode cX5_drops 3 = .ok (.invokevirtual 33, 3) := by decide +kernel
theorem dX5_drops_6 : decode cX5_drops 6 = .ok (.iconst 1, 1) := by decide +kernel
theorem dX5_drops_7 : decode cX5_drops 7 = .ok (.isub, 1) := by decide +kernel
theorem dX5_drops_8 : decode cX5_drops 8 = .ok (.istore_n 2, 1) := by decide +kernel
theorem dX5_drops_9 : decode cX5_drops 9 = .ok (.aload_n 0, 1) := by decide +kernel
theorem dX5_drops_10 : decode cX5_drops 10 = .ok (.iload_n 1, 1) := by decide +kernel
theorem dX5_drops_11 : decode cX5_drops 11 = .ok (.iconst 3, 1) := by decide +kernel
theorem dX5_drops_12 : decode cX5_drops 12 = .ok (.iload_n 2, 1) := by decide +kernel
theorem dX5_drops_13 : decode cX5_drops 13 = .ok (.invokevirtual 49, 3) := by decide +kernel
theorem dX5_drops_16 : decode cX5_drops 16 = .ok (.iconst 4, 1) := by decide +kernel
theorem dX5_drops_17 : decode cX5_drops 17 = .ok (.istore_n 3, 1) := by decide +kernel
theorem dX5_drops_18 : decode cX5_drops 18 = .ok (.iload_n 3, 1) := by decide +kernel
theorem dX5_drops_19 : decode cX5_drops 19 = .ok (.iconst 4, 1) := by decide +kernel
theorem dX5_drops_20 : decode cX5_drops 20 = .ok (.iconst 2, 1) := by decide +kernel
theorem dX5_drops_21 : decode cX5_drops 21 = .ok (.iload_n 2, 1) := by decide +kernel
theorem dX5_drops_22 : decode cX5_drops 22 = .ok (.imul, 1) := by decide +kernel
theorem dX5_drops_23 : decode cX5_drops 23 = .ok (.iadd, 1) := by decide +kernel
theorem dX5_drops_24 : decode cX5_drops 24 = .ok (.if_icmp .ge 23, 3) := by decide +kernel
theorem dX5_drops_27 : decode cX5_drops 27 = .ok (.aload_n 0, 1) := by decide +kernel
theorem dX5_drops_28 : decode cX5_drops 28 = .ok (.iload_n 1, 1) := by decide +kernel
theorem dX5_drops_29 : decode cX5_drops 29 = .ok (.iload_n 3, 1) := by decide +kernel
theorem dX5_drops_30 : decode cX5_drops 30 = .ok (.aload_n 0, 1) := by decide +kernel
theorem dX5_drops_31 : decode cX5_drops 31 = .ok (.iload_n 1, 1) := by decide +kernel
theorem dX5_drops_32 : decode cX5_drops 32 = .ok (.iload_n 3, 1) := by decide +kernel
theorem dX5_drops_33 : decode cX5_drops 33 = .ok (.iconst 2, 1) := by decide +kernel
theorem dX5_drops_34 : decode cX5_drops 34 = .ok (.iadd, 1) := by decide +kernel
theorem dX5_drops_35 : decode cX5_drops 35 = .ok (.invokevirtual 33, 3) := by decide +kernel
theorem dX5_drops_38 : decode cX5_drops 38 = .ok (.invokevirtual 49, 3) := by decide +kernel
theorem dX5_drops_41 : decode cX5_drops 41 = .ok (.iinc 3 1, 3) := by decide +kernel
theorem dX5_drops_44 : decode cX5_drops 44 = .ok (.goto (-26), 3) := by decide +kernel
theorem dX5_drops_47 : decode cX5_drops 47 = .ok (.aload_n 0, 1) := by decide +kernel
theorem dX5_drops_48 : decode cX5_drops 48 = .ok (.iload_n 1, 1) := by decide +kernel
theorem dX5_drops_49 : decode cX5_drops 49 = .ok (.iconst 4, 1) := by decide +kernel
theorem dX5_drops_50 : decode cX5_drops 50 = .ok (.iconst 2, 1) := by decide +kernel
theorem dX5_drops_51 : decode cX5_drops 51 = .ok (.iload_n 2, 1) := by decide +kernel
theorem dX5_drops_52 : decode cX5_drops 52 = .ok (.imul, 1) := by decide +kernel
theorem dX5_drops_53 : decode cX5_drops 53 = .ok (.iadd, 1) := by decide +kernel
theorem dX5_drops_54 : decode cX5_drops 54 = .ok (.iconst 0, 1) := by decide +kernel
theorem dX5_drops_55 : decode cX5_drops 55 = .ok (.invokevirtual 49, 3) := by decide +kernel
theorem dX5_drops_58 : decode cX5_drops 58 = .ok (.aload_n 0, 1) := by decide +kernel
theorem dX5_drops_59 : decode cX5_drops 59 = .ok (.iload_n 1, 1) := by decide +kernel
theorem dX5_drops_60 : decode cX5_drops 60 = .ok (.iconst 4, 1) := by decide +kernel
theorem dX5_drops_61 : decode cX5_drops 61 = .ok (.iconst 2, 1) := by decide +kernel
theorem dX5_drops_62 : decode cX5_drops 62 = .ok (.iload_n 2, 1) := by decide +kernel
theorem dX5_drops_63 : decode cX5_drops 63 = .ok (.imul, 1) := by decide +kernel
theorem dX5_drops_64 : decode cX5_drops 64 = .ok (.iadd, 1) := by decide +kernel
theorem dX5_drops_65 : decode cX5_drops 65 = .ok (.iconst 1, 1) := by decide +kernel
theorem dX5_drops_66 : decode cX5_drops 66 = .ok (.iadd, 1) := by decide +kernel
theorem dX5_drops_67 : decode cX5_drops 67 = .ok (.iconst 0, 1) := by decide +kernel
theorem dX5_drops_68 : decode cX5_drops 68 = .ok (.invokevirtual 49, 3) := by decide +kernel
theorem dX5_drops_71 : decode cX5_drops 71 = .ok (.aload_n 0, 1) := by decide +kernel
theorem dX5_drops_72 : decode cX5_drops 72 = .ok (.iload_n 1, 1) := by decide +kernel
theorem dX5_drops_73 : decode cX5_drops 73 = .ok (.iconst 1, 1) := by decide +kernel
theorem dX5_drops_74 : decode cX5_drops 74 = .ok (.aload_n 0, 1) := by decide +kernel
theorem dX5_drops_75 : decode cX5_drops 75 = .ok (.iload_n 1, 1) := by decide +kernel
theorem dX5_drops_76 : decode cX5_drops 76 = .ok (.iconst 1, 1) := by decide +kernel
theorem dX5_drops_77 : decode cX5_drops 77 = .ok (.invokevirtual 33, 3) := by decide +kernel
theorem dX5_drops_80 : decode cX5_drops 80 = .ok (.iconst 1, 1) := by decide +kernel
theorem dX5_drops_81 : decode cX5_drops 81 = .ok (.if_icmp .ne 7, 3) := by decide +kernel
theorem dX5_drops_84 : decode cX5_drops 84 = .ok (.iconst 2, 1) := by decide +kernel
theorem dX5_drops_85 : decode cX5_drops 85 = .ok (.goto 9, 3) := by decide +kernel
theorem dX5_drops_88 : decode cX5_drops 88 = .ok (.aload_n 0, 1) := by decide +kernel
theorem dX5_drops_89 : decode cX5_drops 89 = .ok (.iload_n 1, 1) := by decide +kernel
theorem dX5_drops_90 : decode cX5_drops 90 = .ok (.iconst 1, 1) := by decide +kernel
theorem dX5_drops_91 : decode cX5_drops 91 = .ok (.invokevirtual 33, 3) := by decide +kernel
theorem dX5_drops_94 : decode cX5_drops 94 = .ok (.invokevirtual 49, 3) := by decide +kernel
theorem dX5_drops_97 : decode cX5_drops 97 = .ok (.return_, 1) := by decide +kernel
set_option maxRecDepth 20000 in
theorem ggX5_flowsHour_X5_of : GoodIn wsX5_flowsHour wsX5_of := goodIn_r _ [6, 1, 38, 39, 40, 41, 42, 43, 44, 45, 46, 47, 48, 49] (by decide +kernel) (by decide +kernel)
set_option maxRecDepth 20000 in
theorem gX5_flowsHour_X5_of : GoodIn wsX5_flowsHour (wsV RX5 33 RX5 yX5_of wsX5_of) := goodIn_app (goodIn_of _ (by decide +kernel)) ggX5_flowsHour_X5_of
set_option maxRecDepth 20000 in
theorem ggX5_flowsHour_X5_flows : GoodIn wsX5_flowsHour wsX5_flows := goodIn_r _ [10, 2, 3, 4, 5, 6, 1, 11, 12, 13, 14, 15, 16, 17, 18, 38, 39, 40, 41, 42, 43, 44, 45, 46, 47, 48, 49] (by decide +kernel) (by decide +kernel)
set_option maxRecDepth 20000 in
theorem gX5_flowsHour_X5_flows : GoodIn wsX5_flowsHour (wsV RX5 53 RX5 yX5_flows wsX5_flows) := goodIn_app (goodIn_of _ (by decide +kernel)) ggX5_flowsHour_X5_flows
set_option maxRecDepth 20000 in
theorem ggX5_flowsHour_X5_tonnes : GoodIn wsX5_flowsHour wsX5_tonnes := goodIn_r _ [22, 2, 3, 4, 5, 6, 1, 38, 39, 40, 41, 42, 43, 44, 45, 46, 47, 48, 49] (by decide +kernel) (by decide +kernel)
set_option maxRecDepth 20000 in
theorem gX5_flowsHour_X5_tonnes : GoodIn wsX5_flowsHour (wsV RX5 43 RX5 yX5_tonnes wsX5_tonnes) := goodIn_app (goodIn_of _ (by decide +kernel)) ggX5_flowsHour_X5_tonnes
set_option maxRecDepth 20000 in
theorem ggX5_flowsHour_X5_lesser : GoodIn wsX5_flowsHour wsX5_lesser := goodIn_r _ [25] (by decide +kernel) (by decide +kernel)
set_option maxRecDepth 20000 in
theorem gX5_flowsHour_X5_lesser : GoodIn wsX5_flowsHour (va_wsS RX5 57 yX5_lesser wsX5_lesser) := goodIn_app (goodIn_of _ (by decide +kernel)) ggX5_flowsHour_X5_lesser
set_option maxRecDepth 20000 in
theorem ggX5_flowsHour_X5_room : GoodIn wsX5_flowsHour wsX5_room := goodIn_r _ [29, 1, 38, 39, 40, 41, 42, 43, 44, 45, 46, 47, 48, 49] (by decide +kernel) (by decide +kernel)
set_option maxRecDepth 20000 in
theorem gX5_flowsHour_X5_room : GoodIn wsX5_flowsHour (wsV RX5 60 RX5 yX5_room wsX5_room) := goodIn_app (goodIn_of _ (by decide +kernel)) ggX5_flowsHour_X5_room
set_option maxRecDepth 20000 in
theorem ggX5_flowsHour_X5_lay : GoodIn wsX5_flowsHour wsX5_lay := goodIn_r _ [33, 1, 38, 39, 40, 41, 42, 43, 44, 45, 46, 47, 48, 49] (by decide +kernel) (by decide +kernel)
set_option maxRecDepth 20000 in
theorem gX5_flowsHour_X5_lay : GoodIn wsX5_flowsHour (wsV RX5 49 RX5 yX5_lay wsX5_lay) := goodIn_app (goodIn_of _ (by decide +kernel)) ggX5_flowsHour_X5_lay
set_option maxRecDepth 20000 in
theorem ggX5_flowsHour_X5_drops : GoodIn wsX5_flowsHour wsX5_drops := goodIn_r _ [37, 2, 3, 4, 5, 6, 1, 30, 31, 32, 33, 38, 39, 40, 41, 42, 43, 44, 45, 46, 47, 48, 49] (by decide +kernel) (by decide +kernel)
set_option maxRecDepth 20000 in
theorem gX5_flowsHour_X5_drops : GoodIn wsX5_flowsHour (wsV RX5 63 RX5 yX5_drops wsX5_drops) := goodIn_app (goodIn_of _ (by decide +kernel)) ggX5_flowsHour_X5_drops
theorem dX5_flowsHour_0 : decode cX5_flowsHour 0 = .ok (.aload_n 0, 1) := by decide +kernel
theorem dX5_flowsHour_1 : decode cX5_flowsHour 1 = .ok (.iload_n 1, 1) := by decide +kernel
theorem dX5_flowsHour_2 : decode cX5_flowsHour 2 = .ok (.iconst 3, 1) := by decide +kernel
theorem dX5_flowsHour_3 : decode cX5_flowsHour 3 = .ok (.invokevirtual 33, 3) := by decide +kernel
theorem dX5_flowsHour_6 : decode cX5_flowsHour 6 = .ok (.ifCond .le 17, 3) := by decide +kernel
theorem dX5_flowsHour_9 : decode cX5_flowsHour 9 = .ok (.aload_n 0, 1) := by decide +kernel
theorem dX5_flowsHour_10 : decode cX5_flowsHour 10 = .ok (.iload_n 1, 1) := by decide +kernel
theorem dX5_flowsHour_11 : decode cX5_flowsHour 11 = .ok (.iconst 1, 1) := by decide +kernel
theorem dX5_flowsHour_12 : decode cX5_flowsHour 12 = .ok (.invokevirtual 33, 3) := by decide +kernel
theorem dX5_flowsHour_15 : decode cX5_flowsHour 15 = .ok (.iconst 2, 1) := by decide +kernel
theorem dX5_flowsHour_16 : decode cX5_flowsHour 16 = .ok (.if_icmp .ge 7, 3) := by decide +kernel
theorem dX5_flowsHour_19 : decode cX5_flowsHour 19 = .ok (.iconst 1, 1) := by decide +kernel
theorem dX5_flowsHour_20 : decode cX5_flowsHour 20 = .ok (.goto 4, 3) := by decide +kernel
theorem dX5_flowsHour_23 : decode cX5_flowsHour 23 = .ok (.iconst 0, 1) := by decide +kernel
theorem dX5_flowsHour_24 : decode cX5_flowsHour 24 = .ok (.istore_n 3, 1) := by decide +kernel
theorem dX5_flowsHour_25 : decode cX5_flowsHour 25 = .ok (.iload_n 3, 1) := by decide +kernel
theorem dX5_flowsHour_26 : decode cX5_flowsHour 26 = .ok (.ifCond .eq 28, 3) := by decide +kernel
theorem dX5_flowsHour_29 : decode cX5_flowsHour 29 = .ok (.aload_n 0, 1) := by decide +kernel
theorem dX5_flowsHour_30 : decode cX5_flowsHour 30 = .ok (.iload_n 1, 1) := by decide +kernel
theorem dX5_flowsHour_31 : decode cX5_flowsHour 31 = .ok (.invokevirtual 53, 3) := by decide +kernel
theorem dX5_flowsHour_34 : decode cX5_flowsHour 34 = .ok (.aload_n 0, 1) := by decide +kernel
theorem dX5_flowsHour_35 : decode cX5_flowsHour 35 = .ok (.iload_n 1, 1) := by decide +kernel
theorem dX5_flowsHour_36 : decode cX5_flowsHour 36 = .ok (.iconst 0, 1) := by decide +kernel
theorem dX5_flowsHour_37 : decode cX5_flowsHour 37 = .ok (.invokevirtual 43, 3) := by decide +kernel
theorem dX5_flowsHour_40 : decode cX5_flowsHour 40 = .ok (.invokestatic 57, 3) := by decide +kernel
theorem dX5_flowsHour_43 : decode cX5_flowsHour 43 = .ok (.aload_n 0, 1) := by decide +kernel
theorem dX5_flowsHour_44 : decode cX5_flowsHour 44 = .ok (.iload_n 2, 1) := by decide +kernel
theorem dX5_flowsHour_45 : decode cX5_flowsHour 45 = .ok (.invokevirtual 60, 3) := by decide +kernel
theorem dX5_flowsHour_48 : decode cX5_flowsHour 48 = .ok (.invokestatic 57, 3) := by decide +kernel
theorem dX5_flowsHour_51 : decode cX5_flowsHour 51 = .ok (.goto 4, 3) := by decide +kernel
theorem dX5_flowsHour_54 : decode cX5_flowsHour 54 = .ok (.iconst 0, 1) := by decide +kernel
theorem dX5_flowsHour_55 : decode cX5_flowsHour 55 = .ok (.istore 4, 2) := by decide +kernel
theorem dX5_flowsHour_57 : decode cX5_flowsHour 57 = .ok (.iload 4, 2) := by decide +kernel
theorem dX5_flowsHour_59 : decode cX5_flowsHour 59 = .ok (.aload_n 0, 1) := by decide +kernel
theorem dX5_flowsHour_60 : decode cX5_flowsHour 60 = .ok (.getfield 7, 3) := by decide +kernel
theorem dX5_flowsHour_63 : decode cX5_flowsHour 63 = .ok (.bipush 8, 2) := by decide +kernel
theorem dX5_flowsHour_65 : decode cX5_flowsHour 65 = .ok (.iaload, 1) := by decide +kernel
theorem dX5_flowsHour_66 : decode cX5_flowsHour 66 = .ok (.idiv, 1) := by decide +kernel
theorem dX5_flowsHour_67 : decode cX5_flowsHour 67 = .ok (.istore 5, 2) := by decide +kernel
theorem dX5_flowsHour_69 : decode cX5_flowsHour 69 = .ok (.iload 4, 2) := by decide +kernel
theorem dX5_flowsHour_71 : decode cX5_flowsHour 71 = .ok (.ifCond .le 62, 3) := by decide +kernel
theorem dX5_flowsHour_74 : decode cX5_flowsHour 74 = .ok (.aload_n 0, 1) := by decide +kernel
theorem dX5_flowsHour_75 : decode cX5_flowsHour 75 = .ok (.iload_n 1, 1) := by decide +kernel
theorem dX5_flowsHour_76 : decode cX5_flowsHour 76 = .ok (.iconst 4, 1) := by decide +kernel
theorem dX5_flowsHour_77 : decode cX5_flowsHour 77 = .ok (.aload_n 0, 1) := by decide +kernel
theorem dX5_flowsHour_78 : decode cX5_flowsHour 78 = .ok (.iload_n 1, 1) := by decide +kernel
theorem dX5_flowsHour_79 : decode cX5_flowsHour 79 = .ok (.iconst 0, 1) := by decide +kernel
theorem dX5_flowsHour_80 : decode cX5_flowsHour 80 = .ok (.invokevirtual 43, 3) := by decide +kernel
theorem dX5_flowsHour_83 : decode cX5_flowsHour 83 = .ok (.iload 4, 2) := by decide +kernel
theorem dX5_flowsHour_85 : decode cX5_flowsHour 85 = .ok (.isub, 1) := by decide +kernel
theorem dX5_flowsHour_86 : decode cX5_flowsHour 86 = .ok (.invokevirtual 49, 3) := by decide +kernel
theorem dX5_flowsHour_89 : decode cX5_flowsHour 89 = .ok (.aload_n 0, 1) := by decide +kernel
theorem dX5_flowsHour_90 : decode cX5_flowsHour 90 = .ok (.getfield 7, 3) := by decide +kernel
theorem dX5_flowsHour_93 : decode cX5_flowsHour 93 = .ok (.iconst 1, 1) := by decide +kernel
theorem dX5_flowsHour_94 : decode cX5_flowsHour 94 = .ok (.dup2, 1) := by decide +kernel
theorem dX5_flowsHour_95 : decode cX5_flowsHour 95 = .ok (.iaload, 1) := by decide +kernel
theorem dX5_flowsHour_96 : decode cX5_flowsHour 96 = .ok (.iload 5, 2) := by decide +kernel
theorem dX5_flowsHour_98 : decode cX5_flowsHour 98 = .ok (.iadd, 1) := by decide +kernel
theorem dX5_flowsHour_99 : decode cX5_flowsHour 99 = .ok (.iastore, 1) := by decide +kernel
theorem dX5_flowsHour_100 : decode cX5_flowsHour 100 = .ok (.aload_n 0, 1) := by decide +kernel
theorem dX5_flowsHour_101 : decode cX5_flowsHour 101 = .ok (.getfield 7, 3) := by decide +kernel
theorem dX5_flowsHour_104 : decode cX5_flowsHour 104 = .ok (.bipush 106, 2) := by decide +kernel
theorem dX5_flowsHour_106 : decode cX5_flowsHour 106 = .ok (.iconst 2, 1) := by decide +kernel
theorem dX5_flowsHour_107 : decode cX5_flowsHour 107 = .ok (.iload_n 2, 1) := by decide +kernel
theorem dX5_flowsHour_108 : decode cX5_flowsHour 108 = .ok (.imul, 1) := by decide +kernel
theorem dX5_flowsHour_109 : decode cX5_flowsHour 109 = .ok (.iadd, 1) := by decide +kernel
theorem dX5_flowsHour_110 : decode cX5_flowsHour 110 = .ok (.dup2, 1) := by decide +kernel
theorem dX5_flowsHour_111 : decode cX5_flowsHour 111 = .ok (.iaload, 1) := by decide +kernel
theorem dX5_flowsHour_112 : decode cX5_flowsHour 112 = .ok (.iload 4, 2) := by decide +kernel
theorem dX5_flowsHour_114 : decode cX5_flowsHour 114 = .ok (.iload 5, 2) := by decide +kernel
theorem dX5_flowsHour_116 : decode cX5_flowsHour 116 = .ok (.isub, 1) := by decide +kernel
theorem dX5_flowsHour_117 : decode cX5_flowsHour 117 = .ok (.iadd, 1) := by decide +kernel
theorem dX5_flowsHour_118 : decode cX5_flowsHour 118 = .ok (.iastore, 1) := by decide +kernel
theorem dX5_flowsHour_119 : decode cX5_flowsHour 119 = .ok (.aload_n 0, 1) := by decide +kernel
theorem dX5_flowsHour_120 : decode cX5_flowsHour 120 = .ok (.iload_n 1, 1) := by decide +kernel
theorem dX5_flowsHour_121 : decode cX5_flowsHour 121 = .ok (.iconst 0, 1) := by decide +kernel
theorem dX5_flowsHour_122 : decode cX5_flowsHour 122 = .ok (.invokevirtual 43, 3) := by decide +kernel
theorem dX5_flowsHour_125 : decode cX5_flowsHour 125 = .ok (.ifCond .ne 8, 3) := by decide +kernel
theorem dX5_flowsHour_128 : decode cX5_flowsHour 128 = .ok (.aload_n 0, 1) := by decide +kernel
theorem dX5_flowsHour_129 : decode cX5_flowsHour 129 = .ok (.iload_n 1, 1) := by decide +kernel
theorem dX5_flowsHour_130 : decode cX5_flowsHour 130 = .ok (.invokevirtual 63, 3) := by decide +kernel
theorem dX5_flowsHour_133 : decode cX5_flowsHour 133 = .ok (.iload 4, 2) := by decide +kernel
theorem dX5_flowsHour_135 : decode cX5_flowsHour 135 = .ok (.iload 5, 2) := by decide +kernel
theorem dX5_flowsHour_137 : decode cX5_flowsHour 137 = .ok (.isub, 1) := by decide +kernel
theorem dX5_flowsHour_138 : decode cX5_flowsHour 138 = .ok (.ireturn, 1) := by decide +kernel
set_option maxRecDepth 20000 in
theorem ggX5_flowsAll_X5_flowsHour : GoodIn wsX5_flowsAll wsX5_flowsHour := goodIn_r _ [5, 6, 7, 8, 9, 4, 10, 11, 12, 13, 14, 15, 16, 17, 18, 19, 20, 21, 22, 23, 24, 25, 26, 27, 28, 29, 30, 31, 32, 33, 34, 35, 36, 37, 38, 39, 40, 41, 42, 43, 44, 45, 46, 47, 48, 49, 50, 51, 52, 53] (by decide +kernel) (by decide +kernel)
set_option maxRecDepth 20000 in
theorem gX5_flowsAll_X5_flowsHour : GoodIn wsX5_flowsAll (wsV RX5 67 RX5 yX5_flowsHour wsX5_flowsHour) := goodIn_app (goodIn_of _ (by decide +kernel)) ggX5_flowsAll_X5_flowsHour
theorem dX5_flowsAll_0 : decode cX5_flowsAll 0 = .ok (.iconst 0, 1) := by decide +kernel
theorem dX5_flowsAll_1 : decode cX5_flowsAll 1 = .ok (.istore 4, 2) := by decide +kernel
theorem dX5_flowsAll_3 : decode cX5_flowsAll 3 = .ok (.iconst 0, 1) := by decide +kernel
theorem dX5_flowsAll_4 : decode cX5_flowsAll 4 = .ok (.istore 5, 2) := by decide +kernel
theorem dX5_flowsAll_6 : decode cX5_flowsAll 6 = .ok (.iload 5, 2) := by decide +kernel
theorem dX5_flowsAll_8 : decode cX5_flowsAll 8 = .ok (.iload_n 3, 1) := by decide +kernel
theorem dX5_flowsAll_9 : decode cX5_flowsAll 9 = .ok (.if_icmp .ge 20, 3) := by decide +kernel
theorem dX5_flowsAll_12 : decode cX5_flowsAll 12 = .ok (.iload 4, 2) := by decide +kernel
theorem dX5_flowsAll_14 : decode cX5_flowsAll 14 = .ok (.aload_n 0, 1) := by decide +kernel
theorem dX5_flowsAll_15 : decode cX5_flowsAll 15 = .ok (.iload_n 1, 1) := by decide +kernel
theorem dX5_flowsAll_16 : decode cX5_flowsAll 16 = .ok (.iload_n 2, 1) := by decide +kernel
theorem dX5_flowsAll_17 : decode cX5_flowsAll 17 = .ok (.invokevirtual 67, 3) := by decide +kernel
theorem dX5_flowsAll_20 : decode cX5_flowsAll 20 = .ok (.iadd, 1) := by decide +kernel
theorem dX5_flowsAll_21 : decode cX5_flowsAll 21 = .ok (.istore 4, 2) := by decide +kernel
theorem dX5_flowsAll_23 : decode cX5_flowsAll 23 = .ok (.iinc 5 1, 3) := by decide +kernel
theorem dX5_flowsAll_26 : decode cX5_flowsAll 26 = .ok (.goto (-20), 3) := by decide +kernel
theorem dX5_flowsAll_29 : decode cX5_flowsAll 29 = .ok (.iload 4, 2) := by decide +kernel
theorem dX5_flowsAll_31 : decode cX5_flowsAll 31 = .ok (.ireturn, 1) := by decide +kernel
set_option maxRecDepth 20000 in
theorem ggX5_comes_X5_sumFrom : GoodIn wsX5_comes wsX5_sumFrom := goodIn_r _ [5, 6, 7, 8, 4, 9, 10, 11, 12, 13, 14, 26, 27, 28, 29, 30, 31, 32, 33, 34, 35, 36, 37] (by decide +kernel) (by decide +kernel)
set_option maxRecDepth 20000 in
theorem gX5_comes_X5_sumFrom : GoodIn wsX5_comes (wsV RX5 70 RX5 yX5_sumFrom wsX5_sumFrom) := goodIn_app (goodIn_of _ (by decide +kernel)) ggX5_comes_X5_sumFrom
set_option maxRecDepth 20000 in
theorem ggX5_comes_X5_lesser : GoodIn wsX5_comes wsX5_lesser := goodIn_r _ [17] (by decide +kernel) (by decide +kernel)
set_option maxRecDepth 20000 in
theorem gX5_comes_X5_lesser : GoodIn wsX5_comes (va_wsS RX5 57 yX5_lesser wsX5_lesser) := goodIn_app (goodIn_of _ (by decide +kernel)) ggX5_comes_X5_lesser
set_option maxRecDepth 20000 in
theorem ggX5_comes_X5_of : GoodIn wsX5_comes wsX5_of := goodIn_r _ [9, 10, 26, 27, 28, 29, 30, 31, 32, 33, 34, 35, 36, 37] (by decide +kernel) (by decide +kernel)
set_option maxRecDepth 20000 in
theorem gX5_comes_X5_of : GoodIn wsX5_comes (wsV RX5 33 RX5 yX5_of wsX5_of) := goodIn_app (goodIn_of _ (by decide +kernel)) ggX5_comes_X5_of
set_option maxRecDepth 20000 in
theorem ggX5_comes_X5_age : GoodIn wsX5_comes wsX5_age := goodIn_r _ [21, 6, 7, 8, 4, 9, 10, 26, 27, 28, 29, 30, 31, 32, 33, 34, 35, 36, 37] (by decide +kernel) (by decide +kernel)
set_option maxRecDepth 20000 in
theorem gX5_comes_X5_age : GoodIn wsX5_comes (wsV RX5 40 RX5 yX5_age wsX5_age) := goodIn_app (goodIn_of _ (by decide +kernel)) ggX5_comes_X5_age
set_option maxRecDepth 20000 in
theorem ggX5_comes_X5_tonnes : GoodIn wsX5_comes wsX5_tonnes := goodIn_r _ [14, 6, 7, 8, 4, 9, 10, 26, 27, 28, 29, 30, 31, 32, 33, 34, 35, 36, 37] (by decide +kernel) (by decide +kernel)
set_option maxRecDepth 20000 in
theorem gX5_comes_X5_tonnes : GoodIn wsX5_comes (wsV RX5 43 RX5 yX5_tonnes wsX5_tonnes) := goodIn_app (goodIn_of _ (by decide +kernel)) ggX5_comes_X5_tonnes
set_option maxRecDepth 20000 in
theorem ggX5_comes_X5_lay : GoodIn wsX5_comes wsX5_lay := goodIn_r _ [25, 10, 26, 27, 28, 29, 30, 31, 32, 33, 34, 35, 36, 37] (by decide +kernel) (by decide +kernel)
set_option maxRecDepth 20000 in
theorem gX5_comes_X5_lay : GoodIn wsX5_comes (wsV RX5 49 RX5 yX5_lay wsX5_lay) := goodIn_app (goodIn_of _ (by decide +kernel)) ggX5_comes_X5_lay
theorem dX5_comes_0 : decode cX5_comes 0 = .ok (.iload_n 2, 1) := by decide +kernel
theorem dX5_comes_1 : decode cX5_comes 1 = .ok (.sipush 1200, 3) := by decide +kernel
theorem dX5_comes_4 : decode cX5_comes 4 = .ok (.aload_n 0, 1) := by decide +kernel
theorem dX5_comes_5 : decode cX5_comes 5 = .ok (.iload_n 1, 1) := by decide +kernel
theorem dX5_comes_6 : decode cX5_comes 6 = .ok (.iconst 0, 1) := by decide +kernel
theorem dX5_comes_7 : decode cX5_comes 7 = .ok (.invokevirtual 70, 3) := by decide +kernel
theorem dX5_comes_10 : decode cX5_comes 10 = .ok (.isub, 1) := by decide +kernel
theorem dX5_comes_11 : decode cX5_comes 11 = .ok (.invokestatic 57, 3) := by decide +kernel
theorem dX5_comes_14 : decode cX5_comes 14 = .ok (.istore_n 3, 1) := by decide +kernel
theorem dX5_comes_15 : decode cX5_comes 15 = .ok (.aload_n 0, 1) := by decide +kernel
theorem dX5_comes_16 : decode cX5_comes 16 = .ok (.iload_n 1, 1) := by decide +kernel
theorem dX5_comes_17 : decode cX5_comes 17 = .ok (.iconst 3, 1) := by decide +kernel
theorem dX5_comes_18 : decode cX5_comes 18 = .ok (.invokevirtual 33, 3) := by decide +kernel
theorem dX5_comes_21 : decode cX5_comes 21 = .ok (.istore 4, 2) := by decide +kernel
theorem dX5_comes_23 : decode cX5_comes 23 = .ok (.iload 4, 2) := by decide +kernel
theorem dX5_comes_25 : decode cX5_comes 25 = .ok (.ifCond .le 19, 3) := by decide +kernel
theorem dX5_comes_28 : decode cX5_comes 28 = .ok (.aload_n 0, 1) := by decide +kernel
theorem dX5_comes_29 : decode cX5_comes 29 = .ok (.iload_n 1, 1) := by decide +kernel
theorem dX5_comes_30 : decode cX5_comes 30 = .ok (.iload 4, 2) := by decide +kernel
theorem dX5_comes_32 : decode cX5_comes 32 = .ok (.iconst 1, 1) := by decide +kernel
theorem dX5_comes_33 : decode cX5_comes 33 = .ok (.isub, 1) := by decide +kernel
theorem dX5_comes_34 : decode cX5_comes 34 = .ok (.invokevirtual 40, 3) := by decide +kernel
theorem dX5_comes_37 : decode cX5_comes 37 = .ok (.ifCond .ne 7, 3) := by decide +kernel
theorem dX5_comes_40 : decode cX5_comes 40 = .ok (.iconst 1, 1) := by decide +kernel
theorem dX5_comes_41 : decode cX5_comes 41 = .ok (.goto 4, 3) := by decide +kernel
theorem dX5_comes_44 : decode cX5_comes 44 = .ok (.iconst 0, 1) := by decide +kernel
theorem dX5_comes_45 : decode cX5_comes 45 = .ok (.istore 5, 2) := by decide +kernel
theorem dX5_comes_47 : decode cX5_comes 47 = .ok (.iload 5, 2) := by decide +kernel
theorem dX5_comes_49 : decode cX5_comes 49 = .ok (.ifCond .eq 23, 3) := by decide +kernel
theorem dX5_comes_52 : decode cX5_comes 52 = .ok (.iload_n 3, 1) := by decide +kernel
theorem dX5_comes_53 : decode cX5_comes 53 = .ok (.sipush 500, 3) := by decide +kernel
theorem dX5_comes_56 : decode cX5_comes 56 = .ok (.aload_n 0, 1) := by decide +kernel
theorem dX5_comes_57 : decode cX5_comes 57 = .ok (.iload_n 1, 1) := by decide +kernel
theorem dX5_comes_58 : decode cX5_comes 58 = .ok (.iload 4, 2) := by decide +kernel
theorem dX5_comes_60 : decode cX5_comes 60 = .ok (.iconst 1, 1) := by decide +kernel
theorem dX5_comes_61 : decode cX5_comes 61 = .ok (.isub, 1) := by decide +kernel
theorem dX5_comes_62 : decode cX5_comes 62 = .ok (.invokevirtual 43, 3) := by decide +kernel
theorem dX5_comes_65 : decode cX5_comes 65 = .ok (.isub, 1) := by decide +kernel
theorem dX5_comes_66 : decode cX5_comes 66 = .ok (.invokestatic 57, 3) := by decide +kernel
theorem dX5_comes_69 : decode cX5_comes 69 = .ok (.goto 4, 3) := by decide +kernel
theorem dX5_comes_72 : decode cX5_comes 72 = .ok (.iconst 0, 1) := by decide +kernel
theorem dX5_comes_73 : decode cX5_comes 73 = .ok (.istore 6, 2) := by decide +kernel
theorem dX5_comes_75 : decode cX5_comes 75 = .ok (.iload 5, 2) := by decide +kernel
theorem dX5_comes_77 : decode cX5_comes 77 = .ok (.ifCond .eq 28, 3) := by decide +kernel
theorem dX5_comes_80 : decode cX5_comes 80 = .ok (.aload_n 0, 1) := by decide +kernel
theorem dX5_comes_81 : decode cX5_comes 81 = .ok (.iload_n 1, 1) := by decide +kernel
theorem dX5_comes_82 : decode cX5_comes 82 = .ok (.iconst 4, 1) := by decide +kernel
theorem dX5_comes_83 : decode cX5_comes 83 = .ok (.iconst 2, 1) := by decide +kernel
theorem dX5_comes_84 : decode cX5_comes 84 = .ok (.iload 4, 2) := by decide +kernel
theorem dX5_comes_86 : decode cX5_comes 86 = .ok (.iconst 1, 1) := by decide +kernel
theorem dX5_comes_87 : decode cX5_comes 87 = .ok (.isub, 1) := by decide +kernel
theorem dX5_comes_88 : decode cX5_comes 88 = .ok (.imul, 1) := by decide +kernel
theorem dX5_comes_89 : decode cX5_comes 89 = .ok (.iadd, 1) := by decide +kernel
theorem dX5_comes_90 : decode cX5_comes 90 = .ok (.aload_n 0, 1) := by decide +kernel
theorem dX5_comes_91 : decode cX5_comes 91 = .ok (.iload_n 1, 1) := by decide +kernel
theorem dX5_comes_92 : decode cX5_comes 92 = .ok (.iload 4, 2) := by decide +kernel
theorem dX5_comes_94 : decode cX5_comes 94 = .ok (.iconst 1, 1) := by decide +kernel
theorem dX5_comes_95 : decode cX5_comes 95 = .ok (.isub, 1) := by decide +kernel
theorem dX5_comes_96 : decode cX5_comes 96 = .ok (.invokevirtual 43, 3) := by decide +kernel
theorem dX5_comes_99 : decode cX5_comes 99 = .ok (.iload 6, 2) := by decide +kernel
theorem dX5_comes_101 : decode cX5_comes 101 = .ok (.iadd, 1) := by decide +kernel
theorem dX5_comes_102 : decode cX5_comes 102 = .ok (.invokevirtual 49, 3) := by decide +kernel
theorem dX5_comes_105 : decode cX5_comes 105 = .ok (.iload_n 3, 1) := by decide +kernel
theorem dX5_comes_106 : decode cX5_comes 106 = .ok (.iload 6, 2) := by decide +kernel
theorem dX5_comes_108 : decode cX5_comes 108 = .ok (.isub, 1) := by decide +kernel
theorem dX5_comes_109 : decode cX5_comes 109 = .ok (.istore_n 3, 1) := by decide +kernel
theorem dX5_comes_110 : decode cX5_comes 110 = .ok (.iload_n 3, 1) := by decide +kernel
theorem dX5_comes_111 : decode cX5_comes 111 = .ok (.ifCond .eq 10, 3) := by decide +kernel
theorem dX5_comes_114 : decode cX5_comes 114 = .ok (.iload 4, 2) := by decide +kernel
theorem dX5_comes_116 : decode cX5_comes 116 = .ok (.bipush 10, 2) := by decide +kernel
theorem dX5_comes_118 : decode cX5_comes 118 = .ok (.if_icmp .ne 6, 3) := by decide +kernel
theorem dX5_comes_121 : decode cX5_comes 121 = .ok (.iload 6, 2) := by decide +kernel
theorem dX5_comes_123 : decode cX5_comes 123 = .ok (.ireturn, 1) := by decide +kernel
theorem dX5_comes_124 : decode cX5_comes 124 = .ok (.aload_n 0, 1) := by decide +kernel
theorem dX5_comes_125 : decode cX5_comes 125 = .ok (.iload_n 1, 1) := by decide +kernel
theorem dX5_comes_126 : decode cX5_comes 126 = .ok (.iconst 4, 1) := by decide +kernel
theorem dX5_comes_127 : decode cX5_comes 127 = .ok (.iconst 2, 1) := by decide +kernel
theorem dX5_comes_128 : decode cX5_comes 128 = .ok (.iload 4, 2) := by decide +kernel
theorem dX5_comes_130 : decode cX5_comes 130 = .ok (.imul, 1) := by decide +kernel
theorem dX5_comes_131 : decode cX5_comes 131 = .ok (.iadd, 1) := by decide +kernel
theorem dX5_comes_132 : decode cX5_comes 132 = .ok (.iload_n 3, 1) := by decide +kernel
theorem dX5_comes_133 : decode cX5_comes 133 = .ok (.invokevirtual 49, 3) := by decide +kernel
theorem dX5_comes_136 : decode cX5_comes 136 = .ok (.aload_n 0, 1) := by decide +kernel
theorem dX5_comes_137 : decode cX5_comes 137 = .ok (.iload_n 1, 1) := by decide +kernel
theorem dX5_comes_138 : decode cX5_comes 138 = .ok (.iconst 4, 1) := by decide +kernel
theorem dX5_comes_139 : decode cX5_comes 139 = .ok (.iconst 2, 1) := by decide +kernel
theorem dX5_comes_140 : decode cX5_comes 140 = .ok (.iload 4, 2) := by decide +kernel
theorem dX5_comes_142 : decode cX5_comes 142 = .ok (.imul, 1) := by decide +kernel
theorem dX5_comes_143 : decode cX5_comes 143 = .ok (.iadd, 1) := by decide +kernel
theorem dX5_comes_144 : decode cX5_comes 144 = .ok (.iconst 1, 1) := by decide +kernel
theorem dX5_comes_145 : decode cX5_comes 145 = .ok (.iadd, 1) := by decide +kernel
theorem dX5_comes_146 : decode cX5_comes 146 = .ok (.iconst 0, 1) := by decide +kernel
theorem dX5_comes_147 : decode cX5_comes 147 = .ok (.invokevirtual 49, 3) := by decide +kernel
theorem dX5_comes_150 : decode cX5_comes 150 = .ok (.aload_n 0, 1) := by decide +kernel
theorem dX5_comes_151 : decode cX5_comes 151 = .ok (.iload_n 1, 1) := by decide +kernel
theorem dX5_comes_152 : decode cX5_comes 152 = .ok (.iconst 3, 1) := by decide +kernel
theorem dX5_comes_153 : decode cX5_comes 153 = .ok (.iload 4, 2) := by decide +kernel
theorem dX5_comes_155 : decode cX5_comes 155 = .ok (.iconst 1, 1) := by decide +kernel
theorem dX5_comes_156 : decode cX5_comes 156 = .ok (.iadd, 1) := by decide +kernel
theorem dX5_comes_157 : decode cX5_comes 157 = .ok (.invokevirtual 49, 3) := by decide +kernel
theorem dX5_comes_160 : decode cX5_comes 160 = .ok (.aload_n 0, 1) := by decide +kernel
theorem dX5_comes_161 : decode cX5_comes 161 = .ok (.iload_n 1, 1) := by decide +kernel
theorem dX5_comes_162 : decode cX5_comes 162 = .ok (.iconst 2, 1) := by decide +kernel
theorem dX5_comes_163 : decode cX5_comes 163 = .ok (.iconst 0, 1) := by decide +kernel
theorem dX5_comes_164 : decode cX5_comes 164 = .ok (.invokevirtual 49, 3) := by decide +kernel
theorem dX5_comes_167 : decode cX5_comes 167 = .ok (.iload 6, 2) := by decide +kernel
theorem dX5_comes_169 : decode cX5_comes 169 = .ok (.iload_n 3, 1) := by decide +kernel
theorem dX5_comes_170 : decode cX5_comes 170 = .ok (.iadd, 1) := by decide +kernel
theorem dX5_comes_171 : decode cX5_comes 171 = .ok (.ireturn, 1) := by decide +kernel
set_option maxRecDepth 20000 in
theorem ggX5_unloads_X5_lesser : GoodIn wsX5_unloads wsX5_lesser := goodIn_r _ [5] (by decide +kernel) (by decide +kernel)
set_option maxRecDepth 20000 in
theorem gX5_unloads_X5_lesser : GoodIn wsX5_unloads (va_wsS RX5 57 yX5_lesser wsX5_lesser) := goodIn_app (goodIn_of _ (by decide +kernel)) ggX5_unloads_X5_lesser
set_option maxRecDepth 20000 in
theorem ggX5_unloads_X5_comes : GoodIn wsX5_unloads wsX5_comes := goodIn_r _ [9, 10, 11, 12, 4, 13, 14, 15, 16, 17, 1, 18, 19, 20, 21, 2, 3, 5, 22, 23, 24, 25, 26, 27, 28, 29, 30, 31, 32, 33, 34, 35, 36, 37, 38, 39, 40, 41] (by decide +kernel) (by decide +kernel)
set_option maxRecDepth 20000 in
theorem gX5_unloads_X5_comes : GoodIn wsX5_unloads (wsV RX5 73 RX5 yX5_comes wsX5_comes) := goodIn_app (goodIn_of _ (by decide +kernel)) ggX5_unloads_X5_comes
theorem dX5_unloads_0 : decode cX5_unloads 0 = .ok (.aload_n 0, 1) := by decide +kernel
theorem dX5_unloads_1 : decode cX5_unloads 1 = .ok (.iload_n 1, 1) := by decide +kernel
theorem dX5_unloads_2 : decode cX5_unloads 2 = .ok (.iload_n 3, 1) := by decide +kernel
theorem dX5_unloads_3 : decode cX5_unloads 3 = .ok (.aload_n 0, 1) := by decide +kernel
theorem dX5_unloads_4 : decode cX5_unloads 4 = .ok (.getfield 7, 3) := by decide +kernel
theorem dX5_unloads_7 : decode cX5_unloads 7 = .ok (.bipush 106, 2) := by decide +kernel
theorem dX5_unloads_9 : decode cX5_unloads 9 = .ok (.iconst 2, 1) := by decide +kernel
theorem dX5_unloads_10 : decode cX5_unloads 10 = .ok (.iload_n 2, 1) := by decide +kernel
theorem dX5_unloads_11 : decode cX5_unloads 11 = .ok (.imul, 1) := by decide +kernel
theorem dX5_unloads_12 : decode cX5_unloads 12 = .ok (.iadd, 1) := by decide +kernel
theorem dX5_unloads_13 : decode cX5_unloads 13 = .ok (.iaload, 1) := by decide +kernel
theorem dX5_unloads_14 : decode cX5_unloads 14 = .ok (.invokestatic 57, 3) := by decide +kernel
theorem dX5_unloads_17 : decode cX5_unloads 17 = .ok (.invokevirtual 73, 3) := by decide +kernel
theorem dX5_unloads_20 : decode cX5_unloads 20 = .ok (.istore 4, 2) := by decide +kernel
theorem dX5_unloads_22 : decode cX5_unloads 22 = .ok (.aload_n 0, 1) := by decide +kernel
theorem dX5_unloads_23 : decode cX5_unloads 23 = .ok (.getfield 7, 3) := by decide +kernel
theorem dX5_unloads_26 : decode cX5_unloads 26 = .ok (.bipush 106, 2) := by decide +kernel
theorem dX5_unloads_28 : decode cX5_unloads 28 = .ok (.iconst 2, 1) := by decide +kernel
theorem dX5_unloads_29 : decode cX5_unloads 29 = .ok (.iload_n 2, 1) := by decide +kernel
theorem dX5_unloads_30 : decode cX5_unloads 30 = .ok (.imul, 1) := by decide +kernel
theorem dX5_unloads_31 : decode cX5_unloads 31 = .ok (.iadd, 1) := by decide +kernel
theorem dX5_unloads_32 : decode cX5_unloads 32 = .ok (.dup2, 1) := by decide +kernel
theorem dX5_unloads_33 : decode cX5_unloads 33 = .ok (.iaload, 1) := by decide +kernel
theorem dX5_unloads_34 : decode cX5_unloads 34 = .ok (.iload 4, 2) := by decide +kernel
theorem dX5_unloads_36 : decode cX5_unloads 36 = .ok (.isub, 1) := by decide +kernel
theorem dX5_unloads_37 : decode cX5_unloads 37 = .ok (.iastore, 1) := by decide +kernel
theorem dX5_unloads_38 : decode cX5_unloads 38 = .ok (.iload 4, 2) := by decide +kernel
theorem dX5_unloads_40 : decode cX5_unloads 40 = .ok (.ireturn, 1) := by decide +kernel
set_option maxRecDepth 20000 in
theorem ggX5_forms_X5_of : GoodIn wsX5_forms wsX5_of := goodIn_r _ [5, 6, 15, 16, 17, 18, 19, 20, 21, 22, 23, 24, 25, 26] (by decide +kernel) (by decide +kernel)
set_option maxRecDepth 20000 in
theorem gX5_forms_X5_of : GoodIn wsX5_forms (wsV RX5 33 RX5 yX5_of wsX5_of) := goodIn_app (goodIn_of _ (by decide +kernel)) ggX5_forms_X5_of
set_option maxRecDepth 20000 in
theorem ggX5_forms_X5_setOf : GoodIn wsX5_forms wsX5_setOf := goodIn_r _ [10, 6, 11, 12, 13, 4, 14, 1, 2, 3, 5, 15, 16, 17, 18, 19, 20, 21, 22, 23, 24, 25, 26] (by decide +kernel) (by decide +kernel)
set_option maxRecDepth 20000 in
theorem gX5_forms_X5_setOf : GoodIn wsX5_forms (wsV RX5 46 RX5 yX5_setOf wsX5_setOf) := goodIn_app (goodIn_of _ (by decide +kernel)) ggX5_forms_X5_setOf
theorem dX5_forms_0 : decode cX5_forms 0 = .ok (.aload_n 0, 1) := by decide +kernel
theorem dX5_forms_1 : decode cX5_forms 1 = .ok (.iload_n 1, 1) := by decide +kernel
theorem dX5_forms_2 : decode cX5_forms 2 = .ok (.iconst 3, 1) := by decide +kernel
theorem dX5_forms_3 : decode cX5_forms 3 = .ok (.invokevirtual 33, 3) := by decide +kernel
theorem dX5_forms_6 : decode cX5_forms 6 = .ok (.iconst 1, 1) := by decide +kernel
theorem dX5_forms_7 : decode cX5_forms 7 = .ok (.if_icmp .le 25, 3) := by decide +kernel
theorem dX5_forms_10 : decode cX5_forms 10 = .ok (.aload_n 0, 1) := by decide +kernel
theorem dX5_forms_11 : decode cX5_forms 11 = .ok (.iload_n 1, 1) := by decide +kernel
theorem dX5_forms_12 : decode cX5_forms 12 = .ok (.iconst 0, 1) := by decide +kernel
theorem dX5_forms_13 : decode cX5_forms 13 = .ok (.invokevirtual 46, 3) := by decide +kernel
theorem dX5_forms_16 : decode cX5_forms 16 = .ok (.ifCond .le 16, 3) := by decide +kernel
theorem dX5_forms_19 : decode cX5_forms 19 = .ok (.aload_n 0, 1) := by decide +kernel
theorem dX5_forms_20 : decode cX5_forms 20 = .ok (.iload_n 1, 1) := by decide +kernel
theorem dX5_forms_21 : decode cX5_forms 21 = .ok (.iconst 1, 1) := by decide +kernel
theorem dX5_forms_22 : decode cX5_forms 22 = .ok (.invokevirtual 33, 3) := by decide +kernel
theorem dX5_forms_25 : decode cX5_forms 25 = .ok (.ifCond .ne 7, 3) := by decide +kernel
theorem dX5_forms_28 : decode cX5_forms 28 = .ok (.iconst 1, 1) := by decide +kernel
theorem dX5_forms_29 : decode cX5_forms 29 = .ok (.goto 4, 3) := by decide +kernel
theorem dX5_forms_32 : decode cX5_forms 32 = .ok (.iconst 0, 1) := by decide +kernel
theorem dX5_forms_33 : decode cX5_forms 33 = .ok (.ireturn, 1) := by decide +kernel
set_option maxRecDepth 20000 in
theorem ggX5_passesDay_X5_of : GoodIn wsX5_passesDay wsX5_of := goodIn_r _ [6, 1, 23, 24, 25, 26, 27, 28, 29, 30, 31, 32, 33, 34] (by decide +kernel) (by decide +kernel)
set_option maxRecDepth 20000 in
theorem gX5_passesDay_X5_of : GoodIn wsX5_passesDay (wsV RX5 33 RX5 yX5_of wsX5_of) := goodIn_app (goodIn_of _ (by decide +kernel)) ggX5_passesDay_X5_of
set_option maxRecDepth 20000 in
theorem ggX5_passesDay_X5_age : GoodIn wsX5_passesDay wsX5_age := goodIn_r _ [10, 2, 3, 4, 5, 6, 1, 23, 24, 25, 26, 27, 28, 29, 30, 31, 32, 33, 34] (by decide +kernel) (by decide +kernel)
set_option maxRecDepth 20000 in
theorem gX5_passesDay_X5_age : GoodIn wsX5_passesDay (wsV RX5 40 RX5 yX5_age wsX5_age) := goodIn_app (goodIn_of _ (by decide +kernel)) ggX5_passesDay_X5_age
set_option maxRecDepth 20000 in
theorem ggX5_passesDay_X5_lay : GoodIn wsX5_passesDay wsX5_lay := goodIn_r _ [14, 1, 23, 24, 25, 26, 27, 28, 29, 30, 31, 32, 33, 34] (by decide +kernel) (by decide +kernel)
set_option maxRecDepth 20000 in
theorem gX5_passesDay_X5_lay : GoodIn wsX5_passesDay (wsV RX5 49 RX5 yX5_lay wsX5_lay) := goodIn_app (goodIn_of _ (by decide +kernel)) ggX5_passesDay_X5_lay
set_option maxRecDepth 20000 in
theorem ggX5_passesDay_X5_forms : GoodIn wsX5_passesDay wsX5_forms := goodIn_r _ [18, 2, 3, 4, 5, 6, 1, 19, 20, 21, 22, 7, 8, 9, 10, 23, 24, 25, 26, 27, 28, 29, 30, 31, 32, 33, 34] (by decide +kernel) (by decide +kernel)
set_option maxRecDepth 20000 in
theorem gX5_passesDay_X5_forms : GoodIn wsX5_passesDay (wsV RX5 76 RX5 yX5_forms wsX5_forms) := goodIn_app (goodIn_of _ (by decide +kernel)) ggX5_passesDay_X5_forms
theorem dX5_passesDay_0 : decode cX5_passesDay 0 = .ok (.iconst 0, 1) := by decide +kernel
theorem dX5_passesDay_1 : decode cX5_passesDay 1 = .ok (.istore_n 1, 1) := by decide +kernel
theorem dX5_passesDay_2 : decode cX5_passesDay 2 = .ok (.aload_n 0, 1) := by decide +kernel
theorem dX5_passesDay_3 : decode cX5_passesDay 3 = .ok (.getfield 7, 3) := by decide +kernel
theorem dX5_passesDay_6 : decode cX5_passesDay 6 = .ok (.iconst 0, 1) := by decide +kernel
theorem dX5_passesDay_7 : decode cX5_passesDay 7 = .ok (.dup2, 1) := by decide +kernel
theorem dX5_passesDay_8 : decode cX5_passesDay 8 = .ok (.iaload, 1) := by decide +kernel
theorem dX5_passesDay_9 : decode cX5_passesDay 9 = .ok (.iconst 1, 1) := by decide +kernel
theorem dX5_passesDay_10 : decode cX5_passesDay 10 = .ok (.iadd, 1) := by decide +kernel
theorem dX5_passesDay_11 : decode cX5_passesDay 11 = .ok (.iastore, 1) := by decide +kernel
theorem dX5_passesDay_12 : decode cX5_passesDay 12 = .ok (.iconst 0, 1) := by decide +kernel
theorem dX5_passesDay_13 : decode cX5_passesDay 13 = .ok (.istore_n 2, 1) := by decide +kernel
theorem dX5_passesDay_14 : decode cX5_passesDay 14 = .ok (.iload_n 2, 1) := by decide +kernel
theorem dX5_passesDay_15 : decode cX5_passesDay 15 = .ok (.iconst 4, 1) := by decide +kernel
theorem dX5_passesDay_16 : decode cX5_passesDay 16 = .ok (.if_icmp .ge 47, 3) := by decide +kernel
theorem dX5_passesDay_19 : decode cX5_passesDay 19 = .ok (.iconst 0, 1) := by decide +kernel
theorem dX5_passesDay_20 : decode cX5_passesDay 20 = .ok (.istore_n 3, 1) := by decide +kernel
theorem dX5_passesDay_21 : decode cX5_passesDay 21 = .ok (.iload_n 3, 1) := by decide +kernel
theorem dX5_passesDay_22 : decode cX5_passesDay 22 = .ok (.aload_n 0, 1) := by decide +kernel
theorem dX5_passesDay_23 : decode cX5_passesDay 23 = .ok (.iload_n 2, 1) := by decide +kernel
theorem dX5_passesDay_24 : decode cX5_passesDay 24 = .ok (.iconst 3, 1) := by decide +kernel
theorem dX5_passesDay_25 : decode cX5_passesDay 25 = .ok (.invokevirtual 33, 3) := by decide +kernel
theorem dX5_passesDay_28 : decode cX5_passesDay 28 = .ok (.if_icmp .ge 29, 3) := by decide +kernel
theorem dX5_passesDay_31 : decode cX5_passesDay 31 = .ok (.aload_n 0, 1) := by decide +kernel
theorem dX5_passesDay_32 : decode cX5_passesDay 32 = .ok (.iload_n 2, 1) := by decide +kernel
theorem dX5_passesDay_33 : decode cX5_passesDay 33 = .ok (.iconst 4, 1) := by decide +kernel
theorem dX5_passesDay_34 : decode cX5_passesDay 34 = .ok (.iconst 2, 1) := by decide +kernel
theorem dX5_passesDay_35 : decode cX5_passesDay 35 = .ok (.iload_n 3, 1) := by decide +kernel
theorem dX5_passesDay_36 : decode cX5_passesDay 36 = .ok (.imul, 1) := by decide +kernel
theorem dX5_passesDay_37 : decode cX5_passesDay 37 = .ok (.iadd, 1) := by decide +kernel
theorem dX5_passesDay_38 : decode cX5_passesDay 38 = .ok (.iconst 1, 1) := by decide +kernel
theorem dX5_passesDay_39 : decode cX5_passesDay 39 = .ok (.iadd, 1) := by decide +kernel
theorem dX5_passesDay_40 : decode cX5_passesDay 40 = .ok (.aload_n 0, 1) := by decide +kernel
theorem dX5_passesDay_41 : decode cX5_passesDay 41 = .ok (.iload_n 2, 1) := by decide +kernel
theorem dX5_passesDay_42 : decode cX5_passesDay 42 = .ok (.iload_n 3, 1) := by decide +kernel
theorem dX5_passesDay_43 : decode cX5_passesDay 43 = .ok (.invokevirtual 40, 3) := by decide +kernel
theorem dX5_passesDay_46 : decode cX5_passesDay 46 = .ok (.iconst 1, 1) := by decide +kernel
theorem dX5_passesDay_47 : decode cX5_passesDay 47 = .ok (.iadd, 1) := by decide +kernel
theorem dX5_passesDay_48 : decode cX5_passesDay 48 = .ok (.invokevirtual 49, 3) := by decide +kernel
theorem dX5_passesDay_51 : decode cX5_passesDay 51 = .ok (.iinc 3 1, 3) := by decide +kernel
theorem dX5_passesDay_54 : decode cX5_passesDay 54 = .ok (.goto (-33), 3) := by decide +kernel
theorem dX5_passesDay_57 : decode cX5_passesDay 57 = .ok (.iinc 2 1, 3) := by decide +kernel
theorem dX5_passesDay_60 : decode cX5_passesDay 60 = .ok (.goto (-46), 3) := by decide +kernel
theorem dX5_passesDay_63 : decode cX5_passesDay 63 = .ok (.iconst 0, 1) := by decide +kernel
theorem dX5_passesDay_64 : decode cX5_passesDay 64 = .ok (.istore_n 2, 1) := by decide +kernel
theorem dX5_passesDay_65 : decode cX5_passesDay 65 = .ok (.iload_n 2, 1) := by decide +kernel
theorem dX5_passesDay_66 : decode cX5_passesDay 66 = .ok (.iconst 4, 1) := by decide +kernel
theorem dX5_passesDay_67 : decode cX5_passesDay 67 = .ok (.if_icmp .ge 34, 3) := by decide +kernel
theorem dX5_passesDay_70 : decode cX5_passesDay 70 = .ok (.aload_n 0, 1) := by decide +kernel
theorem dX5_passesDay_71 : decode cX5_passesDay 71 = .ok (.iload_n 2, 1) := by decide +kernel
theorem dX5_passesDay_72 : decode cX5_passesDay 72 = .ok (.invokevirtual 76, 3) := by decide +kernel
theorem dX5_passesDay_75 : decode cX5_passesDay 75 = .ok (.ifCond .eq 20, 3) := by decide +kernel
theorem dX5_passesDay_78 : decode cX5_passesDay 78 = .ok (.aload_n 0, 1) := by decide +kernel
theorem dX5_passesDay_79 : decode cX5_passesDay 79 = .ok (.iload_n 2, 1) := by decide +kernel
theorem dX5_passesDay_80 : decode cX5_passesDay 80 = .ok (.iconst 1, 1) := by decide +kernel
theorem dX5_passesDay_81 : decode cX5_passesDay 81 = .ok (.iconst 1, 1) := by decide +kernel
theorem dX5_passesDay_82 : decode cX5_passesDay 82 = .ok (.invokevirtual 49, 3) := by decide +kernel
theorem dX5_passesDay_85 : decode cX5_passesDay 85 = .ok (.aload_n 0, 1) := by decide +kernel
theorem dX5_passesDay_86 : decode cX5_passesDay 86 = .ok (.iload_n 2, 1) := by decide +kernel
theorem dX5_passesDay_87 : decode cX5_passesDay 87 = .ok (.iconst 2, 1) := by decide +kernel
theorem dX5_passesDay_88 : decode cX5_passesDay 88 = .ok (.iconst 0, 1) := by decide +kernel
theorem dX5_passesDay_89 : decode cX5_passesDay 89 = .ok (.invokevirtual 49, 3) := by decide +kernel
theorem dX5_passesDay_92 : decode cX5_passesDay 92 = .ok (.iinc 1 1, 3) := by decide +kernel
theorem dX5_passesDay_95 : decode cX5_passesDay 95 = .ok (.iinc 2 1, 3) := by decide +kernel
theorem dX5_passesDay_98 : decode cX5_passesDay 98 = .ok (.goto (-33), 3) := by decide +kernel
theorem dX5_passesDay_101 : decode cX5_passesDay 101 = .ok (.aload_n 0, 1) := by decide +kernel
theorem dX5_passesDay_102 : decode cX5_passesDay 102 = .ok (.getfield 7, 3) := by decide +kernel
theorem dX5_passesDay_105 : decode cX5_passesDay 105 = .ok (.iconst 5, 1) := by decide +kernel
theorem dX5_passesDay_106 : decode cX5_passesDay 106 = .ok (.dup2, 1) := by decide +kernel
theorem dX5_passesDay_107 : decode cX5_passesDay 107 = .ok (.iaload, 1) := by decide +kernel
theorem dX5_passesDay_108 : decode cX5_passesDay 108 = .ok (.iload_n 1, 1) := by decide +kernel
theorem dX5_passesDay_109 : decode cX5_passesDay 109 = .ok (.iadd, 1) := by decide +kernel
theorem dX5_passesDay_110 : decode cX5_passesDay 110 = .ok (.iastore, 1) := by decide +kernel
theorem dX5_passesDay_111 : decode cX5_passesDay 111 = .ok (.iload_n 1, 1) := by decide +kernel
theorem dX5_passesDay_112 : decode cX5_passesDay 112 = .ok (.ireturn, 1) := by decide +kernel
set_option maxRecDepth 20000 in
theorem ggX5_passes_X5_passesDay : GoodIn wsX5_passes wsX5_passesDay := goodIn_r _ [5, 6, 7, 8, 9, 4, 10, 11, 12, 13, 14, 15, 16, 17, 18, 19, 20, 21, 22, 23, 24, 25, 26, 27, 28, 29, 30, 31, 32, 33, 34, 35, 36, 37, 38] (by decide +kernel) (by decide +kernel)
set_option maxRecDepth 20000 in
theorem gX5_passes_X5_passesDay : GoodIn wsX5_passes (wsV RX5 80 RX5 yX5_passesDay wsX5_passesDay) := goodIn_app (goodIn_of _ (by decide +kernel)) ggX5_passes_X5_passesDay
theorem dX5_passes_0 : decode cX5_passes 0 = .ok (.iconst 0, 1) := by decide +kernel
theorem dX5_passes_1 : decode cX5_passes 1 = .ok (.istore_n 2, 1) := by decide +kernel
theorem dX5_passes_2 : decode cX5_passes 2 = .ok (.iconst 0, 1) := by decide +kernel
theorem dX5_passes_3 : decode cX5_passes 3 = .ok (.istore_n 3, 1) := by decide +kernel
theorem dX5_passes_4 : decode cX5_passes 4 = .ok (.iload_n 3, 1) := by decide +kernel
theorem dX5_passes_5 : decode cX5_passes 5 = .ok (.iload_n 1, 1) := by decide +kernel
theorem dX5_passes_6 : decode cX5_passes 6 = .ok (.if_icmp .ge 16, 3) := by decide +kernel
theorem dX5_passes_9 : decode cX5_passes 9 = .ok (.iload_n 2, 1) := by decide +kernel
theorem dX5_passes_10 : decode cX5_passes 10 = .ok (.aload_n 0, 1) := by decide +kernel
theorem dX5_passes_11 : decode cX5_passes 11 = .ok (.invokevirtual 80, 3) := by decide +kernel
theorem dX5_passes_14 : decode cX5_passes 14 = .ok (.iadd, 1) := by decide +kernel
theorem dX5_passes_15 : decode cX5_passes 15 = .ok (.istore_n 2, 1) := by decide +kernel
theorem dX5_passes_16 : decode cX5_passes 16 = .ok (.iinc 3 1, 3) := by decide +kernel
theorem dX5_passes_19 : decode cX5_passes 19 = .ok (.goto (-15), 3) := by decide +kernel
theorem dX5_passes_22 : decode cX5_passes 22 = .ok (.iload_n 2, 1) := by decide +kernel
theorem dX5_passes_23 : decode cX5_passes 23 = .ok (.ireturn, 1) := by decide +kernel
set_option maxRecDepth 20000 in
theorem ggX5_isHeavy_X5_of : GoodIn wsX5_isHeavy wsX5_of := goodIn_r _ [6, 1, 15, 16, 17, 18, 19, 20, 21, 22, 23, 24, 25, 26] (by decide +kernel) (by decide +kernel)
set_option maxRecDepth 20000 in
theorem gX5_isHeavy_X5_of : GoodIn wsX5_isHeavy (wsV RX5 33 RX5 yX5_of wsX5_of) := goodIn_app (goodIn_of _ (by decide +kernel)) ggX5_isHeavy_X5_of
set_option maxRecDepth 20000 in
theorem ggX5_isHeavy_X5_sumFrom : GoodIn wsX5_isHeavy wsX5_sumFrom := goodIn_r _ [10, 2, 3, 4, 5, 6, 1, 11, 12, 13, 14, 15, 16, 17, 18, 19, 20, 21, 22, 23, 24, 25, 26] (by decide +kernel) (by decide +kernel)
set_option maxRecDepth 20000 in
theorem gX5_isHeavy_X5_sumFrom : GoodIn wsX5_isHeavy (wsV RX5 70 RX5 yX5_sumFrom wsX5_sumFrom) := goodIn_app (goodIn_of _ (by decide +kernel)) ggX5_isHeavy_X5_sumFrom
theorem dX5_isHeavy_0 : decode cX5_isHeavy 0 = .ok (.aload_n 0, 1) := by decide +kernel
theorem dX5_isHeavy_1 : decode cX5_isHeavy 1 = .ok (.iload_n 1, 1) := by decide +kernel
theorem dX5_isHeavy_2 : decode cX5_isHeavy 2 = .ok (.aload_n 0, 1) := by decide +kernel
theorem dX5_isHeavy_3 : decode cX5_isHeavy 3 = .ok (.iload_n 1, 1) := by decide +kernel
theorem dX5_isHeavy_4 : decode cX5_isHeavy 4 = .ok (.iconst 1, 1) := by decide +kernel
theorem dX5_isHeavy_5 : decode cX5_isHeavy 5 = .ok (.invokevirtual 33, 3) := by decide +kernel
theorem dX5_isHeavy_8 : decode cX5_isHeavy 8 = .ok (.iconst 2, 1) := by decide +kernel
theorem dX5_isHeavy_9 : decode cX5_isHeavy 9 = .ok (.if_icmp .ne 7, 3) := by decide +kernel
theorem dX5_isHeavy_12 : decode cX5_isHeavy 12 = .ok (.iconst 0, 1) := by decide +kernel
theorem dX5_isHeavy_13 : decode cX5_isHeavy 13 = .ok (.goto 4, 3) := by decide +kernel
theorem dX5_isHeavy_16 : decode cX5_isHeavy 16 = .ok (.iconst 1, 1) := by decide +kernel
theorem dX5_isHeavy_17 : decode cX5_isHeavy 17 = .ok (.invokevirtual 70, 3) := by decide +kernel
theorem dX5_isHeavy_20 : decode cX5_isHeavy 20 = .ok (.aload_n 0, 1) := by decide +kernel
theorem dX5_isHeavy_21 : decode cX5_isHeavy 21 = .ok (.getfield 7, 3) := by decide +kernel
theorem dX5_isHeavy_24 : decode cX5_isHeavy 24 = .ok (.bipush 9, 2) := by decide +kernel
theorem dX5_isHeavy_26 : decode cX5_isHeavy 26 = .ok (.iaload, 1) := by decide +kernel
theorem dX5_isHeavy_27 : decode cX5_isHeavy 27 = .ok (.if_icmp .lt 7, 3) := by decide +kernel
theorem dX5_isHeavy_30 : decode cX5_isHeavy 30 = .ok (.iconst 1, 1) := by decide +kernel
theorem dX5_isHeavy_31 : decode cX5_isHeavy 31 = .ok (.goto 4, 3) := by decide +kernel
theorem dX5_isHeavy_34 : decode cX5_isHeavy 34 = .ok (.iconst 0, 1) := by decide +kernel
theorem dX5_isHeavy_35 : decode cX5_isHeavy 35 = .ok (.ireturn, 1) := by decide +kernel
set_option maxRecDepth 20000 in
theorem ggX5_shakes_X5_of : GoodIn wsX5_shakes wsX5_of := goodIn_r _ [6, 1, 27, 28, 29, 30, 31, 32, 33, 34, 35, 36, 37, 38] (by decide +kernel) (by decide +kernel)
set_option maxRecDepth 20000 in
theorem gX5_shakes_X5_of : GoodIn wsX5_shakes (wsV RX5 33 RX5 yX5_of wsX5_of) := goodIn_app (goodIn_of _ (by decide +kernel)) ggX5_shakes_X5_of
set_option maxRecDepth 20000 in
theorem ggX5_shakes_X5_isHeavy : GoodIn wsX5_shakes wsX5_isHeavy := goodIn_r _ [10, 1, 2, 3, 4, 5, 6, 11, 12, 13, 14, 15, 16, 17, 18, 27, 28, 29, 30, 31, 32, 33, 34, 35, 36, 37, 38] (by decide +kernel) (by decide +kernel)
set_option maxRecDepth 20000 in
theorem gX5_shakes_X5_isHeavy : GoodIn wsX5_shakes (wsV RX5 84 RX5 yX5_isHeavy wsX5_isHeavy) := goodIn_app (goodIn_of _ (by decide +kernel)) ggX5_shakes_X5_isHeavy
set_option maxRecDepth 20000 in
theorem ggX5_shakes_X5_lay : GoodIn wsX5_shakes wsX5_lay := goodIn_r _ [22, 1, 27, 28, 29, 30, 31, 32, 33, 34, 35, 36, 37, 38] (by decide +kernel) (by decide +kernel)
set_option maxRecDepth 20000 in
theorem gX5_shakes_X5_lay : GoodIn wsX5_shakes (wsV RX5 49 RX5 yX5_lay wsX5_lay) := goodIn_app (goodIn_of _ (by decide +kernel)) ggX5_shakes_X5_lay
set_option maxRecDepth 20000 in
theorem ggX5_shakes_X5_age : GoodIn wsX5_shakes wsX5_age := goodIn_r _ [26, 2, 3, 4, 5, 6, 1, 27, 28, 29, 30, 31, 32, 33, 34, 35, 36, 37, 38] (by decide +kernel) (by decide +kernel)
set_option maxRecDepth 20000 in
theorem gX5_shakes_X5_age : GoodIn wsX5_shakes (wsV RX5 40 RX5 yX5_age wsX5_age) := goodIn_app (goodIn_of _ (by decide +kernel)) ggX5_shakes_X5_age
theorem dX5_shakes_0 : decode cX5_shakes 0 = .ok (.aload_n 0, 1) := by decide +kernel
theorem dX5_shakes_1 : decode cX5_shakes 1 = .ok (.iload_n 1, 1) := by decide +kernel
theorem dX5_shakes_2 : decode cX5_shakes 2 = .ok (.iconst 2, 1) := by decide +kernel
theorem dX5_shakes_3 : decode cX5_shakes 3 = .ok (.invokevirtual 33, 3) := by decide +kernel
theorem dX5_shakes_6 : decode cX5_shakes 6 = .ok (.iconst 1, 1) := by decide +kernel
theorem dX5_shakes_7 : decode cX5_shakes 7 = .ok (.iadd, 1) := by decide +kernel
theorem dX5_shakes_8 : decode cX5_shakes 8 = .ok (.istore_n 2, 1) := by decide +kernel
theorem dX5_shakes_9 : decode cX5_shakes 9 = .ok (.aload_n 0, 1) := by decide +kernel
theorem dX5_shakes_10 : decode cX5_shakes 10 = .ok (.iload_n 1, 1) := by decide +kernel
theorem dX5_shakes_11 : decode cX5_shakes 11 = .ok (.iconst 1, 1) := by decide +kernel
theorem dX5_shakes_12 : decode cX5_shakes 12 = .ok (.invokevirtual 33, 3) := by decide +kernel
theorem dX5_shakes_15 : decode cX5_shakes 15 = .ok (.ifCond .le 20, 3) := by decide +kernel
theorem dX5_shakes_18 : decode cX5_shakes 18 = .ok (.aload_n 0, 1) := by decide +kernel
theorem dX5_shakes_19 : decode cX5_shakes 19 = .ok (.iload_n 1, 1) := by decide +kernel
theorem dX5_shakes_20 : decode cX5_shakes 20 = .ok (.invokevirtual 84, 3) := by decide +kernel
theorem dX5_shakes_23 : decode cX5_shakes 23 = .ok (.ifCond .ne 8, 3) := by decide +kernel
theorem dX5_shakes_26 : decode cX5_shakes 26 = .ok (.iload_n 2, 1) := by decide +kernel
theorem dX5_shakes_27 : decode cX5_shakes 27 = .ok (.iconst 3, 1) := by decide +kernel
theorem dX5_shakes_28 : decode cX5_shakes 28 = .ok (.if_icmp .lt 7, 3) := by decide +kernel
theorem dX5_shakes_31 : decode cX5_shakes 31 = .ok (.iconst 1, 1) := by decide +kernel
theorem dX5_shakes_32 : decode cX5_shakes 32 = .ok (.goto 4, 3) := by decide +kernel
theorem dX5_shakes_35 : decode cX5_shakes 35 = .ok (.iconst 0, 1) := by decide +kernel
theorem dX5_shakes_36 : decode cX5_shakes 36 = .ok (.istore_n 3, 1) := by decide +kernel
theorem dX5_shakes_37 : decode cX5_shakes 37 = .ok (.aload_n 0, 1) := by decide +kernel
theorem dX5_shakes_38 : decode cX5_shakes 38 = .ok (.iload_n 1, 1) := by decide +kernel
theorem dX5_shakes_39 : decode cX5_shakes 39 = .ok (.iconst 2, 1) := by decide +kernel
theorem dX5_shakes_40 : decode cX5_shakes 40 = .ok (.iload_n 2, 1) := by decide +kernel
theorem dX5_shakes_41 : decode cX5_shakes 41 = .ok (.invokevirtual 49, 3) := by decide +kernel
theorem dX5_shakes_44 : decode cX5_shakes 44 = .ok (.aload_n 0, 1) := by decide +kernel
theorem dX5_shakes_45 : decode cX5_shakes 45 = .ok (.iload_n 1, 1) := by decide +kernel
theorem dX5_shakes_46 : decode cX5_shakes 46 = .ok (.iconst 1, 1) := by decide +kernel
theorem dX5_shakes_47 : decode cX5_shakes 47 = .ok (.iload_n 3, 1) := by decide +kernel
theorem dX5_shakes_48 : decode cX5_shakes 48 = .ok (.ifCond .eq 7, 3) := by decide +kernel
theorem dX5_shakes_51 : decode cX5_shakes 51 = .ok (.iconst 0, 1) := by decide +kernel
theorem dX5_shakes_52 : decode cX5_shakes 52 = .ok (.goto 9, 3) := by decide +kernel
theorem dX5_shakes_55 : decode cX5_shakes 55 = .ok (.aload_n 0, 1) := by decide +kernel
theorem dX5_shakes_56 : decode cX5_shakes 56 = .ok (.iload_n 1, 1) := by decide +kernel
theorem dX5_shakes_57 : decode cX5_shakes 57 = .ok (.iconst 1, 1) := by decide +kernel
theorem dX5_shakes_58 : decode cX5_shakes 58 = .ok (.invokevirtual 33, 3) := by decide +kernel
theorem dX5_shakes_61 : decode cX5_shakes 61 = .ok (.invokevirtual 49, 3) := by decide +kernel
theorem dX5_shakes_64 : decode cX5_shakes 64 = .ok (.aload_n 0, 1) := by decide +kernel
theorem dX5_shakes_65 : decode cX5_shakes 65 = .ok (.iload_n 1, 1) := by decide +kernel
theorem dX5_shakes_66 : decode cX5_shakes 66 = .ok (.iconst 5, 1) := by decide +kernel
theorem dX5_shakes_67 : decode cX5_shakes 67 = .ok (.aload_n 0, 1) := by decide +kernel
theorem dX5_shakes_68 : decode cX5_shakes 68 = .ok (.iload_n 1, 1) := by decide +kernel
theorem dX5_shakes_69 : decode cX5_shakes 69 = .ok (.iconst 0, 1) := by decide +kernel
theorem dX5_shakes_70 : decode cX5_shakes 70 = .ok (.invokevirtual 40, 3) := by decide +kernel
theorem dX5_shakes_73 : decode cX5_shakes 73 = .ok (.ifCond .le 14, 3) := by decide +kernel
theorem dX5_shakes_76 : decode cX5_shakes 76 = .ok (.aload_n 0, 1) := by decide +kernel
theorem dX5_shakes_77 : decode cX5_shakes 77 = .ok (.iload_n 1, 1) := by decide +kernel
theorem dX5_shakes_78 : decode cX5_shakes 78 = .ok (.iconst 0, 1) := by decide +kernel
theorem dX5_shakes_79 : decode cX5_shakes 79 = .ok (.invokevirtual 40, 3) := by decide +kernel
theorem dX5_shakes_82 : decode cX5_shakes 82 = .ok (.iconst 1, 1) := by decide +kernel
theorem dX5_shakes_83 : decode cX5_shakes 83 = .ok (.isub, 1) := by decide +kernel
theorem dX5_shakes_84 : decode cX5_shakes 84 = .ok (.goto 4, 3) := by decide +kernel
theorem dX5_shakes_87 : decode cX5_shakes 87 = .ok (.iconst 0, 1) := by decide +kernel
theorem dX5_shakes_88 : decode cX5_shakes 88 = .ok (.invokevirtual 49, 3) := by decide +kernel
theorem dX5_shakes_91 : decode cX5_shakes 91 = .ok (.aload_n 0, 1) := by decide +kernel
theorem dX5_shakes_92 : decode cX5_shakes 92 = .ok (.getfield 7, 3) := by decide +kernel
theorem dX5_shakes_95 : decode cX5_shakes 95 = .ok (.iconst 4, 1) := by decide +kernel
theorem dX5_shakes_96 : decode cX5_shakes 96 = .ok (.dup2, 1) := by decide +kernel
theorem dX5_shakes_97 : decode cX5_shakes 97 = .ok (.iaload, 1) := by decide +kernel
theorem dX5_shakes_98 : decode cX5_shakes 98 = .ok (.iconst 1, 1) := by decide +kernel
theorem dX5_shakes_99 : decode cX5_shakes 99 = .ok (.iadd, 1) := by decide +kernel
theorem dX5_shakes_100 : decode cX5_shakes 100 = .ok (.iastore, 1) := by decide +kernel
theorem dX5_shakes_101 : decode cX5_shakes 101 = .ok (.iload_n 3, 1) := by decide +kernel
theorem dX5_shakes_102 : decode cX5_shakes 102 = .ok (.ifCond .eq 7, 3) := by decide +kernel
theorem dX5_shakes_105 : decode cX5_shakes 105 = .ok (.iconst 1, 1) := by decide +kernel
theorem dX5_shakes_106 : decode cX5_shakes 106 = .ok (.goto 4, 3) := by decide +kernel
theorem dX5_shakes_109 : decode cX5_shakes 109 = .ok (.iconst 0, 1) := by decide +kernel
theorem dX5_shakes_110 : decode cX5_shakes 110 = .ok (.ireturn, 1) := by decide +kernel
set_option maxRecDepth 20000 in
theorem ggX5_ship_X5_isShip : GoodIn wsX5_ship wsX5_isShip := goodIn_r _ [6, 7, 8, 5, 9] (by decide +kernel) (by decide +kernel)
set_option maxRecDepth 20000 in
theorem gX5_ship_X5_isShip : GoodIn wsX5_ship (va_wsS RX5 87 yX5_isShip wsX5_isShip) := goodIn_app (goodIn_of _ (by decide +kernel)) ggX5_ship_X5_isShip
set_option maxRecDepth 20000 in
theorem ggX5_ship_X5_fails : GoodIn wsX5_ship wsX5_fails := goodIn_r _ [13, 1, 20, 21, 22, 23, 24, 25, 26, 27, 28, 29, 30, 31] (by decide +kernel) (by decide +kernel)
set_option maxRecDepth 20000 in
theorem gX5_ship_X5_fails : GoodIn wsX5_ship (wsV RX5 90 RX5 yX5_fails wsX5_fails) := goodIn_app (goodIn_of _ (by decide +kernel)) ggX5_ship_X5_fails
set_option maxRecDepth 20000 in
theorem ggX5_ship_X5_in : GoodIn wsX5_ship wsX5_in := goodIn_r _ [9] (by decide +kernel) (by decide +kernel)
set_option maxRecDepth 20000 in
theorem gX5_ship_X5_in : GoodIn wsX5_ship (va_wsS RX5 29 yX5_in wsX5_in) := goodIn_app (goodIn_of _ (by decide +kernel)) ggX5_ship_X5_in
set_option maxRecDepth 20000 in
theorem ggX5_ship_X5_saves : GoodIn wsX5_ship wsX5_saves := goodIn_r _ [17, 18, 19, 2, 20, 21, 22, 23, 24, 25, 26, 27, 28, 29, 30, 31] (by decide +kernel) (by decide +kernel)
set_option maxRecDepth 20000 in
theorem gX5_ship_X5_saves : GoodIn wsX5_ship (wsV RX5 93 RX5 yX5_saves wsX5_saves) := goodIn_app (goodIn_of _ (by decide +kernel)) ggX5_ship_X5_saves
theorem dX5_ship_0 : decode cX5_ship 0 = .ok (.aload_n 0, 1) := by decide +kernel
theorem dX5_ship_1 : decode cX5_ship 1 = .ok (.iconst 0, 1) := by decide +kernel
theorem dX5_ship_2 : decode cX5_ship 2 = .ok (.putfield 25, 3) := by decide +kernel
theorem dX5_ship_5 : decode cX5_ship 5 = .ok (.iload_n 1, 1) := by decide +kernel
theorem dX5_ship_6 : decode cX5_ship 6 = .ok (.invokestatic 87, 3) := by decide +kernel
theorem dX5_ship_9 : decode cX5_ship 9 = .ok (.ifCond .ne 9, 3) := by decide +kernel
theorem dX5_ship_12 : decode cX5_ship 12 = .ok (.aload_n 0, 1) := by decide +kernel
theorem dX5_ship_13 : decode cX5_ship 13 = .ok (.iconst 1, 1) := by decide +kernel
theorem dX5_ship_14 : decode cX5_ship 14 = .ok (.invokevirtual 90, 3) := by decide +kernel
theorem dX5_ship_17 : decode cX5_ship 17 = .ok (.ireturn, 1) := by decide +kernel
theorem dX5_ship_18 : decode cX5_ship 18 = .ok (.iload_n 2, 1) := by decide +kernel
theorem dX5_ship_19 : decode cX5_ship 19 = .ok (.iconst 0, 1) := by decide +kernel
theorem dX5_ship_20 : decode cX5_ship 20 = .ok (.sipush 900, 3) := by decide +kernel
theorem dX5_ship_23 : decode cX5_ship 23 = .ok (.invokestatic 29, 3) := by decide +kernel
theorem dX5_ship_26 : decode cX5_ship 26 = .ok (.ifCond .eq 12, 3) := by decide +kernel
theorem dX5_ship_29 : decode cX5_ship 29 = .ok (.iload_n 3, 1) := by decide +kernel
theorem dX5_ship_30 : decode cX5_ship 30 = .ok (.iconst 0, 1) := by decide +kernel
theorem dX5_ship_31 : decode cX5_ship 31 = .ok (.iload_n 2, 1) := by decide +kernel
theorem dX5_ship_32 : decode cX5_ship 32 = .ok (.invokestatic 29, 3) := by decide +kernel
theorem dX5_ship_35 : decode cX5_ship 35 = .ok (.ifCond .ne 9, 3) := by decide +kernel
theorem dX5_ship_38 : decode cX5_ship 38 = .ok (.aload_n 0, 1) := by decide +kernel
theorem dX5_ship_39 : decode cX5_ship 39 = .ok (.iconst 2, 1) := by decide +kernel
theorem dX5_ship_40 : decode cX5_ship 40 = .ok (.invokevirtual 90, 3) := by decide +kernel
theorem dX5_ship_43 : decode cX5_ship 43 = .ok (.ireturn, 1) := by decide +kernel
theorem dX5_ship_44 : decode cX5_ship 44 = .ok (.aload_n 0, 1) := by decide +kernel
theorem dX5_ship_45 : decode cX5_ship 45 = .ok (.invokevirtual 93, 3) := by decide +kernel
theorem dX5_ship_48 : decode cX5_ship 48 = .ok (.aload_n 0, 1) := by decide +kernel
theorem dX5_ship_49 : decode cX5_ship 49 = .ok (.getfield 7, 3) := by decide +kernel
theorem dX5_ship_52 : decode cX5_ship 52 = .ok (.bipush 106, 2) := by decide +kernel
theorem dX5_ship_54 : decode cX5_ship 54 = .ok (.iconst 2, 1) := by decide +kernel
theorem dX5_ship_55 : decode cX5_ship 55 = .ok (.iload_n 1, 1) := by decide +kernel
theorem dX5_ship_56 : decode cX5_ship 56 = .ok (.imul, 1) := by decide +kernel
theorem dX5_ship_57 : decode cX5_ship 57 = .ok (.iadd, 1) := by decide +kernel
theorem dX5_ship_58 : decode cX5_ship 58 = .ok (.iaload, 1) := by decide +kernel
theorem dX5_ship_59 : decode cX5_ship 59 = .ok (.istore 4, 2) := by decide +kernel
theorem dX5_ship_61 : decode cX5_ship 61 = .ok (.aload_n 0, 1) := by decide +kernel
theorem dX5_ship_62 : decode cX5_ship 62 = .ok (.getfield 7, 3) := by decide +kernel
theorem dX5_ship_65 : decode cX5_ship 65 = .ok (.bipush 106, 2) := by decide +kernel
theorem dX5_ship_67 : decode cX5_ship 67 = .ok (.iconst 2, 1) := by decide +kernel
theorem dX5_ship_68 : decode cX5_ship 68 = .ok (.iload_n 1, 1) := by decide +kernel
theorem dX5_ship_69 : decode cX5_ship 69 = .ok (.imul, 1) := by decide +kernel
theorem dX5_ship_70 : decode cX5_ship 70 = .ok (.iadd, 1) := by decide +kernel
theorem dX5_ship_71 : decode cX5_ship 71 = .ok (.iload_n 3, 1) := by decide +kernel
theorem dX5_ship_72 : decode cX5_ship 72 = .ok (.iastore, 1) := by decide +kernel
theorem dX5_ship_73 : decode cX5_ship 73 = .ok (.aload_n 0, 1) := by decide +kernel
theorem dX5_ship_74 : decode cX5_ship 74 = .ok (.getfield 7, 3) := by decide +kernel
theorem dX5_ship_77 : decode cX5_ship 77 = .ok (.bipush 106, 2) := by decide +kernel
theorem dX5_ship_79 : decode cX5_ship 79 = .ok (.iconst 2, 1) := by decide +kernel
theorem dX5_ship_80 : decode cX5_ship 80 = .ok (.iload_n 1, 1) := by decide +kernel
theorem dX5_ship_81 : decode cX5_ship 81 = .ok (.imul, 1) := by decide +kernel
theorem dX5_ship_82 : decode cX5_ship 82 = .ok (.iadd, 1) := by decide +kernel
theorem dX5_ship_83 : decode cX5_ship 83 = .ok (.iconst 1, 1) := by decide +kernel
theorem dX5_ship_84 : decode cX5_ship 84 = .ok (.iadd, 1) := by decide +kernel
theorem dX5_ship_85 : decode cX5_ship 85 = .ok (.iload_n 2, 1) := by decide +kernel
theorem dX5_ship_86 : decode cX5_ship 86 = .ok (.iastore, 1) := by decide +kernel
theorem dX5_ship_87 : decode cX5_ship 87 = .ok (.aload_n 0, 1) := by decide +kernel
theorem dX5_ship_88 : decode cX5_ship 88 = .ok (.getfield 7, 3) := by decide +kernel
theorem dX5_ship_91 : decode cX5_ship 91 = .ok (.iconst 2, 1) := by decide +kernel
theorem dX5_ship_92 : decode cX5_ship 92 = .ok (.dup2, 1) := by decide +kernel
theorem dX5_ship_93 : decode cX5_ship 93 = .ok (.iaload, 1) := by decide +kernel
theorem dX5_ship_94 : decode cX5_ship 94 = .ok (.iload_n 3, 1) := by decide +kernel
theorem dX5_ship_95 : decode cX5_ship 95 = .ok (.iadd, 1) := by decide +kernel
theorem dX5_ship_96 : decode cX5_ship 96 = .ok (.iastore, 1) := by decide +kernel
theorem dX5_ship_97 : decode cX5_ship 97 = .ok (.aload_n 0, 1) := by decide +kernel
theorem dX5_ship_98 : decode cX5_ship 98 = .ok (.getfield 7, 3) := by decide +kernel
theorem dX5_ship_101 : decode cX5_ship 101 = .ok (.iconst 3, 1) := by decide +kernel
theorem dX5_ship_102 : decode cX5_ship 102 = .ok (.dup2, 1) := by decide +kernel
theorem dX5_ship_103 : decode cX5_ship 103 = .ok (.iaload, 1) := by decide +kernel
theorem dX5_ship_104 : decode cX5_ship 104 = .ok (.iload 4, 2) := by decide +kernel
theorem dX5_ship_106 : decode cX5_ship 106 = .ok (.iadd, 1) := by decide +kernel
theorem dX5_ship_107 : decode cX5_ship 107 = .ok (.iastore, 1) := by decide +kernel
theorem dX5_ship_108 : decode cX5_ship 108 = .ok (.iload 4, 2) := by decide +kernel
theorem dX5_ship_110 : decode cX5_ship 110 = .ok (.ireturn, 1) := by decide +kernel
set_option maxRecDepth 20000 in
theorem ggX5_unload_X5_isSilo : GoodIn wsX5_unload wsX5_isSilo := goodIn_r _ [5, 6, 7, 4, 8] (by decide +kernel) (by decide +kernel)
set_option maxRecDepth 20000 in
theorem gX5_unload_X5_isSilo : GoodIn wsX5_unload (va_wsS RX5 96 yX5_isSilo wsX5_isSilo) := goodIn_app (goodIn_of _ (by decide +kernel)) ggX5_unload_X5_isSilo
set_option maxRecDepth 20000 in
theorem ggX5_unload_X5_isShip : GoodIn wsX5_unload wsX5_isShip := goodIn_r _ [11, 6, 7, 4, 8] (by decide +kernel) (by decide +kernel)
set_option maxRecDepth 20000 in
theorem gX5_unload_X5_isShip : GoodIn wsX5_unload (va_wsS RX5 87 yX5_isShip wsX5_isShip) := goodIn_app (goodIn_of _ (by decide +kernel)) ggX5_unload_X5_isShip
set_option maxRecDepth 20000 in
theorem ggX5_unload_X5_fails : GoodIn wsX5_unload wsX5_fails := goodIn_r _ [15, 1, 54, 55, 56, 57, 58, 59, 60, 61, 62, 63, 64, 65] (by decide +kernel) (by decide +kernel)
set_option maxRecDepth 20000 in
theorem gX5_unload_X5_fails : GoodIn wsX5_unload (wsV RX5 90 RX5 yX5_fails wsX5_fails) := goodIn_app (goodIn_of _ (by decide +kernel)) ggX5_unload_X5_fails
set_option maxRecDepth 20000 in
theorem ggX5_unload_X5_in : GoodIn wsX5_unload wsX5_in := goodIn_r _ [8] (by decide +kernel) (by decide +kernel)
set_option maxRecDepth 20000 in
theorem gX5_unload_X5_in : GoodIn wsX5_unload (va_wsS RX5 29 yX5_in wsX5_in) := goodIn_app (goodIn_of _ (by decide +kernel)) ggX5_unload_X5_in
set_option maxRecDepth 20000 in
theorem ggX5_unload_X5_saves : GoodIn wsX5_unload wsX5_saves := goodIn_r _ [19, 20, 21, 22, 54, 55, 56, 57, 58, 59, 60, 61, 62, 63, 64, 65] (by decide +kernel) (by decide +kernel)
set_option maxRecDepth 20000 in
theorem gX5_unload_X5_saves : GoodIn wsX5_unload (wsV RX5 93 RX5 yX5_saves wsX5_saves) := goodIn_app (goodIn_of _ (by decide +kernel)) ggX5_unload_X5_saves
set_option maxRecDepth 20000 in
theorem ggX5_unload_X5_unloads : GoodIn wsX5_unload wsX5_unloads := goodIn_r _ [26, 22, 27, 28, 4, 29, 30, 31, 32, 33, 34, 35, 36, 37, 38, 39, 40, 41, 42, 43, 44, 45, 46, 47, 48, 49, 50, 51, 52, 53, 54, 55, 56, 57, 58, 59, 60, 61, 62, 63, 64, 65] (by decide +kernel) (by decide +kernel)
set_option maxRecDepth 20000 in
theorem gX5_unload_X5_unloads : GoodIn wsX5_unload (wsV RX5 99 RX5 yX5_unloads wsX5_unloads) := goodIn_app (goodIn_of _ (by decide +kernel)) ggX5_unload_X5_unloads
theorem dX5_unload_0 : decode cX5_unload 0 = .ok (.aload_n 0, 1) := by decide +kernel
theorem dX5_unload_1 : decode cX5_unload 1 = .ok (.iconst 0, 1) := by decide +kernel
theorem dX5_unload_2 : decode cX5_unload 2 = .ok (.putfield 25, 3) := by decide +kernel
theorem dX5_unload_5 : decode cX5_unload 5 = .ok (.iload_n 1, 1) := by decide +kernel
theorem dX5_unload_6 : decode cX5_unload 6 = .ok (.invokestatic 96, 3) := by decide +kernel
theorem dX5_unload_9 : decode cX5_unload 9 = .ok (.ifCond .eq 10, 3) := by decide +kernel
theorem dX5_unload_12 : decode cX5_unload 12 = .ok (.iload_n 2, 1) := by decide +kernel
theorem dX5_unload_13 : decode cX5_unload 13 = .ok (.invokestatic 87, 3) := by decide +kernel
theorem dX5_unload_16 : decode cX5_unload 16 = .ok (.ifCond .ne 9, 3) := by decide +kernel
theorem dX5_unload_19 : decode cX5_unload 19 = .ok (.aload_n 0, 1) := by decide +kernel
theorem dX5_unload_20 : decode cX5_unload 20 = .ok (.iconst 1, 1) := by decide +kernel
theorem dX5_unload_21 : decode cX5_unload 21 = .ok (.invokevirtual 90, 3) := by decide +kernel
theorem dX5_unload_24 : decode cX5_unload 24 = .ok (.ireturn, 1) := by decide +kernel
theorem dX5_unload_25 : decode cX5_unload 25 = .ok (.iload_n 3, 1) := by decide +kernel
theorem dX5_unload_26 : decode cX5_unload 26 = .ok (.iconst 1, 1) := by decide +kernel
theorem dX5_unload_27 : decode cX5_unload 27 = .ok (.sipush 500, 3) := by decide +kernel
theorem dX5_unload_30 : decode cX5_unload 30 = .ok (.invokestatic 29, 3) := by decide +kernel
theorem dX5_unload_33 : decode cX5_unload 33 = .ok (.ifCond .ne 9, 3) := by decide +kernel
theorem dX5_unload_36 : decode cX5_unload 36 = .ok (.aload_n 0, 1) := by decide +kernel
theorem dX5_unload_37 : decode cX5_unload 37 = .ok (.iconst 2, 1) := by decide +kernel
theorem dX5_unload_38 : decode cX5_unload 38 = .ok (.invokevirtual 90, 3) := by decide +kernel
theorem dX5_unload_41 : decode cX5_unload 41 = .ok (.ireturn, 1) := by decide +kernel
theorem dX5_unload_42 : decode cX5_unload 42 = .ok (.aload_n 0, 1) := by decide +kernel
theorem dX5_unload_43 : decode cX5_unload 43 = .ok (.invokevirtual 93, 3) := by decide +kernel
theorem dX5_unload_46 : decode cX5_unload 46 = .ok (.aload_n 0, 1) := by decide +kernel
theorem dX5_unload_47 : decode cX5_unload 47 = .ok (.iload_n 1, 1) := by decide +kernel
theorem dX5_unload_48 : decode cX5_unload 48 = .ok (.iload_n 2, 1) := by decide +kernel
theorem dX5_unload_49 : decode cX5_unload 49 = .ok (.iload_n 3, 1) := by decide +kernel
theorem dX5_unload_50 : decode cX5_unload 50 = .ok (.invokevirtual 99, 3) := by decide +kernel
theorem dX5_unload_53 : decode cX5_unload 53 = .ok (.ireturn, 1) := by decide +kernel
set_option maxRecDepth 20000 in
theorem ggX5_flow_X5_isSilo : GoodIn wsX5_flow wsX5_isSilo := goodIn_r _ [5, 6, 7, 4, 8] (by decide +kernel) (by decide +kernel)
set_option maxRecDepth 20000 in
theorem gX5_flow_X5_isSilo : GoodIn wsX5_flow (va_wsS RX5 96 yX5_isSilo wsX5_isSilo) := goodIn_app (goodIn_of _ (by decide +kernel)) ggX5_flow_X5_isSilo
set_option maxRecDepth 20000 in
theorem ggX5_flow_X5_isShip : GoodIn wsX5_flow wsX5_isShip := goodIn_r _ [11, 6, 7, 4, 8] (by decide +kernel) (by decide +kernel)
set_option maxRecDepth 20000 in
theorem gX5_flow_X5_isShip : GoodIn wsX5_flow (va_wsS RX5 87 yX5_isShip wsX5_isShip) := goodIn_app (goodIn_of _ (by decide +kernel)) ggX5_flow_X5_isShip
set_option maxRecDepth 20000 in
theorem ggX5_flow_X5_fails : GoodIn wsX5_flow wsX5_fails := goodIn_r _ [15, 1, 66, 67, 68, 69, 70, 71, 72, 73, 74, 75, 76, 77] (by decide +kernel) (by decide +kernel)
set_option maxRecDepth 20000 in
theorem gX5_flow_X5_fails : GoodIn wsX5_flow (wsV RX5 90 RX5 yX5_fails wsX5_fails) := goodIn_app (goodIn_of _ (by decide +kernel)) ggX5_flow_X5_fails
set_option maxRecDepth 20000 in
theorem ggX5_flow_X5_in : GoodIn wsX5_flow wsX5_in := goodIn_r _ [8] (by decide +kernel) (by decide +kernel)
set_option maxRecDepth 20000 in
theorem gX5_flow_X5_in : GoodIn wsX5_flow (va_wsS RX5 29 yX5_in wsX5_in) := goodIn_app (goodIn_of _ (by decide +kernel)) ggX5_flow_X5_in
set_option maxRecDepth 20000 in
theorem ggX5_flow_X5_saves : GoodIn wsX5_flow wsX5_saves := goodIn_r _ [19, 20, 21, 22, 66, 67, 68, 69, 70, 71, 72, 73, 74, 75, 76, 77] (by decide +kernel) (by decide +kernel)
set_option maxRecDepth 20000 in
theorem gX5_flow_X5_saves : GoodIn wsX5_flow (wsV RX5 93 RX5 yX5_saves wsX5_saves) := goodIn_app (goodIn_of _ (by decide +kernel)) ggX5_flow_X5_saves
set_option maxRecDepth 20000 in
theorem ggX5_flow_X5_flowsAll : GoodIn wsX5_flow wsX5_flowsAll := goodIn_r _ [26, 27, 28, 29, 4, 30, 22, 31, 32, 33, 34, 35, 36, 37, 38, 39, 40, 41, 42, 43, 44, 45, 46, 47, 48, 49, 50, 51, 52, 53, 54, 55, 56, 57, 58, 59, 60, 61, 62, 63, 64, 65, 66, 67, 68, 69, 70, 71, 72, 73, 74, 75, 76, 77] (by decide +kernel) (by decide +kernel)
set_option maxRecDepth 20000 in
theorem gX5_flow_X5_flowsAll : GoodIn wsX5_flow (wsV RX5 103 RX5 yX5_flowsAll wsX5_flowsAll) := goodIn_app (goodIn_of _ (by decide +kernel)) ggX5_flow_X5_flowsAll
theorem dX5_flow_0 : decode cX5_flow 0 = .ok (.aload_n 0, 1) := by decide +kernel
theorem dX5_flow_1 : decode cX5_flow 1 = .ok (.iconst 0, 1) := by decide +kernel
theorem dX5_flow_2 : decode cX5_flow 2 = .ok (.putfield 25, 3) := by decide +kernel
theorem dX5_flow_5 : decode cX5_flow 5 = .ok (.iload_n 1, 1) := by decide +kernel
theorem dX5_flow_6 : decode cX5_flow 6 = .ok (.invokestatic 96, 3) := by decide +kernel
theorem dX5_flow_9 : decode cX5_flow 9 = .ok (.ifCond .eq 10, 3) := by decide +kernel
theorem dX5_flow_12 : decode cX5_flow 12 = .ok (.iload_n 2, 1) := by decide +kernel
theorem dX5_flow_13 : decode cX5_flow 13 = .ok (.invokestatic 87, 3) := by decide +kernel
theorem dX5_flow_16 : decode cX5_flow 16 = .ok (.ifCond .ne 9, 3) := by decide +kernel
theorem dX5_flow_19 : decode cX5_flow 19 = .ok (.aload_n 0, 1) := by decide +kernel
theorem dX5_flow_20 : decode cX5_flow 20 = .ok (.iconst 1, 1) := by decide +kernel
theorem dX5_flow_21 : decode cX5_flow 21 = .ok (.invokevirtual 90, 3) := by decide +kernel
theorem dX5_flow_24 : decode cX5_flow 24 = .ok (.ireturn, 1) := by decide +kernel
theorem dX5_flow_25 : decode cX5_flow 25 = .ok (.iload_n 3, 1) := by decide +kernel
theorem dX5_flow_26 : decode cX5_flow 26 = .ok (.iconst 1, 1) := by decide +kernel
theorem dX5_flow_27 : decode cX5_flow 27 = .ok (.bipush 24, 2) := by decide +kernel
theorem dX5_flow_29 : decode cX5_flow 29 = .ok (.invokestatic 29, 3) := by decide +kernel
theorem dX5_flow_32 : decode cX5_flow 32 = .ok (.ifCond .ne 9, 3) := by decide +kernel
theorem dX5_flow_35 : decode cX5_flow 35 = .ok (.aload_n 0, 1) := by decide +kernel
theorem dX5_flow_36 : decode cX5_flow 36 = .ok (.iconst 2, 1) := by decide +kernel
theorem dX5_flow_37 : decode cX5_flow 37 = .ok (.invokevirtual 90, 3) := by decide +kernel
theorem dX5_flow_40 : decode cX5_flow 40 = .ok (.ireturn, 1) := by decide +kernel
theorem dX5_flow_41 : decode cX5_flow 41 = .ok (.aload_n 0, 1) := by decide +kernel
theorem dX5_flow_42 : decode cX5_flow 42 = .ok (.invokevirtual 93, 3) := by decide +kernel
theorem dX5_flow_45 : decode cX5_flow 45 = .ok (.aload_n 0, 1) := by decide +kernel
theorem dX5_flow_46 : decode cX5_flow 46 = .ok (.iload_n 1, 1) := by decide +kernel
theorem dX5_flow_47 : decode cX5_flow 47 = .ok (.iload_n 2, 1) := by decide +kernel
theorem dX5_flow_48 : decode cX5_flow 48 = .ok (.iload_n 3, 1) := by decide +kernel
theorem dX5_flow_49 : decode cX5_flow 49 = .ok (.invokevirtual 103, 3) := by decide +kernel
theorem dX5_flow_52 : decode cX5_flow 52 = .ok (.ireturn, 1) := by decide +kernel
set_option maxRecDepth 20000 in
theorem ggX5_padsOn_X5_of : GoodIn wsX5_padsOn wsX5_of := goodIn_r _ [5, 6, 7, 8, 9, 10, 11, 12, 13, 14, 15, 16, 17, 18] (by decide +kernel) (by decide +kernel)
set_option maxRecDepth 20000 in
theorem gX5_padsOn_X5_of : GoodIn wsX5_padsOn (wsV RX5 33 RX5 yX5_of wsX5_of) := goodIn_app (goodIn_of _ (by decide +kernel)) ggX5_padsOn_X5_of
theorem dX5_padsOn_0 : decode cX5_padsOn 0 = .ok (.iconst 0, 1) := by decide +kernel
theorem dX5_padsOn_1 : decode cX5_padsOn 1 = .ok (.istore_n 1, 1) := by decide +kernel
theorem dX5_padsOn_2 : decode cX5_padsOn 2 = .ok (.iconst 0, 1) := by decide +kernel
theorem dX5_padsOn_3 : decode cX5_padsOn 3 = .ok (.istore_n 2, 1) := by decide +kernel
theorem dX5_padsOn_4 : decode cX5_padsOn 4 = .ok (.iload_n 2, 1) := by decide +kernel
theorem dX5_padsOn_5 : decode cX5_padsOn 5 = .ok (.iconst 4, 1) := by decide +kernel
theorem dX5_padsOn_6 : decode cX5_padsOn 6 = .ok (.if_icmp .ge 18, 3) := by decide +kernel
theorem dX5_padsOn_9 : decode cX5_padsOn 9 = .ok (.iload_n 1, 1) := by decide +kernel
theorem dX5_padsOn_10 : decode cX5_padsOn 10 = .ok (.aload_n 0, 1) := by decide +kernel
theorem dX5_padsOn_11 : decode cX5_padsOn 11 = .ok (.iload_n 2, 1) := by decide +kernel
theorem dX5_padsOn_12 : decode cX5_padsOn 12 = .ok (.iconst 0, 1) := by decide +kernel
theorem dX5_padsOn_13 : decode cX5_padsOn 13 = .ok (.invokevirtual 33, 3) := by decide +kernel
theorem dX5_padsOn_16 : decode cX5_padsOn 16 = .ok (.iadd, 1) := by decide +kernel
theorem dX5_padsOn_17 : decode cX5_padsOn 17 = .ok (.istore_n 1, 1) := by decide +kernel
theorem dX5_padsOn_18 : decode cX5_padsOn 18 = .ok (.iinc 2 1, 3) := by decide +kernel
theorem dX5_padsOn_21 : decode cX5_padsOn 21 = .ok (.goto (-17), 3) := by decide +kernel
theorem dX5_padsOn_24 : decode cX5_padsOn 24 = .ok (.iload_n 1, 1) := by decide +kernel
theorem dX5_padsOn_25 : decode cX5_padsOn 25 = .ok (.ireturn, 1) := by decide +kernel
set_option maxRecDepth 20000 in
theorem ggX5_pads_X5_isSilo : GoodIn wsX5_pads wsX5_isSilo := goodIn_r _ [6, 7, 8, 5, 9] (by decide +kernel) (by decide +kernel)
set_option maxRecDepth 20000 in
theorem gX5_pads_X5_isSilo : GoodIn wsX5_pads (va_wsS RX5 96 yX5_isSilo wsX5_isSilo) := goodIn_app (goodIn_of _ (by decide +kernel)) ggX5_pads_X5_isSilo
set_option maxRecDepth 20000 in
theorem ggX5_pads_X5_fails : GoodIn wsX5_pads wsX5_fails := goodIn_r _ [13, 1, 32, 33, 34, 35, 36, 37, 38, 39, 40, 41, 42, 43] (by decide +kernel) (by decide +kernel)
set_option maxRecDepth 20000 in
theorem gX5_pads_X5_fails : GoodIn wsX5_pads (wsV RX5 90 RX5 yX5_fails wsX5_fails) := goodIn_app (goodIn_of _ (by decide +kernel)) ggX5_pads_X5_fails
set_option maxRecDepth 20000 in
theorem ggX5_pads_X5_in : GoodIn wsX5_pads wsX5_in := goodIn_r _ [9] (by decide +kernel) (by decide +kernel)
set_option maxRecDepth 20000 in
theorem gX5_pads_X5_in : GoodIn wsX5_pads (va_wsS RX5 29 yX5_in wsX5_in) := goodIn_app (goodIn_of _ (by decide +kernel)) ggX5_pads_X5_in
set_option maxRecDepth 20000 in
theorem ggX5_pads_X5_of : GoodIn wsX5_pads wsX5_of := goodIn_r _ [17, 2, 32, 33, 34, 35, 36, 37, 38, 39, 40, 41, 42, 43] (by decide +kernel) (by decide +kernel)
set_option maxRecDepth 20000 in
theorem gX5_pads_X5_of : GoodIn wsX5_pads (wsV RX5 33 RX5 yX5_of wsX5_of) := goodIn_app (goodIn_of _ (by decide +kernel)) ggX5_pads_X5_of
set_option maxRecDepth 20000 in
theorem ggX5_pads_X5_padsOn : GoodIn wsX5_pads wsX5_padsOn := goodIn_r _ [21, 14, 15, 16, 5, 17, 2, 32, 33, 34, 35, 36, 37, 38, 39, 40, 41, 42, 43] (by decide +kernel) (by decide +kernel)
set_option maxRecDepth 20000 in
theorem gX5_pads_X5_padsOn : GoodIn wsX5_pads (wsV RX5 106 RX5 yX5_padsOn wsX5_padsOn) := goodIn_app (goodIn_of _ (by decide +kernel)) ggX5_pads_X5_padsOn
set_option maxRecDepth 20000 in
theorem ggX5_pads_X5_saves : GoodIn wsX5_pads wsX5_saves := goodIn_r _ [25, 26, 27, 2, 32, 33, 34, 35, 36, 37, 38, 39, 40, 41, 42, 43] (by decide +kernel) (by decide +kernel)
set_option maxRecDepth 20000 in
theorem gX5_pads_X5_saves : GoodIn wsX5_pads (wsV RX5 93 RX5 yX5_saves wsX5_saves) := goodIn_app (goodIn_of _ (by decide +kernel)) ggX5_pads_X5_saves
set_option maxRecDepth 20000 in
theorem ggX5_pads_X5_lay : GoodIn wsX5_pads wsX5_lay := goodIn_r _ [31, 2, 32, 33, 34, 35, 36, 37, 38, 39, 40, 41, 42, 43] (by decide +kernel) (by decide +kernel)
set_option maxRecDepth 20000 in
theorem gX5_pads_X5_lay : GoodIn wsX5_pads (wsV RX5 49 RX5 yX5_lay wsX5_lay) := goodIn_app (goodIn_of _ (by decide +kernel)) ggX5_pads_X5_lay
theorem dX5_pads_0 : decode cX5_pads 0 = .ok (.aload_n 0, 1) := by decide +kernel
theorem dX5_pads_1 : decode cX5_pads 1 = .ok (.iconst 0, 1) := by decide +kernel
theorem dX5_pads_2 : decode cX5_pads 2 = .ok (.putfield 25, 3) := by decide +kernel
theorem dX5_pads_5 : decode cX5_pads 5 = .ok (.iload_n 1, 1) := by decide +kernel
theorem dX5_pads_6 : decode cX5_pads 6 = .ok (.invokestatic 96, 3) := by decide +kernel
theorem dX5_pads_9 : decode cX5_pads 9 = .ok (.ifCond .ne 9, 3) := by decide +kernel
theorem dX5_pads_12 : decode cX5_pads 12 = .ok (.aload_n 0, 1) := by decide +kernel
theorem dX5_pads_13 : decode cX5_pads 13 = .ok (.iconst 1, 1) := by decide +kernel
theorem dX5_pads_14 : decode cX5_pads 14 = .ok (.invokevirtual 90, 3) := by decide +kernel
theorem dX5_pads_17 : decode cX5_pads 17 = .ok (.ireturn, 1) := by decide +kernel
theorem dX5_pads_18 : decode cX5_pads 18 = .ok (.iload_n 2, 1) := by decide +kernel
theorem dX5_pads_19 : decode cX5_pads 19 = .ok (.iconst 0, 1) := by decide +kernel
theorem dX5_pads_20 : decode cX5_pads 20 = .ok (.iconst 4, 1) := by decide +kernel
theorem dX5_pads_21 : decode cX5_pads 21 = .ok (.invokestatic 29, 3) := by decide +kernel
theorem dX5_pads_24 : decode cX5_pads 24 = .ok (.ifCond .ne 9, 3) := by decide +kernel
theorem dX5_pads_27 : decode cX5_pads 27 = .ok (.aload_n 0, 1) := by decide +kernel
theorem dX5_pads_28 : decode cX5_pads 28 = .ok (.iconst 2, 1) := by decide +kernel
theorem dX5_pads_29 : decode cX5_pads 29 = .ok (.invokevirtual 90, 3) := by decide +kernel
theorem dX5_pads_32 : decode cX5_pads 32 = .ok (.ireturn, 1) := by decide +kernel
theorem dX5_pads_33 : decode cX5_pads 33 = .ok (.aload_n 0, 1) := by decide +kernel
theorem dX5_pads_34 : decode cX5_pads 34 = .ok (.iload_n 1, 1) := by decide +kernel
theorem dX5_pads_35 : decode cX5_pads 35 = .ok (.iconst 0, 1) := by decide +kernel
theorem dX5_pads_36 : decode cX5_pads 36 = .ok (.invokevirtual 33, 3) := by decide +kernel
theorem dX5_pads_39 : decode cX5_pads 39 = .ok (.istore_n 3, 1) := by decide +kernel
theorem dX5_pads_40 : decode cX5_pads 40 = .ok (.aload_n 0, 1) := by decide +kernel
theorem dX5_pads_41 : decode cX5_pads 41 = .ok (.invokevirtual 106, 3) := by decide +kernel
theorem dX5_pads_44 : decode cX5_pads 44 = .ok (.iload_n 3, 1) := by decide +kernel
theorem dX5_pads_45 : decode cX5_pads 45 = .ok (.isub, 1) := by decide +kernel
theorem dX5_pads_46 : decode cX5_pads 46 = .ok (.iload_n 2, 1) := by decide +kernel
theorem dX5_pads_47 : decode cX5_pads 47 = .ok (.iadd, 1) := by decide +kernel
theorem dX5_pads_48 : decode cX5_pads 48 = .ok (.aload_n 0, 1) := by decide +kernel
theorem dX5_pads_49 : decode cX5_pads 49 = .ok (.getfield 7, 3) := by decide +kernel
theorem dX5_pads_52 : decode cX5_pads 52 = .ok (.bipush 6, 2) := by decide +kernel
theorem dX5_pads_54 : decode cX5_pads 54 = .ok (.iaload, 1) := by decide +kernel
theorem dX5_pads_55 : decode cX5_pads 55 = .ok (.if_icmp .le 9, 3) := by decide +kernel
theorem dX5_pads_58 : decode cX5_pads 58 = .ok (.aload_n 0, 1) := by decide +kernel
theorem dX5_pads_59 : decode cX5_pads 59 = .ok (.iconst 3, 1) := by decide +kernel
theorem dX5_pads_60 : decode cX5_pads 60 = .ok (.invokevirtual 90, 3) := by decide +kernel
theorem dX5_pads_63 : decode cX5_pads 63 = .ok (.ireturn, 1) := by decide +kernel
theorem dX5_pads_64 : decode cX5_pads 64 = .ok (.aload_n 0, 1) := by decide +kernel
theorem dX5_pads_65 : decode cX5_pads 65 = .ok (.invokevirtual 93, 3) := by decide +kernel
theorem dX5_pads_68 : decode cX5_pads 68 = .ok (.aload_n 0, 1) := by decide +kernel
theorem dX5_pads_69 : decode cX5_pads 69 = .ok (.iload_n 1, 1) := by decide +kernel
theorem dX5_pads_70 : decode cX5_pads 70 = .ok (.iconst 0, 1) := by decide +kernel
theorem dX5_pads_71 : decode cX5_pads 71 = .ok (.iload_n 2, 1) := by decide +kernel
theorem dX5_pads_72 : decode cX5_pads 72 = .ok (.invokevirtual 49, 3) := by decide +kernel
theorem dX5_pads_75 : decode cX5_pads 75 = .ok (.iload_n 3, 1) := by decide +kernel
theorem dX5_pads_76 : decode cX5_pads 76 = .ok (.ireturn, 1) := by decide +kernel
set_option maxRecDepth 20000 in
theorem ggX5_shake_X5_isSilo : GoodIn wsX5_shake wsX5_isSilo := goodIn_r _ [5, 6, 7, 4, 8] (by decide +kernel) (by decide +kernel)
set_option maxRecDepth 20000 in
theorem gX5_shake_X5_isSilo : GoodIn wsX5_shake (va_wsS RX5 96 yX5_isSilo wsX5_isSilo) := goodIn_app (goodIn_of _ (by decide +kernel)) ggX5_shake_X5_isSilo
set_option maxRecDepth 20000 in
theorem ggX5_shake_X5_fails : GoodIn wsX5_shake wsX5_fails := goodIn_r _ [12, 1, 48, 49, 50, 51, 52, 53, 54, 55, 56, 57, 58, 59] (by decide +kernel) (by decide +kernel)
set_option maxRecDepth 20000 in
theorem gX5_shake_X5_fails : GoodIn wsX5_shake (wsV RX5 90 RX5 yX5_fails wsX5_fails) := goodIn_app (goodIn_of _ (by decide +kernel)) ggX5_shake_X5_fails
set_option maxRecDepth 20000 in
theorem ggX5_shake_X5_of : GoodIn wsX5_shake wsX5_of := goodIn_r _ [16, 17, 48, 49, 50, 51, 52, 53, 54, 55, 56, 57, 58, 59] (by decide +kernel) (by decide +kernel)
set_option maxRecDepth 20000 in
theorem gX5_shake_X5_of : GoodIn wsX5_shake (wsV RX5 33 RX5 yX5_of wsX5_of) := goodIn_app (goodIn_of _ (by decide +kernel)) ggX5_shake_X5_of
set_option maxRecDepth 20000 in
theorem ggX5_shake_X5_saves : GoodIn wsX5_shake wsX5_saves := goodIn_r _ [21, 22, 23, 17, 48, 49, 50, 51, 52, 53, 54, 55, 56, 57, 58, 59] (by decide +kernel) (by decide +kernel)
set_option maxRecDepth 20000 in
theorem gX5_shake_X5_saves : GoodIn wsX5_shake (wsV RX5 93 RX5 yX5_saves wsX5_saves) := goodIn_app (goodIn_of _ (by decide +kernel)) ggX5_shake_X5_saves
set_option maxRecDepth 20000 in
theorem ggX5_shake_X5_shakes : GoodIn wsX5_shake wsX5_shakes := goodIn_r _ [27, 17, 13, 14, 15, 4, 16, 28, 29, 30, 31, 32, 33, 34, 35, 36, 37, 38, 39, 40, 41, 42, 43, 44, 45, 46, 47, 48, 49, 50, 51, 52, 53, 54, 55, 56, 57, 58, 59] (by decide +kernel) (by decide +kernel)
set_option maxRecDepth 20000 in
theorem gX5_shake_X5_shakes : GoodIn wsX5_shake (wsV RX5 109 RX5 yX5_shakes wsX5_shakes) := goodIn_app (goodIn_of _ (by decide +kernel)) ggX5_shake_X5_shakes
theorem dX5_shake_0 : decode cX5_shake 0 = .ok (.aload_n 0, 1) := by decide +kernel
theorem dX5_shake_1 : decode cX5_shake 1 = .ok (.iconst 0, 1) := by decide +kernel
theorem dX5_shake_2 : decode cX5_shake 2 = .ok (.putfield 25, 3) := by decide +kernel
theorem dX5_shake_5 : decode cX5_shake 5 = .ok (.iload_n 1, 1) := by decide +kernel
theorem dX5_shake_6 : decode cX5_shake 6 = .ok (.invokestatic 96, 3) := by decide +kernel
theorem dX5_shake_9 : decode cX5_shake 9 = .ok (.ifCond .ne 9, 3) := by decide +kernel
theorem dX5_shake_12 : decode cX5_shake 12 = .ok (.aload_n 0, 1) := by decide +kernel
theorem dX5_shake_13 : decode cX5_shake 13 = .ok (.iconst 1, 1) := by decide +kernel
theorem dX5_shake_14 : decode cX5_shake 14 = .ok (.invokevirtual 90, 3) := by decide +kernel
theorem dX5_shake_17 : decode cX5_shake 17 = .ok (.ireturn, 1) := by decide +kernel
theorem dX5_shake_18 : decode cX5_shake 18 = .ok (.aload_n 0, 1) := by decide +kernel
theorem dX5_shake_19 : decode cX5_shake 19 = .ok (.iload_n 1, 1) := by decide +kernel
theorem dX5_shake_20 : decode cX5_shake 20 = .ok (.iconst 3, 1) := by decide +kernel
theorem dX5_shake_21 : decode cX5_shake 21 = .ok (.invokevirtual 33, 3) := by decide +kernel
theorem dX5_shake_24 : decode cX5_shake 24 = .ok (.ifCond .ne 9, 3) := by decide +kernel
theorem dX5_shake_27 : decode cX5_shake 27 = .ok (.aload_n 0, 1) := by decide +kernel
theorem dX5_shake_28 : decode cX5_shake 28 = .ok (.iconst 2, 1) := by decide +kernel
theorem dX5_shake_29 : decode cX5_shake 29 = .ok (.invokevirtual 90, 3) := by decide +kernel
theorem dX5_shake_32 : decode cX5_shake 32 = .ok (.ireturn, 1) := by decide +kernel
theorem dX5_shake_33 : decode cX5_shake 33 = .ok (.aload_n 0, 1) := by decide +kernel
theorem dX5_shake_34 : decode cX5_shake 34 = .ok (.invokevirtual 93, 3) := by decide +kernel
theorem dX5_shake_37 : decode cX5_shake 37 = .ok (.aload_n 0, 1) := by decide +kernel
theorem dX5_shake_38 : decode cX5_shake 38 = .ok (.iload_n 1, 1) := by decide +kernel
theorem dX5_shake_39 : decode cX5_shake 39 = .ok (.invokevirtual 109, 3) := by decide +kernel
theorem dX5_shake_42 : decode cX5_shake 42 = .ok (.ireturn, 1) := by decide +kernel
set_option maxRecDepth 20000 in
theorem ggX5_pass_X5_in : GoodIn wsX5_pass wsX5_in := goodIn_r _ [5] (by decide +kernel) (by decide +kernel)
set_option maxRecDepth 20000 in
theorem gX5_pass_X5_in : GoodIn wsX5_pass (va_wsS RX5 29 yX5_in wsX5_in) := goodIn_app (goodIn_of _ (by decide +kernel)) ggX5_pass_X5_in
set_option maxRecDepth 20000 in
theorem ggX5_pass_X5_fails : GoodIn wsX5_pass wsX5_fails := goodIn_r _ [9, 1, 45, 46, 47, 48, 49, 50, 51, 52, 53, 54, 55, 56] (by decide +kernel) (by decide +kernel)
set_option maxRecDepth 20000 in
theorem gX5_pass_X5_fails : GoodIn wsX5_pass (wsV RX5 90 RX5 yX5_fails wsX5_fails) := goodIn_app (goodIn_of _ (by decide +kernel)) ggX5_pass_X5_fails
set_option maxRecDepth 20000 in
theorem ggX5_pass_X5_saves : GoodIn wsX5_pass wsX5_saves := goodIn_r _ [13, 14, 15, 16, 45, 46, 47, 48, 49, 50, 51, 52, 53, 54, 55, 56] (by decide +kernel) (by decide +kernel)
set_option maxRecDepth 20000 in
theorem gX5_pass_X5_saves : GoodIn wsX5_pass (wsV RX5 93 RX5 yX5_saves wsX5_saves) := goodIn_app (goodIn_of _ (by decide +kernel)) ggX5_pass_X5_saves
set_option maxRecDepth 20000 in
theorem ggX5_pass_X5_passes : GoodIn wsX5_pass wsX5_passes := goodIn_r _ [20, 21, 22, 23, 4, 24, 16, 25, 26, 27, 28, 29, 30, 31, 32, 33, 34, 35, 36, 37, 38, 39, 40, 41, 42, 43, 44, 45, 46, 47, 48, 49, 50, 51, 52, 53, 54, 55, 56] (by decide +kernel) (by decide +kernel)
set_option maxRecDepth 20000 in
theorem gX5_pass_X5_passes : GoodIn wsX5_pass (wsV RX5 112 RX5 yX5_passes wsX5_passes) := goodIn_app (goodIn_of _ (by decide +kernel)) ggX5_pass_X5_passes
theorem dX5_pass_0 : decode cX5_pass 0 = .ok (.aload_n 0, 1) := by decide +kernel
theorem dX5_pass_1 : decode cX5_pass 1 = .ok (.iconst 0, 1) := by decide +kernel
theorem dX5_pass_2 : decode cX5_pass 2 = .ok (.putfield 25, 3) := by decide +kernel
theorem dX5_pass_5 : decode cX5_pass 5 = .ok (.iload_n 1, 1) := by decide +kernel
theorem dX5_pass_6 : decode cX5_pass 6 = .ok (.iconst 1, 1) := by decide +kernel
theorem dX5_pass_7 : decode cX5_pass 7 = .ok (.bipush 30, 2) := by decide +kernel
theorem dX5_pass_9 : decode cX5_pass 9 = .ok (.invokestatic 29, 3) := by decide +kernel
theorem dX5_pass_12 : decode cX5_pass 12 = .ok (.ifCond .ne 9, 3) := by decide +kernel
theorem dX5_pass_15 : decode cX5_pass 15 = .ok (.aload_n 0, 1) := by decide +kernel
theorem dX5_pass_16 : decode cX5_pass 16 = .ok (.iconst 1, 1) := by decide +kernel
theorem dX5_pass_17 : decode cX5_pass 17 = .ok (.invokevirtual 90, 3) := by decide +kernel
theorem dX5_pass_20 : decode cX5_pass 20 = .ok (.ireturn, 1) := by decide +kernel
theorem dX5_pass_21 : decode cX5_pass 21 = .ok (.aload_n 0, 1) := by decide +kernel
theorem dX5_pass_22 : decode cX5_pass 22 = .ok (.invokevirtual 93, 3) := by decide +kernel
theorem dX5_pass_25 : decode cX5_pass 25 = .ok (.aload_n 0, 1) := by decide +kernel
theorem dX5_pass_26 : decode cX5_pass 26 = .ok (.iload_n 1, 1) := by decide +kernel
theorem dX5_pass_27 : decode cX5_pass 27 = .ok (.invokevirtual 112, 3) := by decide +kernel
theorem dX5_pass_30 : decode cX5_pass 30 = .ok (.ireturn, 1) := by decide +kernel
theorem dX5_leastOf_0 : decode cX5_leastOf 0 = .ok (.iload_n 0, 1) := by decide +kernel
theorem dX5_leastOf_1 : decode cX5_leastOf 1 = .ok (.iconst 1, 1) := by decide +kernel
theorem dX5_leastOf_2 : decode cX5_leastOf 2 = .ok (.if_icmp .ne 7, 3) := by decide +kernel
theorem dX5_leastOf_5 : decode cX5_leastOf 5 = .ok (.iconst 1, 1) := by decide +kernel
theorem dX5_leastOf_6 : decode cX5_leastOf 6 = .ok (.goto 13, 3) := by decide +kernel
theorem dX5_leastOf_9 : decode cX5_leastOf 9 = .ok (.iload_n 0, 1) := by decide +kernel
theorem dX5_leastOf_10 : decode cX5_leastOf 10 = .ok (.iconst 2, 1) := by decide +kernel
theorem dX5_leastOf_11 : decode cX5_leastOf 11 = .ok (.if_icmp .ne 7, 3) := by decide +kernel
theorem dX5_leastOf_14 : decode cX5_leastOf 14 = .ok (.iconst 5, 1) := by decide +kernel
theorem dX5_leastOf_15 : decode cX5_leastOf 15 = .ok (.goto 4, 3) := by decide +kernel
theorem dX5_leastOf_18 : decode cX5_leastOf 18 = .ok (.iconst 0, 1) := by decide +kernel
theorem dX5_leastOf_19 : decode cX5_leastOf 19 = .ok (.ireturn, 1) := by decide +kernel
theorem dX5_mostOf_0 : decode cX5_mostOf 0 = .ok (.iload_n 0, 1) := by decide +kernel
theorem dX5_mostOf_1 : decode cX5_mostOf 1 = .ok (.tableswitch 36 0 2 #[27, 30, 33], 27) := by decide +kernel
theorem dX5_mostOf_28 : decode cX5_mostOf 28 = .ok (.bipush 16, 2) := by decide +kernel
theorem dX5_mostOf_30 : decode cX5_mostOf 30 = .ok (.ireturn, 1) := by decide +kernel
theorem dX5_mostOf_31 : decode cX5_mostOf 31 = .ok (.bipush 20, 2) := by decide +kernel
theorem dX5_mostOf_33 : decode cX5_mostOf 33 = .ok (.ireturn, 1) := by decide +kernel
theorem dX5_mostOf_34 : decode cX5_mostOf 34 = .ok (.bipush 100, 2) := by decide +kernel
theorem dX5_mostOf_36 : decode cX5_mostOf 36 = .ok (.ireturn, 1) := by decide +kernel
theorem dX5_mostOf_37 : decode cX5_mostOf 37 = .ok (.sipush 900, 3) := by decide +kernel
theorem dX5_mostOf_40 : decode cX5_mostOf 40 = .ok (.ireturn, 1) := by decide +kernel
set_option maxRecDepth 20000 in
theorem ggX5_set_X5_in : GoodIn wsX5_set wsX5_in := goodIn_r _ [6] (by decide +kernel) (by decide +kernel)
set_option maxRecDepth 20000 in
theorem gX5_set_X5_in : GoodIn wsX5_set (va_wsS RX5 29 yX5_in wsX5_in) := goodIn_app (goodIn_of _ (by decide +kernel)) ggX5_set_X5_in
set_option maxRecDepth 20000 in
theorem ggX5_set_X5_fails : GoodIn wsX5_set wsX5_fails := goodIn_r _ [10, 1, 31, 32, 33, 34, 35, 36, 37, 38, 39, 40, 41, 42] (by decide +kernel) (by decide +kernel)
set_option maxRecDepth 20000 in
theorem gX5_set_X5_fails : GoodIn wsX5_set (wsV RX5 90 RX5 yX5_fails wsX5_fails) := goodIn_app (goodIn_of _ (by decide +kernel)) ggX5_set_X5_fails
set_option maxRecDepth 20000 in
theorem ggX5_set_X5_leastOf : GoodIn wsX5_set wsX5_leastOf := goodIn_r _ [13] (by decide +kernel) (by decide +kernel)
set_option maxRecDepth 20000 in
theorem gX5_set_X5_leastOf : GoodIn wsX5_set (va_wsS RX5 115 yX5_leastOf wsX5_leastOf) := goodIn_app (goodIn_of _ (by decide +kernel)) ggX5_set_X5_leastOf
set_option maxRecDepth 20000 in
theorem ggX5_set_X5_mostOf : GoodIn wsX5_set wsX5_mostOf := goodIn_r _ [16] (by decide +kernel) (by decide +kernel)
set_option maxRecDepth 20000 in
theorem gX5_set_X5_mostOf : GoodIn wsX5_set (va_wsS RX5 118 yX5_mostOf wsX5_mostOf) := goodIn_app (goodIn_of _ (by decide +kernel)) ggX5_set_X5_mostOf
set_option maxRecDepth 20000 in
theorem ggX5_set_X5_padsOn : GoodIn wsX5_set wsX5_padsOn := goodIn_r _ [20, 21, 22, 23, 5, 24, 2, 31, 32, 33, 34, 35, 36, 37, 38, 39, 40, 41, 42] (by decide +kernel) (by decide +kernel)
set_option maxRecDepth 20000 in
theorem gX5_set_X5_padsOn : GoodIn wsX5_set (wsV RX5 106 RX5 yX5_padsOn wsX5_padsOn) := goodIn_app (goodIn_of _ (by decide +kernel)) ggX5_set_X5_padsOn
set_option maxRecDepth 20000 in
theorem ggX5_set_X5_saves : GoodIn wsX5_set wsX5_saves := goodIn_r _ [28, 29, 30, 2, 31, 32, 33, 34, 35, 36, 37, 38, 39, 40, 41, 42] (by decide +kernel) (by decide +kernel)
set_option maxRecDepth 20000 in
theorem gX5_set_X5_saves : GoodIn wsX5_set (wsV RX5 93 RX5 yX5_saves wsX5_saves) := goodIn_app (goodIn_of _ (by decide +kernel)) ggX5_set_X5_saves
theorem dX5_set_0 : decode cX5_set 0 = .ok (.aload_n 0, 1) := by decide +kernel
theorem dX5_set_1 : decode cX5_set 1 = .ok (.iconst 0, 1) := by decide +kernel
theorem dX5_set_2 : decode cX5_set 2 = .ok (.putfield 25, 3) := by decide +kernel
theorem dX5_set_5 : decode cX5_set 5 = .ok (.iload_n 1, 1) := by decide +kernel
theorem dX5_set_6 : decode cX5_set 6 = .ok (.iconst 0, 1) := by decide +kernel
theorem dX5_set_7 : decode cX5_set 7 = .ok (.iconst 3, 1) := by decide +kernel
theorem dX5_set_8 : decode cX5_set 8 = .ok (.invokestatic 29, 3) := by decide +kernel
theorem dX5_set_11 : decode cX5_set 11 = .ok (.ifCond .ne 9, 3) := by decide +kernel
theorem dX5_set_14 : decode cX5_set 14 = .ok (.aload_n 0, 1) := by decide +kernel
theorem dX5_set_15 : decode cX5_set 15 = .ok (.iconst 1, 1) := by decide +kernel
theorem dX5_set_16 : decode cX5_set 16 = .ok (.invokevirtual 90, 3) := by decide +kernel
theorem dX5_set_19 : decode cX5_set 19 = .ok (.ireturn, 1) := by decide +kernel
theorem dX5_set_20 : decode cX5_set 20 = .ok (.iload_n 2, 1) := by decide +kernel
theorem dX5_set_21 : decode cX5_set 21 = .ok (.iload_n 1, 1) := by decide +kernel
theorem dX5_set_22 : decode cX5_set 22 = .ok (.invokestatic 115, 3) := by decide +kernel
theorem dX5_set_25 : decode cX5_set 25 = .ok (.iload_n 1, 1) := by decide +kernel
theorem dX5_set_26 : decode cX5_set 26 = .ok (.invokestatic 118, 3) := by decide +kernel
theorem dX5_set_29 : decode cX5_set 29 = .ok (.invokestatic 29, 3) := by decide +kernel
theorem dX5_set_32 : decode cX5_set 32 = .ok (.ifCond .ne 9, 3) := by decide +kernel
theorem dX5_set_35 : decode cX5_set 35 = .ok (.aload_n 0, 1) := by decide +kernel
theorem dX5_set_36 : decode cX5_set 36 = .ok (.iconst 2, 1) := by decide +kernel
theorem dX5_set_37 : decode cX5_set 37 = .ok (.invokevirtual 90, 3) := by decide +kernel
theorem dX5_set_40 : decode cX5_set 40 = .ok (.ireturn, 1) := by decide +kernel
theorem dX5_set_41 : decode cX5_set 41 = .ok (.iload_n 1, 1) := by decide +kernel
theorem dX5_set_42 : decode cX5_set 42 = .ok (.ifCond .ne 17, 3) := by decide +kernel
theorem dX5_set_45 : decode cX5_set 45 = .ok (.aload_n 0, 1) := by decide +kernel
theorem dX5_set_46 : decode cX5_set 46 = .ok (.invokevirtual 106, 3) := by decide +kernel
theorem dX5_set_49 : decode cX5_set 49 = .ok (.iload_n 2, 1) := by decide +kernel
theorem dX5_set_50 : decode cX5_set 50 = .ok (.if_icmp .le 9, 3) := by decide +kernel
theorem dX5_set_53 : decode cX5_set 53 = .ok (.aload_n 0, 1) := by decide +kernel
theorem dX5_set_54 : decode cX5_set 54 = .ok (.iconst 3, 1) := by decide +kernel
theorem dX5_set_55 : decode cX5_set 55 = .ok (.invokevirtual 90, 3) := by decide +kernel
theorem dX5_set_58 : decode cX5_set 58 = .ok (.ireturn, 1) := by decide +kernel
theorem dX5_set_59 : decode cX5_set 59 = .ok (.aload_n 0, 1) := by decide +kernel
theorem dX5_set_60 : decode cX5_set 60 = .ok (.invokevirtual 93, 3) := by decide +kernel
theorem dX5_set_63 : decode cX5_set 63 = .ok (.aload_n 0, 1) := by decide +kernel
theorem dX5_set_64 : decode cX5_set 64 = .ok (.getfield 7, 3) := by decide +kernel
theorem dX5_set_67 : decode cX5_set 67 = .ok (.bipush 6, 2) := by decide +kernel
theorem dX5_set_69 : decode cX5_set 69 = .ok (.iload_n 1, 1) := by decide +kernel
theorem dX5_set_70 : decode cX5_set 70 = .ok (.iadd, 1) := by decide +kernel
theorem dX5_set_71 : decode cX5_set 71 = .ok (.iaload, 1) := by decide +kernel
theorem dX5_set_72 : decode cX5_set 72 = .ok (.istore_n 3, 1) := by decide +kernel
theorem dX5_set_73 : decode cX5_set 73 = .ok (.aload_n 0, 1) := by decide +kernel
theorem dX5_set_74 : decode cX5_set 74 = .ok (.getfield 7, 3) := by decide +kernel
theorem dX5_set_77 : decode cX5_set 77 = .ok (.bipush 6, 2) := by decide +kernel
theorem dX5_set_79 : decode cX5_set 79 = .ok (.iload_n 1, 1) := by decide +kernel
theorem dX5_set_80 : decode cX5_set 80 = .ok (.iadd, 1) := by decide +kernel
theorem dX5_set_81 : decode cX5_set 81 = .ok (.iload_n 2, 1) := by decide +kernel
theorem dX5_set_82 : decode cX5_set 82 = .ok (.iastore, 1) := by decide +kernel
theorem dX5_set_83 : decode cX5_set 83 = .ok (.iload_n 3, 1) := by decide +kernel
theorem dX5_set_84 : decode cX5_set 84 = .ok (.ireturn, 1) := by decide +kernel
set_option maxRecDepth 20000 in
theorem ggX5_append_X5_in : GoodIn wsX5_append wsX5_in := goodIn_r _ [7] (by decide +kernel) (by decide +kernel)
set_option maxRecDepth 20000 in
theorem gX5_append_X5_in : GoodIn wsX5_append (va_wsS RX5 29 yX5_in wsX5_in) := goodIn_app (goodIn_of _ (by decide +kernel)) ggX5_append_X5_in
set_option maxRecDepth 20000 in
theorem ggX5_append_X5_fails : GoodIn wsX5_append wsX5_fails := goodIn_r _ [11, 1, 12, 13, 14, 15, 16, 17, 18, 19, 20, 21, 22, 23] (by decide +kernel) (by decide +kernel)
set_option maxRecDepth 20000 in
theorem gX5_append_X5_fails : GoodIn wsX5_append (wsV RX5 90 RX5 yX5_fails wsX5_fails) := goodIn_app (goodIn_of _ (by decide +kernel)) ggX5_append_X5_fails
theorem dX5_append_0 : decode cX5_append 0 = .ok (.aload_n 0, 1) := by decide +kernel
theorem dX5_append_1 : decode cX5_append 1 = .ok (.iconst 0, 1) := by decide +kernel
theorem dX5_append_2 : decode cX5_append 2 = .ok (.putfield 25, 3) := by decide +kernel
theorem dX5_append_5 : decode cX5_append 5 = .ok (.iload_n 1, 1) := by decide +kernel
theorem dX5_append_6 : decode cX5_append 6 = .ok (.bipush 33, 2) := by decide +kernel
theorem dX5_append_8 : decode cX5_append 8 = .ok (.bipush 126, 2) := by decide +kernel
theorem dX5_append_10 : decode cX5_append 10 = .ok (.invokestatic 29, 3) := by decide +kernel
theorem dX5_append_13 : decode cX5_append 13 = .ok (.ifCond .ne 9, 3) := by decide +kernel
theorem dX5_append_16 : decode cX5_append 16 = .ok (.aload_n 0, 1) := by decide +kernel
theorem dX5_append_17 : decode cX5_append 17 = .ok (.iconst 1, 1) := by decide +kernel
theorem dX5_append_18 : decode cX5_append 18 = .ok (.invokevirtual 90, 3) := by decide +kernel
theorem dX5_append_21 : decode cX5_append 21 = .ok (.ireturn, 1) := by decide +kernel
theorem dX5_append_22 : decode cX5_append 22 = .ok (.aload_n 0, 1) := by decide +kernel
theorem dX5_append_23 : decode cX5_append 23 = .ok (.getfield 121, 3) := by decide +kernel
theorem dX5_append_26 : decode cX5_append 26 = .ok (.bipush 60, 2) := by decide +kernel
theorem dX5_append_28 : decode cX5_append 28 = .ok (.if_icmp .ne 9, 3) := by decide +kernel
theorem dX5_append_31 : decode cX5_append 31 = .ok (.aload_n 0, 1) := by decide +kernel
theorem dX5_append_32 : decode cX5_append 32 = .ok (.iconst 2, 1) := by decide +kernel
theorem dX5_append_33 : decode cX5_append 33 = .ok (.invokevirtual 90, 3) := by decide +kernel
theorem dX5_append_36 : decode cX5_append 36 = .ok (.ireturn, 1) := by decide +kernel
theorem dX5_append_37 : decode cX5_append 37 = .ok (.aload_n 0, 1) := by decide +kernel
theorem dX5_append_38 : decode cX5_append 38 = .ok (.getfield 19, 3) := by decide +kernel
theorem dX5_append_41 : decode cX5_append 41 = .ok (.aload_n 0, 1) := by decide +kernel
theorem dX5_append_42 : decode cX5_append 42 = .ok (.getfield 121, 3) := by decide +kernel
theorem dX5_append_45 : decode cX5_append 45 = .ok (.iload_n 1, 1) := by decide +kernel
theorem dX5_append_46 : decode cX5_append 46 = .ok (.iastore, 1) := by decide +kernel
theorem dX5_append_47 : decode cX5_append 47 = .ok (.aload_n 0, 1) := by decide +kernel
theorem dX5_append_48 : decode cX5_append 48 = .ok (.dup, 1) := by decide +kernel
theorem dX5_append_49 : decode cX5_append 49 = .ok (.getfield 121, 3) := by decide +kernel
theorem dX5_append_52 : decode cX5_append 52 = .ok (.iconst 1, 1) := by decide +kernel
theorem dX5_append_53 : decode cX5_append 53 = .ok (.iadd, 1) := by decide +kernel
theorem dX5_append_54 : decode cX5_append 54 = .ok (.putfield 121, 3) := by decide +kernel
theorem dX5_append_57 : decode cX5_append 57 = .ok (.aload_n 0, 1) := by decide +kernel
theorem dX5_append_58 : decode cX5_append 58 = .ok (.getfield 121, 3) := by decide +kernel
theorem dX5_append_61 : decode cX5_append 61 = .ok (.ireturn, 1) := by decide +kernel
theorem dX5_clearBuffer_0 : decode cX5_clearBuffer 0 = .ok (.aload_n 0, 1) := by decide +kernel
theorem dX5_clearBuffer_1 : decode cX5_clearBuffer 1 = .ok (.iconst 0, 1) := by decide +kernel
theorem dX5_clearBuffer_2 : decode cX5_clearBuffer 2 = .ok (.putfield 25, 3) := by decide +kernel
theorem dX5_clearBuffer_5 : decode cX5_clearBuffer 5 = .ok (.aload_n 0, 1) := by decide +kernel
theorem dX5_clearBuffer_6 : decode cX5_clearBuffer 6 = .ok (.getfield 121, 3) := by decide +kernel
theorem dX5_clearBuffer_9 : decode cX5_clearBuffer 9 = .ok (.istore_n 1, 1) := by decide +kernel
theorem dX5_clearBuffer_10 : decode cX5_clearBuffer 10 = .ok (.aload_n 0, 1) := by decide +kernel
theorem dX5_clearBuffer_11 : decode cX5_clearBuffer 11 = .ok (.iconst 0, 1) := by decide +kernel
theorem dX5_clearBuffer_12 : decode cX5_clearBuffer 12 = .ok (.putfield 121, 3) := by decide +kernel
theorem dX5_clearBuffer_15 : decode cX5_clearBuffer 15 = .ok (.iload_n 1, 1) := by decide +kernel
theorem dX5_clearBuffer_16 : decode cX5_clearBuffer 16 = .ok (.ireturn, 1) := by decide +kernel
theorem dX5_sign_0 : decode cX5_sign 0 = .ok (.aload_n 0, 1) := by decide +kernel
theorem dX5_sign_1 : decode cX5_sign 1 = .ok (.getfield 124, 3) := by decide +kernel
theorem dX5_sign_4 : decode cX5_sign 4 = .ok (.aload_n 0, 1) := by decide +kernel
theorem dX5_sign_5 : decode cX5_sign 5 = .ok (.getfield 121, 3) := by decide +kernel
theorem dX5_sign_8 : decode cX5_sign 8 = .ok (.if_icmp .ge 15, 3) := by decide +kernel
theorem dX5_sign_11 : decode cX5_sign 11 = .ok (.aload_n 0, 1) := by decide +kernel
theorem dX5_sign_12 : decode cX5_sign 12 = .ok (.getfield 19, 3) := by decide +kernel
theorem dX5_sign_15 : decode cX5_sign 15 = .ok (.aload_n 0, 1) := by decide +kernel
theorem dX5_sign_16 : decode cX5_sign 16 = .ok (.getfield 124, 3) := by decide +kernel
theorem dX5_sign_19 : decode cX5_sign 19 = .ok (.iaload, 1) := by decide +kernel
theorem dX5_sign_20 : decode cX5_sign 20 = .ok (.goto 4, 3) := by decide +kernel
theorem dX5_sign_23 : decode cX5_sign 23 = .ok (.iconst 0, 1) := by decide +kernel
theorem dX5_sign_24 : decode cX5_sign 24 = .ok (.ireturn, 1) := by decide +kernel
set_option maxRecDepth 20000 in
theorem ggX5_takes_X5_sign : GoodIn wsX5_takes wsX5_sign := goodIn_r _ [7, 2, 8, 9, 13, 14, 15, 16, 17, 18, 19, 20, 21, 22, 23, 24] (by decide +kernel) (by decide +kernel)
set_option maxRecDepth 20000 in
theorem gX5_takes_X5_sign : GoodIn wsX5_takes (wsV RX5 131 RX5 yX5_sign wsX5_sign) := goodIn_app (goodIn_of _ (by decide +kernel)) ggX5_takes_X5_sign
set_option maxRecDepth 20000 in
theorem ggX5_takes_X5_in : GoodIn wsX5_takes wsX5_in := goodIn_r _ [12] (by decide +kernel) (by decide +kernel)
set_option maxRecDepth 20000 in
theorem gX5_takes_X5_in : GoodIn wsX5_takes (va_wsS RX5 29 yX5_in wsX5_in) := goodIn_app (goodIn_of _ (by decide +kernel)) ggX5_takes_X5_in
theorem dX5_takes_0 : decode cX5_takes 0 = .ok (.aload_n 0, 1) := by decide +kernel
theorem dX5_takes_1 : decode cX5_takes 1 = .ok (.aload_n 0, 1) := by decide +kernel
theorem dX5_takes_2 : decode cX5_takes 2 = .ok (.getfield 127, 3) := by decide +kernel
theorem dX5_takes_5 : decode cX5_takes 5 = .ok (.ifCond .eq 19, 3) := by decide +kernel
theorem dX5_takes_8 : decode cX5_takes 8 = .ok (.aload_n 0, 1) := by decide +kernel
theorem dX5_takes_9 : decode cX5_takes 9 = .ok (.invokevirtual 131, 3) := by decide +kernel
theorem dX5_takes_12 : decode cX5_takes 12 = .ok (.iload_n 1, 1) := by decide +kernel
theorem dX5_takes_13 : decode cX5_takes 13 = .ok (.iload_n 2, 1) := by decide +kernel
theorem dX5_takes_14 : decode cX5_takes 14 = .ok (.invokestatic 29, 3) := by decide +kernel
theorem dX5_takes_17 : decode cX5_takes 17 = .ok (.ifCond .eq 7, 3) := by decide +kernel
theorem dX5_takes_20 : decode cX5_takes 20 = .ok (.iconst 1, 1) := by decide +kernel
theorem dX5_takes_21 : decode cX5_takes 21 = .ok (.goto 4, 3) := by decide +kernel
theorem dX5_takes_24 : decode cX5_takes 24 = .ok (.iconst 0, 1) := by decide +kernel
theorem dX5_takes_25 : decode cX5_takes 25 = .ok (.putfield 127, 3) := by decide +kernel
theorem dX5_takes_28 : decode cX5_takes 28 = .ok (.aload_n 0, 1) := by decide +kernel
theorem dX5_takes_29 : decode cX5_takes 29 = .ok (.invokevirtual 131, 3) := by decide +kernel
theorem dX5_takes_32 : decode cX5_takes 32 = .ok (.istore_n 3, 1) := by decide +kernel
theorem dX5_takes_33 : decode cX5_takes 33 = .ok (.aload_n 0, 1) := by decide +kernel
theorem dX5_takes_34 : decode cX5_takes 34 = .ok (.dup, 1) := by decide +kernel
theorem dX5_takes_35 : decode cX5_takes 35 = .ok (.getfield 124, 3) := by decide +kernel
theorem dX5_takes_38 : decode cX5_takes 38 = .ok (.aload_n 0, 1) := by decide +kernel
theorem dX5_takes_39 : decode cX5_takes 39 = .ok (.getfield 127, 3) := by decide +kernel
theorem dX5_takes_42 : decode cX5_takes 42 = .ok (.ifCond .eq 7, 3) := by decide +kernel
theorem dX5_takes_45 : decode cX5_takes 45 = .ok (.iconst 1, 1) := by decide +kernel
theorem dX5_takes_46 : decode cX5_takes 46 = .ok (.goto 4, 3) := by decide +kernel
theorem dX5_takes_49 : decode cX5_takes 49 = .ok (.iconst 0, 1) := by decide +kernel
theorem dX5_takes_50 : decode cX5_takes 50 = .ok (.iadd, 1) := by decide +kernel
theorem dX5_takes_51 : decode cX5_takes 51 = .ok (.putfield 124, 3) := by decide +kernel
theorem dX5_takes_54 : decode cX5_takes 54 = .ok (.iload_n 3, 1) := by decide +kernel
theorem dX5_takes_55 : decode cX5_takes 55 = .ok (.ireturn, 1) := by decide +kernel
set_option maxRecDepth 20000 in
theorem ggX5_number_X5_takes : GoodIn wsX5_number wsX5_takes := goodIn_r _ [7, 1, 2, 8, 9, 10, 6, 11, 12, 13, 14, 15, 16, 17, 18, 19, 20, 21, 22, 23, 24, 25, 26, 27, 28] (by decide +kernel) (by decide +kernel)
set_option maxRecDepth 20000 in
theorem gX5_number_X5_takes : GoodIn wsX5_number (wsV RX5 134 RX5 yX5_takes wsX5_takes) := goodIn_app (goodIn_of _ (by decide +kernel)) ggX5_number_X5_takes
set_option maxRecDepth 20000 in
theorem ggX5_number_X5_sign : GoodIn wsX5_number wsX5_sign := goodIn_r _ [11, 2, 12, 13, 17, 18, 19, 20, 21, 22, 23, 24, 25, 26, 27, 28] (by decide +kernel) (by decide +kernel)
set_option maxRecDepth 20000 in
theorem gX5_number_X5_sign : GoodIn wsX5_number (wsV RX5 131 RX5 yX5_sign wsX5_sign) := goodIn_app (goodIn_of _ (by decide +kernel)) ggX5_number_X5_sign
set_option maxRecDepth 20000 in
theorem ggX5_number_X5_in : GoodIn wsX5_number wsX5_in := goodIn_r _ [16] (by decide +kernel) (by decide +kernel)
set_option maxRecDepth 20000 in
theorem gX5_number_X5_in : GoodIn wsX5_number (va_wsS RX5 29 yX5_in wsX5_in) := goodIn_app (goodIn_of _ (by decide +kernel)) ggX5_number_X5_in
theorem dX5_number_0 : decode cX5_number 0 = .ok (.aload_n 0, 1) := by decide +kernel
theorem dX5_number_1 : decode cX5_number 1 = .ok (.bipush 49, 2) := by decide +kernel
theorem dX5_number_3 : decode cX5_number 3 = .ok (.bipush 57, 2) := by decide +kernel
theorem dX5_number_5 : decode cX5_number 5 = .ok (.invokevirtual 134, 3) := by decide +kernel
theorem dX5_number_8 : decode cX5_number 8 = .ok (.bipush 48, 2) := by decide +kernel
theorem dX5_number_10 : decode cX5_number 10 = .ok (.isub, 1) := by decide +kernel
theorem dX5_number_11 : decode cX5_number 11 = .ok (.istore_n 2, 1) := by decide +kernel
theorem dX5_number_12 : decode cX5_number 12 = .ok (.aload_n 0, 1) := by decide +kernel
theorem dX5_number_13 : decode cX5_number 13 = .ok (.getfield 127, 3) := by decide +kernel
theorem dX5_number_16 : decode cX5_number 16 = .ok (.ifCond .eq 59, 3) := by decide +kernel
theorem dX5_number_19 : decode cX5_number 19 = .ok (.aload_n 0, 1) := by decide +kernel
theorem dX5_number_20 : decode cX5_number 20 = .ok (.invokevirtual 131, 3) := by decide +kernel
theorem dX5_number_23 : decode cX5_number 23 = .ok (.bipush 48, 2) := by decide +kernel
theorem dX5_number_25 : decode cX5_number 25 = .ok (.bipush 57, 2) := by decide +kernel
theorem dX5_number_27 : decode cX5_number 27 = .ok (.invokestatic 29, 3) := by decide +kernel
theorem dX5_number_30 : decode cX5_number 30 = .ok (.ifCond .eq 45, 3) := by decide +kernel
theorem dX5_number_33 : decode cX5_number 33 = .ok (.bipush 10, 2) := by decide +kernel
theorem dX5_number_35 : decode cX5_number 35 = .ok (.iload_n 2, 1) := by decide +kernel
theorem dX5_number_36 : decode cX5_number 36 = .ok (.imul, 1) := by decide +kernel
theorem dX5_number_37 : decode cX5_number 37 = .ok (.aload_n 0, 1) := by decide +kernel
theorem dX5_number_38 : decode cX5_number 38 = .ok (.invokevirtual 131, 3) := by decide +kernel
theorem dX5_number_41 : decode cX5_number 41 = .ok (.iadd, 1) := by decide +kernel
theorem dX5_number_42 : decode cX5_number 42 = .ok (.bipush 48, 2) := by decide +kernel
theorem dX5_number_44 : decode cX5_number 44 = .ok (.isub, 1) := by decide +kernel
theorem dX5_number_45 : decode cX5_number 45 = .ok (.iload_n 1, 1) := by decide +kernel
theorem dX5_number_46 : decode cX5_number 46 = .ok (.if_icmp .gt 29, 3) := by decide +kernel
theorem dX5_number_49 : decode cX5_number 49 = .ok (.bipush 10, 2) := by decide +kernel
theorem dX5_number_51 : decode cX5_number 51 = .ok (.iload_n 2, 1) := by decide +kernel
theorem dX5_number_52 : decode cX5_number 52 = .ok (.imul, 1) := by decide +kernel
theorem dX5_number_53 : decode cX5_number 53 = .ok (.aload_n 0, 1) := by decide +kernel
theorem dX5_number_54 : decode cX5_number 54 = .ok (.invokevirtual 131, 3) := by decide +kernel
theorem dX5_number_57 : decode cX5_number 57 = .ok (.iadd, 1) := by decide +kernel
theorem dX5_number_58 : decode cX5_number 58 = .ok (.bipush 48, 2) := by decide +kernel
theorem dX5_number_60 : decode cX5_number 60 = .ok (.isub, 1) := by decide +kernel
theorem dX5_number_61 : decode cX5_number 61 = .ok (.istore_n 2, 1) := by decide +kernel
theorem dX5_number_62 : decode cX5_number 62 = .ok (.aload_n 0, 1) := by decide +kernel
theorem dX5_number_63 : decode cX5_number 63 = .ok (.dup, 1) := by decide +kernel
theorem dX5_number_64 : decode cX5_number 64 = .ok (.getfield 124, 3) := by decide +kernel
theorem dX5_number_67 : decode cX5_number 67 = .ok (.iconst 1, 1) := by decide +kernel
theorem dX5_number_68 : decode cX5_number 68 = .ok (.iadd, 1) := by decide +kernel
theorem dX5_number_69 : decode cX5_number 69 = .ok (.putfield 124, 3) := by decide +kernel
theorem dX5_number_72 : decode cX5_number 72 = .ok (.goto (-60), 3) := by decide +kernel
theorem dX5_number_75 : decode cX5_number 75 = .ok (.iload_n 2, 1) := by decide +kernel
theorem dX5_number_76 : decode cX5_number 76 = .ok (.ireturn, 1) := by decide +kernel
set_option maxRecDepth 20000 in
theorem ggX5_readsPart_X5_sign : GoodIn wsX5_readsPart wsX5_sign := goodIn_r _ [8, 9, 10, 11, 23, 24, 25, 26, 27, 28, 29, 30, 31, 32, 33, 34] (by decide +kernel) (by decide +kernel)
set_option maxRecDepth 20000 in
theorem gX5_readsPart_X5_sign : GoodIn wsX5_readsPart (wsV RX5 131 RX5 yX5_sign wsX5_sign) := goodIn_app (goodIn_of _ (by decide +kernel)) ggX5_readsPart_X5_sign
set_option maxRecDepth 20000 in
theorem ggX5_readsPart_X5_takes : GoodIn wsX5_readsPart wsX5_takes := goodIn_r _ [15, 3, 9, 4, 5, 6, 7, 8, 10, 11, 16, 17, 18, 23, 24, 25, 26, 27, 28, 29, 30, 31, 32, 33, 34] (by decide +kernel) (by decide +kernel)
set_option maxRecDepth 20000 in
theorem gX5_readsPart_X5_takes : GoodIn wsX5_readsPart (wsV RX5 134 RX5 yX5_takes wsX5_takes) := goodIn_app (goodIn_of _ (by decide +kernel)) ggX5_readsPart_X5_takes
set_option maxRecDepth 20000 in
theorem ggX5_readsPart_X5_number : GoodIn wsX5_readsPart wsX5_number := goodIn_r _ [22, 3, 9, 12, 13, 14, 7, 15, 4, 5, 6, 8, 10, 11, 16, 17, 18, 23, 24, 25, 26, 27, 28, 29, 30, 31, 32, 33, 34] (by decide +kernel) (by decide +kernel)
set_option maxRecDepth 20000 in
theorem gX5_readsPart_X5_number : GoodIn wsX5_readsPart (wsV RX5 140 RX5 yX5_number wsX5_number) := goodIn_app (goodIn_of _ (by decide +kernel)) ggX5_readsPart_X5_number
theorem dX5_readsPart_0 : decode cX5_readsPart 0 = .ok (.iconst 4, 1) := by decide +kernel
theorem dX5_readsPart_1 : decode cX5_readsPart 1 = .ok (.aload_n 0, 1) := by decide +kernel
theorem dX5_readsPart_2 : decode cX5_readsPart 2 = .ok (.getfield 137, 3) := by decide +kernel
theorem dX5_readsPart_5 : decode cX5_readsPart 5 = .ok (.imul, 1) := by decide +kernel
theorem dX5_readsPart_6 : decode cX5_readsPart 6 = .ok (.istore_n 1, 1) := by decide +kernel
theorem dX5_readsPart_7 : decode cX5_readsPart 7 = .ok (.aload_n 0, 1) := by decide +kernel
theorem dX5_readsPart_8 : decode cX5_readsPart 8 = .ok (.invokevirtual 131, 3) := by decide +kernel
theorem dX5_readsPart_11 : decode cX5_readsPart 11 = .ok (.bipush 43, 2) := by decide +kernel
theorem dX5_readsPart_13 : decode cX5_readsPart 13 = .ok (.if_icmp .ne 52, 3) := by decide +kernel
theorem dX5_readsPart_16 : decode cX5_readsPart 16 = .ok (.aload_n 0, 1) := by decide +kernel
theorem dX5_readsPart_17 : decode cX5_readsPart 17 = .ok (.getfield 22, 3) := by decide +kernel
theorem dX5_readsPart_20 : decode cX5_readsPart 20 = .ok (.iload_n 1, 1) := by decide +kernel
theorem dX5_readsPart_21 : decode cX5_readsPart 21 = .ok (.aload_n 0, 1) := by decide +kernel
theorem dX5_readsPart_22 : decode cX5_readsPart 22 = .ok (.bipush 43, 2) := by decide +kernel
theorem dX5_readsPart_24 : decode cX5_readsPart 24 = .ok (.bipush 43, 2) := by decide +kernel
theorem dX5_readsPart_26 : decode cX5_readsPart 26 = .ok (.invokevirtual 134, 3) := by decide +kernel
theorem dX5_readsPart_29 : decode cX5_readsPart 29 = .ok (.iastore, 1) := by decide +kernel
theorem dX5_readsPart_30 : decode cX5_readsPart 30 = .ok (.aload_n 0, 1) := by decide +kernel
theorem dX5_readsPart_31 : decode cX5_readsPart 31 = .ok (.getfield 22, 3) := by decide +kernel
theorem dX5_readsPart_34 : decode cX5_readsPart 34 = .ok (.iload_n 1, 1) := by decide +kernel
theorem dX5_readsPart_35 : decode cX5_readsPart 35 = .ok (.iconst 1, 1) := by decide +kernel
theorem dX5_readsPart_36 : decode cX5_readsPart 36 = .ok (.iadd, 1) := by decide +kernel
theorem dX5_readsPart_37 : decode cX5_readsPart 37 = .ok (.aload_n 0, 1) := by decide +kernel
theorem dX5_readsPart_38 : decode cX5_readsPart 38 = .ok (.bipush 30, 2) := by decide +kernel
theorem dX5_readsPart_40 : decode cX5_readsPart 40 = .ok (.invokevirtual 140, 3) := by decide +kernel
theorem dX5_readsPart_43 : decode cX5_readsPart 43 = .ok (.iastore, 1) := by decide +kernel
theorem dX5_readsPart_44 : decode cX5_readsPart 44 = .ok (.aload_n 0, 1) := by decide +kernel
theorem dX5_readsPart_45 : decode cX5_readsPart 45 = .ok (.getfield 22, 3) := by decide +kernel
theorem dX5_readsPart_48 : decode cX5_readsPart 48 = .ok (.iload_n 1, 1) := by decide +kernel
theorem dX5_readsPart_49 : decode cX5_readsPart 49 = .ok (.iconst 2, 1) := by decide +kernel
theorem dX5_readsPart_50 : decode cX5_readsPart 50 = .ok (.iadd, 1) := by decide +kernel
theorem dX5_readsPart_51 : decode cX5_readsPart 51 = .ok (.iconst 0, 1) := by decide +kernel
theorem dX5_readsPart_52 : decode cX5_readsPart 52 = .ok (.iastore, 1) := by decide +kernel
theorem dX5_readsPart_53 : decode cX5_readsPart 53 = .ok (.aload_n 0, 1) := by decide +kernel
theorem dX5_readsPart_54 : decode cX5_readsPart 54 = .ok (.getfield 22, 3) := by decide +kernel
theorem dX5_readsPart_57 : decode cX5_readsPart 57 = .ok (.iload_n 1, 1) := by decide +kernel
theorem dX5_readsPart_58 : decode cX5_readsPart 58 = .ok (.iconst 3, 1) := by decide +kernel
theorem dX5_readsPart_59 : decode cX5_readsPart 59 = .ok (.iadd, 1) := by decide +kernel
theorem dX5_readsPart_60 : decode cX5_readsPart 60 = .ok (.iconst 0, 1) := by decide +kernel
theorem dX5_readsPart_61 : decode cX5_readsPart 61 = .ok (.iastore, 1) := by decide +kernel
theorem dX5_readsPart_62 : decode cX5_readsPart 62 = .ok (.goto 129, 3) := by decide +kernel
theorem dX5_readsPart_65 : decode cX5_readsPart 65 = .ok (.aload_n 0, 1) := by decide +kernel
theorem dX5_readsPart_66 : decode cX5_readsPart 66 = .ok (.getfield 22, 3) := by decide +kernel
theorem dX5_readsPart_69 : decode cX5_readsPart 69 = .ok (.iload_n 1, 1) := by decide +kernel
theorem dX5_readsPart_70 : decode cX5_readsPart 70 = .ok (.iconst 1, 1) := by decide +kernel
theorem dX5_readsPart_71 : decode cX5_readsPart 71 = .ok (.iadd, 1) := by decide +kernel
theorem dX5_readsPart_72 : decode cX5_readsPart 72 = .ok (.aload_n 0, 1) := by decide +kernel
theorem dX5_readsPart_73 : decode cX5_readsPart 73 = .ok (.bipush 48, 2) := by decide +kernel
theorem dX5_readsPart_75 : decode cX5_readsPart 75 = .ok (.bipush 51, 2) := by decide +kernel
theorem dX5_readsPart_77 : decode cX5_readsPart 77 = .ok (.invokevirtual 134, 3) := by decide +kernel
theorem dX5_readsPart_80 : decode cX5_readsPart 80 = .ok (.bipush 48, 2) := by decide +kernel
theorem dX5_readsPart_82 : decode cX5_readsPart 82 = .ok (.isub, 1) := by decide +kernel
theorem dX5_readsPart_83 : decode cX5_readsPart 83 = .ok (.iastore, 1) := by decide +kernel
theorem dX5_readsPart_84 : decode cX5_readsPart 84 = .ok (.aload_n 0, 1) := by decide +kernel
theorem dX5_readsPart_85 : decode cX5_readsPart 85 = .ok (.aload_n 0, 1) := by decide +kernel
theorem dX5_readsPart_86 : decode cX5_readsPart 86 = .ok (.getfield 127, 3) := by decide +kernel
theorem dX5_readsPart_89 : decode cX5_readsPart 89 = .ok (.ifCond .eq 25, 3) := by decide +kernel
theorem dX5_readsPart_92 : decode cX5_readsPart 92 = .ok (.aload_n 0, 1) := by decide +kernel
theorem dX5_readsPart_93 : decode cX5_readsPart 93 = .ok (.invokevirtual 131, 3) := by decide +kernel
theorem dX5_readsPart_96 : decode cX5_readsPart 96 = .ok (.bipush 60, 2) := by decide +kernel
theorem dX5_readsPart_98 : decode cX5_readsPart 98 = .ok (.if_icmp .eq 12, 3) := by decide +kernel
theorem dX5_readsPart_101 : decode cX5_readsPart 101 = .ok (.aload_n 0, 1) := by decide +kernel
theorem dX5_readsPart_102 : decode cX5_readsPart 102 = .ok (.invokevirtual 131, 3) := by decide +kernel
theorem dX5_readsPart_105 : decode cX5_readsPart 105 = .ok (.bipush 62, 2) := by decide +kernel
theorem dX5_readsPart_107 : decode cX5_readsPart 107 = .ok (.if_icmp .ne 7, 3) := by decide +kernel
theorem dX5_readsPart_110 : decode cX5_readsPart 110 = .ok (.iconst 1, 1) := by decide +kernel
theorem dX5_readsPart_111 : decode cX5_readsPart 111 = .ok (.goto 4, 3) := by decide +kernel
theorem dX5_readsPart_114 : decode cX5_readsPart 114 = .ok (.iconst 0, 1) := by decide +kernel
theorem dX5_readsPart_115 : decode cX5_readsPart 115 = .ok (.putfield 127, 3) := by decide +kernel
theorem dX5_readsPart_118 : decode cX5_readsPart 118 = .ok (.aload_n 0, 1) := by decide +kernel
theorem dX5_readsPart_119 : decode cX5_readsPart 119 = .ok (.getfield 22, 3) := by decide +kernel
theorem dX5_readsPart_122 : decode cX5_readsPart 122 = .ok (.iload_n 1, 1) := by decide +kernel
theorem dX5_readsPart_123 : decode cX5_readsPart 123 = .ok (.aload_n 0, 1) := by decide +kernel
theorem dX5_readsPart_124 : decode cX5_readsPart 124 = .ok (.bipush 60, 2) := by decide +kernel
theorem dX5_readsPart_126 : decode cX5_readsPart 126 = .ok (.bipush 62, 2) := by decide +kernel
theorem dX5_readsPart_128 : decode cX5_readsPart 128 = .ok (.invokevirtual 134, 3) := by decide +kernel
theorem dX5_readsPart_131 : decode cX5_readsPart 131 = .ok (.iastore, 1) := by decide +kernel
theorem dX5_readsPart_132 : decode cX5_readsPart 132 = .ok (.aload_n 0, 1) := by decide +kernel
theorem dX5_readsPart_133 : decode cX5_readsPart 133 = .ok (.getfield 22, 3) := by decide +kernel
theorem dX5_readsPart_136 : decode cX5_readsPart 136 = .ok (.iload_n 1, 1) := by decide +kernel
theorem dX5_readsPart_137 : decode cX5_readsPart 137 = .ok (.iconst 2, 1) := by decide +kernel
theorem dX5_readsPart_138 : decode cX5_readsPart 138 = .ok (.iadd, 1) := by decide +kernel
theorem dX5_readsPart_139 : decode cX5_readsPart 139 = .ok (.aload_n 0, 1) := by decide +kernel
theorem dX5_readsPart_140 : decode cX5_readsPart 140 = .ok (.bipush 48, 2) := by decide +kernel
theorem dX5_readsPart_142 : decode cX5_readsPart 142 = .ok (.bipush 53, 2) := by decide +kernel
theorem dX5_readsPart_144 : decode cX5_readsPart 144 = .ok (.invokevirtual 134, 3) := by decide +kernel
theorem dX5_readsPart_147 : decode cX5_readsPart 147 = .ok (.bipush 48, 2) := by decide +kernel
theorem dX5_readsPart_149 : decode cX5_readsPart 149 = .ok (.isub, 1) := by decide +kernel
theorem dX5_readsPart_150 : decode cX5_readsPart 150 = .ok (.iastore, 1) := by decide +kernel
theorem dX5_readsPart_151 : decode cX5_readsPart 151 = .ok (.aload_n 0, 1) := by decide +kernel
theorem dX5_readsPart_152 : decode cX5_readsPart 152 = .ok (.bipush 58, 2) := by decide +kernel
theorem dX5_readsPart_154 : decode cX5_readsPart 154 = .ok (.bipush 58, 2) := by decide +kernel
theorem dX5_readsPart_156 : decode cX5_readsPart 156 = .ok (.invokevirtual 134, 3) := by decide +kernel
theorem dX5_readsPart_159 : decode cX5_readsPart 159 = .ok (.pop, 1) := by decide +kernel
theorem dX5_readsPart_160 : decode cX5_readsPart 160 = .ok (.aload_n 0, 1) := by decide +kernel
theorem dX5_readsPart_161 : decode cX5_readsPart 161 = .ok (.getfield 22, 3) := by decide +kernel
theorem dX5_readsPart_164 : decode cX5_readsPart 164 = .ok (.iload_n 1, 1) := by decide +kernel
theorem dX5_readsPart_165 : decode cX5_readsPart 165 = .ok (.iconst 3, 1) := by decide +kernel
theorem dX5_readsPart_166 : decode cX5_readsPart 166 = .ok (.iadd, 1) := by decide +kernel
theorem dX5_readsPart_167 : decode cX5_readsPart 167 = .ok (.aload_n 0, 1) := by decide +kernel
theorem dX5_readsPart_168 : decode cX5_readsPart 168 = .ok (.aload_n 0, 1) := by decide +kernel
theorem dX5_readsPart_169 : decode cX5_readsPart 169 = .ok (.getfield 22, 3) := by decide +kernel
theorem dX5_readsPart_172 : decode cX5_readsPart 172 = .ok (.iload_n 1, 1) := by decide +kernel
theorem dX5_readsPart_173 : decode cX5_readsPart 173 = .ok (.iaload, 1) := by decide +kernel
theorem dX5_readsPart_174 : decode cX5_readsPart 174 = .ok (.bipush 60, 2) := by decide +kernel
theorem dX5_readsPart_176 : decode cX5_readsPart 176 = .ok (.if_icmp .ne 9, 3) := by decide +kernel
theorem dX5_readsPart_179 : decode cX5_readsPart 179 = .ok (.sipush 500, 3) := by decide +kernel
theorem dX5_readsPart_182 : decode cX5_readsPart 182 = .ok (.goto 5, 3) := by decide +kernel
theorem dX5_readsPart_185 : decode cX5_readsPart 185 = .ok (.bipush 24, 2) := by decide +kernel
theorem dX5_readsPart_187 : decode cX5_readsPart 187 = .ok (.invokevirtual 140, 3) := by decide +kernel
theorem dX5_readsPart_190 : decode cX5_readsPart 190 = .ok (.iastore, 1) := by decide +kernel
theorem dX5_readsPart_191 : decode cX5_readsPart 191 = .ok (.aload_n 0, 1) := by decide +kernel
theorem dX5_readsPart_192 : decode cX5_readsPart 192 = .ok (.dup, 1) := by decide +kernel
theorem dX5_readsPart_193 : decode cX5_readsPart 193 = .ok (.getfield 137, 3) := by decide +kernel
theorem dX5_readsPart_196 : decode cX5_readsPart 196 = .ok (.aload_n 0, 1) := by decide +kernel
theorem dX5_readsPart_197 : decode cX5_readsPart 197 = .ok (.getfield 127, 3) := by decide +kernel
theorem dX5_readsPart_200 : decode cX5_readsPart 200 = .ok (.ifCond .eq 7, 3) := by decide +kernel
theorem dX5_readsPart_203 : decode cX5_readsPart 203 = .ok (.iconst 1, 1) := by decide +kernel
theorem dX5_readsPart_204 : decode cX5_readsPart 204 = .ok (.goto 4, 3) := by decide +kernel
theorem dX5_readsPart_207 : decode cX5_readsPart 207 = .ok (.iconst 0, 1) := by decide +kernel
theorem dX5_readsPart_208 : decode cX5_readsPart 208 = .ok (.iadd, 1) := by decide +kernel
theorem dX5_readsPart_209 : decode cX5_readsPart 209 = .ok (.putfield 137, 3) := by decide +kernel
theorem dX5_readsPart_212 : decode cX5_readsPart 212 = .ok (.return_, 1) := by decide +kernel
set_option maxRecDepth 20000 in
theorem ggX5_readsAll_X5_readsPart : GoodIn wsX5_readsAll wsX5_readsPart := goodIn_r _ [9, 3, 10, 2, 11, 12, 13, 8, 14, 1, 4, 15, 16, 17, 18, 19, 20, 21, 22, 23, 24, 25, 26, 27, 28, 29, 30, 31, 32, 33, 34, 35, 36, 37, 38] (by decide +kernel) (by decide +kernel)
set_option maxRecDepth 20000 in
theorem gX5_readsAll_X5_readsPart : GoodIn wsX5_readsAll (wsV RX5 143 RX5 yX5_readsPart wsX5_readsPart) := goodIn_app (goodIn_of _ (by decide +kernel)) ggX5_readsAll_X5_readsPart
set_option maxRecDepth 20000 in
theorem ggX5_readsAll_X5_takes : GoodIn wsX5_readsAll wsX5_takes := goodIn_r _ [19, 2, 1, 11, 12, 13, 8, 14, 4, 15, 20, 21, 22, 27, 28, 29, 30, 31, 32, 33, 34, 35, 36, 37, 38] (by decide +kernel) (by decide +kernel)
set_option maxRecDepth 20000 in
theorem gX5_readsAll_X5_takes : GoodIn wsX5_readsAll (wsV RX5 134 RX5 yX5_takes wsX5_takes) := goodIn_app (goodIn_of _ (by decide +kernel)) ggX5_readsAll_X5_takes
theorem dX5_readsAll_0 : decode cX5_readsAll 0 = .ok (.aload_n 0, 1) := by decide +kernel
theorem dX5_readsAll_1 : decode cX5_readsAll 1 = .ok (.iconst 0, 1) := by decide +kernel
theorem dX5_readsAll_2 : decode cX5_readsAll 2 = .ok (.putfield 124, 3) := by decide +kernel
theorem dX5_readsAll_5 : decode cX5_readsAll 5 = .ok (.aload_n 0, 1) := by decide +kernel
theorem dX5_readsAll_6 : decode cX5_readsAll 6 = .ok (.iconst 1, 1) := by decide +kernel
theorem dX5_readsAll_7 : decode cX5_readsAll 7 = .ok (.putfield 127, 3) := by decide +kernel
theorem dX5_readsAll_10 : decode cX5_readsAll 10 = .ok (.aload_n 0, 1) := by decide +kernel
theorem dX5_readsAll_11 : decode cX5_readsAll 11 = .ok (.iconst 0, 1) := by decide +kernel
theorem dX5_readsAll_12 : decode cX5_readsAll 12 = .ok (.putfield 137, 3) := by decide +kernel
theorem dX5_readsAll_15 : decode cX5_readsAll 15 = .ok (.aload_n 0, 1) := by decide +kernel
theorem dX5_readsAll_16 : decode cX5_readsAll 16 = .ok (.invokevirtual 143, 3) := by decide +kernel
theorem dX5_readsAll_19 : decode cX5_readsAll 19 = .ok (.aload_n 0, 1) := by decide +kernel
theorem dX5_readsAll_20 : decode cX5_readsAll 20 = .ok (.getfield 127, 3) := by decide +kernel
theorem dX5_readsAll_23 : decode cX5_readsAll 23 = .ok (.ifCond .eq 37, 3) := by decide +kernel
theorem dX5_readsAll_26 : decode cX5_readsAll 26 = .ok (.aload_n 0, 1) := by decide +kernel
theorem dX5_readsAll_27 : decode cX5_readsAll 27 = .ok (.getfield 124, 3) := by decide +kernel
theorem dX5_readsAll_30 : decode cX5_readsAll 30 = .ok (.aload_n 0, 1) := by decide +kernel
theorem dX5_readsAll_31 : decode cX5_readsAll 31 = .ok (.getfield 121, 3) := by decide +kernel
theorem dX5_readsAll_34 : decode cX5_readsAll 34 = .ok (.if_icmp .ge 26, 3) := by decide +kernel
theorem dX5_readsAll_37 : decode cX5_readsAll 37 = .ok (.aload_n 0, 1) := by decide +kernel
theorem dX5_readsAll_38 : decode cX5_readsAll 38 = .ok (.bipush 59, 2) := by decide +kernel
theorem dX5_readsAll_40 : decode cX5_readsAll 40 = .ok (.bipush 59, 2) := by decide +kernel
theorem dX5_readsAll_42 : decode cX5_readsAll 42 = .ok (.invokevirtual 134, 3) := by decide +kernel
theorem dX5_readsAll_45 : decode cX5_readsAll 45 = .ok (.pop, 1) := by decide +kernel
theorem dX5_readsAll_46 : decode cX5_readsAll 46 = .ok (.aload_n 0, 1) := by decide +kernel
theorem dX5_readsAll_47 : decode cX5_readsAll 47 = .ok (.getfield 127, 3) := by decide +kernel
theorem dX5_readsAll_50 : decode cX5_readsAll 50 = .ok (.ifCond .eq (-31), 3) := by decide +kernel
theorem dX5_readsAll_53 : decode cX5_readsAll 53 = .ok (.aload_n 0, 1) := by decide +kernel
theorem dX5_readsAll_54 : decode cX5_readsAll 54 = .ok (.invokevirtual 143, 3) := by decide +kernel
theorem dX5_readsAll_57 : decode cX5_readsAll 57 = .ok (.goto (-38), 3) := by decide +kernel
theorem dX5_readsAll_60 : decode cX5_readsAll 60 = .ok (.return_, 1) := by decide +kernel
set_option maxRecDepth 20000 in
theorem ggX5_firstError_X5_readsAll : GoodIn wsX5_firstError wsX5_readsAll := goodIn_r _ [7, 2, 8, 9, 10, 11, 12, 13, 6, 14, 15, 16, 17, 18, 19, 20, 21, 22, 23, 24, 25, 26, 27, 28, 29, 30, 31, 32, 33, 34, 35, 36, 37, 38, 39, 40, 41, 42, 43] (by decide +kernel) (by decide +kernel)
set_option maxRecDepth 20000 in
theorem gX5_firstError_X5_readsAll : GoodIn wsX5_firstError (wsV RX5 146 RX5 yX5_readsAll wsX5_readsAll) := goodIn_app (goodIn_of _ (by decide +kernel)) ggX5_firstError_X5_readsAll
theorem dX5_firstError_0 : decode cX5_firstError 0 = .ok (.aload_n 0, 1) := by decide +kernel
theorem dX5_firstError_1 : decode cX5_firstError 1 = .ok (.iconst 0, 1) := by decide +kernel
theorem dX5_firstError_2 : decode cX5_firstError 2 = .ok (.putfield 25, 3) := by decide +kernel
theorem dX5_firstError_5 : decode cX5_firstError 5 = .ok (.aload_n 0, 1) := by decide +kernel
theorem dX5_firstError_6 : decode cX5_firstError 6 = .ok (.invokevirtual 146, 3) := by decide +kernel
theorem dX5_firstError_9 : decode cX5_firstError 9 = .ok (.aload_n 0, 1) := by decide +kernel
theorem dX5_firstError_10 : decode cX5_firstError 10 = .ok (.getfield 124, 3) := by decide +kernel
theorem dX5_firstError_13 : decode cX5_firstError 13 = .ok (.ireturn, 1) := by decide +kernel
set_option maxRecDepth 20000 in
theorem ggX5_plays_X5_unloads : GoodIn wsX5_plays wsX5_unloads := goodIn_r _ [6, 7, 8, 9, 5, 10, 11, 12, 13, 14, 15, 16, 17, 18, 19, 20, 21, 22, 23, 24, 25, 26, 27, 28, 29, 30, 31, 32, 33, 34, 71, 72, 73, 74, 75, 76, 77, 78, 79, 80, 81, 82] (by decide +kernel) (by decide +kernel)
set_option maxRecDepth 20000 in
theorem gX5_plays_X5_unloads : GoodIn wsX5_plays (wsV RX5 99 RX5 yX5_unloads wsX5_unloads) := goodIn_app (goodIn_of _ (by decide +kernel)) ggX5_plays_X5_unloads
set_option maxRecDepth 20000 in
theorem ggX5_plays_X5_flowsAll : GoodIn wsX5_plays wsX5_flowsAll := goodIn_r _ [38, 39, 40, 41, 5, 42, 7, 19, 20, 21, 22, 43, 44, 45, 46, 47, 48, 49, 50, 27, 28, 29, 30, 23, 24, 25, 26, 8, 9, 10, 51, 52, 53, 54, 31, 32, 33, 34, 55, 56, 57, 58, 71, 72, 73, 74, 75, 76, 77, 78, 79, 80, 81, 82] (by decide +kernel) (by decide +kernel)
set_option maxRecDepth 20000 in
theorem gX5_plays_X5_flowsAll : GoodIn wsX5_plays (wsV RX5 103 RX5 yX5_flowsAll wsX5_flowsAll) := goodIn_app (goodIn_of _ (by decide +kernel)) ggX5_plays_X5_flowsAll
set_option maxRecDepth 20000 in
theorem ggX5_plays_X5_passes : GoodIn wsX5_plays wsX5_passes := goodIn_r _ [62, 63, 64, 65, 5, 66, 7, 19, 20, 21, 22, 27, 28, 29, 30, 31, 32, 33, 34, 67, 68, 69, 70, 47, 48, 49, 50, 71, 72, 73, 74, 75, 76, 77, 78, 79, 80, 81, 82] (by decide +kernel) (by decide +kernel)
set_option maxRecDepth 20000 in
theorem gX5_plays_X5_passes : GoodIn wsX5_plays (wsV RX5 112 RX5 yX5_passes wsX5_passes) := goodIn_app (goodIn_of _ (by decide +kernel)) ggX5_plays_X5_passes
theorem dX5_plays_0 : decode cX5_plays 0 = .ok (.aload_n 0, 1) := by decide +kernel
theorem dX5_plays_1 : decode cX5_plays 1 = .ok (.getfield 22, 3) := by decide +kernel
theorem dX5_plays_4 : decode cX5_plays 4 = .ok (.iload_n 1, 1) := by decide +kernel
theorem dX5_plays_5 : decode cX5_plays 5 = .ok (.iaload, 1) := by decide +kernel
theorem dX5_plays_6 : decode cX5_plays 6 = .ok (.lookupswitch 84 #[(60, 26), (62, 55)], 26) := by decide +kernel
theorem dX5_plays_32 : decode cX5_plays 32 = .ok (.aload_n 0, 1) := by decide +kernel
theorem dX5_plays_33 : decode cX5_plays 33 = .ok (.aload_n 0, 1) := by decide +kernel
theorem dX5_plays_34 : decode cX5_plays 34 = .ok (.getfield 22, 3) := by decide +kernel
theorem dX5_plays_37 : decode cX5_plays 37 = .ok (.iload_n 1, 1) := by decide +kernel
theorem dX5_plays_38 : decode cX5_plays 38 = .ok (.iconst 1, 1) := by decide +kernel
theorem dX5_plays_39 : decode cX5_plays 39 = .ok (.iadd, 1) := by decide +kernel
theorem dX5_plays_40 : decode cX5_plays 40 = .ok (.iaload, 1) := by decide +kernel
theorem dX5_plays_41 : decode cX5_plays 41 = .ok (.aload_n 0, 1) := by decide +kernel
theorem dX5_plays_42 : decode cX5_plays 42 = .ok (.getfield 22, 3) := by decide +kernel
theorem dX5_plays_45 : decode cX5_plays 45 = .ok (.iload_n 1, 1) := by decide +kernel
theorem dX5_plays_46 : decode cX5_plays 46 = .ok (.iconst 2, 1) := by decide +kernel
theorem dX5_plays_47 : decode cX5_plays 47 = .ok (.iadd, 1) := by decide +kernel
theorem dX5_plays_48 : decode cX5_plays 48 = .ok (.iaload, 1) := by decide +kernel
theorem dX5_plays_49 : decode cX5_plays 49 = .ok (.aload_n 0, 1) := by decide +kernel
theorem dX5_plays_50 : decode cX5_plays 50 = .ok (.getfield 22, 3) := by decide +kernel
theorem dX5_plays_53 : decode cX5_plays 53 = .ok (.iload_n 1, 1) := by decide +kernel
theorem dX5_plays_54 : decode cX5_plays 54 = .ok (.iconst 3, 1) := by decide +kernel
theorem dX5_plays_55 : decode cX5_plays 55 = .ok (.iadd, 1) := by decide +kernel
theorem dX5_plays_56 : decode cX5_plays 56 = .ok (.iaload, 1) := by decide +kernel
theorem dX5_plays_57 : decode cX5_plays 57 = .ok (.invokevirtual 99, 3) := by decide +kernel
theorem dX5_plays_60 : decode cX5_plays 60 = .ok (.ireturn, 1) := by decide +kernel
theorem dX5_plays_61 : decode cX5_plays 61 = .ok (.aload_n 0, 1) := by decide +kernel
theorem dX5_plays_62 : decode cX5_plays 62 = .ok (.aload_n 0, 1) := by decide +kernel
theorem dX5_plays_63 : decode cX5_plays 63 = .ok (.getfield 22, 3) := by decide +kernel
theorem dX5_plays_66 : decode cX5_plays 66 = .ok (.iload_n 1, 1) := by decide +kernel
theorem dX5_plays_67 : decode cX5_plays 67 = .ok (.iconst 1, 1) := by decide +kernel
theorem dX5_plays_68 : decode cX5_plays 68 = .ok (.iadd, 1) := by decide +kernel
theorem dX5_plays_69 : decode cX5_plays 69 = .ok (.iaload, 1) := by decide +kernel
theorem dX5_plays_70 : decode cX5_plays 70 = .ok (.aload_n 0, 1) := by decide +kernel
theorem dX5_plays_71 : decode cX5_plays 71 = .ok (.getfield 22, 3) := by decide +kernel
theorem dX5_plays_74 : decode cX5_plays 74 = .ok (.iload_n 1, 1) := by decide +kernel
theorem dX5_plays_75 : decode cX5_plays 75 = .ok (.iconst 2, 1) := by decide +kernel
theorem dX5_plays_76 : decode cX5_plays 76 = .ok (.iadd, 1) := by decide +kernel
theorem dX5_plays_77 : decode cX5_plays 77 = .ok (.iaload, 1) := by decide +kernel
theorem dX5_plays_78 : decode cX5_plays 78 = .ok (.aload_n 0, 1) := by decide +kernel
theorem dX5_plays_79 : decode cX5_plays 79 = .ok (.getfield 22, 3) := by decide +kernel
theorem dX5_plays_82 : decode cX5_plays 82 = .ok (.iload_n 1, 1) := by decide +kernel
theorem dX5_plays_83 : decode cX5_plays 83 = .ok (.iconst 3, 1) := by decide +kernel
theorem dX5_plays_84 : decode cX5_plays 84 = .ok (.iadd, 1) := by decide +kernel
theorem dX5_plays_85 : decode cX5_plays 85 = .ok (.iaload, 1) := by decide +kernel
theorem dX5_plays_86 : decode cX5_plays 86 = .ok (.invokevirtual 103, 3) := by decide +kernel
theorem dX5_plays_89 : decode cX5_plays 89 = .ok (.ireturn, 1) := by decide +kernel
theorem dX5_plays_90 : decode cX5_plays 90 = .ok (.aload_n 0, 1) := by decide +kernel
theorem dX5_plays_91 : decode cX5_plays 91 = .ok (.aload_n 0, 1) := by decide +kernel
theorem dX5_plays_92 : decode cX5_plays 92 = .ok (.getfield 22, 3) := by decide +kernel
theorem dX5_plays_95 : decode cX5_plays 95 = .ok (.iload_n 1, 1) := by decide +kernel
theorem dX5_plays_96 : decode cX5_plays 96 = .ok (.iconst 1, 1) := by decide +kernel
theorem dX5_plays_97 : decode cX5_plays 97 = .ok (.iadd, 1) := by decide +kernel
theorem dX5_plays_98 : decode cX5_plays 98 = .ok (.iaload, 1) := by decide +kernel
theorem dX5_plays_99 : decode cX5_plays 99 = .ok (.invokevirtual 112, 3) := by decide +kernel
theorem dX5_plays_102 : decode cX5_plays 102 = .ok (.pop, 1) := by decide +kernel
theorem dX5_plays_103 : decode cX5_plays 103 = .ok (.iconst 0, 1) := by decide +kernel
theorem dX5_plays_104 : decode cX5_plays 104 = .ok (.ireturn, 1) := by decide +kernel
set_option maxRecDepth 20000 in
theorem ggX5_play_X5_readsAll : GoodIn wsX5_play wsX5_readsAll := goodIn_r _ [9, 10, 2, 4, 3, 11, 12, 13, 8, 14, 15, 16, 17, 18, 19, 20, 21, 22, 23, 24, 25, 26, 27, 28, 29, 30, 31, 114, 115, 116, 117, 118, 119, 120, 121, 122, 123, 124, 125] (by decide +kernel) (by decide +kernel)
set_option maxRecDepth 20000 in
theorem gX5_play_X5_readsAll : GoodIn wsX5_play (wsV RX5 146 RX5 yX5_readsAll wsX5_readsAll) := goodIn_app (goodIn_of _ (by decide +kernel)) ggX5_play_X5_readsAll
set_option maxRecDepth 20000 in
theorem ggX5_play_X5_fails : GoodIn wsX5_play wsX5_fails := goodIn_r _ [35, 1, 114, 115, 116, 117, 118, 119, 120, 121, 122, 123, 124, 125] (by decide +kernel) (by decide +kernel)
set_option maxRecDepth 20000 in
theorem gX5_play_X5_fails : GoodIn wsX5_play (wsV RX5 90 RX5 yX5_fails wsX5_fails) := goodIn_app (goodIn_of _ (by decide +kernel)) ggX5_play_X5_fails
set_option maxRecDepth 20000 in
theorem ggX5_play_X5_saves : GoodIn wsX5_play wsX5_saves := goodIn_r _ [39, 40, 41, 42, 114, 115, 116, 117, 118, 119, 120, 121, 122, 123, 124, 125] (by decide +kernel) (by decide +kernel)
set_option maxRecDepth 20000 in
theorem gX5_play_X5_saves : GoodIn wsX5_play (wsV RX5 93 RX5 yX5_saves wsX5_saves) := goodIn_app (goodIn_of _ (by decide +kernel)) ggX5_play_X5_saves
set_option maxRecDepth 20000 in
theorem ggX5_play_X5_plays : GoodIn wsX5_play wsX5_plays := goodIn_r _ [46, 15, 47, 48, 49, 8, 50, 42, 51, 52, 53, 54, 55, 56, 57, 58, 59, 60, 61, 62, 63, 64, 65, 66, 67, 68, 69, 70, 71, 72, 73, 74, 75, 76, 77, 78, 79, 80, 81, 82, 83, 84, 85, 86, 87, 88, 89, 90, 91, 92, 93, 94, 95, 96, 97, 98, 99, 100, 101, 102, 103, 104, 105, 106, 107, 108, 109, 110, 111, 112, 113, 114, 115, 116, 117, 118, 119, 120, 121, 122, 123, 124, 125] (by decide +kernel) (by decide +kernel)
set_option maxRecDepth 20000 in
theorem gX5_play_X5_plays : GoodIn wsX5_play (wsV RX5 149 RX5 yX5_plays wsX5_plays) := goodIn_app (goodIn_of _ (by decide +kernel)) ggX5_play_X5_plays
theorem dX5_play_0 : decode cX5_play 0 = .ok (.aload_n 0, 1) := by decide +kernel
theorem dX5_play_1 : decode cX5_play 1 = .ok (.iconst 0, 1) := by decide +kernel
theorem dX5_play_2 : decode cX5_play 2 = .ok (.putfield 25, 3) := by decide +kernel
theorem dX5_play_5 : decode cX5_play 5 = .ok (.aload_n 0, 1) := by decide +kernel
theorem dX5_play_6 : decode cX5_play 6 = .ok (.invokevirtual 146, 3) := by decide +kernel
theorem dX5_play_9 : decode cX5_play 9 = .ok (.aload_n 0, 1) := by decide +kernel
theorem dX5_play_10 : decode cX5_play 10 = .ok (.getfield 127, 3) := by decide +kernel
theorem dX5_play_13 : decode cX5_play 13 = .ok (.ifCond .ne 9, 3) := by decide +kernel
theorem dX5_play_16 : decode cX5_play 16 = .ok (.aload_n 0, 1) := by decide +kernel
theorem dX5_play_17 : decode cX5_play 17 = .ok (.iconst 1, 1) := by decide +kernel
theorem dX5_play_18 : decode cX5_play 18 = .ok (.invokevirtual 90, 3) := by decide +kernel
theorem dX5_play_21 : decode cX5_play 21 = .ok (.ireturn, 1) := by decide +kernel
theorem dX5_play_22 : decode cX5_play 22 = .ok (.aload_n 0, 1) := by decide +kernel
theorem dX5_play_23 : decode cX5_play 23 = .ok (.invokevirtual 93, 3) := by decide +kernel
theorem dX5_play_26 : decode cX5_play 26 = .ok (.aload_n 0, 1) := by decide +kernel
theorem dX5_play_27 : decode cX5_play 27 = .ok (.iconst 0, 1) := by decide +kernel
theorem dX5_play_28 : decode cX5_play 28 = .ok (.putfield 121, 3) := by decide +kernel
theorem dX5_play_31 : decode cX5_play 31 = .ok (.iconst 0, 1) := by decide +kernel
theorem dX5_play_32 : decode cX5_play 32 = .ok (.istore_n 1, 1) := by decide +kernel
theorem dX5_play_33 : decode cX5_play 33 = .ok (.iconst 0, 1) := by decide +kernel
theorem dX5_play_34 : decode cX5_play 34 = .ok (.istore_n 2, 1) := by decide +kernel
theorem dX5_play_35 : decode cX5_play 35 = .ok (.iload_n 2, 1) := by decide +kernel
theorem dX5_play_36 : decode cX5_play 36 = .ok (.aload_n 0, 1) := by decide +kernel
theorem dX5_play_37 : decode cX5_play 37 = .ok (.getfield 137, 3) := by decide +kernel
theorem dX5_play_40 : decode cX5_play 40 = .ok (.if_icmp .ge 19, 3) := by decide +kernel
theorem dX5_play_43 : decode cX5_play 43 = .ok (.iload_n 1, 1) := by decide +kernel
theorem dX5_play_44 : decode cX5_play 44 = .ok (.aload_n 0, 1) := by decide +kernel
theorem dX5_play_45 : decode cX5_play 45 = .ok (.iconst 4, 1) := by decide +kernel
theorem dX5_play_46 : decode cX5_play 46 = .ok (.iload_n 2, 1) := by decide +kernel
theorem dX5_play_47 : decode cX5_play 47 = .ok (.imul, 1) := by decide +kernel
theorem dX5_play_48 : decode cX5_play 48 = .ok (.invokevirtual 149, 3) := by decide +kernel
theorem dX5_play_51 : decode cX5_play 51 = .ok (.iadd, 1) := by decide +kernel
theorem dX5_play_52 : decode cX5_play 52 = .ok (.istore_n 1, 1) := by decide +kernel
theorem dX5_play_53 : decode cX5_play 53 = .ok (.iinc 2 1, 3) := by decide +kernel
theorem dX5_play_56 : decode cX5_play 56 = .ok (.goto (-21), 3) := by decide +kernel
theorem dX5_play_59 : decode cX5_play 59 = .ok (.iload_n 1, 1) := by decide +kernel
theorem dX5_play_60 : decode cX5_play 60 = .ok (.ireturn, 1) := by decide +kernel
set_option maxRecDepth 20000 in
theorem ggX5_undo_X5_fails : GoodIn wsX5_undo wsX5_fails := goodIn_r _ [9, 1, 10, 11, 12, 13, 14, 15, 16, 17, 18, 19, 20, 21] (by decide +kernel) (by decide +kernel)
set_option maxRecDepth 20000 in
theorem gX5_undo_X5_fails : GoodIn wsX5_undo (wsV RX5 90 RX5 yX5_fails wsX5_fails) := goodIn_app (goodIn_of _ (by decide +kernel)) ggX5_undo_X5_fails
theorem dX5_undo_0 : decode cX5_undo 0 = .ok (.aload_n 0, 1) := by decide +kernel
theorem dX5_undo_1 : decode cX5_undo 1 = .ok (.iconst 0, 1) := by decide +kernel
theorem dX5_undo_2 : decode cX5_undo 2 = .ok (.putfield 25, 3) := by decide +kernel
theorem dX5_undo_5 : decode cX5_undo 5 = .ok (.aload_n 0, 1) := by decide +kernel
theorem dX5_undo_6 : decode cX5_undo 6 = .ok (.getfield 37, 3) := by decide +kernel
theorem dX5_undo_9 : decode cX5_undo 9 = .ok (.ifCond .ne 9, 3) := by decide +kernel
theorem dX5_undo_12 : decode cX5_undo 12 = .ok (.aload_n 0, 1) := by decide +kernel
theorem dX5_undo_13 : decode cX5_undo 13 = .ok (.iconst 1, 1) := by decide +kernel
theorem dX5_undo_14 : decode cX5_undo 14 = .ok (.invokevirtual 90, 3) := by decide +kernel
theorem dX5_undo_17 : decode cX5_undo 17 = .ok (.ireturn, 1) := by decide +kernel
theorem dX5_undo_18 : decode cX5_undo 18 = .ok (.aload_n 0, 1) := by decide +kernel
theorem dX5_undo_19 : decode cX5_undo 19 = .ok (.dup, 1) := by decide +kernel
theorem dX5_undo_20 : decode cX5_undo 20 = .ok (.getfield 37, 3) := by decide +kernel
theorem dX5_undo_23 : decode cX5_undo 23 = .ok (.iconst 1, 1) := by decide +kernel
theorem dX5_undo_24 : decode cX5_undo 24 = .ok (.isub, 1) := by decide +kernel
theorem dX5_undo_25 : decode cX5_undo 25 = .ok (.putfield 37, 3) := by decide +kernel
theorem dX5_undo_28 : decode cX5_undo 28 = .ok (.iconst 0, 1) := by decide +kernel
theorem dX5_undo_29 : decode cX5_undo 29 = .ok (.istore_n 1, 1) := by decide +kernel
theorem dX5_undo_30 : decode cX5_undo 30 = .ok (.iload_n 1, 1) := by decide +kernel
theorem dX5_undo_31 : decode cX5_undo 31 = .ok (.bipush 118, 2) := by decide +kernel
theorem dX5_undo_33 : decode cX5_undo 33 = .ok (.if_icmp .ge 29, 3) := by decide +kernel
theorem dX5_undo_36 : decode cX5_undo 36 = .ok (.aload_n 0, 1) := by decide +kernel
theorem dX5_undo_37 : decode cX5_undo 37 = .ok (.getfield 7, 3) := by decide +kernel
theorem dX5_undo_40 : decode cX5_undo 40 = .ok (.iload_n 1, 1) := by decide +kernel
theorem dX5_undo_41 : decode cX5_undo 41 = .ok (.aload_n 0, 1) := by decide +kernel
theorem dX5_undo_42 : decode cX5_undo 42 = .ok (.getfield 16, 3) := by decide +kernel
theorem dX5_undo_45 : decode cX5_undo 45 = .ok (.bipush 118, 2) := by decide +kernel
theorem dX5_undo_47 : decode cX5_undo 47 = .ok (.aload_n 0, 1) := by decide +kernel
theorem dX5_undo_48 : decode cX5_undo 48 = .ok (.getfield 37, 3) := by decide +kernel
theorem dX5_undo_51 : decode cX5_undo 51 = .ok (.imul, 1) := by decide +kernel
theorem dX5_undo_52 : decode cX5_undo 52 = .ok (.iload_n 1, 1) := by decide +kernel
theorem dX5_undo_53 : decode cX5_undo 53 = .ok (.iadd, 1) := by decide +kernel
theorem dX5_undo_54 : decode cX5_undo 54 = .ok (.iaload, 1) := by decide +kernel
theorem dX5_undo_55 : decode cX5_undo 55 = .ok (.iastore, 1) := by decide +kernel
theorem dX5_undo_56 : decode cX5_undo 56 = .ok (.iinc 1 1, 3) := by decide +kernel
theorem dX5_undo_59 : decode cX5_undo 59 = .ok (.goto (-29), 3) := by decide +kernel
theorem dX5_undo_62 : decode cX5_undo 62 = .ok (.aload_n 0, 1) := by decide +kernel
theorem dX5_undo_63 : decode cX5_undo 63 = .ok (.getfield 37, 3) := by decide +kernel
theorem dX5_undo_66 : decode cX5_undo 66 = .ok (.ireturn, 1) := by decide +kernel
set_option maxRecDepth 20000 in
theorem ggX5_tellsSilo_X5_sumFrom : GoodIn wsX5_tellsSilo wsX5_sumFrom := goodIn_r _ [5, 6, 7, 8, 4, 9, 10, 11, 12, 13, 14, 27, 28, 29, 30, 31, 32, 33, 34, 35, 36, 37, 38] (by decide +kernel) (by decide +kernel)
set_option maxRecDepth 20000 in
theorem gX5_tellsSilo_X5_sumFrom : GoodIn wsX5_tellsSilo (wsV RX5 70 RX5 yX5_sumFrom wsX5_sumFrom) := goodIn_app (goodIn_of _ (by decide +kernel)) ggX5_tellsSilo_X5_sumFrom
set_option maxRecDepth 20000 in
theorem ggX5_tellsSilo_X5_of : GoodIn wsX5_tellsSilo wsX5_of := goodIn_r _ [9, 10, 27, 28, 29, 30, 31, 32, 33, 34, 35, 36, 37, 38] (by decide +kernel) (by decide +kernel)
set_option maxRecDepth 20000 in
theorem gX5_tellsSilo_X5_of : GoodIn wsX5_tellsSilo (wsV RX5 33 RX5 yX5_of wsX5_of) := goodIn_app (goodIn_of _ (by decide +kernel)) ggX5_tellsSilo_X5_of
set_option maxRecDepth 20000 in
theorem ggX5_tellsSilo_X5_flows : GoodIn wsX5_tellsSilo wsX5_flows := goodIn_r _ [18, 6, 7, 8, 4, 9, 10, 19, 20, 21, 22, 23, 24, 25, 26, 27, 28, 29, 30, 31, 32, 33, 34, 35, 36, 37, 38] (by decide +kernel) (by decide +kernel)
set_option maxRecDepth 20000 in
theorem gX5_tellsSilo_X5_flows : GoodIn wsX5_tellsSilo (wsV RX5 53 RX5 yX5_flows wsX5_flows) := goodIn_app (goodIn_of _ (by decide +kernel)) ggX5_tellsSilo_X5_flows
theorem dX5_tellsSilo_0 : decode cX5_tellsSilo 0 = .ok (.iload_n 2, 1) := by decide +kernel
theorem dX5_tellsSilo_1 : decode cX5_tellsSilo 1 = .ok (.tableswitch 78 0 4 #[35, 42, 49, 56, 71], 35) := by decide +kernel
theorem dX5_tellsSilo_36 : decode cX5_tellsSilo 36 = .ok (.aload_n 0, 1) := by decide +kernel
theorem dX5_tellsSilo_37 : decode cX5_tellsSilo 37 = .ok (.iload_n 1, 1) := by decide +kernel
theorem dX5_tellsSilo_38 : decode cX5_tellsSilo 38 = .ok (.iconst 0, 1) := by decide +kernel
theorem dX5_tellsSilo_39 : decode cX5_tellsSilo 39 = .ok (.invokevirtual 70, 3) := by decide +kernel
theorem dX5_tellsSilo_42 : decode cX5_tellsSilo 42 = .ok (.ireturn, 1) := by decide +kernel
theorem dX5_tellsSilo_43 : decode cX5_tellsSilo 43 = .ok (.aload_n 0, 1) := by decide +kernel
theorem dX5_tellsSilo_44 : decode cX5_tellsSilo 44 = .ok (.iload_n 1, 1) := by decide +kernel
theorem dX5_tellsSilo_45 : decode cX5_tellsSilo 45 = .ok (.iconst 3, 1) := by decide +kernel
theorem dX5_tellsSilo_46 : decode cX5_tellsSilo 46 = .ok (.invokevirtual 33, 3) := by decide +kernel
theorem dX5_tellsSilo_49 : decode cX5_tellsSilo 49 = .ok (.ireturn, 1) := by decide +kernel
theorem dX5_tellsSilo_50 : decode cX5_tellsSilo 50 = .ok (.aload_n 0, 1) := by decide +kernel
theorem dX5_tellsSilo_51 : decode cX5_tellsSilo 51 = .ok (.iload_n 1, 1) := by decide +kernel
theorem dX5_tellsSilo_52 : decode cX5_tellsSilo 52 = .ok (.iconst 0, 1) := by decide +kernel
theorem dX5_tellsSilo_53 : decode cX5_tellsSilo 53 = .ok (.invokevirtual 33, 3) := by decide +kernel
theorem dX5_tellsSilo_56 : decode cX5_tellsSilo 56 = .ok (.ireturn, 1) := by decide +kernel
theorem dX5_tellsSilo_57 : decode cX5_tellsSilo 57 = .ok (.aload_n 0, 1) := by decide +kernel
theorem dX5_tellsSilo_58 : decode cX5_tellsSilo 58 = .ok (.iload_n 1, 1) := by decide +kernel
theorem dX5_tellsSilo_59 : decode cX5_tellsSilo 59 = .ok (.iconst 1, 1) := by decide +kernel
theorem dX5_tellsSilo_60 : decode cX5_tellsSilo 60 = .ok (.invokevirtual 33, 3) := by decide +kernel
theorem dX5_tellsSilo_63 : decode cX5_tellsSilo 63 = .ok (.ifCond .le 7, 3) := by decide +kernel
theorem dX5_tellsSilo_66 : decode cX5_tellsSilo 66 = .ok (.iconst 1, 1) := by decide +kernel
theorem dX5_tellsSilo_67 : decode cX5_tellsSilo 67 = .ok (.goto 4, 3) := by decide +kernel
theorem dX5_tellsSilo_70 : decode cX5_tellsSilo 70 = .ok (.iconst 0, 1) := by decide +kernel
theorem dX5_tellsSilo_71 : decode cX5_tellsSilo 71 = .ok (.ireturn, 1) := by decide +kernel
theorem dX5_tellsSilo_72 : decode cX5_tellsSilo 72 = .ok (.aload_n 0, 1) := by decide +kernel
theorem dX5_tellsSilo_73 : decode cX5_tellsSilo 73 = .ok (.iload_n 1, 1) := by decide +kernel
theorem dX5_tellsSilo_74 : decode cX5_tellsSilo 74 = .ok (.iconst 2, 1) := by decide +kernel
theorem dX5_tellsSilo_75 : decode cX5_tellsSilo 75 = .ok (.invokevirtual 33, 3) := by decide +kernel
theorem dX5_tellsSilo_78 : decode cX5_tellsSilo 78 = .ok (.ireturn, 1) := by decide +kernel
theorem dX5_tellsSilo_79 : decode cX5_tellsSilo 79 = .ok (.aload_n 0, 1) := by decide +kernel
theorem dX5_tellsSilo_80 : decode cX5_tellsSilo 80 = .ok (.iload_n 1, 1) := by decide +kernel
theorem dX5_tellsSilo_81 : decode cX5_tellsSilo 81 = .ok (.invokevirtual 53, 3) := by decide +kernel
theorem dX5_tellsSilo_84 : decode cX5_tellsSilo 84 = .ok (.ireturn, 1) := by decide +kernel
set_option maxRecDepth 20000 in
theorem ggX5_silo_X5_isSilo : GoodIn wsX5_silo wsX5_isSilo := goodIn_r _ [5, 6, 7, 4, 8] (by decide +kernel) (by decide +kernel)
set_option maxRecDepth 20000 in
theorem gX5_silo_X5_isSilo : GoodIn wsX5_silo (va_wsS RX5 96 yX5_isSilo wsX5_isSilo) := goodIn_app (goodIn_of _ (by decide +kernel)) ggX5_silo_X5_isSilo
set_option maxRecDepth 20000 in
theorem ggX5_silo_X5_fails : GoodIn wsX5_silo wsX5_fails := goodIn_r _ [12, 1, 42, 43, 44, 45, 46, 47, 48, 49, 50, 51, 52, 53] (by decide +kernel) (by decide +kernel)
set_option maxRecDepth 20000 in
theorem gX5_silo_X5_fails : GoodIn wsX5_silo (wsV RX5 90 RX5 yX5_fails wsX5_fails) := goodIn_app (goodIn_of _ (by decide +kernel)) ggX5_silo_X5_fails
set_option maxRecDepth 20000 in
theorem ggX5_silo_X5_in : GoodIn wsX5_silo wsX5_in := goodIn_r _ [8] (by decide +kernel) (by decide +kernel)
set_option maxRecDepth 20000 in
theorem gX5_silo_X5_in : GoodIn wsX5_silo (va_wsS RX5 29 yX5_in wsX5_in) := goodIn_app (goodIn_of _ (by decide +kernel)) ggX5_silo_X5_in
set_option maxRecDepth 20000 in
theorem ggX5_silo_X5_tellsSilo : GoodIn wsX5_silo wsX5_tellsSilo := goodIn_r _ [16, 17, 18, 19, 4, 20, 21, 22, 23, 24, 25, 26, 27, 28, 29, 30, 31, 32, 33, 34, 35, 36, 37, 38, 39, 40, 41, 42, 43, 44, 45, 46, 47, 48, 49, 50, 51, 52, 53] (by decide +kernel) (by decide +kernel)
set_option maxRecDepth 20000 in
theorem gX5_silo_X5_tellsSilo : GoodIn wsX5_silo (wsV RX5 152 RX5 yX5_tellsSilo wsX5_tellsSilo) := goodIn_app (goodIn_of _ (by decide +kernel)) ggX5_silo_X5_tellsSilo
theorem dX5_silo_0 : decode cX5_silo 0 = .ok (.aload_n 0, 1) := by decide +kernel
theorem dX5_silo_1 : decode cX5_silo 1 = .ok (.iconst 0, 1) := by decide +kernel
theorem dX5_silo_2 : decode cX5_silo 2 = .ok (.putfield 25, 3) := by decide +kernel
theorem dX5_silo_5 : decode cX5_silo 5 = .ok (.iload_n 1, 1) := by decide +kernel
theorem dX5_silo_6 : decode cX5_silo 6 = .ok (.invokestatic 96, 3) := by decide +kernel
theorem dX5_silo_9 : decode cX5_silo 9 = .ok (.ifCond .ne 9, 3) := by decide +kernel
theorem dX5_silo_12 : decode cX5_silo 12 = .ok (.aload_n 0, 1) := by decide +kernel
theorem dX5_silo_13 : decode cX5_silo 13 = .ok (.iconst 1, 1) := by decide +kernel
theorem dX5_silo_14 : decode cX5_silo 14 = .ok (.invokevirtual 90, 3) := by decide +kernel
theorem dX5_silo_17 : decode cX5_silo 17 = .ok (.ireturn, 1) := by decide +kernel
theorem dX5_silo_18 : decode cX5_silo 18 = .ok (.iload_n 2, 1) := by decide +kernel
theorem dX5_silo_19 : decode cX5_silo 19 = .ok (.iconst 0, 1) := by decide +kernel
theorem dX5_silo_20 : decode cX5_silo 20 = .ok (.iconst 5, 1) := by decide +kernel
theorem dX5_silo_21 : decode cX5_silo 21 = .ok (.invokestatic 29, 3) := by decide +kernel
theorem dX5_silo_24 : decode cX5_silo 24 = .ok (.ifCond .eq 12, 3) := by decide +kernel
theorem dX5_silo_27 : decode cX5_silo 27 = .ok (.aload_n 0, 1) := by decide +kernel
theorem dX5_silo_28 : decode cX5_silo 28 = .ok (.iload_n 1, 1) := by decide +kernel
theorem dX5_silo_29 : decode cX5_silo 29 = .ok (.iload_n 2, 1) := by decide +kernel
theorem dX5_silo_30 : decode cX5_silo 30 = .ok (.invokevirtual 152, 3) := by decide +kernel
theorem dX5_silo_33 : decode cX5_silo 33 = .ok (.goto 8, 3) := by decide +kernel
theorem dX5_silo_36 : decode cX5_silo 36 = .ok (.aload_n 0, 1) := by decide +kernel
theorem dX5_silo_37 : decode cX5_silo 37 = .ok (.iconst 2, 1) := by decide +kernel
theorem dX5_silo_38 : decode cX5_silo 38 = .ok (.invokevirtual 90, 3) := by decide +kernel
theorem dX5_silo_41 : decode cX5_silo 41 = .ok (.ireturn, 1) := by decide +kernel
set_option maxRecDepth 20000 in
theorem ggX5_tellsLayer_X5_tonnes : GoodIn wsX5_tellsLayer wsX5_tonnes := goodIn_r _ [5, 6, 7, 8, 4, 9, 10, 19, 20, 21, 22, 23, 24, 25, 26, 27, 28, 29, 30] (by decide +kernel) (by decide +kernel)
set_option maxRecDepth 20000 in
theorem gX5_tellsLayer_X5_tonnes : GoodIn wsX5_tellsLayer (wsV RX5 43 RX5 yX5_tonnes wsX5_tonnes) := goodIn_app (goodIn_of _ (by decide +kernel)) ggX5_tellsLayer_X5_tonnes
set_option maxRecDepth 20000 in
theorem ggX5_tellsLayer_X5_age : GoodIn wsX5_tellsLayer wsX5_age := goodIn_r _ [14, 6, 7, 8, 4, 9, 10, 19, 20, 21, 22, 23, 24, 25, 26, 27, 28, 29, 30] (by decide +kernel) (by decide +kernel)
set_option maxRecDepth 20000 in
theorem gX5_tellsLayer_X5_age : GoodIn wsX5_tellsLayer (wsV RX5 40 RX5 yX5_age wsX5_age) := goodIn_app (goodIn_of _ (by decide +kernel)) ggX5_tellsLayer_X5_age
set_option maxRecDepth 20000 in
theorem ggX5_tellsLayer_X5_setOf : GoodIn wsX5_tellsLayer wsX5_setOf := goodIn_r _ [18, 10, 11, 12, 13, 4, 14, 6, 7, 8, 9, 19, 20, 21, 22, 23, 24, 25, 26, 27, 28, 29, 30] (by decide +kernel) (by decide +kernel)
set_option maxRecDepth 20000 in
theorem gX5_tellsLayer_X5_setOf : GoodIn wsX5_tellsLayer (wsV RX5 46 RX5 yX5_setOf wsX5_setOf) := goodIn_app (goodIn_of _ (by decide +kernel)) ggX5_tellsLayer_X5_setOf
theorem dX5_tellsLayer_0 : decode cX5_tellsLayer 0 = .ok (.iload_n 3, 1) := by decide +kernel
theorem dX5_tellsLayer_1 : decode cX5_tellsLayer 1 = .ok (.ifCond .ne 12, 3) := by decide +kernel
theorem dX5_tellsLayer_4 : decode cX5_tellsLayer 4 = .ok (.aload_n 0, 1) := by decide +kernel
theorem dX5_tellsLayer_5 : decode cX5_tellsLayer 5 = .ok (.iload_n 1, 1) := by decide +kernel
theorem dX5_tellsLayer_6 : decode cX5_tellsLayer 6 = .ok (.iload_n 2, 1) := by decide +kernel
theorem dX5_tellsLayer_7 : decode cX5_tellsLayer 7 = .ok (.invokevirtual 43, 3) := by decide +kernel
theorem dX5_tellsLayer_10 : decode cX5_tellsLayer 10 = .ok (.goto 23, 3) := by decide +kernel
theorem dX5_tellsLayer_13 : decode cX5_tellsLayer 13 = .ok (.iload_n 3, 1) := by decide +kernel
theorem dX5_tellsLayer_14 : decode cX5_tellsLayer 14 = .ok (.iconst 1, 1) := by decide +kernel
theorem dX5_tellsLayer_15 : decode cX5_tellsLayer 15 = .ok (.if_icmp .ne 12, 3) := by decide +kernel
theorem dX5_tellsLayer_18 : decode cX5_tellsLayer 18 = .ok (.aload_n 0, 1) := by decide +kernel
theorem dX5_tellsLayer_19 : decode cX5_tellsLayer 19 = .ok (.iload_n 1, 1) := by decide +kernel
theorem dX5_tellsLayer_20 : decode cX5_tellsLayer 20 = .ok (.iload_n 2, 1) := by decide +kernel
theorem dX5_tellsLayer_21 : decode cX5_tellsLayer 21 = .ok (.invokevirtual 40, 3) := by decide +kernel
theorem dX5_tellsLayer_24 : decode cX5_tellsLayer 24 = .ok (.goto 9, 3) := by decide +kernel
theorem dX5_tellsLayer_27 : decode cX5_tellsLayer 27 = .ok (.aload_n 0, 1) := by decide +kernel
theorem dX5_tellsLayer_28 : decode cX5_tellsLayer 28 = .ok (.iload_n 1, 1) := by decide +kernel
theorem dX5_tellsLayer_29 : decode cX5_tellsLayer 29 = .ok (.iload_n 2, 1) := by decide +kernel
theorem dX5_tellsLayer_30 : decode cX5_tellsLayer 30 = .ok (.invokevirtual 46, 3) := by decide +kernel
theorem dX5_tellsLayer_33 : decode cX5_tellsLayer 33 = .ok (.ireturn, 1) := by decide +kernel
set_option maxRecDepth 20000 in
theorem ggX5_layer_X5_isSilo : GoodIn wsX5_layer wsX5_isSilo := goodIn_r _ [5, 6, 7, 4, 8] (by decide +kernel) (by decide +kernel)
set_option maxRecDepth 20000 in
theorem gX5_layer_X5_isSilo : GoodIn wsX5_layer (va_wsS RX5 96 yX5_isSilo wsX5_isSilo) := goodIn_app (goodIn_of _ (by decide +kernel)) ggX5_layer_X5_isSilo
set_option maxRecDepth 20000 in
theorem ggX5_layer_X5_of : GoodIn wsX5_layer wsX5_of := goodIn_r _ [12, 13, 34, 35, 36, 37, 38, 39, 40, 41, 42, 43, 44, 45] (by decide +kernel) (by decide +kernel)
set_option maxRecDepth 20000 in
theorem gX5_layer_X5_of : GoodIn wsX5_layer (wsV RX5 33 RX5 yX5_of wsX5_of) := goodIn_app (goodIn_of _ (by decide +kernel)) ggX5_layer_X5_of
set_option maxRecDepth 20000 in
theorem ggX5_layer_X5_in : GoodIn wsX5_layer wsX5_in := goodIn_r _ [8] (by decide +kernel) (by decide +kernel)
set_option maxRecDepth 20000 in
theorem gX5_layer_X5_in : GoodIn wsX5_layer (va_wsS RX5 29 yX5_in wsX5_in) := goodIn_app (goodIn_of _ (by decide +kernel)) ggX5_layer_X5_in
set_option maxRecDepth 20000 in
theorem ggX5_layer_X5_fails : GoodIn wsX5_layer wsX5_fails := goodIn_r _ [17, 1, 34, 35, 36, 37, 38, 39, 40, 41, 42, 43, 44, 45] (by decide +kernel) (by decide +kernel)
set_option maxRecDepth 20000 in
theorem gX5_layer_X5_fails : GoodIn wsX5_layer (wsV RX5 90 RX5 yX5_fails wsX5_fails) := goodIn_app (goodIn_of _ (by decide +kernel)) ggX5_layer_X5_fails
set_option maxRecDepth 20000 in
theorem ggX5_layer_X5_tellsLayer : GoodIn wsX5_layer wsX5_tellsLayer := goodIn_r _ [21, 22, 23, 24, 4, 25, 9, 10, 11, 12, 13, 26, 27, 28, 29, 30, 31, 32, 33, 34, 35, 36, 37, 38, 39, 40, 41, 42, 43, 44, 45] (by decide +kernel) (by decide +kernel)
set_option maxRecDepth 20000 in
theorem gX5_layer_X5_tellsLayer : GoodIn wsX5_layer (wsV RX5 155 RX5 yX5_tellsLayer wsX5_tellsLayer) := goodIn_app (goodIn_of _ (by decide +kernel)) ggX5_layer_X5_tellsLayer
theorem dX5_layer_0 : decode cX5_layer 0 = .ok (.aload_n 0, 1) := by decide +kernel
theorem dX5_layer_1 : decode cX5_layer 1 = .ok (.iconst 0, 1) := by decide +kernel
theorem dX5_layer_2 : decode cX5_layer 2 = .ok (.putfield 25, 3) := by decide +kernel
theorem dX5_layer_5 : decode cX5_layer 5 = .ok (.iload_n 1, 1) := by decide +kernel
theorem dX5_layer_6 : decode cX5_layer 6 = .ok (.invokestatic 96, 3) := by decide +kernel
theorem dX5_layer_9 : decode cX5_layer 9 = .ok (.ifCond .eq 19, 3) := by decide +kernel
theorem dX5_layer_12 : decode cX5_layer 12 = .ok (.iload_n 2, 1) := by decide +kernel
theorem dX5_layer_13 : decode cX5_layer 13 = .ok (.iconst 0, 1) := by decide +kernel
theorem dX5_layer_14 : decode cX5_layer 14 = .ok (.aload_n 0, 1) := by decide +kernel
theorem dX5_layer_15 : decode cX5_layer 15 = .ok (.iload_n 1, 1) := by decide +kernel
theorem dX5_layer_16 : decode cX5_layer 16 = .ok (.iconst 3, 1) := by decide +kernel
theorem dX5_layer_17 : decode cX5_layer 17 = .ok (.invokevirtual 33, 3) := by decide +kernel
theorem dX5_layer_20 : decode cX5_layer 20 = .ok (.iconst 1, 1) := by decide +kernel
theorem dX5_layer_21 : decode cX5_layer 21 = .ok (.isub, 1) := by decide +kernel
theorem dX5_layer_22 : decode cX5_layer 22 = .ok (.invokestatic 29, 3) := by decide +kernel
theorem dX5_layer_25 : decode cX5_layer 25 = .ok (.ifCond .ne 9, 3) := by decide +kernel
theorem dX5_layer_28 : decode cX5_layer 28 = .ok (.aload_n 0, 1) := by decide +kernel
theorem dX5_layer_29 : decode cX5_layer 29 = .ok (.iconst 1, 1) := by decide +kernel
theorem dX5_layer_30 : decode cX5_layer 30 = .ok (.invokevirtual 90, 3) := by decide +kernel
theorem dX5_layer_33 : decode cX5_layer 33 = .ok (.ireturn, 1) := by decide +kernel
theorem dX5_layer_34 : decode cX5_layer 34 = .ok (.iload_n 3, 1) := by decide +kernel
theorem dX5_layer_35 : decode cX5_layer 35 = .ok (.iconst 0, 1) := by decide +kernel
theorem dX5_layer_36 : decode cX5_layer 36 = .ok (.iconst 2, 1) := by decide +kernel
theorem dX5_layer_37 : decode cX5_layer 37 = .ok (.invokestatic 29, 3) := by decide +kernel
theorem dX5_layer_40 : decode cX5_layer 40 = .ok (.ifCond .eq 13, 3) := by decide +kernel
theorem dX5_layer_43 : decode cX5_layer 43 = .ok (.aload_n 0, 1) := by decide +kernel
theorem dX5_layer_44 : decode cX5_layer 44 = .ok (.iload_n 1, 1) := by decide +kernel
theorem dX5_layer_45 : decode cX5_layer 45 = .ok (.iload_n 2, 1) := by decide +kernel
theorem dX5_layer_46 : decode cX5_layer 46 = .ok (.iload_n 3, 1) := by decide +kernel
theorem dX5_layer_47 : decode cX5_layer 47 = .ok (.invokevirtual 155, 3) := by decide +kernel
theorem dX5_layer_50 : decode cX5_layer 50 = .ok (.goto 8, 3) := by decide +kernel
theorem dX5_layer_53 : decode cX5_layer 53 = .ok (.aload_n 0, 1) := by decide +kernel
theorem dX5_layer_54 : decode cX5_layer 54 = .ok (.iconst 2, 1) := by decide +kernel
theorem dX5_layer_55 : decode cX5_layer 55 = .ok (.invokevirtual 90, 3) := by decide +kernel
theorem dX5_layer_58 : decode cX5_layer 58 = .ok (.ireturn, 1) := by decide +kernel
set_option maxRecDepth 20000 in
theorem ggX5_shipOf_X5_isShip : GoodIn wsX5_shipOf wsX5_isShip := goodIn_r _ [6, 7, 8, 5, 9] (by decide +kernel) (by decide +kernel)
set_option maxRecDepth 20000 in
theorem gX5_shipOf_X5_isShip : GoodIn wsX5_shipOf (va_wsS RX5 87 yX5_isShip wsX5_isShip) := goodIn_app (goodIn_of _ (by decide +kernel)) ggX5_shipOf_X5_isShip
set_option maxRecDepth 20000 in
theorem ggX5_shipOf_X5_fails : GoodIn wsX5_shipOf wsX5_fails := goodIn_r _ [13, 1, 14, 15, 16, 17, 18, 19, 20, 21, 22, 23, 24, 25] (by decide +kernel) (by decide +kernel)
set_option maxRecDepth 20000 in
theorem gX5_shipOf_X5_fails : GoodIn wsX5_shipOf (wsV RX5 90 RX5 yX5_fails wsX5_fails) := goodIn_app (goodIn_of _ (by decide +kernel)) ggX5_shipOf_X5_fails
set_option maxRecDepth 20000 in
theorem ggX5_shipOf_X5_in : GoodIn wsX5_shipOf wsX5_in := goodIn_r _ [9] (by decide +kernel) (by decide +kernel)
set_option maxRecDepth 20000 in
theorem gX5_shipOf_X5_in : GoodIn wsX5_shipOf (va_wsS RX5 29 yX5_in wsX5_in) := goodIn_app (goodIn_of _ (by decide +kernel)) ggX5_shipOf_X5_in
theorem dX5_shipOf_0 : decode cX5_shipOf 0 = .ok (.aload_n 0, 1) := by decide +kernel
theorem dX5_shipOf_1 : decode cX5_shipOf 1 = .ok (.iconst 0, 1) := by decide +kernel
theorem dX5_shipOf_2 : decode cX5_shipOf 2 = .ok (.putfield 25, 3) := by decide +kernel
theorem dX5_shipOf_5 : decode cX5_shipOf 5 = .ok (.iload_n 1, 1) := by decide +kernel
theorem dX5_shipOf_6 : decode cX5_shipOf 6 = .ok (.invokestatic 87, 3) := by decide +kernel
theorem dX5_shipOf_9 : decode cX5_shipOf 9 = .ok (.ifCond .ne 9, 3) := by decide +kernel
theorem dX5_shipOf_12 : decode cX5_shipOf 12 = .ok (.aload_n 0, 1) := by decide +kernel
theorem dX5_shipOf_13 : decode cX5_shipOf 13 = .ok (.iconst 1, 1) := by decide +kernel
theorem dX5_shipOf_14 : decode cX5_shipOf 14 = .ok (.invokevirtual 90, 3) := by decide +kernel
theorem dX5_shipOf_17 : decode cX5_shipOf 17 = .ok (.ireturn, 1) := by decide +kernel
theorem dX5_shipOf_18 : decode cX5_shipOf 18 = .ok (.iload_n 2, 1) := by decide +kernel
theorem dX5_shipOf_19 : decode cX5_shipOf 19 = .ok (.iconst 0, 1) := by decide +kernel
theorem dX5_shipOf_20 : decode cX5_shipOf 20 = .ok (.iconst 1, 1) := by decide +kernel
theorem dX5_shipOf_21 : decode cX5_shipOf 21 = .ok (.invokestatic 29, 3) := by decide +kernel
theorem dX5_shipOf_24 : decode cX5_shipOf 24 = .ok (.ifCond .eq 19, 3) := by decide +kernel
theorem dX5_shipOf_27 : decode cX5_shipOf 27 = .ok (.aload_n 0, 1) := by decide +kernel
theorem dX5_shipOf_28 : decode cX5_shipOf 28 = .ok (.getfield 7, 3) := by decide +kernel
theorem dX5_shipOf_31 : decode cX5_shipOf 31 = .ok (.bipush 106, 2) := by decide +kernel
theorem dX5_shipOf_33 : decode cX5_shipOf 33 = .ok (.iconst 2, 1) := by decide +kernel
theorem dX5_shipOf_34 : decode cX5_shipOf 34 = .ok (.iload_n 1, 1) := by decide +kernel
theorem dX5_shipOf_35 : decode cX5_shipOf 35 = .ok (.imul, 1) := by decide +kernel
theorem dX5_shipOf_36 : decode cX5_shipOf 36 = .ok (.iadd, 1) := by decide +kernel
theorem dX5_shipOf_37 : decode cX5_shipOf 37 = .ok (.iload_n 2, 1) := by decide +kernel
theorem dX5_shipOf_38 : decode cX5_shipOf 38 = .ok (.iadd, 1) := by decide +kernel
theorem dX5_shipOf_39 : decode cX5_shipOf 39 = .ok (.iaload, 1) := by decide +kernel
theorem dX5_shipOf_40 : decode cX5_shipOf 40 = .ok (.goto 8, 3) := by decide +kernel
theorem dX5_shipOf_43 : decode cX5_shipOf 43 = .ok (.aload_n 0, 1) := by decide +kernel
theorem dX5_shipOf_44 : decode cX5_shipOf 44 = .ok (.iconst 2, 1) := by decide +kernel
theorem dX5_shipOf_45 : decode cX5_shipOf 45 = .ok (.invokevirtual 90, 3) := by decide +kernel
theorem dX5_shipOf_48 : decode cX5_shipOf 48 = .ok (.ireturn, 1) := by decide +kernel
set_option maxRecDepth 20000 in
theorem ggX5_inSilos_X5_sumFrom : GoodIn wsX5_inSilos wsX5_sumFrom := goodIn_r _ [5, 6, 7, 8, 4, 9, 10, 11, 12, 13, 14, 15, 16, 17, 18, 19, 20, 21, 22, 23, 24, 25, 26] (by decide +kernel) (by decide +kernel)
set_option maxRecDepth 20000 in
theorem gX5_inSilos_X5_sumFrom : GoodIn wsX5_inSilos (wsV RX5 70 RX5 yX5_sumFrom wsX5_sumFrom) := goodIn_app (goodIn_of _ (by decide +kernel)) ggX5_inSilos_X5_sumFrom
theorem dX5_inSilos_0 : decode cX5_inSilos 0 = .ok (.iconst 0, 1) := by decide +kernel
theorem dX5_inSilos_1 : decode cX5_inSilos 1 = .ok (.istore_n 1, 1) := by decide +kernel
theorem dX5_inSilos_2 : decode cX5_inSilos 2 = .ok (.iconst 0, 1) := by decide +kernel
theorem dX5_inSilos_3 : decode cX5_inSilos 3 = .ok (.istore_n 2, 1) := by decide +kernel
theorem dX5_inSilos_4 : decode cX5_inSilos 4 = .ok (.iload_n 2, 1) := by decide +kernel
theorem dX5_inSilos_5 : decode cX5_inSilos 5 = .ok (.iconst 4, 1) := by decide +kernel
theorem dX5_inSilos_6 : decode cX5_inSilos 6 = .ok (.if_icmp .ge 18, 3) := by decide +kernel
theorem dX5_inSilos_9 : decode cX5_inSilos 9 = .ok (.iload_n 1, 1) := by decide +kernel
theorem dX5_inSilos_10 : decode cX5_inSilos 10 = .ok (.aload_n 0, 1) := by decide +kernel
theorem dX5_inSilos_11 : decode cX5_inSilos 11 = .ok (.iload_n 2, 1) := by decide +kernel
theorem dX5_inSilos_12 : decode cX5_inSilos 12 = .ok (.iconst 0, 1) := by decide +kernel
theorem dX5_inSilos_13 : decode cX5_inSilos 13 = .ok (.invokevirtual 70, 3) := by decide +kernel
theorem dX5_inSilos_16 : decode cX5_inSilos 16 = .ok (.iadd, 1) := by decide +kernel
theorem dX5_inSilos_17 : decode cX5_inSilos 17 = .ok (.istore_n 1, 1) := by decide +kernel
theorem dX5_inSilos_18 : decode cX5_inSilos 18 = .ok (.iinc 2 1, 3) := by decide +kernel
theorem dX5_inSilos_21 : decode cX5_inSilos 21 = .ok (.goto (-17), 3) := by decide +kernel
theorem dX5_inSilos_24 : decode cX5_inSilos 24 = .ok (.iload_n 1, 1) := by decide +kernel
theorem dX5_inSilos_25 : decode cX5_inSilos 25 = .ok (.ireturn, 1) := by decide +kernel
theorem dX5_inShips_0 : decode cX5_inShips 0 = .ok (.iconst 0, 1) := by decide +kernel
theorem dX5_inShips_1 : decode cX5_inShips 1 = .ok (.istore_n 1, 1) := by decide +kernel
theorem dX5_inShips_2 : decode cX5_inShips 2 = .ok (.iconst 0, 1) := by decide +kernel
theorem dX5_inShips_3 : decode cX5_inShips 3 = .ok (.istore_n 2, 1) := by decide +kernel
theorem dX5_inShips_4 : decode cX5_inShips 4 = .ok (.iload_n 2, 1) := by decide +kernel
theorem dX5_inShips_5 : decode cX5_inShips 5 = .ok (.bipush 6, 2) := by decide +kernel
theorem dX5_inShips_7 : decode cX5_inShips 7 = .ok (.if_icmp .ge 23, 3) := by decide +kernel
theorem dX5_inShips_10 : decode cX5_inShips 10 = .ok (.iload_n 1, 1) := by decide +kernel
theorem dX5_inShips_11 : decode cX5_inShips 11 = .ok (.aload_n 0, 1) := by decide +kernel
theorem dX5_inShips_12 : decode cX5_inShips 12 = .ok (.getfield 7, 3) := by decide +kernel
theorem dX5_inShips_15 : decode cX5_inShips 15 = .ok (.bipush 106, 2) := by decide +kernel
theorem dX5_inShips_17 : decode cX5_inShips 17 = .ok (.iconst 2, 1) := by decide +kernel
theorem dX5_inShips_18 : decode cX5_inShips 18 = .ok (.iload_n 2, 1) := by decide +kernel
theorem dX5_inShips_19 : decode cX5_inShips 19 = .ok (.imul, 1) := by decide +kernel
theorem dX5_inShips_20 : decode cX5_inShips 20 = .ok (.iadd, 1) := by decide +kernel
theorem dX5_inShips_21 : decode cX5_inShips 21 = .ok (.iaload, 1) := by decide +kernel
theorem dX5_inShips_22 : decode cX5_inShips 22 = .ok (.iadd, 1) := by decide +kernel
theorem dX5_inShips_23 : decode cX5_inShips 23 = .ok (.istore_n 1, 1) := by decide +kernel
theorem dX5_inShips_24 : decode cX5_inShips 24 = .ok (.iinc 2 1, 3) := by decide +kernel
theorem dX5_inShips_27 : decode cX5_inShips 27 = .ok (.goto (-23), 3) := by decide +kernel
theorem dX5_inShips_30 : decode cX5_inShips 30 = .ok (.iload_n 1, 1) := by decide +kernel
theorem dX5_inShips_31 : decode cX5_inShips 31 = .ok (.ireturn, 1) := by decide +kernel
set_option maxRecDepth 20000 in
theorem ggX5_arches_X5_of : GoodIn wsX5_arches wsX5_of := goodIn_r _ [5, 6, 7, 8, 9, 10, 11, 12, 13, 14, 15, 16, 17, 18] (by decide +kernel) (by decide +kernel)
set_option maxRecDepth 20000 in
theorem gX5_arches_X5_of : GoodIn wsX5_arches (wsV RX5 33 RX5 yX5_of wsX5_of) := goodIn_app (goodIn_of _ (by decide +kernel)) ggX5_arches_X5_of
theorem dX5_arches_0 : decode cX5_arches 0 = .ok (.iconst 0, 1) := by decide +kernel
theorem dX5_arches_1 : decode cX5_arches 1 = .ok (.istore_n 1, 1) := by decide +kernel
theorem dX5_arches_2 : decode cX5_arches 2 = .ok (.iconst 0, 1) := by decide +kernel
theorem dX5_arches_3 : decode cX5_arches 3 = .ok (.istore_n 2, 1) := by decide +kernel
theorem dX5_arches_4 : decode cX5_arches 4 = .ok (.iload_n 2, 1) := by decide +kernel
theorem dX5_arches_5 : decode cX5_arches 5 = .ok (.iconst 4, 1) := by decide +kernel
theorem dX5_arches_6 : decode cX5_arches 6 = .ok (.if_icmp .ge 26, 3) := by decide +kernel
theorem dX5_arches_9 : decode cX5_arches 9 = .ok (.iload_n 1, 1) := by decide +kernel
theorem dX5_arches_10 : decode cX5_arches 10 = .ok (.aload_n 0, 1) := by decide +kernel
theorem dX5_arches_11 : decode cX5_arches 11 = .ok (.iload_n 2, 1) := by decide +kernel
theorem dX5_arches_12 : decode cX5_arches 12 = .ok (.iconst 1, 1) := by decide +kernel
theorem dX5_arches_13 : decode cX5_arches 13 = .ok (.invokevirtual 33, 3) := by decide +kernel
theorem dX5_arches_16 : decode cX5_arches 16 = .ok (.ifCond .le 7, 3) := by decide +kernel
theorem dX5_arches_19 : decode cX5_arches 19 = .ok (.iconst 1, 1) := by decide +kernel
theorem dX5_arches_20 : decode cX5_arches 20 = .ok (.goto 4, 3) := by decide +kernel
theorem dX5_arches_23 : decode cX5_arches 23 = .ok (.iconst 0, 1) := by decide +kernel
theorem dX5_arches_24 : decode cX5_arches 24 = .ok (.iadd, 1) := by decide +kernel
theorem dX5_arches_25 : decode cX5_arches 25 = .ok (.istore_n 1, 1) := by decide +kernel
theorem dX5_arches_26 : decode cX5_arches 26 = .ok (.iinc 2 1, 3) := by decide +kernel
theorem dX5_arches_29 : decode cX5_arches 29 = .ok (.goto (-25), 3) := by decide +kernel
theorem dX5_arches_32 : decode cX5_arches 32 = .ok (.iload_n 1, 1) := by decide +kernel
theorem dX5_arches_33 : decode cX5_arches 33 = .ok (.ireturn, 1) := by decide +kernel
set_option maxRecDepth 20000 in
theorem ggX5_tellsCount_X5_inSilos : GoodIn wsX5_tellsCount wsX5_inSilos := goodIn_r _ [7, 8, 9, 10, 6, 11, 12, 13, 14, 15, 1, 16, 17, 18, 19, 32, 33, 34, 35, 36, 37, 38, 39, 40, 41, 42, 43] (by decide +kernel) (by decide +kernel)
set_option maxRecDepth 20000 in
theorem gX5_tellsCount_X5_inSilos : GoodIn wsX5_tellsCount (wsV RX5 158 RX5 yX5_inSilos wsX5_inSilos) := goodIn_app (goodIn_of _ (by decide +kernel)) ggX5_tellsCount_X5_inSilos
set_option maxRecDepth 20000 in
theorem ggX5_tellsCount_X5_inShips : GoodIn wsX5_tellsCount wsX5_inShips := goodIn_r _ [23, 1, 32, 33, 34, 35, 36, 37, 38, 39, 40, 41, 42, 43] (by decide +kernel) (by decide +kernel)
set_option maxRecDepth 20000 in
theorem gX5_tellsCount_X5_inShips : GoodIn wsX5_tellsCount (wsV RX5 161 RX5 yX5_inShips wsX5_inShips) := goodIn_app (goodIn_of _ (by decide +kernel)) ggX5_tellsCount_X5_inShips
set_option maxRecDepth 20000 in
theorem ggX5_tellsCount_X5_padsOn : GoodIn wsX5_tellsCount wsX5_padsOn := goodIn_r _ [27, 12, 13, 14, 6, 15, 1, 32, 33, 34, 35, 36, 37, 38, 39, 40, 41, 42, 43] (by decide +kernel) (by decide +kernel)
set_option maxRecDepth 20000 in
theorem gX5_tellsCount_X5_padsOn : GoodIn wsX5_tellsCount (wsV RX5 106 RX5 yX5_padsOn wsX5_padsOn) := goodIn_app (goodIn_of _ (by decide +kernel)) ggX5_tellsCount_X5_padsOn
set_option maxRecDepth 20000 in
theorem ggX5_tellsCount_X5_arches : GoodIn wsX5_tellsCount wsX5_arches := goodIn_r _ [31, 12, 13, 14, 6, 15, 1, 32, 33, 34, 35, 36, 37, 38, 39, 40, 41, 42, 43] (by decide +kernel) (by decide +kernel)
set_option maxRecDepth 20000 in
theorem gX5_tellsCount_X5_arches : GoodIn wsX5_tellsCount (wsV RX5 164 RX5 yX5_arches wsX5_arches) := goodIn_app (goodIn_of _ (by decide +kernel)) ggX5_tellsCount_X5_arches
theorem dX5_tellsCount_0 : decode cX5_tellsCount 0 = .ok (.iload_n 1, 1) := by decide +kernel
theorem dX5_tellsCount_1 : decode cX5_tellsCount 1 = .ok (.tableswitch 118 0 14 #[75, 82, 87, 92, 92, 92, 103, 108, 118, 118, 118, 118, 118, 118, 113], 75) := by decide +kernel
theorem dX5_tellsCount_76 : decode cX5_tellsCount 76 = .ok (.aload_n 0, 1) := by decide +kernel
theorem dX5_tellsCount_77 : decode cX5_tellsCount 77 = .ok (.getfield 7, 3) := by decide +kernel
theorem dX5_tellsCount_80 : decode cX5_tellsCount 80 = .ok (.iconst 0, 1) := by decide +kernel
theorem dX5_tellsCount_81 : decode cX5_tellsCount 81 = .ok (.iaload, 1) := by decide +kernel
theorem dX5_tellsCount_82 : decode cX5_tellsCount 82 = .ok (.ireturn, 1) := by decide +kernel
theorem dX5_tellsCount_83 : decode cX5_tellsCount 83 = .ok (.aload_n 0, 1) := by decide +kernel
theorem dX5_tellsCount_84 : decode cX5_tellsCount 84 = .ok (.invokevirtual 158, 3) := by decide +kernel
theorem dX5_tellsCount_87 : decode cX5_tellsCount 87 = .ok (.ireturn, 1) := by decide +kernel
theorem dX5_tellsCount_88 : decode cX5_tellsCount 88 = .ok (.aload_n 0, 1) := by decide +kernel
theorem dX5_tellsCount_89 : decode cX5_tellsCount 89 = .ok (.invokevirtual 161, 3) := by decide +kernel
theorem dX5_tellsCount_92 : decode cX5_tellsCount 92 = .ok (.ireturn, 1) := by decide +kernel
theorem dX5_tellsCount_93 : decode cX5_tellsCount 93 = .ok (.aload_n 0, 1) := by decide +kernel
theorem dX5_tellsCount_94 : decode cX5_tellsCount 94 = .ok (.getfield 7, 3) := by decide +kernel
theorem dX5_tellsCount_97 : decode cX5_tellsCount 97 = .ok (.iconst 1, 1) := by decide +kernel
theorem dX5_tellsCount_98 : decode cX5_tellsCount 98 = .ok (.iload_n 1, 1) := by decide +kernel
theorem dX5_tellsCount_99 : decode cX5_tellsCount 99 = .ok (.iadd, 1) := by decide +kernel
theorem dX5_tellsCount_100 : decode cX5_tellsCount 100 = .ok (.iconst 3, 1) := by decide +kernel
theorem dX5_tellsCount_101 : decode cX5_tellsCount 101 = .ok (.isub, 1) := by decide +kernel
theorem dX5_tellsCount_102 : decode cX5_tellsCount 102 = .ok (.iaload, 1) := by decide +kernel
theorem dX5_tellsCount_103 : decode cX5_tellsCount 103 = .ok (.ireturn, 1) := by decide +kernel
theorem dX5_tellsCount_104 : decode cX5_tellsCount 104 = .ok (.aload_n 0, 1) := by decide +kernel
theorem dX5_tellsCount_105 : decode cX5_tellsCount 105 = .ok (.invokevirtual 106, 3) := by decide +kernel
theorem dX5_tellsCount_108 : decode cX5_tellsCount 108 = .ok (.ireturn, 1) := by decide +kernel
theorem dX5_tellsCount_109 : decode cX5_tellsCount 109 = .ok (.aload_n 0, 1) := by decide +kernel
theorem dX5_tellsCount_110 : decode cX5_tellsCount 110 = .ok (.invokevirtual 164, 3) := by decide +kernel
theorem dX5_tellsCount_113 : decode cX5_tellsCount 113 = .ok (.ireturn, 1) := by decide +kernel
theorem dX5_tellsCount_114 : decode cX5_tellsCount 114 = .ok (.aload_n 0, 1) := by decide +kernel
theorem dX5_tellsCount_115 : decode cX5_tellsCount 115 = .ok (.getfield 37, 3) := by decide +kernel
theorem dX5_tellsCount_118 : decode cX5_tellsCount 118 = .ok (.ireturn, 1) := by decide +kernel
theorem dX5_tellsCount_119 : decode cX5_tellsCount 119 = .ok (.aload_n 0, 1) := by decide +kernel
theorem dX5_tellsCount_120 : decode cX5_tellsCount 120 = .ok (.getfield 7, 3) := by decide +kernel
theorem dX5_tellsCount_123 : decode cX5_tellsCount 123 = .ok (.iconst 4, 1) := by decide +kernel
theorem dX5_tellsCount_124 : decode cX5_tellsCount 124 = .ok (.iload_n 1, 1) := by decide +kernel
theorem dX5_tellsCount_125 : decode cX5_tellsCount 125 = .ok (.iadd, 1) := by decide +kernel
theorem dX5_tellsCount_126 : decode cX5_tellsCount 126 = .ok (.bipush 8, 2) := by decide +kernel
theorem dX5_tellsCount_128 : decode cX5_tellsCount 128 = .ok (.isub, 1) := by decide +kernel
theorem dX5_tellsCount_129 : decode cX5_tellsCount 129 = .ok (.iaload, 1) := by decide +kernel
theorem dX5_tellsCount_130 : decode cX5_tellsCount 130 = .ok (.ireturn, 1) := by decide +kernel
set_option maxRecDepth 20000 in
theorem ggX5_count_X5_in : GoodIn wsX5_count wsX5_in := goodIn_r _ [5] (by decide +kernel) (by decide +kernel)
set_option maxRecDepth 20000 in
theorem gX5_count_X5_in : GoodIn wsX5_count (va_wsS RX5 29 yX5_in wsX5_in) := goodIn_app (goodIn_of _ (by decide +kernel)) ggX5_count_X5_in
set_option maxRecDepth 20000 in
theorem ggX5_count_X5_tellsCount : GoodIn wsX5_count wsX5_tellsCount := goodIn_r _ [9, 10, 11, 12, 13, 14, 4, 15, 16, 17, 18, 19, 20, 21, 22, 23, 24, 25, 26, 27, 28, 29, 30, 31, 32, 33, 34, 35, 36, 37, 38, 39, 44, 45, 46, 47, 48, 49, 50, 51, 52, 53, 54, 55] (by decide +kernel) (by decide +kernel)
set_option maxRecDepth 20000 in
theorem gX5_count_X5_tellsCount : GoodIn wsX5_count (wsV RX5 167 RX5 yX5_tellsCount wsX5_tellsCount) := goodIn_app (goodIn_of _ (by decide +kernel)) ggX5_count_X5_tellsCount
set_option maxRecDepth 20000 in
theorem ggX5_count_X5_fails : GoodIn wsX5_count wsX5_fails := goodIn_r _ [43, 1, 44, 45, 46, 47, 48, 49, 50, 51, 52, 53, 54, 55] (by decide +kernel) (by decide +kernel)
set_option maxRecDepth 20000 in
theorem gX5_count_X5_fails : GoodIn wsX5_count (wsV RX5 90 RX5 yX5_fails wsX5_fails) := goodIn_app (goodIn_of _ (by decide +kernel)) ggX5_count_X5_fails
theorem dX5_count_0 : decode cX5_count 0 = .ok (.aload_n 0, 1) := by decide +kernel
theorem dX5_count_1 : decode cX5_count 1 = .ok (.iconst 0, 1) := by decide +kernel
theorem dX5_count_2 : decode cX5_count 2 = .ok (.putfield 25, 3) := by decide +kernel
theorem dX5_count_5 : decode cX5_count 5 = .ok (.iload_n 1, 1) := by decide +kernel
theorem dX5_count_6 : decode cX5_count 6 = .ok (.iconst 0, 1) := by decide +kernel
theorem dX5_count_7 : decode cX5_count 7 = .ok (.bipush 14, 2) := by decide +kernel
theorem dX5_count_9 : decode cX5_count 9 = .ok (.invokestatic 29, 3) := by decide +kernel
theorem dX5_count_12 : decode cX5_count 12 = .ok (.ifCond .eq 11, 3) := by decide +kernel
theorem dX5_count_15 : decode cX5_count 15 = .ok (.aload_n 0, 1) := by decide +kernel
theorem dX5_count_16 : decode cX5_count 16 = .ok (.iload_n 1, 1) := by decide +kernel
theorem dX5_count_17 : decode cX5_count 17 = .ok (.invokevirtual 167, 3) := by decide +kernel
theorem dX5_count_20 : decode cX5_count 20 = .ok (.goto 8, 3) := by decide +kernel
theorem dX5_count_23 : decode cX5_count 23 = .ok (.aload_n 0, 1) := by decide +kernel
theorem dX5_count_24 : decode cX5_count 24 = .ok (.iconst 1, 1) := by decide +kernel
theorem dX5_count_25 : decode cX5_count 25 = .ok (.invokevirtual 90, 3) := by decide +kernel
theorem dX5_count_28 : decode cX5_count 28 = .ok (.ireturn, 1) := by decide +kernel
set_option maxRecDepth 20000 in
theorem ggX5_reason_X5_of : GoodIn wsX5_reason wsX5_of := goodIn_r _ [5, 6, 23, 24, 25, 26, 27, 28, 29, 30, 31, 32, 33, 34] (by decide +kernel) (by decide +kernel)
set_option maxRecDepth 20000 in
theorem gX5_reason_X5_of : GoodIn wsX5_reason (wsV RX5 33 RX5 yX5_of wsX5_of) := goodIn_app (goodIn_of _ (by decide +kernel)) ggX5_reason_X5_of
set_option maxRecDepth 20000 in
theorem ggX5_reason_X5_room : GoodIn wsX5_reason wsX5_room := goodIn_r _ [10, 6, 23, 24, 25, 26, 27, 28, 29, 30, 31, 32, 33, 34] (by decide +kernel) (by decide +kernel)
set_option maxRecDepth 20000 in
theorem gX5_reason_X5_room : GoodIn wsX5_reason (wsV RX5 60 RX5 yX5_room wsX5_room) := goodIn_app (goodIn_of _ (by decide +kernel)) ggX5_reason_X5_room
set_option maxRecDepth 20000 in
theorem ggX5_reason_X5_flows : GoodIn wsX5_reason wsX5_flows := goodIn_r _ [14, 1, 2, 3, 4, 5, 6, 15, 16, 17, 18, 19, 20, 21, 22, 23, 24, 25, 26, 27, 28, 29, 30, 31, 32, 33, 34] (by decide +kernel) (by decide +kernel)
set_option maxRecDepth 20000 in
theorem gX5_reason_X5_flows : GoodIn wsX5_reason (wsV RX5 53 RX5 yX5_flows wsX5_flows) := goodIn_app (goodIn_of _ (by decide +kernel)) ggX5_reason_X5_flows
theorem dX5_reason_0 : decode cX5_reason 0 = .ok (.aload_n 0, 1) := by decide +kernel
theorem dX5_reason_1 : decode cX5_reason 1 = .ok (.iload_n 1, 1) := by decide +kernel
theorem dX5_reason_2 : decode cX5_reason 2 = .ok (.iconst 3, 1) := by decide +kernel
theorem dX5_reason_3 : decode cX5_reason 3 = .ok (.invokevirtual 33, 3) := by decide +kernel
theorem dX5_reason_6 : decode cX5_reason 6 = .ok (.ifCond .ne 5, 3) := by decide +kernel
theorem dX5_reason_9 : decode cX5_reason 9 = .ok (.iconst 1, 1) := by decide +kernel
theorem dX5_reason_10 : decode cX5_reason 10 = .ok (.ireturn, 1) := by decide +kernel
theorem dX5_reason_11 : decode cX5_reason 11 = .ok (.aload_n 0, 1) := by decide +kernel
theorem dX5_reason_12 : decode cX5_reason 12 = .ok (.iload_n 1, 1) := by decide +kernel
theorem dX5_reason_13 : decode cX5_reason 13 = .ok (.iconst 1, 1) := by decide +kernel
theorem dX5_reason_14 : decode cX5_reason 14 = .ok (.invokevirtual 33, 3) := by decide +kernel
theorem dX5_reason_17 : decode cX5_reason 17 = .ok (.iconst 2, 1) := by decide +kernel
theorem dX5_reason_18 : decode cX5_reason 18 = .ok (.if_icmp .ne 7, 3) := by decide +kernel
theorem dX5_reason_21 : decode cX5_reason 21 = .ok (.iconst 2, 1) := by decide +kernel
theorem dX5_reason_22 : decode cX5_reason 22 = .ok (.goto 28, 3) := by decide +kernel
theorem dX5_reason_25 : decode cX5_reason 25 = .ok (.aload_n 0, 1) := by decide +kernel
theorem dX5_reason_26 : decode cX5_reason 26 = .ok (.iload_n 2, 1) := by decide +kernel
theorem dX5_reason_27 : decode cX5_reason 27 = .ok (.invokevirtual 60, 3) := by decide +kernel
theorem dX5_reason_30 : decode cX5_reason 30 = .ok (.ifCond .ne 7, 3) := by decide +kernel
theorem dX5_reason_33 : decode cX5_reason 33 = .ok (.iconst 3, 1) := by decide +kernel
theorem dX5_reason_34 : decode cX5_reason 34 = .ok (.goto 16, 3) := by decide +kernel
theorem dX5_reason_37 : decode cX5_reason 37 = .ok (.aload_n 0, 1) := by decide +kernel
theorem dX5_reason_38 : decode cX5_reason 38 = .ok (.iload_n 1, 1) := by decide +kernel
theorem dX5_reason_39 : decode cX5_reason 39 = .ok (.invokevirtual 53, 3) := by decide +kernel
theorem dX5_reason_42 : decode cX5_reason 42 = .ok (.ifCond .ne 7, 3) := by decide +kernel
theorem dX5_reason_45 : decode cX5_reason 45 = .ok (.iconst 4, 1) := by decide +kernel
theorem dX5_reason_46 : decode cX5_reason 46 = .ok (.goto 4, 3) := by decide +kernel
theorem dX5_reason_49 : decode cX5_reason 49 = .ok (.iconst 0, 1) := by decide +kernel
theorem dX5_reason_50 : decode cX5_reason 50 = .ok (.ireturn, 1) := by decide +kernel
set_option maxRecDepth 20000 in
theorem ggX5_whyNot_X5_isSilo : GoodIn wsX5_whyNot wsX5_isSilo := goodIn_r _ [5, 6, 7, 4, 8] (by decide +kernel) (by decide +kernel)
set_option maxRecDepth 20000 in
theorem gX5_whyNot_X5_isSilo : GoodIn wsX5_whyNot (va_wsS RX5 96 yX5_isSilo wsX5_isSilo) := goodIn_app (goodIn_of _ (by decide +kernel)) ggX5_whyNot_X5_isSilo
set_option maxRecDepth 20000 in
theorem ggX5_whyNot_X5_isShip : GoodIn wsX5_whyNot wsX5_isShip := goodIn_r _ [11, 6, 7, 4, 8] (by decide +kernel) (by decide +kernel)
set_option maxRecDepth 20000 in
theorem gX5_whyNot_X5_isShip : GoodIn wsX5_whyNot (va_wsS RX5 87 yX5_isShip wsX5_isShip) := goodIn_app (goodIn_of _ (by decide +kernel)) ggX5_whyNot_X5_isShip
set_option maxRecDepth 20000 in
theorem ggX5_whyNot_X5_reason : GoodIn wsX5_whyNot wsX5_reason := goodIn_r _ [15, 16, 17, 18, 4, 19, 20, 21, 22, 23, 24, 25, 26, 27, 28, 29, 30, 31, 32, 33, 34, 35, 36, 41, 42, 43, 44, 45, 46, 47, 48, 49, 50, 51, 52] (by decide +kernel) (by decide +kernel)
set_option maxRecDepth 20000 in
theorem gX5_whyNot_X5_reason : GoodIn wsX5_whyNot (wsV RX5 170 RX5 yX5_reason wsX5_reason) := goodIn_app (goodIn_of _ (by decide +kernel)) ggX5_whyNot_X5_reason
set_option maxRecDepth 20000 in
theorem ggX5_whyNot_X5_fails : GoodIn wsX5_whyNot wsX5_fails := goodIn_r _ [40, 1, 41, 42, 43, 44, 45, 46, 47, 48, 49, 50, 51, 52] (by decide +kernel) (by decide +kernel)
set_option maxRecDepth 20000 in
theorem gX5_whyNot_X5_fails : GoodIn wsX5_whyNot (wsV RX5 90 RX5 yX5_fails wsX5_fails) := goodIn_app (goodIn_of _ (by decide +kernel)) ggX5_whyNot_X5_fails
theorem dX5_whyNot_0 : decode cX5_whyNot 0 = .ok (.aload_n 0, 1) := by decide +kernel
theorem dX5_whyNot_1 : decode cX5_whyNot 1 = .ok (.iconst 0, 1) := by decide +kernel
theorem dX5_whyNot_2 : decode cX5_whyNot 2 = .ok (.putfield 25, 3) := by decide +kernel
theorem dX5_whyNot_5 : decode cX5_whyNot 5 = .ok (.iload_n 1, 1) := by decide +kernel
theorem dX5_whyNot_6 : decode cX5_whyNot 6 = .ok (.invokestatic 96, 3) := by decide +kernel
theorem dX5_whyNot_9 : decode cX5_whyNot 9 = .ok (.ifCond .eq 19, 3) := by decide +kernel
theorem dX5_whyNot_12 : decode cX5_whyNot 12 = .ok (.iload_n 2, 1) := by decide +kernel
theorem dX5_whyNot_13 : decode cX5_whyNot 13 = .ok (.invokestatic 87, 3) := by decide +kernel
theorem dX5_whyNot_16 : decode cX5_whyNot 16 = .ok (.ifCond .eq 12, 3) := by decide +kernel
theorem dX5_whyNot_19 : decode cX5_whyNot 19 = .ok (.aload_n 0, 1) := by decide +kernel
theorem dX5_whyNot_20 : decode cX5_whyNot 20 = .ok (.iload_n 1, 1) := by decide +kernel
theorem dX5_whyNot_21 : decode cX5_whyNot 21 = .ok (.iload_n 2, 1) := by decide +kernel
theorem dX5_whyNot_22 : decode cX5_whyNot 22 = .ok (.invokevirtual 170, 3) := by decide +kernel
theorem dX5_whyNot_25 : decode cX5_whyNot 25 = .ok (.goto 8, 3) := by decide +kernel
theorem dX5_whyNot_28 : decode cX5_whyNot 28 = .ok (.aload_n 0, 1) := by decide +kernel
theorem dX5_whyNot_29 : decode cX5_whyNot 29 = .ok (.iconst 1, 1) := by decide +kernel
theorem dX5_whyNot_30 : decode cX5_whyNot 30 = .ok (.invokevirtual 90, 3) := by decide +kernel
theorem dX5_whyNot_33 : decode cX5_whyNot 33 = .ok (.ireturn, 1) := by decide +kernel
set_option maxRecDepth 20000 in
theorem ggX5_wouldFlow_X5_putAside : GoodIn wsX5_wouldFlow wsX5_putAside := goodIn_r _ [5, 6, 7, 55, 56, 57, 58, 59, 60, 61, 62, 63, 64, 65, 66] (by decide +kernel) (by decide +kernel)
set_option maxRecDepth 20000 in
theorem gX5_wouldFlow_X5_putAside : GoodIn wsX5_wouldFlow (wsV RX5 173 RX5 yX5_putAside wsX5_putAside) := goodIn_app (goodIn_of _ (by decide +kernel)) ggX5_wouldFlow_X5_putAside
set_option maxRecDepth 20000 in
theorem ggX5_wouldFlow_X5_lay : GoodIn wsX5_wouldFlow wsX5_lay := goodIn_r _ [11, 7, 55, 56, 57, 58, 59, 60, 61, 62, 63, 64, 65, 66] (by decide +kernel) (by decide +kernel)
set_option maxRecDepth 20000 in
theorem gX5_wouldFlow_X5_lay : GoodIn wsX5_wouldFlow (wsV RX5 49 RX5 yX5_lay wsX5_lay) := goodIn_app (goodIn_of _ (by decide +kernel)) ggX5_wouldFlow_X5_lay
set_option maxRecDepth 20000 in
theorem ggX5_wouldFlow_X5_flowsAll : GoodIn wsX5_wouldFlow wsX5_flowsAll := goodIn_r _ [15, 16, 17, 18, 4, 19, 7, 20, 21, 22, 23, 24, 25, 26, 27, 28, 29, 30, 31, 32, 33, 34, 35, 36, 37, 38, 39, 40, 41, 42, 43, 44, 45, 46, 8, 9, 10, 11, 47, 48, 49, 50, 55, 56, 57, 58, 59, 60, 61, 62, 63, 64, 65, 66] (by decide +kernel) (by decide +kernel)
set_option maxRecDepth 20000 in
theorem gX5_wouldFlow_X5_flowsAll : GoodIn wsX5_wouldFlow (wsV RX5 103 RX5 yX5_flowsAll wsX5_flowsAll) := goodIn_app (goodIn_of _ (by decide +kernel)) ggX5_wouldFlow_X5_flowsAll
set_option maxRecDepth 20000 in
theorem ggX5_wouldFlow_X5_takeBack : GoodIn wsX5_wouldFlow wsX5_takeBack := goodIn_r _ [54, 7, 6, 55, 56, 57, 58, 59, 60, 61, 62, 63, 64, 65, 66] (by decide +kernel) (by decide +kernel)
set_option maxRecDepth 20000 in
theorem gX5_wouldFlow_X5_takeBack : GoodIn wsX5_wouldFlow (wsV RX5 176 RX5 yX5_takeBack wsX5_takeBack) := goodIn_app (goodIn_of _ (by decide +kernel)) ggX5_wouldFlow_X5_takeBack
theorem dX5_wouldFlow_0 : decode cX5_wouldFlow 0 = .ok (.aload_n 0, 1) := by decide +kernel
theorem dX5_wouldFlow_1 : decode cX5_wouldFlow 1 = .ok (.invokevirtual 173, 3) := by decide +kernel
theorem dX5_wouldFlow_4 : decode cX5_wouldFlow 4 = .ok (.aload_n 0, 1) := by decide +kernel
theorem dX5_wouldFlow_5 : decode cX5_wouldFlow 5 = .ok (.iload_n 1, 1) := by decide +kernel
theorem dX5_wouldFlow_6 : decode cX5_wouldFlow 6 = .ok (.iconst 0, 1) := by decide +kernel
theorem dX5_wouldFlow_7 : decode cX5_wouldFlow 7 = .ok (.iload 4, 2) := by decide +kernel
theorem dX5_wouldFlow_9 : decode cX5_wouldFlow 9 = .ok (.invokevirtual 49, 3) := by decide +kernel
theorem dX5_wouldFlow_12 : decode cX5_wouldFlow 12 = .ok (.aload_n 0, 1) := by decide +kernel
theorem dX5_wouldFlow_13 : decode cX5_wouldFlow 13 = .ok (.iload_n 1, 1) := by decide +kernel
theorem dX5_wouldFlow_14 : decode cX5_wouldFlow 14 = .ok (.iload_n 2, 1) := by decide +kernel
theorem dX5_wouldFlow_15 : decode cX5_wouldFlow 15 = .ok (.iload_n 3, 1) := by decide +kernel
theorem dX5_wouldFlow_16 : decode cX5_wouldFlow 16 = .ok (.invokevirtual 103, 3) := by decide +kernel
theorem dX5_wouldFlow_19 : decode cX5_wouldFlow 19 = .ok (.istore 5, 2) := by decide +kernel
theorem dX5_wouldFlow_21 : decode cX5_wouldFlow 21 = .ok (.aload_n 0, 1) := by decide +kernel
theorem dX5_wouldFlow_22 : decode cX5_wouldFlow 22 = .ok (.invokevirtual 176, 3) := by decide +kernel
theorem dX5_wouldFlow_25 : decode cX5_wouldFlow 25 = .ok (.iload 5, 2) := by decide +kernel
theorem dX5_wouldFlow_27 : decode cX5_wouldFlow 27 = .ok (.ireturn, 1) := by decide +kernel
set_option maxRecDepth 20000 in
theorem ggX5_ifFlowed_X5_isSilo : GoodIn wsX5_ifFlowed wsX5_isSilo := goodIn_r _ [5, 6, 7, 4, 8] (by decide +kernel) (by decide +kernel)
set_option maxRecDepth 20000 in
theorem gX5_ifFlowed_X5_isSilo : GoodIn wsX5_ifFlowed (va_wsS RX5 96 yX5_isSilo wsX5_isSilo) := goodIn_app (goodIn_of _ (by decide +kernel)) ggX5_ifFlowed_X5_isSilo
set_option maxRecDepth 20000 in
theorem ggX5_ifFlowed_X5_isShip : GoodIn wsX5_ifFlowed wsX5_isShip := goodIn_r _ [11, 6, 7, 4, 8] (by decide +kernel) (by decide +kernel)
set_option maxRecDepth 20000 in
theorem gX5_ifFlowed_X5_isShip : GoodIn wsX5_ifFlowed (va_wsS RX5 87 yX5_isShip wsX5_isShip) := goodIn_app (goodIn_of _ (by decide +kernel)) ggX5_ifFlowed_X5_isShip
set_option maxRecDepth 20000 in
theorem ggX5_ifFlowed_X5_fails : GoodIn wsX5_ifFlowed wsX5_fails := goodIn_r _ [15, 1, 73, 74, 75, 76, 77, 78, 79, 80, 81, 82, 83, 84] (by decide +kernel) (by decide +kernel)
set_option maxRecDepth 20000 in
theorem gX5_ifFlowed_X5_fails : GoodIn wsX5_ifFlowed (wsV RX5 90 RX5 yX5_fails wsX5_fails) := goodIn_app (goodIn_of _ (by decide +kernel)) ggX5_ifFlowed_X5_fails
set_option maxRecDepth 20000 in
theorem ggX5_ifFlowed_X5_in : GoodIn wsX5_ifFlowed wsX5_in := goodIn_r _ [8] (by decide +kernel) (by decide +kernel)
set_option maxRecDepth 20000 in
theorem gX5_ifFlowed_X5_in : GoodIn wsX5_ifFlowed (va_wsS RX5 29 yX5_in wsX5_in) := goodIn_app (goodIn_of _ (by decide +kernel)) ggX5_ifFlowed_X5_in
set_option maxRecDepth 20000 in
theorem ggX5_ifFlowed_X5_wouldFlow : GoodIn wsX5_ifFlowed wsX5_wouldFlow := goodIn_r _ [19, 20, 21, 22, 4, 23, 24, 25, 26, 27, 28, 29, 30, 31, 32, 33, 34, 35, 36, 37, 38, 39, 40, 41, 42, 43, 44, 45, 46, 47, 48, 49, 50, 51, 52, 53, 54, 55, 56, 57, 58, 59, 60, 61, 62, 63, 64, 65, 66, 67, 68, 69, 70, 71, 72, 73, 74, 75, 76, 77, 78, 79, 80, 81, 82, 83, 84] (by decide +kernel) (by decide +kernel)
set_option maxRecDepth 20000 in
theorem gX5_ifFlowed_X5_wouldFlow : GoodIn wsX5_ifFlowed (wsV RX5 179 RX5 yX5_wouldFlow wsX5_wouldFlow) := goodIn_app (goodIn_of _ (by decide +kernel)) ggX5_ifFlowed_X5_wouldFlow
theorem dX5_ifFlowed_0 : decode cX5_ifFlowed 0 = .ok (.aload_n 0, 1) := by decide +kernel
theorem dX5_ifFlowed_1 : decode cX5_ifFlowed 1 = .ok (.iconst 0, 1) := by decide +kernel
theorem dX5_ifFlowed_2 : decode cX5_ifFlowed 2 = .ok (.putfield 25, 3) := by decide +kernel
theorem dX5_ifFlowed_5 : decode cX5_ifFlowed 5 = .ok (.iload_n 1, 1) := by decide +kernel
theorem dX5_ifFlowed_6 : decode cX5_ifFlowed 6 = .ok (.invokestatic 96, 3) := by decide +kernel
theorem dX5_ifFlowed_9 : decode cX5_ifFlowed 9 = .ok (.ifCond .eq 10, 3) := by decide +kernel
theorem dX5_ifFlowed_12 : decode cX5_ifFlowed 12 = .ok (.iload_n 2, 1) := by decide +kernel
theorem dX5_ifFlowed_13 : decode cX5_ifFlowed 13 = .ok (.invokestatic 87, 3) := by decide +kernel
theorem dX5_ifFlowed_16 : decode cX5_ifFlowed 16 = .ok (.ifCond .ne 9, 3) := by decide +kernel
theorem dX5_ifFlowed_19 : decode cX5_ifFlowed 19 = .ok (.aload_n 0, 1) := by decide +kernel
theorem dX5_ifFlowed_20 : decode cX5_ifFlowed 20 = .ok (.iconst 1, 1) := by decide +kernel
theorem dX5_ifFlowed_21 : decode cX5_ifFlowed 21 = .ok (.invokevirtual 90, 3) := by decide +kernel
theorem dX5_ifFlowed_24 : decode cX5_ifFlowed 24 = .ok (.ireturn, 1) := by decide +kernel
theorem dX5_ifFlowed_25 : decode cX5_ifFlowed 25 = .ok (.iload_n 3, 1) := by decide +kernel
theorem dX5_ifFlowed_26 : decode cX5_ifFlowed 26 = .ok (.iconst 1, 1) := by decide +kernel
theorem dX5_ifFlowed_27 : decode cX5_ifFlowed 27 = .ok (.bipush 24, 2) := by decide +kernel
theorem dX5_ifFlowed_29 : decode cX5_ifFlowed 29 = .ok (.invokestatic 29, 3) := by decide +kernel
theorem dX5_ifFlowed_32 : decode cX5_ifFlowed 32 = .ok (.ifCond .eq 25, 3) := by decide +kernel
theorem dX5_ifFlowed_35 : decode cX5_ifFlowed 35 = .ok (.iload 4, 2) := by decide +kernel
theorem dX5_ifFlowed_37 : decode cX5_ifFlowed 37 = .ok (.iconst 0, 1) := by decide +kernel
theorem dX5_ifFlowed_38 : decode cX5_ifFlowed 38 = .ok (.iconst 4, 1) := by decide +kernel
theorem dX5_ifFlowed_39 : decode cX5_ifFlowed 39 = .ok (.invokestatic 29, 3) := by decide +kernel
theorem dX5_ifFlowed_42 : decode cX5_ifFlowed 42 = .ok (.ifCond .eq 15, 3) := by decide +kernel
theorem dX5_ifFlowed_45 : decode cX5_ifFlowed 45 = .ok (.aload_n 0, 1) := by decide +kernel
theorem dX5_ifFlowed_46 : decode cX5_ifFlowed 46 = .ok (.iload_n 1, 1) := by decide +kernel
theorem dX5_ifFlowed_47 : decode cX5_ifFlowed 47 = .ok (.iload_n 2, 1) := by decide +kernel
theorem dX5_ifFlowed_48 : decode cX5_ifFlowed 48 = .ok (.iload_n 3, 1) := by decide +kernel
theorem dX5_ifFlowed_49 : decode cX5_ifFlowed 49 = .ok (.iload 4, 2) := by decide +kernel
theorem dX5_ifFlowed_51 : decode cX5_ifFlowed 51 = .ok (.invokevirtual 179, 3) := by decide +kernel
theorem dX5_ifFlowed_54 : decode cX5_ifFlowed 54 = .ok (.goto 8, 3) := by decide +kernel
theorem dX5_ifFlowed_57 : decode cX5_ifFlowed 57 = .ok (.aload_n 0, 1) := by decide +kernel
theorem dX5_ifFlowed_58 : decode cX5_ifFlowed 58 = .ok (.iconst 2, 1) := by decide +kernel
theorem dX5_ifFlowed_59 : decode cX5_ifFlowed 59 = .ok (.invokevirtual 90, 3) := by decide +kernel
theorem dX5_ifFlowed_62 : decode cX5_ifFlowed 62 = .ok (.ireturn, 1) := by decide +kernel
set_option maxRecDepth 20000 in
theorem ggX5_isMoreUrgent_X5_age : GoodIn wsX5_isMoreUrgent wsX5_age := goodIn_r _ [5, 6, 7, 8, 4, 9, 10, 19, 20, 21, 22, 23, 24, 25, 26, 27, 28, 29, 30] (by decide +kernel) (by decide +kernel)
set_option maxRecDepth 20000 in
theorem gX5_isMoreUrgent_X5_age : GoodIn wsX5_isMoreUrgent (wsV RX5 40 RX5 yX5_age wsX5_age) := goodIn_app (goodIn_of _ (by decide +kernel)) ggX5_isMoreUrgent_X5_age
set_option maxRecDepth 20000 in
theorem ggX5_isMoreUrgent_X5_sumFrom : GoodIn wsX5_isMoreUrgent wsX5_sumFrom := goodIn_r _ [14, 6, 7, 8, 4, 9, 10, 15, 16, 17, 18, 19, 20, 21, 22, 23, 24, 25, 26, 27, 28, 29, 30] (by decide +kernel) (by decide +kernel)
set_option maxRecDepth 20000 in
theorem gX5_isMoreUrgent_X5_sumFrom : GoodIn wsX5_isMoreUrgent (wsV RX5 70 RX5 yX5_sumFrom wsX5_sumFrom) := goodIn_app (goodIn_of _ (by decide +kernel)) ggX5_isMoreUrgent_X5_sumFrom
theorem dX5_isMoreUrgent_0 : decode cX5_isMoreUrgent 0 = .ok (.aload_n 0, 1) := by decide +kernel
theorem dX5_isMoreUrgent_1 : decode cX5_isMoreUrgent 1 = .ok (.iload_n 1, 1) := by decide +kernel
theorem dX5_isMoreUrgent_2 : decode cX5_isMoreUrgent 2 = .ok (.iconst 0, 1) := by decide +kernel
theorem dX5_isMoreUrgent_3 : decode cX5_isMoreUrgent 3 = .ok (.invokevirtual 40, 3) := by decide +kernel
theorem dX5_isMoreUrgent_6 : decode cX5_isMoreUrgent 6 = .ok (.aload_n 0, 1) := by decide +kernel
theorem dX5_isMoreUrgent_7 : decode cX5_isMoreUrgent 7 = .ok (.iload_n 2, 1) := by decide +kernel
theorem dX5_isMoreUrgent_8 : decode cX5_isMoreUrgent 8 = .ok (.iconst 0, 1) := by decide +kernel
theorem dX5_isMoreUrgent_9 : decode cX5_isMoreUrgent 9 = .ok (.invokevirtual 40, 3) := by decide +kernel
theorem dX5_isMoreUrgent_12 : decode cX5_isMoreUrgent 12 = .ok (.isub, 1) := by decide +kernel
theorem dX5_isMoreUrgent_13 : decode cX5_isMoreUrgent 13 = .ok (.istore_n 3, 1) := by decide +kernel
theorem dX5_isMoreUrgent_14 : decode cX5_isMoreUrgent 14 = .ok (.iload_n 3, 1) := by decide +kernel
theorem dX5_isMoreUrgent_15 : decode cX5_isMoreUrgent 15 = .ok (.ifCond .eq 15, 3) := by decide +kernel
theorem dX5_isMoreUrgent_18 : decode cX5_isMoreUrgent 18 = .ok (.iload_n 3, 1) := by decide +kernel
theorem dX5_isMoreUrgent_19 : decode cX5_isMoreUrgent 19 = .ok (.ifCond .le 7, 3) := by decide +kernel
theorem dX5_isMoreUrgent_22 : decode cX5_isMoreUrgent 22 = .ok (.iconst 1, 1) := by decide +kernel
theorem dX5_isMoreUrgent_23 : decode cX5_isMoreUrgent 23 = .ok (.goto 27, 3) := by decide +kernel
theorem dX5_isMoreUrgent_26 : decode cX5_isMoreUrgent 26 = .ok (.iconst 0, 1) := by decide +kernel
theorem dX5_isMoreUrgent_27 : decode cX5_isMoreUrgent 27 = .ok (.goto 23, 3) := by decide +kernel
theorem dX5_isMoreUrgent_30 : decode cX5_isMoreUrgent 30 = .ok (.aload_n 0, 1) := by decide +kernel
theorem dX5_isMoreUrgent_31 : decode cX5_isMoreUrgent 31 = .ok (.iload_n 1, 1) := by decide +kernel
theorem dX5_isMoreUrgent_32 : decode cX5_isMoreUrgent 32 = .ok (.iconst 0, 1) := by decide +kernel
theorem dX5_isMoreUrgent_33 : decode cX5_isMoreUrgent 33 = .ok (.invokevirtual 70, 3) := by decide +kernel
theorem dX5_isMoreUrgent_36 : decode cX5_isMoreUrgent 36 = .ok (.aload_n 0, 1) := by decide +kernel
theorem dX5_isMoreUrgent_37 : decode cX5_isMoreUrgent 37 = .ok (.iload_n 2, 1) := by decide +kernel
theorem dX5_isMoreUrgent_38 : decode cX5_isMoreUrgent 38 = .ok (.iconst 0, 1) := by decide +kernel
theorem dX5_isMoreUrgent_39 : decode cX5_isMoreUrgent 39 = .ok (.invokevirtual 70, 3) := by decide +kernel
theorem dX5_isMoreUrgent_42 : decode cX5_isMoreUrgent 42 = .ok (.if_icmp .le 7, 3) := by decide +kernel
theorem dX5_isMoreUrgent_45 : decode cX5_isMoreUrgent 45 = .ok (.iconst 1, 1) := by decide +kernel
theorem dX5_isMoreUrgent_46 : decode cX5_isMoreUrgent 46 = .ok (.goto 4, 3) := by decide +kernel
theorem dX5_isMoreUrgent_49 : decode cX5_isMoreUrgent 49 = .ok (.iconst 0, 1) := by decide +kernel
theorem dX5_isMoreUrgent_50 : decode cX5_isMoreUrgent 50 = .ok (.ireturn, 1) := by decide +kernel
set_option maxRecDepth 20000 in
theorem ggX5_mostUrgent_X5_of : GoodIn wsX5_mostUrgent wsX5_of := goodIn_r _ [5, 6, 23, 24, 25, 26, 27, 28, 29, 30, 31, 32, 33, 34] (by decide +kernel) (by decide +kernel)
set_option maxRecDepth 20000 in
theorem gX5_mostUrgent_X5_of : GoodIn wsX5_mostUrgent (wsV RX5 33 RX5 yX5_of wsX5_of) := goodIn_app (goodIn_of _ (by decide +kernel)) ggX5_mostUrgent_X5_of
set_option maxRecDepth 20000 in
theorem ggX5_mostUrgent_X5_isMoreUrgent : GoodIn wsX5_mostUrgent wsX5_isMoreUrgent := goodIn_r _ [10, 11, 12, 13, 4, 14, 1, 2, 3, 5, 6, 15, 16, 17, 18, 19, 20, 21, 22, 23, 24, 25, 26, 27, 28, 29, 30, 31, 32, 33, 34] (by decide +kernel) (by decide +kernel)
set_option maxRecDepth 20000 in
theorem gX5_mostUrgent_X5_isMoreUrgent : GoodIn wsX5_mostUrgent (wsV RX5 183 RX5 yX5_isMoreUrgent wsX5_isMoreUrgent) := goodIn_app (goodIn_of _ (by decide +kernel)) ggX5_mostUrgent_X5_isMoreUrgent
theorem dX5_mostUrgent_0 : decode cX5_mostUrgent 0 = .ok (.iconst (-1), 1) := by decide +kernel
theorem dX5_mostUrgent_1 : decode cX5_mostUrgent 1 = .ok (.istore_n 1, 1) := by decide +kernel
theorem dX5_mostUrgent_2 : decode cX5_mostUrgent 2 = .ok (.iconst 0, 1) := by decide +kernel
theorem dX5_mostUrgent_3 : decode cX5_mostUrgent 3 = .ok (.istore_n 2, 1) := by decide +kernel
theorem dX5_mostUrgent_4 : decode cX5_mostUrgent 4 = .ok (.iload_n 2, 1) := by decide +kernel
theorem dX5_mostUrgent_5 : decode cX5_mostUrgent 5 = .ok (.iconst 4, 1) := by decide +kernel
theorem dX5_mostUrgent_6 : decode cX5_mostUrgent 6 = .ok (.if_icmp .ge 48, 3) := by decide +kernel
theorem dX5_mostUrgent_9 : decode cX5_mostUrgent 9 = .ok (.aload_n 0, 1) := by decide +kernel
theorem dX5_mostUrgent_10 : decode cX5_mostUrgent 10 = .ok (.iload_n 2, 1) := by decide +kernel
theorem dX5_mostUrgent_11 : decode cX5_mostUrgent 11 = .ok (.iconst 3, 1) := by decide +kernel
theorem dX5_mostUrgent_12 : decode cX5_mostUrgent 12 = .ok (.invokevirtual 33, 3) := by decide +kernel
theorem dX5_mostUrgent_15 : decode cX5_mostUrgent 15 = .ok (.ifCond .le 21, 3) := by decide +kernel
theorem dX5_mostUrgent_18 : decode cX5_mostUrgent 18 = .ok (.iload_n 1, 1) := by decide +kernel
theorem dX5_mostUrgent_19 : decode cX5_mostUrgent 19 = .ok (.iconst (-1), 1) := by decide +kernel
theorem dX5_mostUrgent_20 : decode cX5_mostUrgent 20 = .ok (.if_icmp .eq 12, 3) := by decide +kernel
theorem dX5_mostUrgent_23 : decode cX5_mostUrgent 23 = .ok (.aload_n 0, 1) := by decide +kernel
theorem dX5_mostUrgent_24 : decode cX5_mostUrgent 24 = .ok (.iload_n 2, 1) := by decide +kernel
theorem dX5_mostUrgent_25 : decode cX5_mostUrgent 25 = .ok (.iload_n 1, 1) := by decide +kernel
theorem dX5_mostUrgent_26 : decode cX5_mostUrgent 26 = .ok (.invokevirtual 183, 3) := by decide +kernel
theorem dX5_mostUrgent_29 : decode cX5_mostUrgent 29 = .ok (.ifCond .eq 7, 3) := by decide +kernel
theorem dX5_mostUrgent_32 : decode cX5_mostUrgent 32 = .ok (.iconst 1, 1) := by decide +kernel
theorem dX5_mostUrgent_33 : decode cX5_mostUrgent 33 = .ok (.goto 4, 3) := by decide +kernel
theorem dX5_mostUrgent_36 : decode cX5_mostUrgent 36 = .ok (.iconst 0, 1) := by decide +kernel
theorem dX5_mostUrgent_37 : decode cX5_mostUrgent 37 = .ok (.istore_n 3, 1) := by decide +kernel
theorem dX5_mostUrgent_38 : decode cX5_mostUrgent 38 = .ok (.iload_n 3, 1) := by decide +kernel
theorem dX5_mostUrgent_39 : decode cX5_mostUrgent 39 = .ok (.ifCond .eq 7, 3) := by decide +kernel
theorem dX5_mostUrgent_42 : decode cX5_mostUrgent 42 = .ok (.iload_n 2, 1) := by decide +kernel
theorem dX5_mostUrgent_43 : decode cX5_mostUrgent 43 = .ok (.goto 4, 3) := by decide +kernel
theorem dX5_mostUrgent_46 : decode cX5_mostUrgent 46 = .ok (.iload_n 1, 1) := by decide +kernel
theorem dX5_mostUrgent_47 : decode cX5_mostUrgent 47 = .ok (.istore_n 1, 1) := by decide +kernel
theorem dX5_mostUrgent_48 : decode cX5_mostUrgent 48 = .ok (.iinc 2 1, 3) := by decide +kernel
theorem dX5_mostUrgent_51 : decode cX5_mostUrgent 51 = .ok (.goto (-47), 3) := by decide +kernel
theorem dX5_mostUrgent_54 : decode cX5_mostUrgent 54 = .ok (.iload_n 1, 1) := by decide +kernel
theorem dX5_mostUrgent_55 : decode cX5_mostUrgent 55 = .ok (.ireturn, 1) := by decide +kernel
set_option maxRecDepth 20000 in
theorem ggX5_urgent_X5_mostUrgent : GoodIn wsX5_urgent wsX5_mostUrgent := goodIn_r _ [6, 7, 8, 9, 5, 10, 11, 12, 13, 14, 15, 16, 17, 18, 19, 20, 21, 22, 23, 24, 25, 26, 27, 28, 29, 30, 31, 32, 33, 34, 35, 36, 37, 38, 39] (by decide +kernel) (by decide +kernel)
set_option maxRecDepth 20000 in
theorem gX5_urgent_X5_mostUrgent : GoodIn wsX5_urgent (wsV RX5 187 RX5 yX5_mostUrgent wsX5_mostUrgent) := goodIn_app (goodIn_of _ (by decide +kernel)) ggX5_urgent_X5_mostUrgent
theorem dX5_urgent_0 : decode cX5_urgent 0 = .ok (.aload_n 0, 1) := by decide +kernel
theorem dX5_urgent_1 : decode cX5_urgent 1 = .ok (.iconst 0, 1) := by decide +kernel
theorem dX5_urgent_2 : decode cX5_urgent 2 = .ok (.putfield 25, 3) := by decide +kernel
theorem dX5_urgent_5 : decode cX5_urgent 5 = .ok (.aload_n 0, 1) := by decide +kernel
theorem dX5_urgent_6 : decode cX5_urgent 6 = .ok (.invokevirtual 187, 3) := by decide +kernel
theorem dX5_urgent_9 : decode cX5_urgent 9 = .ok (.ireturn, 1) := by decide +kernel
set_option maxRecDepth 20000 in
theorem ggX5_archAhead_X5_putAside : GoodIn wsX5_archAhead wsX5_putAside := goodIn_r _ [5, 6, 7, 36, 37, 38, 39, 40, 41, 42, 43, 44, 45, 46, 47] (by decide +kernel) (by decide +kernel)
set_option maxRecDepth 20000 in
theorem gX5_archAhead_X5_putAside : GoodIn wsX5_archAhead (wsV RX5 173 RX5 yX5_putAside wsX5_putAside) := goodIn_app (goodIn_of _ (by decide +kernel)) ggX5_archAhead_X5_putAside
set_option maxRecDepth 20000 in
theorem ggX5_archAhead_X5_passesDay : GoodIn wsX5_archAhead wsX5_passesDay := goodIn_r _ [11, 7, 12, 13, 14, 4, 15, 16, 17, 18, 19, 20, 21, 22, 23, 24, 25, 26, 27, 28, 29, 30, 31, 36, 37, 38, 39, 40, 41, 42, 43, 44, 45, 46, 47] (by decide +kernel) (by decide +kernel)
set_option maxRecDepth 20000 in
theorem gX5_archAhead_X5_passesDay : GoodIn wsX5_archAhead (wsV RX5 80 RX5 yX5_passesDay wsX5_passesDay) := goodIn_app (goodIn_of _ (by decide +kernel)) ggX5_archAhead_X5_passesDay
set_option maxRecDepth 20000 in
theorem ggX5_archAhead_X5_takeBack : GoodIn wsX5_archAhead wsX5_takeBack := goodIn_r _ [35, 7, 6, 36, 37, 38, 39, 40, 41, 42, 43, 44, 45, 46, 47] (by decide +kernel) (by decide +kernel)
set_option maxRecDepth 20000 in
theorem gX5_archAhead_X5_takeBack : GoodIn wsX5_archAhead (wsV RX5 176 RX5 yX5_takeBack wsX5_takeBack) := goodIn_app (goodIn_of _ (by decide +kernel)) ggX5_archAhead_X5_takeBack
theorem dX5_archAhead_0 : decode cX5_archAhead 0 = .ok (.aload_n 0, 1) := by decide +kernel
theorem dX5_archAhead_1 : decode cX5_archAhead 1 = .ok (.invokevirtual 173, 3) := by decide +kernel
theorem dX5_archAhead_4 : decode cX5_archAhead 4 = .ok (.iconst (-1), 1) := by decide +kernel
theorem dX5_archAhead_5 : decode cX5_archAhead 5 = .ok (.istore_n 1, 1) := by decide +kernel
theorem dX5_archAhead_6 : decode cX5_archAhead 6 = .ok (.iconst 1, 1) := by decide +kernel
theorem dX5_archAhead_7 : decode cX5_archAhead 7 = .ok (.istore_n 2, 1) := by decide +kernel
theorem dX5_archAhead_8 : decode cX5_archAhead 8 = .ok (.iload_n 2, 1) := by decide +kernel
theorem dX5_archAhead_9 : decode cX5_archAhead 9 = .ok (.bipush 60, 2) := by decide +kernel
theorem dX5_archAhead_11 : decode cX5_archAhead 11 = .ok (.if_icmp .gt 27, 3) := by decide +kernel
theorem dX5_archAhead_14 : decode cX5_archAhead 14 = .ok (.iload_n 1, 1) := by decide +kernel
theorem dX5_archAhead_15 : decode cX5_archAhead 15 = .ok (.iconst (-1), 1) := by decide +kernel
theorem dX5_archAhead_16 : decode cX5_archAhead 16 = .ok (.if_icmp .ne 22, 3) := by decide +kernel
theorem dX5_archAhead_19 : decode cX5_archAhead 19 = .ok (.aload_n 0, 1) := by decide +kernel
theorem dX5_archAhead_20 : decode cX5_archAhead 20 = .ok (.invokevirtual 80, 3) := by decide +kernel
theorem dX5_archAhead_23 : decode cX5_archAhead 23 = .ok (.ifCond .le 7, 3) := by decide +kernel
theorem dX5_archAhead_26 : decode cX5_archAhead 26 = .ok (.iload_n 2, 1) := by decide +kernel
theorem dX5_archAhead_27 : decode cX5_archAhead 27 = .ok (.goto 4, 3) := by decide +kernel
theorem dX5_archAhead_30 : decode cX5_archAhead 30 = .ok (.iconst (-1), 1) := by decide +kernel
theorem dX5_archAhead_31 : decode cX5_archAhead 31 = .ok (.istore_n 1, 1) := by decide +kernel
theorem dX5_archAhead_32 : decode cX5_archAhead 32 = .ok (.iinc 2 1, 3) := by decide +kernel
theorem dX5_archAhead_35 : decode cX5_archAhead 35 = .ok (.goto (-27), 3) := by decide +kernel
theorem dX5_archAhead_38 : decode cX5_archAhead 38 = .ok (.aload_n 0, 1) := by decide +kernel
theorem dX5_archAhead_39 : decode cX5_archAhead 39 = .ok (.invokevirtual 176, 3) := by decide +kernel
theorem dX5_archAhead_42 : decode cX5_archAhead 42 = .ok (.iload_n 1, 1) := by decide +kernel
theorem dX5_archAhead_43 : decode cX5_archAhead 43 = .ok (.ireturn, 1) := by decide +kernel
set_option maxRecDepth 20000 in
theorem ggX5_nextArch_X5_archAhead : GoodIn wsX5_nextArch wsX5_archAhead := goodIn_r _ [6, 7, 8, 9, 5, 10, 11, 12, 13, 14, 15, 16, 17, 18, 19, 20, 21, 22, 23, 24, 25, 26, 27, 28, 29, 30, 31, 32, 33, 34, 35, 36, 37, 38, 39, 40, 41, 42, 43, 44, 45, 46, 47, 48, 49, 50, 51, 52] (by decide +kernel) (by decide +kernel)
set_option maxRecDepth 20000 in
theorem gX5_nextArch_X5_archAhead : GoodIn wsX5_nextArch (wsV RX5 190 RX5 yX5_archAhead wsX5_archAhead) := goodIn_app (goodIn_of _ (by decide +kernel)) ggX5_nextArch_X5_archAhead
theorem dX5_nextArch_0 : decode cX5_nextArch 0 = .ok (.aload_n 0, 1) := by decide +kernel
theorem dX5_nextArch_1 : decode cX5_nextArch 1 = .ok (.iconst 0, 1) := by decide +kernel
theorem dX5_nextArch_2 : decode cX5_nextArch 2 = .ok (.putfield 25, 3) := by decide +kernel
theorem dX5_nextArch_5 : decode cX5_nextArch 5 = .ok (.aload_n 0, 1) := by decide +kernel
theorem dX5_nextArch_6 : decode cX5_nextArch 6 = .ok (.invokevirtual 190, 3) := by decide +kernel
theorem dX5_nextArch_9 : decode cX5_nextArch 9 = .ok (.ireturn, 1) := by decide +kernel
set_option maxRecDepth 20000 in
theorem ggX5_needed_X5_of : GoodIn wsX5_needed wsX5_of := goodIn_r _ [5, 6, 19, 20, 21, 22, 23, 24, 25, 26, 27, 28, 29, 30] (by decide +kernel) (by decide +kernel)
set_option maxRecDepth 20000 in
theorem gX5_needed_X5_of : GoodIn wsX5_needed (wsV RX5 33 RX5 yX5_of wsX5_of) := goodIn_app (goodIn_of _ (by decide +kernel)) ggX5_needed_X5_of
set_option maxRecDepth 20000 in
theorem ggX5_needed_X5_isHeavy : GoodIn wsX5_needed wsX5_isHeavy := goodIn_r _ [10, 6, 1, 2, 3, 4, 5, 11, 12, 13, 14, 15, 16, 17, 18, 19, 20, 21, 22, 23, 24, 25, 26, 27, 28, 29, 30] (by decide +kernel) (by decide +kernel)
set_option maxRecDepth 20000 in
theorem gX5_needed_X5_isHeavy : GoodIn wsX5_needed (wsV RX5 84 RX5 yX5_isHeavy wsX5_isHeavy) := goodIn_app (goodIn_of _ (by decide +kernel)) ggX5_needed_X5_isHeavy
theorem dX5_needed_0 : decode cX5_needed 0 = .ok (.aload_n 0, 1) := by decide +kernel
theorem dX5_needed_1 : decode cX5_needed 1 = .ok (.iload_n 1, 1) := by decide +kernel
theorem dX5_needed_2 : decode cX5_needed 2 = .ok (.iconst 1, 1) := by decide +kernel
theorem dX5_needed_3 : decode cX5_needed 3 = .ok (.invokevirtual 33, 3) := by decide +kernel
theorem dX5_needed_6 : decode cX5_needed 6 = .ok (.ifCond .ne 7, 3) := by decide +kernel
theorem dX5_needed_9 : decode cX5_needed 9 = .ok (.iconst 0, 1) := by decide +kernel
theorem dX5_needed_10 : decode cX5_needed 10 = .ok (.goto 23, 3) := by decide +kernel
theorem dX5_needed_13 : decode cX5_needed 13 = .ok (.aload_n 0, 1) := by decide +kernel
theorem dX5_needed_14 : decode cX5_needed 14 = .ok (.iload_n 1, 1) := by decide +kernel
theorem dX5_needed_15 : decode cX5_needed 15 = .ok (.invokevirtual 84, 3) := by decide +kernel
theorem dX5_needed_18 : decode cX5_needed 18 = .ok (.ifCond .eq 7, 3) := by decide +kernel
theorem dX5_needed_21 : decode cX5_needed 21 = .ok (.iconst 1, 1) := by decide +kernel
theorem dX5_needed_22 : decode cX5_needed 22 = .ok (.goto 11, 3) := by decide +kernel
theorem dX5_needed_25 : decode cX5_needed 25 = .ok (.iconst 3, 1) := by decide +kernel
theorem dX5_needed_26 : decode cX5_needed 26 = .ok (.aload_n 0, 1) := by decide +kernel
theorem dX5_needed_27 : decode cX5_needed 27 = .ok (.iload_n 1, 1) := by decide +kernel
theorem dX5_needed_28 : decode cX5_needed 28 = .ok (.iconst 2, 1) := by decide +kernel
theorem dX5_needed_29 : decode cX5_needed 29 = .ok (.invokevirtual 33, 3) := by decide +kernel
theorem dX5_needed_32 : decode cX5_needed 32 = .ok (.isub, 1) := by decide +kernel
theorem dX5_needed_33 : decode cX5_needed 33 = .ok (.ireturn, 1) := by decide +kernel
set_option maxRecDepth 20000 in
theorem ggX5_shakesNeeded_X5_isSilo : GoodIn wsX5_shakesNeeded wsX5_isSilo := goodIn_r _ [5, 6, 7, 4, 8] (by decide +kernel) (by decide +kernel)
set_option maxRecDepth 20000 in
theorem gX5_shakesNeeded_X5_isSilo : GoodIn wsX5_shakesNeeded (va_wsS RX5 96 yX5_isSilo wsX5_isSilo) := goodIn_app (goodIn_of _ (by decide +kernel)) ggX5_shakesNeeded_X5_isSilo
set_option maxRecDepth 20000 in
theorem ggX5_shakesNeeded_X5_needed : GoodIn wsX5_shakesNeeded wsX5_needed := goodIn_r _ [12, 13, 14, 15, 4, 16, 17, 18, 19, 20, 21, 22, 23, 24, 25, 26, 27, 28, 29, 34, 35, 36, 37, 38, 39, 40, 41, 42, 43, 44, 45] (by decide +kernel) (by decide +kernel)
set_option maxRecDepth 20000 in
theorem gX5_shakesNeeded_X5_needed : GoodIn wsX5_shakesNeeded (wsV RX5 193 RX5 yX5_needed wsX5_needed) := goodIn_app (goodIn_of _ (by decide +kernel)) ggX5_shakesNeeded_X5_needed
set_option maxRecDepth 20000 in
theorem ggX5_shakesNeeded_X5_fails : GoodIn wsX5_shakesNeeded wsX5_fails := goodIn_r _ [33, 1, 34, 35, 36, 37, 38, 39, 40, 41, 42, 43, 44, 45] (by decide +kernel) (by decide +kernel)
set_option maxRecDepth 20000 in
theorem gX5_shakesNeeded_X5_fails : GoodIn wsX5_shakesNeeded (wsV RX5 90 RX5 yX5_fails wsX5_fails) := goodIn_app (goodIn_of _ (by decide +kernel)) ggX5_shakesNeeded_X5_fails
theorem dX5_shakesNeeded_0 : decode cX5_shakesNeeded 0 = .ok (.aload_n 0, 1) := by decide +kernel
theorem dX5_shakesNeeded_1 : decode cX5_shakesNeeded 1 = .ok (.iconst 0, 1) := by decide +kernel
theorem dX5_shakesNeeded_2 : decode cX5_shakesNeeded 2 = .ok (.putfield 25, 3) := by decide +kernel
theorem dX5_shakesNeeded_5 : decode cX5_shakesNeeded 5 = .ok (.iload_n 1, 1) := by decide +kernel
theorem dX5_shakesNeeded_6 : decode cX5_shakesNeeded 6 = .ok (.invokestatic 96, 3) := by decide +kernel
theorem dX5_shakesNeeded_9 : decode cX5_shakesNeeded 9 = .ok (.ifCond .eq 11, 3) := by decide +kernel
theorem dX5_shakesNeeded_12 : decode cX5_shakesNeeded 12 = .ok (.aload_n 0, 1) := by decide +kernel
theorem dX5_shakesNeeded_13 : decode cX5_shakesNeeded 13 = .ok (.iload_n 1, 1) := by decide +kernel
theorem dX5_shakesNeeded_14 : decode cX5_shakesNeeded 14 = .ok (.invokevirtual 193, 3) := by decide +kernel
theorem dX5_shakesNeeded_17 : decode cX5_shakesNeeded 17 = .ok (.goto 8, 3) := by decide +kernel
theorem dX5_shakesNeeded_20 : decode cX5_shakesNeeded 20 = .ok (.aload_n 0, 1) := by decide +kernel
theorem dX5_shakesNeeded_21 : decode cX5_shakesNeeded 21 = .ok (.iconst 1, 1) := by decide +kernel
theorem dX5_shakesNeeded_22 : decode cX5_shakesNeeded 22 = .ok (.invokevirtual 90, 3) := by decide +kernel
theorem dX5_shakesNeeded_25 : decode cX5_shakesNeeded 25 = .ok (.ireturn, 1) := by decide +kernel
set_option maxRecDepth 20000 in
theorem ggX5_soft_X5_of : GoodIn wsX5_soft wsX5_of := goodIn_r _ [5, 6, 27, 28, 29, 30, 31, 32, 33, 34, 35, 36, 37, 38] (by decide +kernel) (by decide +kernel)
set_option maxRecDepth 20000 in
theorem gX5_soft_X5_of : GoodIn wsX5_soft (wsV RX5 33 RX5 yX5_of wsX5_of) := goodIn_app (goodIn_of _ (by decide +kernel)) ggX5_soft_X5_of
set_option maxRecDepth 20000 in
theorem ggX5_soft_X5_setOf : GoodIn wsX5_soft wsX5_setOf := goodIn_r _ [10, 6, 11, 12, 13, 4, 14, 1, 2, 3, 5, 27, 28, 29, 30, 31, 32, 33, 34, 35, 36, 37, 38] (by decide +kernel) (by decide +kernel)
set_option maxRecDepth 20000 in
theorem gX5_soft_X5_setOf : GoodIn wsX5_soft (wsV RX5 46 RX5 yX5_setOf wsX5_setOf) := goodIn_app (goodIn_of _ (by decide +kernel)) ggX5_soft_X5_setOf
set_option maxRecDepth 20000 in
theorem ggX5_soft_X5_tonnes : GoodIn wsX5_soft wsX5_tonnes := goodIn_r _ [18, 1, 2, 3, 4, 5, 6, 27, 28, 29, 30, 31, 32, 33, 34, 35, 36, 37, 38] (by decide +kernel) (by decide +kernel)
set_option maxRecDepth 20000 in
theorem gX5_soft_X5_tonnes : GoodIn wsX5_soft (wsV RX5 43 RX5 yX5_tonnes wsX5_tonnes) := goodIn_app (goodIn_of _ (by decide +kernel)) ggX5_soft_X5_tonnes
set_option maxRecDepth 20000 in
theorem ggX5_soft_X5_inSilos : GoodIn wsX5_soft wsX5_inSilos := goodIn_r _ [22, 23, 24, 25, 4, 26, 1, 2, 3, 5, 6, 15, 16, 17, 18, 27, 28, 29, 30, 31, 32, 33, 34, 35, 36, 37, 38] (by decide +kernel) (by decide +kernel)
set_option maxRecDepth 20000 in
theorem gX5_soft_X5_inSilos : GoodIn wsX5_soft (wsV RX5 158 RX5 yX5_inSilos wsX5_inSilos) := goodIn_app (goodIn_of _ (by decide +kernel)) ggX5_soft_X5_inSilos
theorem dX5_soft_0 : decode cX5_soft 0 = .ok (.iconst 0, 1) := by decide +kernel
theorem dX5_soft_1 : decode cX5_soft 1 = .ok (.istore_n 1, 1) := by decide +kernel
theorem dX5_soft_2 : decode cX5_soft 2 = .ok (.iconst 0, 1) := by decide +kernel
theorem dX5_soft_3 : decode cX5_soft 3 = .ok (.istore_n 2, 1) := by decide +kernel
theorem dX5_soft_4 : decode cX5_soft 4 = .ok (.iload_n 2, 1) := by decide +kernel
theorem dX5_soft_5 : decode cX5_soft 5 = .ok (.iconst 4, 1) := by decide +kernel
theorem dX5_soft_6 : decode cX5_soft 6 = .ok (.if_icmp .ge 49, 3) := by decide +kernel
theorem dX5_soft_9 : decode cX5_soft 9 = .ok (.iconst 0, 1) := by decide +kernel
theorem dX5_soft_10 : decode cX5_soft 10 = .ok (.istore_n 3, 1) := by decide +kernel
theorem dX5_soft_11 : decode cX5_soft 11 = .ok (.iload_n 3, 1) := by decide +kernel
theorem dX5_soft_12 : decode cX5_soft 12 = .ok (.aload_n 0, 1) := by decide +kernel
theorem dX5_soft_13 : decode cX5_soft 13 = .ok (.iload_n 2, 1) := by decide +kernel
theorem dX5_soft_14 : decode cX5_soft 14 = .ok (.iconst 3, 1) := by decide +kernel
theorem dX5_soft_15 : decode cX5_soft 15 = .ok (.invokevirtual 33, 3) := by decide +kernel
theorem dX5_soft_18 : decode cX5_soft 18 = .ok (.if_icmp .ge 31, 3) := by decide +kernel
theorem dX5_soft_21 : decode cX5_soft 21 = .ok (.iload_n 1, 1) := by decide +kernel
theorem dX5_soft_22 : decode cX5_soft 22 = .ok (.aload_n 0, 1) := by decide +kernel
theorem dX5_soft_23 : decode cX5_soft 23 = .ok (.iload_n 2, 1) := by decide +kernel
theorem dX5_soft_24 : decode cX5_soft 24 = .ok (.iload_n 3, 1) := by decide +kernel
theorem dX5_soft_25 : decode cX5_soft 25 = .ok (.invokevirtual 46, 3) := by decide +kernel
theorem dX5_soft_28 : decode cX5_soft 28 = .ok (.ifCond .ne 12, 3) := by decide +kernel
theorem dX5_soft_31 : decode cX5_soft 31 = .ok (.aload_n 0, 1) := by decide +kernel
theorem dX5_soft_32 : decode cX5_soft 32 = .ok (.iload_n 2, 1) := by decide +kernel
theorem dX5_soft_33 : decode cX5_soft 33 = .ok (.iload_n 3, 1) := by decide +kernel
theorem dX5_soft_34 : decode cX5_soft 34 = .ok (.invokevirtual 43, 3) := by decide +kernel
theorem dX5_soft_37 : decode cX5_soft 37 = .ok (.goto 4, 3) := by decide +kernel
theorem dX5_soft_40 : decode cX5_soft 40 = .ok (.iconst 0, 1) := by decide +kernel
theorem dX5_soft_41 : decode cX5_soft 41 = .ok (.iadd, 1) := by decide +kernel
theorem dX5_soft_42 : decode cX5_soft 42 = .ok (.istore_n 1, 1) := by decide +kernel
theorem dX5_soft_43 : decode cX5_soft 43 = .ok (.iinc 3 1, 3) := by decide +kernel
theorem dX5_soft_46 : decode cX5_soft 46 = .ok (.goto (-35), 3) := by decide +kernel
theorem dX5_soft_49 : decode cX5_soft 49 = .ok (.iinc 2 1, 3) := by decide +kernel
theorem dX5_soft_52 : decode cX5_soft 52 = .ok (.goto (-48), 3) := by decide +kernel
theorem dX5_soft_55 : decode cX5_soft 55 = .ok (.aload_n 0, 1) := by decide +kernel
theorem dX5_soft_56 : decode cX5_soft 56 = .ok (.invokevirtual 158, 3) := by decide +kernel
theorem dX5_soft_59 : decode cX5_soft 59 = .ok (.istore_n 2, 1) := by decide +kernel
theorem dX5_soft_60 : decode cX5_soft 60 = .ok (.iload_n 2, 1) := by decide +kernel
theorem dX5_soft_61 : decode cX5_soft 61 = .ok (.ifCond .ne 7, 3) := by decide +kernel
theorem dX5_soft_64 : decode cX5_soft 64 = .ok (.dconst 1, 1) := by decide +kernel
theorem dX5_soft_65 : decode cX5_soft 65 = .ok (.goto 8, 3) := by decide +kernel
theorem dX5_soft_68 : decode cX5_soft 68 = .ok (.iload_n 1, 1) := by decide +kernel
theorem dX5_soft_69 : decode cX5_soft 69 = .ok (.i2d, 1) := by decide +kernel
theorem dX5_soft_70 : decode cX5_soft 70 = .ok (.iload_n 2, 1) := by decide +kernel
theorem dX5_soft_71 : decode cX5_soft 71 = .ok (.i2d, 1) := by decide +kernel
theorem dX5_soft_72 : decode cX5_soft 72 = .ok (.ddiv, 1) := by decide +kernel
theorem dX5_soft_73 : decode cX5_soft 73 = .ok (.dreturn, 1) := by decide +kernel
set_option maxRecDepth 20000 in
theorem ggX5_softness_X5_soft : GoodIn wsX5_softness wsX5_soft := goodIn_r _ [6, 7, 8, 9, 5, 10, 11, 12, 13, 14, 15, 16, 17, 18, 19, 20, 21, 22, 23, 24, 25, 26, 27, 28, 29, 30, 31, 32, 33, 34, 35, 36, 37, 38, 39, 40, 41, 42, 43] (by decide +kernel) (by decide +kernel)
set_option maxRecDepth 20000 in
theorem gX5_softness_X5_soft : GoodIn wsX5_softness (wsV RX5 196 RX5 yX5_soft wsX5_soft) := goodIn_app (goodIn_of _ (by decide +kernel)) ggX5_softness_X5_soft
theorem dX5_softness_0 : decode cX5_softness 0 = .ok (.aload_n 0, 1) := by decide +kernel
theorem dX5_softness_1 : decode cX5_softness 1 = .ok (.iconst 0, 1) := by decide +kernel
theorem dX5_softness_2 : decode cX5_softness 2 = .ok (.putfield 25, 3) := by decide +kernel
theorem dX5_softness_5 : decode cX5_softness 5 = .ok (.aload_n 0, 1) := by decide +kernel
theorem dX5_softness_6 : decode cX5_softness 6 = .ok (.invokevirtual 196, 3) := by decide +kernel
theorem dX5_softness_9 : decode cX5_softness 9 = .ok (.dreturn, 1) := by decide +kernel
theorem dX5_hashes_0 : decode cX5_hashes 0 = .ok (.aload_n 0, 1) := by decide +kernel
theorem dX5_hashes_1 : decode cX5_hashes 1 = .ok (.ldc2_w 200, 3) := by decide +kernel
theorem dX5_hashes_4 : decode cX5_hashes 4 = .ok (.aload_n 0, 1) := by decide +kernel
theorem dX5_hashes_5 : decode cX5_hashes 5 = .ok (.getfield 202, 3) := by decide +kernel
theorem dX5_hashes_8 : decode cX5_hashes 8 = .ok (.lmul, 1) := by decide +kernel
theorem dX5_hashes_9 : decode cX5_hashes 9 = .ok (.lload_n 1, 1) := by decide +kernel
theorem dX5_hashes_10 : decode cX5_hashes 10 = .ok (.ladd, 1) := by decide +kernel
theorem dX5_hashes_11 : decode cX5_hashes 11 = .ok (.putfield 202, 3) := by decide +kernel
theorem dX5_hashes_14 : decode cX5_hashes 14 = .ok (.return_, 1) := by decide +kernel
set_option maxRecDepth 20000 in
theorem ggX5_hashesSilo_X5_tellsSilo : GoodIn wsX5_hashesSilo wsX5_tellsSilo := goodIn_r _ [5, 6, 7, 8, 4, 9, 10, 11, 12, 13, 14, 15, 16, 17, 18, 19, 20, 21, 22, 23, 24, 25, 26, 27, 28, 29, 30, 89, 90, 91, 92, 93, 94, 95, 96, 97, 98, 99, 100] (by decide +kernel) (by decide +kernel)
set_option maxRecDepth 20000 in
theorem gX5_hashesSilo_X5_tellsSilo : GoodIn wsX5_hashesSilo (wsV RX5 152 RX5 yX5_tellsSilo wsX5_tellsSilo) := goodIn_app (goodIn_of _ (by decide +kernel)) ggX5_hashesSilo_X5_tellsSilo
set_option maxRecDepth 20000 in
theorem ggX5_hashesSilo_X5_hashes : GoodIn wsX5_hashesSilo wsX5_hashes := goodIn_r _ [34, 35, 36, 89, 90, 91, 92, 93, 94, 95, 96, 97, 98, 99, 100] (by decide +kernel) (by decide +kernel)
set_option maxRecDepth 20000 in
theorem gX5_hashesSilo_X5_hashes : GoodIn wsX5_hashesSilo (wsV RX5 206 RX5 yX5_hashes wsX5_hashes) := goodIn_app (goodIn_of _ (by decide +kernel)) ggX5_hashesSilo_X5_hashes
set_option maxRecDepth 20000 in
theorem ggX5_hashesSilo_X5_of : GoodIn wsX5_hashesSilo wsX5_of := goodIn_r _ [13, 14, 89, 90, 91, 92, 93, 94, 95, 96, 97, 98, 99, 100] (by decide +kernel) (by decide +kernel)
set_option maxRecDepth 20000 in
theorem gX5_hashesSilo_X5_of : GoodIn wsX5_hashesSilo (wsV RX5 33 RX5 yX5_of wsX5_of) := goodIn_app (goodIn_of _ (by decide +kernel)) ggX5_hashesSilo_X5_of
set_option maxRecDepth 20000 in
theorem ggX5_hashesSilo_X5_tellsLayer : GoodIn wsX5_hashesSilo wsX5_tellsLayer := goodIn_r _ [40, 15, 16, 17, 4, 18, 10, 11, 12, 13, 14, 27, 28, 29, 30, 23, 24, 25, 26, 89, 90, 91, 92, 93, 94, 95, 96, 97, 98, 99, 100] (by decide +kernel) (by decide +kernel)
set_option maxRecDepth 20000 in
theorem gX5_hashesSilo_X5_tellsLayer : GoodIn wsX5_hashesSilo (wsV RX5 155 RX5 yX5_tellsLayer wsX5_tellsLayer) := goodIn_app (goodIn_of _ (by decide +kernel)) ggX5_hashesSilo_X5_tellsLayer
set_option maxRecDepth 20000 in
theorem ggX5_hashesSilo_X5_needed : GoodIn wsX5_hashesSilo wsX5_needed := goodIn_r _ [44, 10, 11, 12, 4, 13, 14, 45, 46, 47, 48, 6, 7, 8, 9, 15, 16, 17, 18, 89, 90, 91, 92, 93, 94, 95, 96, 97, 98, 99, 100] (by decide +kernel) (by decide +kernel)
set_option maxRecDepth 20000 in
theorem gX5_hashesSilo_X5_needed : GoodIn wsX5_hashesSilo (wsV RX5 193 RX5 yX5_needed wsX5_needed) := goodIn_app (goodIn_of _ (by decide +kernel)) ggX5_hashesSilo_X5_needed
set_option maxRecDepth 20000 in
theorem ggX5_hashesSilo_X5_reason : GoodIn wsX5_hashesSilo wsX5_reason := goodIn_r _ [52, 10, 11, 12, 4, 13, 14, 53, 54, 55, 56, 19, 20, 21, 22, 23, 24, 25, 26, 27, 28, 29, 30, 89, 90, 91, 92, 93, 94, 95, 96, 97, 98, 99, 100] (by decide +kernel) (by decide +kernel)
set_option maxRecDepth 20000 in
theorem gX5_hashesSilo_X5_reason : GoodIn wsX5_hashesSilo (wsV RX5 170 RX5 yX5_reason wsX5_reason) := goodIn_app (goodIn_of _ (by decide +kernel)) ggX5_hashesSilo_X5_reason
set_option maxRecDepth 20000 in
theorem ggX5_hashesSilo_X5_wouldFlow : GoodIn wsX5_hashesSilo wsX5_wouldFlow := goodIn_r _ [60, 61, 62, 63, 4, 64, 65, 14, 66, 67, 68, 69, 70, 71, 72, 73, 74, 75, 76, 77, 10, 11, 12, 13, 19, 20, 21, 22, 23, 24, 25, 26, 27, 28, 29, 30, 15, 16, 17, 18, 78, 79, 80, 53, 54, 55, 56, 81, 82, 83, 84, 85, 86, 87, 88, 89, 90, 91, 92, 93, 94, 95, 96, 97, 98, 99, 100] (by decide +kernel) (by decide +kernel)
set_option maxRecDepth 20000 in
theorem gX5_hashesSilo_X5_wouldFlow : GoodIn wsX5_hashesSilo (wsV RX5 179 RX5 yX5_wouldFlow wsX5_wouldFlow) := goodIn_app (goodIn_of _ (by decide +kernel)) ggX5_hashesSilo_X5_wouldFlow
theorem dX5_hashesSilo_0 : decode cX5_hashesSilo 0 = .ok (.iconst 0, 1) := by decide +kernel
theorem dX5_hashesSilo_1 : decode cX5_hashesSilo 1 = .ok (.istore_n 2, 1) := by decide +kernel
theorem dX5_hashesSilo_2 : decode cX5_hashesSilo 2 = .ok (.iload_n 2, 1) := by decide +kernel
theorem dX5_hashesSilo_3 : decode cX5_hashesSilo 3 = .ok (.bipush 6, 2) := by decide +kernel
theorem dX5_hashesSilo_5 : decode cX5_hashesSilo 5 = .ok (.if_icmp .ge 20, 3) := by decide +kernel
theorem dX5_hashesSilo_8 : decode cX5_hashesSilo 8 = .ok (.aload_n 0, 1) := by decide +kernel
theorem dX5_hashesSilo_9 : decode cX5_hashesSilo 9 = .ok (.aload_n 0, 1) := by decide +kernel
theorem dX5_hashesSilo_10 : decode cX5_hashesSilo 10 = .ok (.iload_n 1, 1) := by decide +kernel
theorem dX5_hashesSilo_11 : decode cX5_hashesSilo 11 = .ok (.iload_n 2, 1) := by decide +kernel
theorem dX5_hashesSilo_12 : decode cX5_hashesSilo 12 = .ok (.invokevirtual 152, 3) := by decide +kernel
theorem dX5_hashesSilo_15 : decode cX5_hashesSilo 15 = .ok (.i2l, 1) := by decide +kernel
theorem dX5_hashesSilo_16 : decode cX5_hashesSilo 16 = .ok (.invokevirtual 206, 3) := by decide +kernel
theorem dX5_hashesSilo_19 : decode cX5_hashesSilo 19 = .ok (.iinc 2 1, 3) := by decide +kernel
theorem dX5_hashesSilo_22 : decode cX5_hashesSilo 22 = .ok (.goto (-20), 3) := by decide +kernel
theorem dX5_hashesSilo_25 : decode cX5_hashesSilo 25 = .ok (.iconst 0, 1) := by decide +kernel
theorem dX5_hashesSilo_26 : decode cX5_hashesSilo 26 = .ok (.istore_n 2, 1) := by decide +kernel
theorem dX5_hashesSilo_27 : decode cX5_hashesSilo 27 = .ok (.iload_n 2, 1) := by decide +kernel
theorem dX5_hashesSilo_28 : decode cX5_hashesSilo 28 = .ok (.iconst 3, 1) := by decide +kernel
theorem dX5_hashesSilo_29 : decode cX5_hashesSilo 29 = .ok (.aload_n 0, 1) := by decide +kernel
theorem dX5_hashesSilo_30 : decode cX5_hashesSilo 30 = .ok (.iload_n 1, 1) := by decide +kernel
theorem dX5_hashesSilo_31 : decode cX5_hashesSilo 31 = .ok (.iconst 3, 1) := by decide +kernel
theorem dX5_hashesSilo_32 : decode cX5_hashesSilo 32 = .ok (.invokevirtual 33, 3) := by decide +kernel
theorem dX5_hashesSilo_35 : decode cX5_hashesSilo 35 = .ok (.imul, 1) := by decide +kernel
theorem dX5_hashesSilo_36 : decode cX5_hashesSilo 36 = .ok (.if_icmp .ge 25, 3) := by decide +kernel
theorem dX5_hashesSilo_39 : decode cX5_hashesSilo 39 = .ok (.aload_n 0, 1) := by decide +kernel
theorem dX5_hashesSilo_40 : decode cX5_hashesSilo 40 = .ok (.aload_n 0, 1) := by decide +kernel
theorem dX5_hashesSilo_41 : decode cX5_hashesSilo 41 = .ok (.iload_n 1, 1) := by decide +kernel
theorem dX5_hashesSilo_42 : decode cX5_hashesSilo 42 = .ok (.iload_n 2, 1) := by decide +kernel
theorem dX5_hashesSilo_43 : decode cX5_hashesSilo 43 = .ok (.iconst 3, 1) := by decide +kernel
theorem dX5_hashesSilo_44 : decode cX5_hashesSilo 44 = .ok (.idiv, 1) := by decide +kernel
theorem dX5_hashesSilo_45 : decode cX5_hashesSilo 45 = .ok (.iload_n 2, 1) := by decide +kernel
theorem dX5_hashesSilo_46 : decode cX5_hashesSilo 46 = .ok (.iconst 3, 1) := by decide +kernel
theorem dX5_hashesSilo_47 : decode cX5_hashesSilo 47 = .ok (.irem, 1) := by decide +kernel
theorem dX5_hashesSilo_48 : decode cX5_hashesSilo 48 = .ok (.invokevirtual 155, 3) := by decide +kernel
theorem dX5_hashesSilo_51 : decode cX5_hashesSilo 51 = .ok (.i2l, 1) := by decide +kernel
theorem dX5_hashesSilo_52 : decode cX5_hashesSilo 52 = .ok (.invokevirtual 206, 3) := by decide +kernel
theorem dX5_hashesSilo_55 : decode cX5_hashesSilo 55 = .ok (.iinc 2 1, 3) := by decide +kernel
theorem dX5_hashesSilo_58 : decode cX5_hashesSilo 58 = .ok (.goto (-31), 3) := by decide +kernel
theorem dX5_hashesSilo_61 : decode cX5_hashesSilo 61 = .ok (.aload_n 0, 1) := by decide +kernel
theorem dX5_hashesSilo_62 : decode cX5_hashesSilo 62 = .ok (.aload_n 0, 1) := by decide +kernel
theorem dX5_hashesSilo_63 : decode cX5_hashesSilo 63 = .ok (.iload_n 1, 1) := by decide +kernel
theorem dX5_hashesSilo_64 : decode cX5_hashesSilo 64 = .ok (.invokevirtual 193, 3) := by decide +kernel
theorem dX5_hashesSilo_67 : decode cX5_hashesSilo 67 = .ok (.i2l, 1) := by decide +kernel
theorem dX5_hashesSilo_68 : decode cX5_hashesSilo 68 = .ok (.invokevirtual 206, 3) := by decide +kernel
theorem dX5_hashesSilo_71 : decode cX5_hashesSilo 71 = .ok (.aload_n 0, 1) := by decide +kernel
theorem dX5_hashesSilo_72 : decode cX5_hashesSilo 72 = .ok (.aload_n 0, 1) := by decide +kernel
theorem dX5_hashesSilo_73 : decode cX5_hashesSilo 73 = .ok (.iload_n 1, 1) := by decide +kernel
theorem dX5_hashesSilo_74 : decode cX5_hashesSilo 74 = .ok (.iconst 0, 1) := by decide +kernel
theorem dX5_hashesSilo_75 : decode cX5_hashesSilo 75 = .ok (.invokevirtual 170, 3) := by decide +kernel
theorem dX5_hashesSilo_78 : decode cX5_hashesSilo 78 = .ok (.i2l, 1) := by decide +kernel
theorem dX5_hashesSilo_79 : decode cX5_hashesSilo 79 = .ok (.invokevirtual 206, 3) := by decide +kernel
theorem dX5_hashesSilo_82 : decode cX5_hashesSilo 82 = .ok (.aload_n 0, 1) := by decide +kernel
theorem dX5_hashesSilo_83 : decode cX5_hashesSilo 83 = .ok (.aload_n 0, 1) := by decide +kernel
theorem dX5_hashesSilo_84 : decode cX5_hashesSilo 84 = .ok (.iload_n 1, 1) := by decide +kernel
theorem dX5_hashesSilo_85 : decode cX5_hashesSilo 85 = .ok (.iconst 0, 1) := by decide +kernel
theorem dX5_hashesSilo_86 : decode cX5_hashesSilo 86 = .ok (.iconst 4, 1) := by decide +kernel
theorem dX5_hashesSilo_87 : decode cX5_hashesSilo 87 = .ok (.iconst 4, 1) := by decide +kernel
theorem dX5_hashesSilo_88 : decode cX5_hashesSilo 88 = .ok (.invokevirtual 179, 3) := by decide +kernel
theorem dX5_hashesSilo_91 : decode cX5_hashesSilo 91 = .ok (.i2l, 1) := by decide +kernel
theorem dX5_hashesSilo_92 : decode cX5_hashesSilo 92 = .ok (.invokevirtual 206, 3) := by decide +kernel
theorem dX5_hashesSilo_95 : decode cX5_hashesSilo 95 = .ok (.return_, 1) := by decide +kernel
set_option maxRecDepth 20000 in
theorem ggX5_digest_X5_tellsCount : GoodIn wsX5_digest wsX5_tellsCount := goodIn_r _ [11, 4, 12, 13, 14, 15, 10, 16, 17, 18, 19, 20, 21, 22, 23, 24, 25, 26, 27, 28, 29, 30, 31, 32, 33, 34, 35, 36, 37, 38, 39, 40, 154, 155, 156, 157, 158, 159, 160, 161, 162, 163, 164, 165] (by decide +kernel) (by decide +kernel)
set_option maxRecDepth 20000 in
theorem gX5_digest_X5_tellsCount : GoodIn wsX5_digest (wsV RX5 167 RX5 yX5_tellsCount wsX5_tellsCount) := goodIn_app (goodIn_of _ (by decide +kernel)) ggX5_digest_X5_tellsCount
set_option maxRecDepth 20000 in
theorem ggX5_digest_X5_hashes : GoodIn wsX5_digest wsX5_hashes := goodIn_r _ [44, 45, 3, 154, 155, 156, 157, 158, 159, 160, 161, 162, 163, 164, 165] (by decide +kernel) (by decide +kernel)
set_option maxRecDepth 20000 in
theorem gX5_digest_X5_hashes : GoodIn wsX5_digest (wsV RX5 206 RX5 yX5_hashes wsX5_hashes) := goodIn_app (goodIn_of _ (by decide +kernel)) ggX5_digest_X5_hashes
set_option maxRecDepth 20000 in
theorem ggX5_digest_X5_hashesSilo : GoodIn wsX5_digest wsX5_hashesSilo := goodIn_r _ [49, 50, 51, 52, 10, 53, 17, 18, 19, 20, 21, 22, 23, 24, 4, 25, 26, 27, 28, 54, 55, 56, 57, 58, 59, 60, 61, 62, 63, 64, 65, 41, 42, 43, 44, 45, 3, 66, 67, 68, 69, 70, 71, 72, 73, 74, 75, 76, 77, 78, 79, 80, 81, 82, 83, 84, 85, 86, 87, 88, 89, 90, 91, 92, 93, 94, 95, 96, 97, 98, 99, 100, 101, 102, 103, 104, 105, 106, 107, 108, 109, 110, 111, 112, 113, 114, 115, 116, 117, 154, 155, 156, 157, 158, 159, 160, 161, 162, 163, 164, 165] (by decide +kernel) (by decide +kernel)
set_option maxRecDepth 20000 in
theorem gX5_digest_X5_hashesSilo : GoodIn wsX5_digest (wsV RX5 212 RX5 yX5_hashesSilo wsX5_hashesSilo) := goodIn_app (goodIn_of _ (by decide +kernel)) ggX5_digest_X5_hashesSilo
set_option maxRecDepth 20000 in
theorem ggX5_digest_X5_mostUrgent : GoodIn wsX5_digest wsX5_mostUrgent := goodIn_r _ [121, 21, 22, 23, 10, 24, 4, 122, 123, 124, 125, 62, 63, 64, 65, 17, 18, 19, 20, 25, 26, 27, 28, 154, 155, 156, 157, 158, 159, 160, 161, 162, 163, 164, 165] (by decide +kernel) (by decide +kernel)
set_option maxRecDepth 20000 in
theorem gX5_digest_X5_mostUrgent : GoodIn wsX5_digest (wsV RX5 187 RX5 yX5_mostUrgent wsX5_mostUrgent) := goodIn_app (goodIn_of _ (by decide +kernel)) ggX5_digest_X5_mostUrgent
set_option maxRecDepth 20000 in
theorem ggX5_digest_X5_archAhead : GoodIn wsX5_digest wsX5_archAhead := goodIn_r _ [129, 90, 91, 92, 10, 93, 94, 4, 130, 131, 132, 133, 21, 22, 23, 24, 62, 63, 64, 65, 95, 96, 97, 98, 134, 135, 136, 137, 58, 59, 60, 61, 114, 115, 116, 117, 154, 155, 156, 157, 158, 159, 160, 161, 162, 163, 164, 165] (by decide +kernel) (by decide +kernel)
set_option maxRecDepth 20000 in
theorem gX5_digest_X5_archAhead : GoodIn wsX5_digest (wsV RX5 190 RX5 yX5_archAhead wsX5_archAhead) := goodIn_app (goodIn_of _ (by decide +kernel)) ggX5_digest_X5_archAhead
set_option maxRecDepth 20000 in
theorem ggX5_digest_X5_soft : GoodIn wsX5_digest wsX5_soft := goodIn_r _ [141, 21, 22, 23, 10, 24, 4, 58, 59, 60, 61, 62, 63, 64, 65, 25, 26, 27, 28, 13, 14, 15, 16, 17, 18, 19, 20, 154, 155, 156, 157, 158, 159, 160, 161, 162, 163, 164, 165] (by decide +kernel) (by decide +kernel)
set_option maxRecDepth 20000 in
theorem gX5_digest_X5_soft : GoodIn wsX5_digest (wsV RX5 196 RX5 yX5_soft wsX5_soft) := goodIn_app (goodIn_of _ (by decide +kernel)) ggX5_digest_X5_soft
set_option maxRecDepth 20000 in
theorem ggX5_digest_Jxe99ae_doubleToLongBits_ccdee : GoodIn wsX5_digest wsJxe99ae_doubleToLongBits_ccdee := goodIn_r _ [145, 146, 147, 148, 149, 150, 151, 152, 144, 153] (by decide +kernel) (by decide +kernel)
set_option maxRecDepth 20000 in
theorem gX5_digest_Jxe99ae_doubleToLongBits_ccdee : GoodIn wsX5_digest (va_wsS RX5 215 yJxe99ae_doubleToLongBits_ccdee wsJxe99ae_doubleToLongBits_ccdee) := goodIn_app (goodIn_of _ (by decide +kernel)) ggX5_digest_Jxe99ae_doubleToLongBits_ccdee
theorem dX5_digest_0 : decode cX5_digest 0 = .ok (.aload_n 0, 1) := by decide +kernel
theorem dX5_digest_1 : decode cX5_digest 1 = .ok (.iconst 0, 1) := by decide +kernel
theorem dX5_digest_2 : decode cX5_digest 2 = .ok (.putfield 25, 3) := by decide +kernel
theorem dX5_digest_5 : decode cX5_digest 5 = .ok (.aload_n 0, 1) := by decide +kernel
theorem dX5_digest_6 : decode cX5_digest 6 = .ok (.ldc2_w 210, 3) := by decide +kernel
theorem dX5_digest_9 : decode cX5_digest 9 = .ok (.putfield 202, 3) := by decide +kernel
theorem dX5_digest_12 : decode cX5_digest 12 = .ok (.iconst 0, 1) := by decide +kernel
theorem dX5_digest_13 : decode cX5_digest 13 = .ok (.istore_n 1, 1) := by decide +kernel
theorem dX5_digest_14 : decode cX5_digest 14 = .ok (.iload_n 1, 1) := by decide +kernel
theorem dX5_digest_15 : decode cX5_digest 15 = .ok (.bipush 15, 2) := by decide +kernel
theorem dX5_digest_17 : decode cX5_digest 17 = .ok (.if_icmp .ge 19, 3) := by decide +kernel
theorem dX5_digest_20 : decode cX5_digest 20 = .ok (.aload_n 0, 1) := by decide +kernel
theorem dX5_digest_21 : decode cX5_digest 21 = .ok (.aload_n 0, 1) := by decide +kernel
theorem dX5_digest_22 : decode cX5_digest 22 = .ok (.iload_n 1, 1) := by decide +kernel
theorem dX5_digest_23 : decode cX5_digest 23 = .ok (.invokevirtual 167, 3) := by decide +kernel
theorem dX5_digest_26 : decode cX5_digest 26 = .ok (.i2l, 1) := by decide +kernel
theorem dX5_digest_27 : decode cX5_digest 27 = .ok (.invokevirtual 206, 3) := by decide +kernel
theorem dX5_digest_30 : decode cX5_digest 30 = .ok (.iinc 1 1, 3) := by decide +kernel
theorem dX5_digest_33 : decode cX5_digest 33 = .ok (.goto (-19), 3) := by decide +kernel
theorem dX5_digest_36 : decode cX5_digest 36 = .ok (.iconst 0, 1) := by decide +kernel
theorem dX5_digest_37 : decode cX5_digest 37 = .ok (.istore_n 1, 1) := by decide +kernel
theorem dX5_digest_38 : decode cX5_digest 38 = .ok (.iload_n 1, 1) := by decide +kernel
theorem dX5_digest_39 : decode cX5_digest 39 = .ok (.iconst 4, 1) := by decide +kernel
theorem dX5_digest_40 : decode cX5_digest 40 = .ok (.if_icmp .ge 14, 3) := by decide +kernel
theorem dX5_digest_43 : decode cX5_digest 43 = .ok (.aload_n 0, 1) := by decide +kernel
theorem dX5_digest_44 : decode cX5_digest 44 = .ok (.iload_n 1, 1) := by decide +kernel
theorem dX5_digest_45 : decode cX5_digest 45 = .ok (.invokevirtual 212, 3) := by decide +kernel
theorem dX5_digest_48 : decode cX5_digest 48 = .ok (.iinc 1 1, 3) := by decide +kernel
theorem dX5_digest_51 : decode cX5_digest 51 = .ok (.goto (-13), 3) := by decide +kernel
theorem dX5_digest_54 : decode cX5_digest 54 = .ok (.iconst 0, 1) := by decide +kernel
theorem dX5_digest_55 : decode cX5_digest 55 = .ok (.istore_n 1, 1) := by decide +kernel
theorem dX5_digest_56 : decode cX5_digest 56 = .ok (.iload_n 1, 1) := by decide +kernel
theorem dX5_digest_57 : decode cX5_digest 57 = .ok (.bipush 12, 2) := by decide +kernel
theorem dX5_digest_59 : decode cX5_digest 59 = .ok (.if_icmp .ge 23, 3) := by decide +kernel
theorem dX5_digest_62 : decode cX5_digest 62 = .ok (.aload_n 0, 1) := by decide +kernel
theorem dX5_digest_63 : decode cX5_digest 63 = .ok (.aload_n 0, 1) := by decide +kernel
theorem dX5_digest_64 : decode cX5_digest 64 = .ok (.getfield 7, 3) := by decide +kernel
theorem dX5_digest_67 : decode cX5_digest 67 = .ok (.bipush 106, 2) := by decide +kernel
theorem dX5_digest_69 : decode cX5_digest 69 = .ok (.iload_n 1, 1) := by decide +kernel
theorem dX5_digest_70 : decode cX5_digest 70 = .ok (.iadd, 1) := by decide +kernel
theorem dX5_digest_71 : decode cX5_digest 71 = .ok (.iaload, 1) := by decide +kernel
theorem dX5_digest_72 : decode cX5_digest 72 = .ok (.i2l, 1) := by decide +kernel
theorem dX5_digest_73 : decode cX5_digest 73 = .ok (.invokevirtual 206, 3) := by decide +kernel
theorem dX5_digest_76 : decode cX5_digest 76 = .ok (.iinc 1 1, 3) := by decide +kernel
theorem dX5_digest_79 : decode cX5_digest 79 = .ok (.goto (-23), 3) := by decide +kernel
theorem dX5_digest_82 : decode cX5_digest 82 = .ok (.aload_n 0, 1) := by decide +kernel
theorem dX5_digest_83 : decode cX5_digest 83 = .ok (.aload_n 0, 1) := by decide +kernel
theorem dX5_digest_84 : decode cX5_digest 84 = .ok (.invokevirtual 187, 3) := by decide +kernel
theorem dX5_digest_87 : decode cX5_digest 87 = .ok (.i2l, 1) := by decide +kernel
theorem dX5_digest_88 : decode cX5_digest 88 = .ok (.invokevirtual 206, 3) := by decide +kernel
theorem dX5_digest_91 : decode cX5_digest 91 = .ok (.aload_n 0, 1) := by decide +kernel
theorem dX5_digest_92 : decode cX5_digest 92 = .ok (.aload_n 0, 1) := by decide +kernel
theorem dX5_digest_93 : decode cX5_digest 93 = .ok (.invokevirtual 190, 3) := by decide +kernel
theorem dX5_digest_96 : decode cX5_digest 96 = .ok (.i2l, 1) := by decide +kernel
theorem dX5_digest_97 : decode cX5_digest 97 = .ok (.invokevirtual 206, 3) := by decide +kernel
theorem dX5_digest_100 : decode cX5_digest 100 = .ok (.aload_n 0, 1) := by decide +kernel
theorem dX5_digest_101 : decode cX5_digest 101 = .ok (.aload_n 0, 1) := by decide +kernel
theorem dX5_digest_102 : decode cX5_digest 102 = .ok (.invokevirtual 196, 3) := by decide +kernel
theorem dX5_digest_105 : decode cX5_digest 105 = .ok (.invokestatic 215, 3) := by decide +kernel
theorem dX5_digest_108 : decode cX5_digest 108 = .ok (.invokevirtual 206, 3) := by decide +kernel
theorem dX5_digest_111 : decode cX5_digest 111 = .ok (.aload_n 0, 1) := by decide +kernel
theorem dX5_digest_112 : decode cX5_digest 112 = .ok (.aload_n 0, 1) := by decide +kernel
theorem dX5_digest_113 : decode cX5_digest 113 = .ok (.getfield 121, 3) := by decide +kernel
theorem dX5_digest_116 : decode cX5_digest 116 = .ok (.i2l, 1) := by decide +kernel
theorem dX5_digest_117 : decode cX5_digest 117 = .ok (.invokevirtual 206, 3) := by decide +kernel
theorem dX5_digest_120 : decode cX5_digest 120 = .ok (.iconst 0, 1) := by decide +kernel
theorem dX5_digest_121 : decode cX5_digest 121 = .ok (.istore_n 1, 1) := by decide +kernel
theorem dX5_digest_122 : decode cX5_digest 122 = .ok (.iload_n 1, 1) := by decide +kernel
theorem dX5_digest_123 : decode cX5_digest 123 = .ok (.aload_n 0, 1) := by decide +kernel
theorem dX5_digest_124 : decode cX5_digest 124 = .ok (.getfield 121, 3) := by decide +kernel
theorem dX5_digest_127 : decode cX5_digest 127 = .ok (.if_icmp .ge 20, 3) := by decide +kernel
theorem dX5_digest_130 : decode cX5_digest 130 = .ok (.aload_n 0, 1) := by decide +kernel
theorem dX5_digest_131 : decode cX5_digest 131 = .ok (.aload_n 0, 1) := by decide +kernel
theorem dX5_digest_132 : decode cX5_digest 132 = .ok (.getfield 19, 3) := by decide +kernel
theorem dX5_digest_135 : decode cX5_digest 135 = .ok (.iload_n 1, 1) := by decide +kernel
theorem dX5_digest_136 : decode cX5_digest 136 = .ok (.iaload, 1) := by decide +kernel
theorem dX5_digest_137 : decode cX5_digest 137 = .ok (.i2l, 1) := by decide +kernel
theorem dX5_digest_138 : decode cX5_digest 138 = .ok (.invokevirtual 206, 3) := by decide +kernel
theorem dX5_digest_141 : decode cX5_digest 141 = .ok (.iinc 1 1, 3) := by decide +kernel
theorem dX5_digest_144 : decode cX5_digest 144 = .ok (.goto (-22), 3) := by decide +kernel
theorem dX5_digest_147 : decode cX5_digest 147 = .ok (.aload_n 0, 1) := by decide +kernel
theorem dX5_digest_148 : decode cX5_digest 148 = .ok (.getfield 202, 3) := by decide +kernel
theorem dX5_digest_151 : decode cX5_digest 151 = .ok (.lreturn, 1) := by decide +kernel
