theorem dX0_init_0 : decode cX0_init 0 = .ok (.aload_n 0, 1) := by decide +kernel
theorem dX0_init_1 : decode cX0_init 1 = .ok (.invokespecial 3, 3) := by decide +kernel
theorem dX0_init_4 : decode cX0_init 4 = .ok (.aload_n 0, 1) := by decide +kernel
theorem dX0_init_5 : decode cX0_init 5 = .ok (.iconst 0, 1) := by decide +kernel
theorem dX0_init_6 : decode cX0_init 6 = .ok (.putfield 9, 3) := by decide +kernel
theorem dX0_init_9 : decode cX0_init 9 = .ok (.aload_n 0, 1) := by decide +kernel
theorem dX0_init_10 : decode cX0_init 10 = .ok (.sipush 500, 3) := by decide +kernel
theorem dX0_init_13 : decode cX0_init 13 = .ok (.putfield 15, 3) := by decide +kernel
theorem dX0_init_16 : decode cX0_init 16 = .ok (.return_, 1) := by decide +kernel
theorem dX0_becomeLike_0 : decode cX0_becomeLike 0 = .ok (.aload_n 0, 1) := by decide +kernel
theorem dX0_becomeLike_1 : decode cX0_becomeLike 1 = .ok (.aload_n 1, 1) := by decide +kernel
theorem dX0_becomeLike_2 : decode cX0_becomeLike 2 = .ok (.getfield 9, 3) := by decide +kernel
theorem dX0_becomeLike_5 : decode cX0_becomeLike 5 = .ok (.putfield 9, 3) := by decide +kernel
theorem dX0_becomeLike_8 : decode cX0_becomeLike 8 = .ok (.aload_n 0, 1) := by decide +kernel
theorem dX0_becomeLike_9 : decode cX0_becomeLike 9 = .ok (.aload_n 1, 1) := by decide +kernel
theorem dX0_becomeLike_10 : decode cX0_becomeLike 10 = .ok (.getfield 15, 3) := by decide +kernel
theorem dX0_becomeLike_13 : decode cX0_becomeLike 13 = .ok (.putfield 15, 3) := by decide +kernel
theorem dX0_becomeLike_16 : decode cX0_becomeLike 16 = .ok (.return_, 1) := by decide +kernel
theorem dX0_room_0 : decode cX0_room 0 = .ok (.aload_n 0, 1) := by decide +kernel
theorem dX0_room_1 : decode cX0_room 1 = .ok (.getfield 15, 3) := by decide +kernel
theorem dX0_room_4 : decode cX0_room 4 = .ok (.aload_n 0, 1) := by decide +kernel
theorem dX0_room_5 : decode cX0_room 5 = .ok (.getfield 9, 3) := by decide +kernel
theorem dX0_room_8 : decode cX0_room 8 = .ok (.isub, 1) := by decide +kernel
theorem dX0_room_9 : decode cX0_room 9 = .ok (.ireturn, 1) := by decide +kernel
theorem dX1_init_0 : decode cX1_init 0 = .ok (.aload_n 0, 1) := by decide +kernel
theorem dX1_init_1 : decode cX1_init 1 = .ok (.invokespecial 3, 3) := by decide +kernel
theorem dX1_init_4 : decode cX1_init 4 = .ok (.aload_n 0, 1) := by decide +kernel
theorem dX1_init_5 : decode cX1_init 5 = .ok (.bipush 10, 2) := by decide +kernel
theorem dX1_init_7 : decode cX1_init 7 = .ok (.newarray .int, 2) := by decide +kernel
theorem dX1_init_9 : decode cX1_init 9 = .ok (.putfield 9, 3) := by decide +kernel
theorem dX1_init_12 : decode cX1_init 12 = .ok (.aload_n 0, 1) := by decide +kernel
theorem dX1_init_13 : decode cX1_init 13 = .ok (.bipush 10, 2) := by decide +kernel
theorem dX1_init_15 : decode cX1_init 15 = .ok (.newarray .int, 2) := by decide +kernel
theorem dX1_init_17 : decode cX1_init 17 = .ok (.putfield 15, 3) := by decide +kernel
theorem dX1_init_20 : decode cX1_init 20 = .ok (.aload_n 0, 1) := by decide +kernel
theorem dX1_init_21 : decode cX1_init 21 = .ok (.iconst 0, 1) := by decide +kernel
theorem dX1_init_22 : decode cX1_init 22 = .ok (.putfield 18, 3) := by decide +kernel
theorem dX1_init_25 : decode cX1_init 25 = .ok (.aload_n 0, 1) := by decide +kernel
theorem dX1_init_26 : decode cX1_init 26 = .ok (.iconst 0, 1) := by decide +kernel
theorem dX1_init_27 : decode cX1_init 27 = .ok (.putfield 22, 3) := by decide +kernel
theorem dX1_init_30 : decode cX1_init 30 = .ok (.aload_n 0, 1) := by decide +kernel
theorem dX1_init_31 : decode cX1_init 31 = .ok (.iconst 0, 1) := by decide +kernel
theorem dX1_init_32 : decode cX1_init 32 = .ok (.putfield 25, 3) := by decide +kernel
theorem dX1_init_35 : decode cX1_init 35 = .ok (.aload_n 0, 1) := by decide +kernel
theorem dX1_init_36 : decode cX1_init 36 = .ok (.iconst 0, 1) := by decide +kernel
theorem dX1_init_37 : decode cX1_init 37 = .ok (.putfield 28, 3) := by decide +kernel
theorem dX1_init_40 : decode cX1_init 40 = .ok (.return_, 1) := by decide +kernel
theorem dX1_becomeLike_0 : decode cX1_becomeLike 0 = .ok (.iconst 0, 1) := by decide +kernel
theorem dX1_becomeLike_1 : decode cX1_becomeLike 1 = .ok (.istore_n 2, 1) := by decide +kernel
theorem dX1_becomeLike_2 : decode cX1_becomeLike 2 = .ok (.iload_n 2, 1) := by decide +kernel
theorem dX1_becomeLike_3 : decode cX1_becomeLike 3 = .ok (.bipush 10, 2) := by decide +kernel
theorem dX1_becomeLike_5 : decode cX1_becomeLike 5 = .ok (.if_icmp .ge 33, 3) := by decide +kernel
theorem dX1_becomeLike_8 : decode cX1_becomeLike 8 = .ok (.aload_n 0, 1) := by decide +kernel
theorem dX1_becomeLike_9 : decode cX1_becomeLike 9 = .ok (.getfield 9, 3) := by decide +kernel
theorem dX1_becomeLike_12 : decode cX1_becomeLike 12 = .ok (.iload_n 2, 1) := by decide +kernel
theorem dX1_becomeLike_13 : decode cX1_becomeLike 13 = .ok (.aload_n 1, 1) := by decide +kernel
theorem dX1_becomeLike_14 : decode cX1_becomeLike 14 = .ok (.getfield 9, 3) := by decide +kernel
theorem dX1_becomeLike_17 : decode cX1_becomeLike 17 = .ok (.iload_n 2, 1) := by decide +kernel
theorem dX1_becomeLike_18 : decode cX1_becomeLike 18 = .ok (.iaload, 1) := by decide +kernel
theorem dX1_becomeLike_19 : decode cX1_becomeLike 19 = .ok (.iastore, 1) := by decide +kernel
theorem dX1_becomeLike_20 : decode cX1_becomeLike 20 = .ok (.aload_n 0, 1) := by decide +kernel
theorem dX1_becomeLike_21 : decode cX1_becomeLike 21 = .ok (.getfield 15, 3) := by decide +kernel
theorem dX1_becomeLike_24 : decode cX1_becomeLike 24 = .ok (.iload_n 2, 1) := by decide +kernel
theorem dX1_becomeLike_25 : decode cX1_becomeLike 25 = .ok (.aload_n 1, 1) := by decide +kernel
theorem dX1_becomeLike_26 : decode cX1_becomeLike 26 = .ok (.getfield 15, 3) := by decide +kernel
theorem dX1_becomeLike_29 : decode cX1_becomeLike 29 = .ok (.iload_n 2, 1) := by decide +kernel
theorem dX1_becomeLike_30 : decode cX1_becomeLike 30 = .ok (.iaload, 1) := by decide +kernel
theorem dX1_becomeLike_31 : decode cX1_becomeLike 31 = .ok (.iastore, 1) := by decide +kernel
theorem dX1_becomeLike_32 : decode cX1_becomeLike 32 = .ok (.iinc 2 1, 3) := by decide +kernel
theorem dX1_becomeLike_35 : decode cX1_becomeLike 35 = .ok (.goto (-33), 3) := by decide +kernel
theorem dX1_becomeLike_38 : decode cX1_becomeLike 38 = .ok (.aload_n 0, 1) := by decide +kernel
theorem dX1_becomeLike_39 : decode cX1_becomeLike 39 = .ok (.aload_n 1, 1) := by decide +kernel
theorem dX1_becomeLike_40 : decode cX1_becomeLike 40 = .ok (.getfield 18, 3) := by decide +kernel
theorem dX1_becomeLike_43 : decode cX1_becomeLike 43 = .ok (.putfield 18, 3) := by decide +kernel
theorem dX1_becomeLike_46 : decode cX1_becomeLike 46 = .ok (.aload_n 0, 1) := by decide +kernel
theorem dX1_becomeLike_47 : decode cX1_becomeLike 47 = .ok (.aload_n 1, 1) := by decide +kernel
theorem dX1_becomeLike_48 : decode cX1_becomeLike 48 = .ok (.getfield 22, 3) := by decide +kernel
theorem dX1_becomeLike_51 : decode cX1_becomeLike 51 = .ok (.putfield 22, 3) := by decide +kernel
theorem dX1_becomeLike_54 : decode cX1_becomeLike 54 = .ok (.aload_n 0, 1) := by decide +kernel
theorem dX1_becomeLike_55 : decode cX1_becomeLike 55 = .ok (.aload_n 1, 1) := by decide +kernel
theorem dX1_becomeLike_56 : decode cX1_becomeLike 56 = .ok (.getfield 25, 3) := by decide +kernel
theorem dX1_becomeLike_59 : decode cX1_becomeLike 59 = .ok (.putfield 25, 3) := by decide +kernel
theorem dX1_becomeLike_62 : decode cX1_becomeLike 62 = .ok (.aload_n 0, 1) := by decide +kernel
theorem dX1_becomeLike_63 : decode cX1_becomeLike 63 = .ok (.aload_n 1, 1) := by decide +kernel
theorem dX1_becomeLike_64 : decode cX1_becomeLike 64 = .ok (.getfield 28, 3) := by decide +kernel
theorem dX1_becomeLike_67 : decode cX1_becomeLike 67 = .ok (.putfield 28, 3) := by decide +kernel
theorem dX1_becomeLike_70 : decode cX1_becomeLike 70 = .ok (.return_, 1) := by decide +kernel
set_option maxRecDepth 20000 in
theorem ggX1_total_X1_totalFrom : GoodIn wsX1_total wsX1_totalFrom := goodIn_r _ [5, 6, 7, 8, 9, 10, 11, 12, 13] (by decide +kernel) (by decide +kernel)
set_option maxRecDepth 20000 in
theorem gX1_total_X1_totalFrom : GoodIn wsX1_total (wsV RX1 31 RX1 yX1_totalFrom wsX1_totalFrom) := goodIn_app (goodIn_of _ (by decide +kernel)) ggX1_total_X1_totalFrom
theorem dX1_total_0 : decode cX1_total 0 = .ok (.aload_n 0, 1) := by decide +kernel
theorem dX1_total_1 : decode cX1_total 1 = .ok (.iconst 0, 1) := by decide +kernel
theorem dX1_total_2 : decode cX1_total 2 = .ok (.invokevirtual 31, 3) := by decide +kernel
theorem dX1_total_5 : decode cX1_total 5 = .ok (.ireturn, 1) := by decide +kernel
theorem dX1_totalFrom_0 : decode cX1_totalFrom 0 = .ok (.iconst 0, 1) := by decide +kernel
theorem dX1_totalFrom_1 : decode cX1_totalFrom 1 = .ok (.istore_n 2, 1) := by decide +kernel
theorem dX1_totalFrom_2 : decode cX1_totalFrom 2 = .ok (.iload_n 1, 1) := by decide +kernel
theorem dX1_totalFrom_3 : decode cX1_totalFrom 3 = .ok (.istore_n 3, 1) := by decide +kernel
theorem dX1_totalFrom_4 : decode cX1_totalFrom 4 = .ok (.iload_n 3, 1) := by decide +kernel
theorem dX1_totalFrom_5 : decode cX1_totalFrom 5 = .ok (.aload_n 0, 1) := by decide +kernel
theorem dX1_totalFrom_6 : decode cX1_totalFrom 6 = .ok (.getfield 18, 3) := by decide +kernel
theorem dX1_totalFrom_9 : decode cX1_totalFrom 9 = .ok (.if_icmp .ge 18, 3) := by decide +kernel
theorem dX1_totalFrom_12 : decode cX1_totalFrom 12 = .ok (.iload_n 2, 1) := by decide +kernel
theorem dX1_totalFrom_13 : decode cX1_totalFrom 13 = .ok (.aload_n 0, 1) := by decide +kernel
theorem dX1_totalFrom_14 : decode cX1_totalFrom 14 = .ok (.getfield 9, 3) := by decide +kernel
theorem dX1_totalFrom_17 : decode cX1_totalFrom 17 = .ok (.iload_n 3, 1) := by decide +kernel
theorem dX1_totalFrom_18 : decode cX1_totalFrom 18 = .ok (.iaload, 1) := by decide +kernel
theorem dX1_totalFrom_19 : decode cX1_totalFrom 19 = .ok (.iadd, 1) := by decide +kernel
theorem dX1_totalFrom_20 : decode cX1_totalFrom 20 = .ok (.istore_n 2, 1) := by decide +kernel
theorem dX1_totalFrom_21 : decode cX1_totalFrom 21 = .ok (.iinc 3 1, 3) := by decide +kernel
theorem dX1_totalFrom_24 : decode cX1_totalFrom 24 = .ok (.goto (-20), 3) := by decide +kernel
theorem dX1_totalFrom_27 : decode cX1_totalFrom 27 = .ok (.iload_n 2, 1) := by decide +kernel
theorem dX1_totalFrom_28 : decode cX1_totalFrom 28 = .ok (.ireturn, 1) := by decide +kernel
set_option maxRecDepth 20000 in
theorem ggX1_tonnesHeld_X1_totalFrom : GoodIn wsX1_tonnesHeld wsX1_totalFrom := goodIn_r _ [6, 7, 8, 9, 10, 11, 12, 13, 14] (by decide +kernel) (by decide +kernel)
set_option maxRecDepth 20000 in
theorem gX1_tonnesHeld_X1_totalFrom : GoodIn wsX1_tonnesHeld (wsV RX1 31 RX1 yX1_totalFrom wsX1_totalFrom) := goodIn_app (goodIn_of _ (by decide +kernel)) ggX1_tonnesHeld_X1_totalFrom
theorem dX1_tonnesHeld_0 : decode cX1_tonnesHeld 0 = .ok (.aload_n 0, 1) := by decide +kernel
theorem dX1_tonnesHeld_1 : decode cX1_tonnesHeld 1 = .ok (.aload_n 0, 1) := by decide +kernel
theorem dX1_tonnesHeld_2 : decode cX1_tonnesHeld 2 = .ok (.getfield 25, 3) := by decide +kernel
theorem dX1_tonnesHeld_5 : decode cX1_tonnesHeld 5 = .ok (.iconst 2, 1) := by decide +kernel
theorem dX1_tonnesHeld_6 : decode cX1_tonnesHeld 6 = .ok (.if_icmp .ne 7, 3) := by decide +kernel
theorem dX1_tonnesHeld_9 : decode cX1_tonnesHeld 9 = .ok (.iconst 0, 1) := by decide +kernel
theorem dX1_tonnesHeld_10 : decode cX1_tonnesHeld 10 = .ok (.goto 4, 3) := by decide +kernel
theorem dX1_tonnesHeld_13 : decode cX1_tonnesHeld 13 = .ok (.iconst 1, 1) := by decide +kernel
theorem dX1_tonnesHeld_14 : decode cX1_tonnesHeld 14 = .ok (.invokevirtual 31, 3) := by decide +kernel
theorem dX1_tonnesHeld_17 : decode cX1_tonnesHeld 17 = .ok (.ireturn, 1) := by decide +kernel
theorem dX1_canGetArch_0 : decode cX1_canGetArch 0 = .ok (.aload_n 0, 1) := by decide +kernel
theorem dX1_canGetArch_1 : decode cX1_canGetArch 1 = .ok (.getfield 18, 3) := by decide +kernel
theorem dX1_canGetArch_4 : decode cX1_canGetArch 4 = .ok (.iconst 2, 1) := by decide +kernel
theorem dX1_canGetArch_5 : decode cX1_canGetArch 5 = .ok (.if_icmp .lt 14, 3) := by decide +kernel
theorem dX1_canGetArch_8 : decode cX1_canGetArch 8 = .ok (.aload_n 0, 1) := by decide +kernel
theorem dX1_canGetArch_9 : decode cX1_canGetArch 9 = .ok (.getfield 25, 3) := by decide +kernel
theorem dX1_canGetArch_12 : decode cX1_canGetArch 12 = .ok (.ifCond .ne 7, 3) := by decide +kernel
theorem dX1_canGetArch_15 : decode cX1_canGetArch 15 = .ok (.iconst 1, 1) := by decide +kernel
theorem dX1_canGetArch_16 : decode cX1_canGetArch 16 = .ok (.goto 4, 3) := by decide +kernel
theorem dX1_canGetArch_19 : decode cX1_canGetArch 19 = .ok (.iconst 0, 1) := by decide +kernel
theorem dX1_canGetArch_20 : decode cX1_canGetArch 20 = .ok (.ireturn, 1) := by decide +kernel
theorem dX1_placeOnTop_0 : decode cX1_placeOnTop 0 = .ok (.aload_n 0, 1) := by decide +kernel
theorem dX1_placeOnTop_1 : decode cX1_placeOnTop 1 = .ok (.getfield 18, 3) := by decide +kernel
theorem dX1_placeOnTop_4 : decode cX1_placeOnTop 4 = .ok (.ifCond .eq 17, 3) := by decide +kernel
theorem dX1_placeOnTop_7 : decode cX1_placeOnTop 7 = .ok (.aload_n 0, 1) := by decide +kernel
theorem dX1_placeOnTop_8 : decode cX1_placeOnTop 8 = .ok (.getfield 15, 3) := by decide +kernel
theorem dX1_placeOnTop_11 : decode cX1_placeOnTop 11 = .ok (.aload_n 0, 1) := by decide +kernel
theorem dX1_placeOnTop_12 : decode cX1_placeOnTop 12 = .ok (.getfield 18, 3) := by decide +kernel
theorem dX1_placeOnTop_15 : decode cX1_placeOnTop 15 = .ok (.iconst 1, 1) := by decide +kernel
theorem dX1_placeOnTop_16 : decode cX1_placeOnTop 16 = .ok (.isub, 1) := by decide +kernel
theorem dX1_placeOnTop_17 : decode cX1_placeOnTop 17 = .ok (.iaload, 1) := by decide +kernel
theorem dX1_placeOnTop_18 : decode cX1_placeOnTop 18 = .ok (.ifCond .eq 5, 3) := by decide +kernel
theorem dX1_placeOnTop_21 : decode cX1_placeOnTop 21 = .ok (.iconst 0, 1) := by decide +kernel
theorem dX1_placeOnTop_22 : decode cX1_placeOnTop 22 = .ok (.ireturn, 1) := by decide +kernel
theorem dX1_placeOnTop_23 : decode cX1_placeOnTop 23 = .ok (.sipush 500, 3) := by decide +kernel
theorem dX1_placeOnTop_26 : decode cX1_placeOnTop 26 = .ok (.aload_n 0, 1) := by decide +kernel
theorem dX1_placeOnTop_27 : decode cX1_placeOnTop 27 = .ok (.getfield 9, 3) := by decide +kernel
theorem dX1_placeOnTop_30 : decode cX1_placeOnTop 30 = .ok (.aload_n 0, 1) := by decide +kernel
theorem dX1_placeOnTop_31 : decode cX1_placeOnTop 31 = .ok (.getfield 18, 3) := by decide +kernel
theorem dX1_placeOnTop_34 : decode cX1_placeOnTop 34 = .ok (.iconst 1, 1) := by decide +kernel
theorem dX1_placeOnTop_35 : decode cX1_placeOnTop 35 = .ok (.isub, 1) := by decide +kernel
theorem dX1_placeOnTop_36 : decode cX1_placeOnTop 36 = .ok (.iaload, 1) := by decide +kernel
theorem dX1_placeOnTop_37 : decode cX1_placeOnTop 37 = .ok (.isub, 1) := by decide +kernel
theorem dX1_placeOnTop_38 : decode cX1_placeOnTop 38 = .ok (.ireturn, 1) := by decide +kernel
set_option maxRecDepth 20000 in
theorem ggX1_place_X1_total : GoodIn wsX1_place wsX1_total := goodIn_r _ [10, 11, 12, 13, 9, 14, 1, 15, 21, 22, 23, 24, 25, 26] (by decide +kernel) (by decide +kernel)
set_option maxRecDepth 20000 in
theorem gX1_place_X1_total : GoodIn wsX1_place (wsV RX1 35 RX1 yX1_total wsX1_total) := goodIn_app (goodIn_of _ (by decide +kernel)) ggX1_place_X1_total
set_option maxRecDepth 20000 in
theorem ggX1_place_X1_placeOnTop : GoodIn wsX1_place wsX1_placeOnTop := goodIn_r _ [19, 1, 20, 15, 21, 22, 23, 24, 25, 26] (by decide +kernel) (by decide +kernel)
set_option maxRecDepth 20000 in
theorem gX1_place_X1_placeOnTop : GoodIn wsX1_place (wsV RX1 39 RX1 yX1_placeOnTop wsX1_placeOnTop) := goodIn_app (goodIn_of _ (by decide +kernel)) ggX1_place_X1_placeOnTop
theorem dX1_place_0 : decode cX1_place 0 = .ok (.aload_n 0, 1) := by decide +kernel
theorem dX1_place_1 : decode cX1_place 1 = .ok (.getfield 18, 3) := by decide +kernel
theorem dX1_place_4 : decode cX1_place 4 = .ok (.bipush 10, 2) := by decide +kernel
theorem dX1_place_6 : decode cX1_place 6 = .ok (.if_icmp .ge 9, 3) := by decide +kernel
theorem dX1_place_9 : decode cX1_place 9 = .ok (.sipush 500, 3) := by decide +kernel
theorem dX1_place_12 : decode cX1_place 12 = .ok (.goto 4, 3) := by decide +kernel
theorem dX1_place_15 : decode cX1_place 15 = .ok (.iconst 0, 1) := by decide +kernel
theorem dX1_place_16 : decode cX1_place 16 = .ok (.istore_n 1, 1) := by decide +kernel
theorem dX1_place_17 : decode cX1_place 17 = .ok (.sipush 1200, 3) := by decide +kernel
theorem dX1_place_20 : decode cX1_place 20 = .ok (.aload_n 0, 1) := by decide +kernel
theorem dX1_place_21 : decode cX1_place 21 = .ok (.invokevirtual 35, 3) := by decide +kernel
theorem dX1_place_24 : decode cX1_place 24 = .ok (.isub, 1) := by decide +kernel
theorem dX1_place_25 : decode cX1_place 25 = .ok (.aload_n 0, 1) := by decide +kernel
theorem dX1_place_26 : decode cX1_place 26 = .ok (.invokevirtual 39, 3) := by decide +kernel
theorem dX1_place_29 : decode cX1_place 29 = .ok (.iload_n 1, 1) := by decide +kernel
theorem dX1_place_30 : decode cX1_place 30 = .ok (.iadd, 1) := by decide +kernel
theorem dX1_place_31 : decode cX1_place 31 = .ok (.invokestatic 42, 3) := by decide +kernel
theorem dX1_place_34 : decode cX1_place 34 = .ok (.ireturn, 1) := by decide +kernel
set_option maxRecDepth 20000 in
theorem ggX1_fill_X1_placeOnTop : GoodIn wsX1_fill wsX1_placeOnTop := goodIn_r _ [13, 5, 7, 6, 14, 15, 16, 17, 18, 19] (by decide +kernel) (by decide +kernel)
set_option maxRecDepth 20000 in
theorem gX1_fill_X1_placeOnTop : GoodIn wsX1_fill (wsV RX1 39 RX1 yX1_placeOnTop wsX1_placeOnTop) := goodIn_app (goodIn_of _ (by decide +kernel)) ggX1_fill_X1_placeOnTop
theorem dX1_fill_0 : decode cX1_fill 0 = .ok (.iload_n 1, 1) := by decide +kernel
theorem dX1_fill_1 : decode cX1_fill 1 = .ok (.aload_n 0, 1) := by decide +kernel
theorem dX1_fill_2 : decode cX1_fill 2 = .ok (.invokevirtual 39, 3) := by decide +kernel
theorem dX1_fill_5 : decode cX1_fill 5 = .ok (.invokestatic 42, 3) := by decide +kernel
theorem dX1_fill_8 : decode cX1_fill 8 = .ok (.istore_n 2, 1) := by decide +kernel
theorem dX1_fill_9 : decode cX1_fill 9 = .ok (.iload_n 2, 1) := by decide +kernel
theorem dX1_fill_10 : decode cX1_fill 10 = .ok (.ifCond .le 25, 3) := by decide +kernel
theorem dX1_fill_13 : decode cX1_fill 13 = .ok (.aload_n 0, 1) := by decide +kernel
theorem dX1_fill_14 : decode cX1_fill 14 = .ok (.getfield 18, 3) := by decide +kernel
theorem dX1_fill_17 : decode cX1_fill 17 = .ok (.ifCond .le 18, 3) := by decide +kernel
theorem dX1_fill_20 : decode cX1_fill 20 = .ok (.aload_n 0, 1) := by decide +kernel
theorem dX1_fill_21 : decode cX1_fill 21 = .ok (.getfield 9, 3) := by decide +kernel
theorem dX1_fill_24 : decode cX1_fill 24 = .ok (.aload_n 0, 1) := by decide +kernel
theorem dX1_fill_25 : decode cX1_fill 25 = .ok (.getfield 18, 3) := by decide +kernel
theorem dX1_fill_28 : decode cX1_fill 28 = .ok (.iconst 1, 1) := by decide +kernel
theorem dX1_fill_29 : decode cX1_fill 29 = .ok (.isub, 1) := by decide +kernel
theorem dX1_fill_30 : decode cX1_fill 30 = .ok (.dup2, 1) := by decide +kernel
theorem dX1_fill_31 : decode cX1_fill 31 = .ok (.iaload, 1) := by decide +kernel
theorem dX1_fill_32 : decode cX1_fill 32 = .ok (.iload_n 2, 1) := by decide +kernel
theorem dX1_fill_33 : decode cX1_fill 33 = .ok (.iadd, 1) := by decide +kernel
theorem dX1_fill_34 : decode cX1_fill 34 = .ok (.iastore, 1) := by decide +kernel
theorem dX1_fill_35 : decode cX1_fill 35 = .ok (.iload_n 1, 1) := by decide +kernel
theorem dX1_fill_36 : decode cX1_fill 36 = .ok (.iload_n 2, 1) := by decide +kernel
theorem dX1_fill_37 : decode cX1_fill 37 = .ok (.isub, 1) := by decide +kernel
theorem dX1_fill_38 : decode cX1_fill 38 = .ok (.istore_n 3, 1) := by decide +kernel
theorem dX1_fill_39 : decode cX1_fill 39 = .ok (.iload_n 3, 1) := by decide +kernel
theorem dX1_fill_40 : decode cX1_fill 40 = .ok (.ifCond .le 47, 3) := by decide +kernel
theorem dX1_fill_43 : decode cX1_fill 43 = .ok (.aload_n 0, 1) := by decide +kernel
theorem dX1_fill_44 : decode cX1_fill 44 = .ok (.getfield 18, 3) := by decide +kernel
theorem dX1_fill_47 : decode cX1_fill 47 = .ok (.bipush 10, 2) := by decide +kernel
theorem dX1_fill_49 : decode cX1_fill 49 = .ok (.if_icmp .ge 38, 3) := by decide +kernel
theorem dX1_fill_52 : decode cX1_fill 52 = .ok (.aload_n 0, 1) := by decide +kernel
theorem dX1_fill_53 : decode cX1_fill 53 = .ok (.getfield 9, 3) := by decide +kernel
theorem dX1_fill_56 : decode cX1_fill 56 = .ok (.aload_n 0, 1) := by decide +kernel
theorem dX1_fill_57 : decode cX1_fill 57 = .ok (.getfield 18, 3) := by decide +kernel
theorem dX1_fill_60 : decode cX1_fill 60 = .ok (.iload_n 3, 1) := by decide +kernel
theorem dX1_fill_61 : decode cX1_fill 61 = .ok (.iastore, 1) := by decide +kernel
theorem dX1_fill_62 : decode cX1_fill 62 = .ok (.aload_n 0, 1) := by decide +kernel
theorem dX1_fill_63 : decode cX1_fill 63 = .ok (.getfield 15, 3) := by decide +kernel
theorem dX1_fill_66 : decode cX1_fill 66 = .ok (.aload_n 0, 1) := by decide +kernel
theorem dX1_fill_67 : decode cX1_fill 67 = .ok (.getfield 18, 3) := by decide +kernel
theorem dX1_fill_70 : decode cX1_fill 70 = .ok (.iconst 0, 1) := by decide +kernel
theorem dX1_fill_71 : decode cX1_fill 71 = .ok (.iastore, 1) := by decide +kernel
theorem dX1_fill_72 : decode cX1_fill 72 = .ok (.aload_n 0, 1) := by decide +kernel
theorem dX1_fill_73 : decode cX1_fill 73 = .ok (.dup, 1) := by decide +kernel
theorem dX1_fill_74 : decode cX1_fill 74 = .ok (.getfield 18, 3) := by decide +kernel
theorem dX1_fill_77 : decode cX1_fill 77 = .ok (.iconst 1, 1) := by decide +kernel
theorem dX1_fill_78 : decode cX1_fill 78 = .ok (.iadd, 1) := by decide +kernel
theorem dX1_fill_79 : decode cX1_fill 79 = .ok (.putfield 18, 3) := by decide +kernel
theorem dX1_fill_82 : decode cX1_fill 82 = .ok (.aload_n 0, 1) := by decide +kernel
theorem dX1_fill_83 : decode cX1_fill 83 = .ok (.iconst 0, 1) := by decide +kernel
theorem dX1_fill_84 : decode cX1_fill 84 = .ok (.putfield 28, 3) := by decide +kernel
theorem dX1_fill_87 : decode cX1_fill 87 = .ok (.return_, 1) := by decide +kernel
theorem dX1_takeFromLowest_0 : decode cX1_takeFromLowest 0 = .ok (.aload_n 0, 1) := by decide +kernel
theorem dX1_takeFromLowest_1 : decode cX1_takeFromLowest 1 = .ok (.getfield 9, 3) := by decide +kernel
theorem dX1_takeFromLowest_4 : decode cX1_takeFromLowest 4 = .ok (.iconst 0, 1) := by decide +kernel
theorem dX1_takeFromLowest_5 : decode cX1_takeFromLowest 5 = .ok (.dup2, 1) := by decide +kernel
theorem dX1_takeFromLowest_6 : decode cX1_takeFromLowest 6 = .ok (.iaload, 1) := by decide +kernel
theorem dX1_takeFromLowest_7 : decode cX1_takeFromLowest 7 = .ok (.iload_n 1, 1) := by decide +kernel
theorem dX1_takeFromLowest_8 : decode cX1_takeFromLowest 8 = .ok (.isub, 1) := by decide +kernel
theorem dX1_takeFromLowest_9 : decode cX1_takeFromLowest 9 = .ok (.iastore, 1) := by decide +kernel
theorem dX1_takeFromLowest_10 : decode cX1_takeFromLowest 10 = .ok (.aload_n 0, 1) := by decide +kernel
theorem dX1_takeFromLowest_11 : decode cX1_takeFromLowest 11 = .ok (.getfield 9, 3) := by decide +kernel
theorem dX1_takeFromLowest_14 : decode cX1_takeFromLowest 14 = .ok (.iconst 0, 1) := by decide +kernel
theorem dX1_takeFromLowest_15 : decode cX1_takeFromLowest 15 = .ok (.iaload, 1) := by decide +kernel
theorem dX1_takeFromLowest_16 : decode cX1_takeFromLowest 16 = .ok (.ifCond .le 4, 3) := by decide +kernel
theorem dX1_takeFromLowest_19 : decode cX1_takeFromLowest 19 = .ok (.return_, 1) := by decide +kernel
theorem dX1_takeFromLowest_20 : decode cX1_takeFromLowest 20 = .ok (.iconst 1, 1) := by decide +kernel
theorem dX1_takeFromLowest_21 : decode cX1_takeFromLowest 21 = .ok (.istore_n 2, 1) := by decide +kernel
theorem dX1_takeFromLowest_22 : decode cX1_takeFromLowest 22 = .ok (.iload_n 2, 1) := by decide +kernel
theorem dX1_takeFromLowest_23 : decode cX1_takeFromLowest 23 = .ok (.aload_n 0, 1) := by decide +kernel
theorem dX1_takeFromLowest_24 : decode cX1_takeFromLowest 24 = .ok (.getfield 18, 3) := by decide +kernel
theorem dX1_takeFromLowest_27 : decode cX1_takeFromLowest 27 = .ok (.if_icmp .ge 37, 3) := by decide +kernel
theorem dX1_takeFromLowest_30 : decode cX1_takeFromLowest 30 = .ok (.aload_n 0, 1) := by decide +kernel
theorem dX1_takeFromLowest_31 : decode cX1_takeFromLowest 31 = .ok (.getfield 9, 3) := by decide +kernel
theorem dX1_takeFromLowest_34 : decode cX1_takeFromLowest 34 = .ok (.iload_n 2, 1) := by decide +kernel
theorem dX1_takeFromLowest_35 : decode cX1_takeFromLowest 35 = .ok (.iconst 1, 1) := by decide +kernel
theorem dX1_takeFromLowest_36 : decode cX1_takeFromLowest 36 = .ok (.isub, 1) := by decide +kernel
theorem dX1_takeFromLowest_37 : decode cX1_takeFromLowest 37 = .ok (.aload_n 0, 1) := by decide +kernel
theorem dX1_takeFromLowest_38 : decode cX1_takeFromLowest 38 = .ok (.getfield 9, 3) := by decide +kernel
theorem dX1_takeFromLowest_41 : decode cX1_takeFromLowest 41 = .ok (.iload_n 2, 1) := by decide +kernel
theorem dX1_takeFromLowest_42 : decode cX1_takeFromLowest 42 = .ok (.iaload, 1) := by decide +kernel
theorem dX1_takeFromLowest_43 : decode cX1_takeFromLowest 43 = .ok (.iastore, 1) := by decide +kernel
theorem dX1_takeFromLowest_44 : decode cX1_takeFromLowest 44 = .ok (.aload_n 0, 1) := by decide +kernel
theorem dX1_takeFromLowest_45 : decode cX1_takeFromLowest 45 = .ok (.getfield 15, 3) := by decide +kernel
theorem dX1_takeFromLowest_48 : decode cX1_takeFromLowest 48 = .ok (.iload_n 2, 1) := by decide +kernel
theorem dX1_takeFromLowest_49 : decode cX1_takeFromLowest 49 = .ok (.iconst 1, 1) := by decide +kernel
theorem dX1_takeFromLowest_50 : decode cX1_takeFromLowest 50 = .ok (.isub, 1) := by decide +kernel
theorem dX1_takeFromLowest_51 : decode cX1_takeFromLowest 51 = .ok (.aload_n 0, 1) := by decide +kernel
theorem dX1_takeFromLowest_52 : decode cX1_takeFromLowest 52 = .ok (.getfield 15, 3) := by decide +kernel
theorem dX1_takeFromLowest_55 : decode cX1_takeFromLowest 55 = .ok (.iload_n 2, 1) := by decide +kernel
theorem dX1_takeFromLowest_56 : decode cX1_takeFromLowest 56 = .ok (.iaload, 1) := by decide +kernel
theorem dX1_takeFromLowest_57 : decode cX1_takeFromLowest 57 = .ok (.iastore, 1) := by decide +kernel
theorem dX1_takeFromLowest_58 : decode cX1_takeFromLowest 58 = .ok (.iinc 2 1, 3) := by decide +kernel
theorem dX1_takeFromLowest_61 : decode cX1_takeFromLowest 61 = .ok (.goto (-39), 3) := by decide +kernel
theorem dX1_takeFromLowest_64 : decode cX1_takeFromLowest 64 = .ok (.aload_n 0, 1) := by decide +kernel
theorem dX1_takeFromLowest_65 : decode cX1_takeFromLowest 65 = .ok (.dup, 1) := by decide +kernel
theorem dX1_takeFromLowest_66 : decode cX1_takeFromLowest 66 = .ok (.getfield 18, 3) := by decide +kernel
theorem dX1_takeFromLowest_69 : decode cX1_takeFromLowest 69 = .ok (.iconst 1, 1) := by decide +kernel
theorem dX1_takeFromLowest_70 : decode cX1_takeFromLowest 70 = .ok (.isub, 1) := by decide +kernel
theorem dX1_takeFromLowest_71 : decode cX1_takeFromLowest 71 = .ok (.putfield 18, 3) := by decide +kernel
theorem dX1_takeFromLowest_74 : decode cX1_takeFromLowest 74 = .ok (.aload_n 0, 1) := by decide +kernel
theorem dX1_takeFromLowest_75 : decode cX1_takeFromLowest 75 = .ok (.getfield 25, 3) := by decide +kernel
theorem dX1_takeFromLowest_78 : decode cX1_takeFromLowest 78 = .ok (.iconst 1, 1) := by decide +kernel
theorem dX1_takeFromLowest_79 : decode cX1_takeFromLowest 79 = .ok (.if_icmp .ne 8, 3) := by decide +kernel
theorem dX1_takeFromLowest_82 : decode cX1_takeFromLowest 82 = .ok (.aload_n 0, 1) := by decide +kernel
theorem dX1_takeFromLowest_83 : decode cX1_takeFromLowest 83 = .ok (.iconst 2, 1) := by decide +kernel
theorem dX1_takeFromLowest_84 : decode cX1_takeFromLowest 84 = .ok (.putfield 25, 3) := by decide +kernel
theorem dX1_takeFromLowest_87 : decode cX1_takeFromLowest 87 = .ok (.return_, 1) := by decide +kernel
theorem dX1_makeOlder_0 : decode cX1_makeOlder 0 = .ok (.iconst 0, 1) := by decide +kernel
theorem dX1_makeOlder_1 : decode cX1_makeOlder 1 = .ok (.istore_n 1, 1) := by decide +kernel
theorem dX1_makeOlder_2 : decode cX1_makeOlder 2 = .ok (.iload_n 1, 1) := by decide +kernel
theorem dX1_makeOlder_3 : decode cX1_makeOlder 3 = .ok (.aload_n 0, 1) := by decide +kernel
theorem dX1_makeOlder_4 : decode cX1_makeOlder 4 = .ok (.getfield 18, 3) := by decide +kernel
theorem dX1_makeOlder_7 : decode cX1_makeOlder 7 = .ok (.if_icmp .ge 19, 3) := by decide +kernel
theorem dX1_makeOlder_10 : decode cX1_makeOlder 10 = .ok (.aload_n 0, 1) := by decide +kernel
theorem dX1_makeOlder_11 : decode cX1_makeOlder 11 = .ok (.getfield 15, 3) := by decide +kernel
theorem dX1_makeOlder_14 : decode cX1_makeOlder 14 = .ok (.iload_n 1, 1) := by decide +kernel
theorem dX1_makeOlder_15 : decode cX1_makeOlder 15 = .ok (.dup2, 1) := by decide +kernel
theorem dX1_makeOlder_16 : decode cX1_makeOlder 16 = .ok (.iaload, 1) := by decide +kernel
theorem dX1_makeOlder_17 : decode cX1_makeOlder 17 = .ok (.iconst 1, 1) := by decide +kernel
theorem dX1_makeOlder_18 : decode cX1_makeOlder 18 = .ok (.iadd, 1) := by decide +kernel
theorem dX1_makeOlder_19 : decode cX1_makeOlder 19 = .ok (.iastore, 1) := by decide +kernel
theorem dX1_makeOlder_20 : decode cX1_makeOlder 20 = .ok (.iinc 1 1, 3) := by decide +kernel
theorem dX1_makeOlder_23 : decode cX1_makeOlder 23 = .ok (.goto (-21), 3) := by decide +kernel
theorem dX1_makeOlder_26 : decode cX1_makeOlder 26 = .ok (.return_, 1) := by decide +kernel
theorem dX1_makeLowestYounger_0 : decode cX1_makeLowestYounger 0 = .ok (.aload_n 0, 1) := by decide +kernel
theorem dX1_makeLowestYounger_1 : decode cX1_makeLowestYounger 1 = .ok (.getfield 15, 3) := by decide +kernel
theorem dX1_makeLowestYounger_4 : decode cX1_makeLowestYounger 4 = .ok (.iconst 0, 1) := by decide +kernel
theorem dX1_makeLowestYounger_5 : decode cX1_makeLowestYounger 5 = .ok (.iconst 0, 1) := by decide +kernel
theorem dX1_makeLowestYounger_6 : decode cX1_makeLowestYounger 6 = .ok (.aload_n 0, 1) := by decide +kernel
theorem dX1_makeLowestYounger_7 : decode cX1_makeLowestYounger 7 = .ok (.getfield 15, 3) := by decide +kernel
theorem dX1_makeLowestYounger_10 : decode cX1_makeLowestYounger 10 = .ok (.iconst 0, 1) := by decide +kernel
theorem dX1_makeLowestYounger_11 : decode cX1_makeLowestYounger 11 = .ok (.iaload, 1) := by decide +kernel
theorem dX1_makeLowestYounger_12 : decode cX1_makeLowestYounger 12 = .ok (.iconst 1, 1) := by decide +kernel
theorem dX1_makeLowestYounger_13 : decode cX1_makeLowestYounger 13 = .ok (.isub, 1) := by decide +kernel
theorem dX1_makeLowestYounger_14 : decode cX1_makeLowestYounger 14 = .ok (.invokestatic 48, 3) := by decide +kernel
theorem dX1_makeLowestYounger_17 : decode cX1_makeLowestYounger 17 = .ok (.iastore, 1) := by decide +kernel
theorem dX1_makeLowestYounger_18 : decode cX1_makeLowestYounger 18 = .ok (.return_, 1) := by decide +kernel
theorem dX2_init_0 : decode cX2_init 0 = .ok (.aload_n 0, 1) := by decide +kernel
theorem dX2_init_1 : decode cX2_init 1 = .ok (.invokespecial 3, 3) := by decide +kernel
theorem dX2_init_4 : decode cX2_init 4 = .ok (.aload_n 0, 1) := by decide +kernel
theorem dX2_init_5 : decode cX2_init 5 = .ok (.iconst 0, 1) := by decide +kernel
theorem dX2_init_6 : decode cX2_init 6 = .ok (.putfield 11, 3) := by decide +kernel
theorem dX2_init_9 : decode cX2_init 9 = .ok (.aload_n 0, 1) := by decide +kernel
theorem dX2_init_10 : decode cX2_init 10 = .ok (.iconst 0, 1) := by decide +kernel
theorem dX2_init_11 : decode cX2_init 11 = .ok (.putfield 15, 3) := by decide +kernel
theorem dX2_init_14 : decode cX2_init 14 = .ok (.aload_n 0, 1) := by decide +kernel
theorem dX2_init_15 : decode cX2_init 15 = .ok (.iconst 0, 1) := by decide +kernel
theorem dX2_init_16 : decode cX2_init 16 = .ok (.putfield 18, 3) := by decide +kernel
theorem dX2_init_19 : decode cX2_init 19 = .ok (.aload_n 0, 1) := by decide +kernel
theorem dX2_init_20 : decode cX2_init 20 = .ok (.bipush 43, 2) := by decide +kernel
theorem dX2_init_22 : decode cX2_init 22 = .ok (.putfield 21, 3) := by decide +kernel
theorem dX2_init_25 : decode cX2_init 25 = .ok (.aload_n 0, 1) := by decide +kernel
theorem dX2_init_26 : decode cX2_init 26 = .ok (.iconst 1, 1) := by decide +kernel
theorem dX2_init_27 : decode cX2_init 27 = .ok (.putfield 24, 3) := by decide +kernel
theorem dX2_init_30 : decode cX2_init 30 = .ok (.return_, 1) := by decide +kernel
set_option maxRecDepth 20000 in
theorem ggX3_init_X1_init : GoodIn wsX3_init wsX1_init := goodIn_r _ [26, 27, 2, 3, 28, 29, 30, 31, 32, 33, 34, 49, 50, 51, 52, 53, 54] (by decide +kernel) (by decide +kernel)
set_option maxRecDepth 20000 in
theorem gX3_init_X1_init_n54 : GoodIn wsX3_init (wsX1_init) := ggX3_init_X1_init
set_option maxRecDepth 20000 in
theorem ggX3_init_X0_init : GoodIn wsX3_init wsX0_init := goodIn_r _ [36, 37, 2, 3, 38, 39, 55, 56] (by decide +kernel) (by decide +kernel)
set_option maxRecDepth 20000 in
theorem gX3_init_X0_init_n55 : GoodIn wsX3_init (wsX0_init) := ggX3_init_X0_init
theorem dX3_init_0 : decode cX3_init 0 = .ok (.aload_n 0, 1) := by decide +kernel
theorem dX3_init_1 : decode cX3_init 1 = .ok (.invokespecial 3, 3) := by decide +kernel
theorem dX3_init_4 : decode cX3_init 4 = .ok (.aload_n 0, 1) := by decide +kernel
theorem dX3_init_5 : decode cX3_init 5 = .ok (.iconst 4, 1) := by decide +kernel
theorem dX3_init_6 : decode cX3_init 6 = .ok (.anewarray 9, 3) := by decide +kernel
theorem dX3_init_9 : decode cX3_init 9 = .ok (.putfield 11, 3) := by decide +kernel
theorem dX3_init_12 : decode cX3_init 12 = .ok (.aload_n 0, 1) := by decide +kernel
theorem dX3_init_13 : decode cX3_init 13 = .ok (.bipush 6, 2) := by decide +kernel
theorem dX3_init_15 : decode cX3_init 15 = .ok (.anewarray 17, 3) := by decide +kernel
theorem dX3_init_18 : decode cX3_init 18 = .ok (.putfield 19, 3) := by decide +kernel
theorem dX3_init_21 : decode cX3_init 21 = .ok (.aload_n 0, 1) := by decide +kernel
theorem dX3_init_22 : decode cX3_init 22 = .ok (.getstatic 23, 3) := by decide +kernel
theorem dX3_init_25 : decode cX3_init 25 = .ok (.invokevirtual 27, 3) := by decide +kernel
theorem dX3_init_28 : decode cX3_init 28 = .ok (.checkcast 28, 3) := by decide +kernel
theorem dX3_init_31 : decode cX3_init 31 = .ok (.putfield 32, 3) := by decide +kernel
theorem dX3_init_34 : decode cX3_init 34 = .ok (.aload_n 0, 1) := by decide +kernel
theorem dX3_init_35 : decode cX3_init 35 = .ok (.iconst 0, 1) := by decide +kernel
theorem dX3_init_36 : decode cX3_init 36 = .ok (.putfield 35, 3) := by decide +kernel
theorem dX3_init_39 : decode cX3_init 39 = .ok (.aload_n 0, 1) := by decide +kernel
theorem dX3_init_40 : decode cX3_init 40 = .ok (.iconst 0, 1) := by decide +kernel
theorem dX3_init_41 : decode cX3_init 41 = .ok (.putfield 39, 3) := by decide +kernel
theorem dX3_init_44 : decode cX3_init 44 = .ok (.aload_n 0, 1) := by decide +kernel
theorem dX3_init_45 : decode cX3_init 45 = .ok (.iconst 0, 1) := by decide +kernel
theorem dX3_init_46 : decode cX3_init 46 = .ok (.putfield 42, 3) := by decide +kernel
theorem dX3_init_49 : decode cX3_init 49 = .ok (.aload_n 0, 1) := by decide +kernel
theorem dX3_init_50 : decode cX3_init 50 = .ok (.iconst 0, 1) := by decide +kernel
theorem dX3_init_51 : decode cX3_init 51 = .ok (.putfield 45, 3) := by decide +kernel
theorem dX3_init_54 : decode cX3_init 54 = .ok (.aload_n 0, 1) := by decide +kernel
theorem dX3_init_55 : decode cX3_init 55 = .ok (.iconst 0, 1) := by decide +kernel
theorem dX3_init_56 : decode cX3_init 56 = .ok (.putfield 48, 3) := by decide +kernel
theorem dX3_init_59 : decode cX3_init 59 = .ok (.aload_n 0, 1) := by decide +kernel
theorem dX3_init_60 : decode cX3_init 60 = .ok (.iconst 0, 1) := by decide +kernel
theorem dX3_init_61 : decode cX3_init 61 = .ok (.putfield 51, 3) := by decide +kernel
theorem dX3_init_64 : decode cX3_init 64 = .ok (.iconst 0, 1) := by decide +kernel
theorem dX3_init_65 : decode cX3_init 65 = .ok (.istore_n 1, 1) := by decide +kernel
theorem dX3_init_66 : decode cX3_init 66 = .ok (.iload_n 1, 1) := by decide +kernel
theorem dX3_init_67 : decode cX3_init 67 = .ok (.aload_n 0, 1) := by decide +kernel
theorem dX3_init_68 : decode cX3_init 68 = .ok (.getfield 11, 3) := by decide +kernel
theorem dX3_init_71 : decode cX3_init 71 = .ok (.arraylength, 1) := by decide +kernel
theorem dX3_init_72 : decode cX3_init 72 = .ok (.if_icmp .ge 22, 3) := by decide +kernel
theorem dX3_init_75 : decode cX3_init 75 = .ok (.aload_n 0, 1) := by decide +kernel
theorem dX3_init_76 : decode cX3_init 76 = .ok (.getfield 11, 3) := by decide +kernel
theorem dX3_init_79 : decode cX3_init 79 = .ok (.iload_n 1, 1) := by decide +kernel
theorem dX3_init_80 : decode cX3_init 80 = .ok (.new 9, 3) := by decide +kernel
theorem dX3_init_83 : decode cX3_init 83 = .ok (.dup, 1) := by decide +kernel
theorem dX3_init_84 : decode cX3_init 84 = .ok (.invokespecial 54, 3) := by decide +kernel
theorem dX3_init_87 : decode cX3_init 87 = .ok (.aastore, 1) := by decide +kernel
theorem dX3_init_88 : decode cX3_init 88 = .ok (.iinc 1 1, 3) := by decide +kernel
theorem dX3_init_91 : decode cX3_init 91 = .ok (.goto (-25), 3) := by decide +kernel
theorem dX3_init_94 : decode cX3_init 94 = .ok (.iconst 0, 1) := by decide +kernel
theorem dX3_init_95 : decode cX3_init 95 = .ok (.istore_n 1, 1) := by decide +kernel
theorem dX3_init_96 : decode cX3_init 96 = .ok (.iload_n 1, 1) := by decide +kernel
theorem dX3_init_97 : decode cX3_init 97 = .ok (.aload_n 0, 1) := by decide +kernel
theorem dX3_init_98 : decode cX3_init 98 = .ok (.getfield 19, 3) := by decide +kernel
theorem dX3_init_101 : decode cX3_init 101 = .ok (.arraylength, 1) := by decide +kernel
theorem dX3_init_102 : decode cX3_init 102 = .ok (.if_icmp .ge 22, 3) := by decide +kernel
theorem dX3_init_105 : decode cX3_init 105 = .ok (.aload_n 0, 1) := by decide +kernel
theorem dX3_init_106 : decode cX3_init 106 = .ok (.getfield 19, 3) := by decide +kernel
theorem dX3_init_109 : decode cX3_init 109 = .ok (.iload_n 1, 1) := by decide +kernel
theorem dX3_init_110 : decode cX3_init 110 = .ok (.new 17, 3) := by decide +kernel
theorem dX3_init_113 : decode cX3_init 113 = .ok (.dup, 1) := by decide +kernel
theorem dX3_init_114 : decode cX3_init 114 = .ok (.invokespecial 55, 3) := by decide +kernel
theorem dX3_init_117 : decode cX3_init 117 = .ok (.aastore, 1) := by decide +kernel
theorem dX3_init_118 : decode cX3_init 118 = .ok (.iinc 1 1, 3) := by decide +kernel
theorem dX3_init_121 : decode cX3_init 121 = .ok (.goto (-25), 3) := by decide +kernel
theorem dX3_init_124 : decode cX3_init 124 = .ok (.return_, 1) := by decide +kernel
set_option maxRecDepth 20000 in
theorem ggX3_becomeLike_X1_becomeLike : GoodIn wsX3_becomeLike wsX1_becomeLike := goodIn_r _ [14, 15, 16, 17, 18, 19, 20, 37, 38, 39, 40, 41, 42] (by decide +kernel) (by decide +kernel)
set_option maxRecDepth 20000 in
theorem gX3_becomeLike_X1_becomeLike : GoodIn wsX3_becomeLike (wsV RX3 56 RX1 yX1_becomeLike wsX1_becomeLike) := goodIn_app (goodIn_of _ (by decide +kernel)) ggX3_becomeLike_X1_becomeLike
set_option maxRecDepth 20000 in
theorem ggX3_becomeLike_X0_becomeLike : GoodIn wsX3_becomeLike wsX0_becomeLike := goodIn_r _ [25, 26, 27, 43, 44] (by decide +kernel) (by decide +kernel)
set_option maxRecDepth 20000 in
theorem gX3_becomeLike_X0_becomeLike : GoodIn wsX3_becomeLike (wsV RX3 60 RX0 yX0_becomeLike wsX0_becomeLike) := goodIn_app (goodIn_of _ (by decide +kernel)) ggX3_becomeLike_X0_becomeLike
theorem dX3_becomeLike_0 : decode cX3_becomeLike 0 = .ok (.iconst 0, 1) := by decide +kernel
theorem dX3_becomeLike_1 : decode cX3_becomeLike 1 = .ok (.istore_n 2, 1) := by decide +kernel
theorem dX3_becomeLike_2 : decode cX3_becomeLike 2 = .ok (.iload_n 2, 1) := by decide +kernel
theorem dX3_becomeLike_3 : decode cX3_becomeLike 3 = .ok (.iconst 4, 1) := by decide +kernel
theorem dX3_becomeLike_4 : decode cX3_becomeLike 4 = .ok (.if_icmp .ge 24, 3) := by decide +kernel
theorem dX3_becomeLike_7 : decode cX3_becomeLike 7 = .ok (.aload_n 0, 1) := by decide +kernel
theorem dX3_becomeLike_8 : decode cX3_becomeLike 8 = .ok (.getfield 11, 3) := by decide +kernel
theorem dX3_becomeLike_11 : decode cX3_becomeLike 11 = .ok (.iload_n 2, 1) := by decide +kernel
theorem dX3_becomeLike_12 : decode cX3_becomeLike 12 = .ok (.aaload, 1) := by decide +kernel
theorem dX3_becomeLike_13 : decode cX3_becomeLike 13 = .ok (.aload_n 1, 1) := by decide +kernel
theorem dX3_becomeLike_14 : decode cX3_becomeLike 14 = .ok (.getfield 11, 3) := by decide +kernel
theorem dX3_becomeLike_17 : decode cX3_becomeLike 17 = .ok (.iload_n 2, 1) := by decide +kernel
theorem dX3_becomeLike_18 : decode cX3_becomeLike 18 = .ok (.aaload, 1) := by decide +kernel
theorem dX3_becomeLike_19 : decode cX3_becomeLike 19 = .ok (.invokevirtual 56, 3) := by decide +kernel
theorem dX3_becomeLike_22 : decode cX3_becomeLike 22 = .ok (.iinc 2 1, 3) := by decide +kernel
theorem dX3_becomeLike_25 : decode cX3_becomeLike 25 = .ok (.goto (-23), 3) := by decide +kernel
theorem dX3_becomeLike_28 : decode cX3_becomeLike 28 = .ok (.iconst 0, 1) := by decide +kernel
theorem dX3_becomeLike_29 : decode cX3_becomeLike 29 = .ok (.istore_n 2, 1) := by decide +kernel
theorem dX3_becomeLike_30 : decode cX3_becomeLike 30 = .ok (.iload_n 2, 1) := by decide +kernel
theorem dX3_becomeLike_31 : decode cX3_becomeLike 31 = .ok (.bipush 6, 2) := by decide +kernel
theorem dX3_becomeLike_33 : decode cX3_becomeLike 33 = .ok (.if_icmp .ge 24, 3) := by decide +kernel
theorem dX3_becomeLike_36 : decode cX3_becomeLike 36 = .ok (.aload_n 0, 1) := by decide +kernel
theorem dX3_becomeLike_37 : decode cX3_becomeLike 37 = .ok (.getfield 19, 3) := by decide +kernel
theorem dX3_becomeLike_40 : decode cX3_becomeLike 40 = .ok (.iload_n 2, 1) := by decide +kernel
theorem dX3_becomeLike_41 : decode cX3_becomeLike 41 = .ok (.aaload, 1) := by decide +kernel
theorem dX3_becomeLike_42 : decode cX3_becomeLike 42 = .ok (.aload_n 1, 1) := by decide +kernel
theorem dX3_becomeLike_43 : decode cX3_becomeLike 43 = .ok (.getfield 19, 3) := by decide +kernel
theorem dX3_becomeLike_46 : decode cX3_becomeLike 46 = .ok (.iload_n 2, 1) := by decide +kernel
theorem dX3_becomeLike_47 : decode cX3_becomeLike 47 = .ok (.aaload, 1) := by decide +kernel
theorem dX3_becomeLike_48 : decode cX3_becomeLike 48 = .ok (.invokevirtual 60, 3) := by decide +kernel
theorem dX3_becomeLike_51 : decode cX3_becomeLike 51 = .ok (.iinc 2 1, 3) := by decide +kernel
theorem dX3_becomeLike_54 : decode cX3_becomeLike 54 = .ok (.goto (-24), 3) := by decide +kernel
theorem dX3_becomeLike_57 : decode cX3_becomeLike 57 = .ok (.iconst 0, 1) := by decide +kernel
theorem dX3_becomeLike_58 : decode cX3_becomeLike 58 = .ok (.istore_n 2, 1) := by decide +kernel
theorem dX3_becomeLike_59 : decode cX3_becomeLike 59 = .ok (.iload_n 2, 1) := by decide +kernel
theorem dX3_becomeLike_60 : decode cX3_becomeLike 60 = .ok (.aload_n 0, 1) := by decide +kernel
theorem dX3_becomeLike_61 : decode cX3_becomeLike 61 = .ok (.getfield 32, 3) := by decide +kernel
theorem dX3_becomeLike_64 : decode cX3_becomeLike 64 = .ok (.arraylength, 1) := by decide +kernel
theorem dX3_becomeLike_65 : decode cX3_becomeLike 65 = .ok (.if_icmp .ge 30, 3) := by decide +kernel
theorem dX3_becomeLike_68 : decode cX3_becomeLike 68 = .ok (.iload_n 2, 1) := by decide +kernel
theorem dX3_becomeLike_69 : decode cX3_becomeLike 69 = .ok (.aload_n 1, 1) := by decide +kernel
theorem dX3_becomeLike_70 : decode cX3_becomeLike 70 = .ok (.getfield 32, 3) := by decide +kernel
theorem dX3_becomeLike_73 : decode cX3_becomeLike 73 = .ok (.arraylength, 1) := by decide +kernel
theorem dX3_becomeLike_74 : decode cX3_becomeLike 74 = .ok (.if_icmp .ge 21, 3) := by decide +kernel
theorem dX3_becomeLike_77 : decode cX3_becomeLike 77 = .ok (.aload_n 0, 1) := by decide +kernel
theorem dX3_becomeLike_78 : decode cX3_becomeLike 78 = .ok (.getfield 32, 3) := by decide +kernel
theorem dX3_becomeLike_81 : decode cX3_becomeLike 81 = .ok (.iload_n 2, 1) := by decide +kernel
theorem dX3_becomeLike_82 : decode cX3_becomeLike 82 = .ok (.aload_n 1, 1) := by decide +kernel
theorem dX3_becomeLike_83 : decode cX3_becomeLike 83 = .ok (.getfield 32, 3) := by decide +kernel
theorem dX3_becomeLike_86 : decode cX3_becomeLike 86 = .ok (.iload_n 2, 1) := by decide +kernel
theorem dX3_becomeLike_87 : decode cX3_becomeLike 87 = .ok (.iaload, 1) := by decide +kernel
theorem dX3_becomeLike_88 : decode cX3_becomeLike 88 = .ok (.iastore, 1) := by decide +kernel
theorem dX3_becomeLike_89 : decode cX3_becomeLike 89 = .ok (.iinc 2 1, 3) := by decide +kernel
theorem dX3_becomeLike_92 : decode cX3_becomeLike 92 = .ok (.goto (-33), 3) := by decide +kernel
theorem dX3_becomeLike_95 : decode cX3_becomeLike 95 = .ok (.aload_n 0, 1) := by decide +kernel
theorem dX3_becomeLike_96 : decode cX3_becomeLike 96 = .ok (.aload_n 1, 1) := by decide +kernel
theorem dX3_becomeLike_97 : decode cX3_becomeLike 97 = .ok (.getfield 35, 3) := by decide +kernel
theorem dX3_becomeLike_100 : decode cX3_becomeLike 100 = .ok (.putfield 35, 3) := by decide +kernel
theorem dX3_becomeLike_103 : decode cX3_becomeLike 103 = .ok (.aload_n 0, 1) := by decide +kernel
theorem dX3_becomeLike_104 : decode cX3_becomeLike 104 = .ok (.aload_n 1, 1) := by decide +kernel
theorem dX3_becomeLike_105 : decode cX3_becomeLike 105 = .ok (.getfield 39, 3) := by decide +kernel
theorem dX3_becomeLike_108 : decode cX3_becomeLike 108 = .ok (.putfield 39, 3) := by decide +kernel
theorem dX3_becomeLike_111 : decode cX3_becomeLike 111 = .ok (.aload_n 0, 1) := by decide +kernel
theorem dX3_becomeLike_112 : decode cX3_becomeLike 112 = .ok (.aload_n 1, 1) := by decide +kernel
theorem dX3_becomeLike_113 : decode cX3_becomeLike 113 = .ok (.getfield 42, 3) := by decide +kernel
theorem dX3_becomeLike_116 : decode cX3_becomeLike 116 = .ok (.putfield 42, 3) := by decide +kernel
theorem dX3_becomeLike_119 : decode cX3_becomeLike 119 = .ok (.aload_n 0, 1) := by decide +kernel
theorem dX3_becomeLike_120 : decode cX3_becomeLike 120 = .ok (.aload_n 1, 1) := by decide +kernel
theorem dX3_becomeLike_121 : decode cX3_becomeLike 121 = .ok (.getfield 45, 3) := by decide +kernel
theorem dX3_becomeLike_124 : decode cX3_becomeLike 124 = .ok (.putfield 45, 3) := by decide +kernel
theorem dX3_becomeLike_127 : decode cX3_becomeLike 127 = .ok (.aload_n 0, 1) := by decide +kernel
theorem dX3_becomeLike_128 : decode cX3_becomeLike 128 = .ok (.aload_n 1, 1) := by decide +kernel
theorem dX3_becomeLike_129 : decode cX3_becomeLike 129 = .ok (.getfield 48, 3) := by decide +kernel
theorem dX3_becomeLike_132 : decode cX3_becomeLike 132 = .ok (.putfield 48, 3) := by decide +kernel
theorem dX3_becomeLike_135 : decode cX3_becomeLike 135 = .ok (.aload_n 0, 1) := by decide +kernel
theorem dX3_becomeLike_136 : decode cX3_becomeLike 136 = .ok (.aload_n 1, 1) := by decide +kernel
theorem dX3_becomeLike_137 : decode cX3_becomeLike 137 = .ok (.getfield 51, 3) := by decide +kernel
theorem dX3_becomeLike_140 : decode cX3_becomeLike 140 = .ok (.putfield 51, 3) := by decide +kernel
theorem dX3_becomeLike_143 : decode cX3_becomeLike 143 = .ok (.return_, 1) := by decide +kernel
set_option maxRecDepth 20000 in
theorem ggX3_siloTonnes_X1_total : GoodIn wsX3_siloTonnes wsX1_total := goodIn_r _ [6, 7, 8, 9, 5, 10, 11, 12, 22, 23, 24, 25, 26, 27] (by decide +kernel) (by decide +kernel)
set_option maxRecDepth 20000 in
theorem gX3_siloTonnes_X1_total : GoodIn wsX3_siloTonnes (wsV RX3 63 RX1 yX1_total wsX1_total) := goodIn_app (goodIn_of _ (by decide +kernel)) ggX3_siloTonnes_X1_total
theorem dX3_siloTonnes_0 : decode cX3_siloTonnes 0 = .ok (.iconst 0, 1) := by decide +kernel
theorem dX3_siloTonnes_1 : decode cX3_siloTonnes 1 = .ok (.istore_n 1, 1) := by decide +kernel
theorem dX3_siloTonnes_2 : decode cX3_siloTonnes 2 = .ok (.iconst 0, 1) := by decide +kernel
theorem dX3_siloTonnes_3 : decode cX3_siloTonnes 3 = .ok (.istore_n 2, 1) := by decide +kernel
theorem dX3_siloTonnes_4 : decode cX3_siloTonnes 4 = .ok (.iload_n 2, 1) := by decide +kernel
theorem dX3_siloTonnes_5 : decode cX3_siloTonnes 5 = .ok (.iconst 4, 1) := by decide +kernel
theorem dX3_siloTonnes_6 : decode cX3_siloTonnes 6 = .ok (.if_icmp .ge 21, 3) := by decide +kernel
theorem dX3_siloTonnes_9 : decode cX3_siloTonnes 9 = .ok (.iload_n 1, 1) := by decide +kernel
theorem dX3_siloTonnes_10 : decode cX3_siloTonnes 10 = .ok (.aload_n 0, 1) := by decide +kernel
theorem dX3_siloTonnes_11 : decode cX3_siloTonnes 11 = .ok (.getfield 11, 3) := by decide +kernel
theorem dX3_siloTonnes_14 : decode cX3_siloTonnes 14 = .ok (.iload_n 2, 1) := by decide +kernel
theorem dX3_siloTonnes_15 : decode cX3_siloTonnes 15 = .ok (.aaload, 1) := by decide +kernel
theorem dX3_siloTonnes_16 : decode cX3_siloTonnes 16 = .ok (.invokevirtual 63, 3) := by decide +kernel
theorem dX3_siloTonnes_19 : decode cX3_siloTonnes 19 = .ok (.iadd, 1) := by decide +kernel
theorem dX3_siloTonnes_20 : decode cX3_siloTonnes 20 = .ok (.istore_n 1, 1) := by decide +kernel
theorem dX3_siloTonnes_21 : decode cX3_siloTonnes 21 = .ok (.iinc 2 1, 3) := by decide +kernel
theorem dX3_siloTonnes_24 : decode cX3_siloTonnes 24 = .ok (.goto (-20), 3) := by decide +kernel
theorem dX3_siloTonnes_27 : decode cX3_siloTonnes 27 = .ok (.iload_n 1, 1) := by decide +kernel
theorem dX3_siloTonnes_28 : decode cX3_siloTonnes 28 = .ok (.ireturn, 1) := by decide +kernel
theorem dX3_shipTonnes_0 : decode cX3_shipTonnes 0 = .ok (.iconst 0, 1) := by decide +kernel
theorem dX3_shipTonnes_1 : decode cX3_shipTonnes 1 = .ok (.istore_n 1, 1) := by decide +kernel
theorem dX3_shipTonnes_2 : decode cX3_shipTonnes 2 = .ok (.iconst 0, 1) := by decide +kernel
theorem dX3_shipTonnes_3 : decode cX3_shipTonnes 3 = .ok (.istore_n 2, 1) := by decide +kernel
theorem dX3_shipTonnes_4 : decode cX3_shipTonnes 4 = .ok (.iload_n 2, 1) := by decide +kernel
theorem dX3_shipTonnes_5 : decode cX3_shipTonnes 5 = .ok (.bipush 6, 2) := by decide +kernel
theorem dX3_shipTonnes_7 : decode cX3_shipTonnes 7 = .ok (.if_icmp .ge 21, 3) := by decide +kernel
theorem dX3_shipTonnes_10 : decode cX3_shipTonnes 10 = .ok (.iload_n 1, 1) := by decide +kernel
theorem dX3_shipTonnes_11 : decode cX3_shipTonnes 11 = .ok (.aload_n 0, 1) := by decide +kernel
theorem dX3_shipTonnes_12 : decode cX3_shipTonnes 12 = .ok (.getfield 19, 3) := by decide +kernel
theorem dX3_shipTonnes_15 : decode cX3_shipTonnes 15 = .ok (.iload_n 2, 1) := by decide +kernel
theorem dX3_shipTonnes_16 : decode cX3_shipTonnes 16 = .ok (.aaload, 1) := by decide +kernel
theorem dX3_shipTonnes_17 : decode cX3_shipTonnes 17 = .ok (.getfield 67, 3) := by decide +kernel
theorem dX3_shipTonnes_20 : decode cX3_shipTonnes 20 = .ok (.iadd, 1) := by decide +kernel
theorem dX3_shipTonnes_21 : decode cX3_shipTonnes 21 = .ok (.istore_n 1, 1) := by decide +kernel
theorem dX3_shipTonnes_22 : decode cX3_shipTonnes 22 = .ok (.iinc 2 1, 3) := by decide +kernel
theorem dX3_shipTonnes_25 : decode cX3_shipTonnes 25 = .ok (.goto (-21), 3) := by decide +kernel
theorem dX3_shipTonnes_28 : decode cX3_shipTonnes 28 = .ok (.iload_n 1, 1) := by decide +kernel
theorem dX3_shipTonnes_29 : decode cX3_shipTonnes 29 = .ok (.ireturn, 1) := by decide +kernel
theorem dX3_padsOn_0 : decode cX3_padsOn 0 = .ok (.iconst 0, 1) := by decide +kernel
theorem dX3_padsOn_1 : decode cX3_padsOn 1 = .ok (.istore_n 1, 1) := by decide +kernel
theorem dX3_padsOn_2 : decode cX3_padsOn 2 = .ok (.iconst 0, 1) := by decide +kernel
theorem dX3_padsOn_3 : decode cX3_padsOn 3 = .ok (.istore_n 2, 1) := by decide +kernel
theorem dX3_padsOn_4 : decode cX3_padsOn 4 = .ok (.iload_n 2, 1) := by decide +kernel
theorem dX3_padsOn_5 : decode cX3_padsOn 5 = .ok (.iconst 4, 1) := by decide +kernel
theorem dX3_padsOn_6 : decode cX3_padsOn 6 = .ok (.if_icmp .ge 21, 3) := by decide +kernel
theorem dX3_padsOn_9 : decode cX3_padsOn 9 = .ok (.iload_n 1, 1) := by decide +kernel
theorem dX3_padsOn_10 : decode cX3_padsOn 10 = .ok (.aload_n 0, 1) := by decide +kernel
theorem dX3_padsOn_11 : decode cX3_padsOn 11 = .ok (.getfield 11, 3) := by decide +kernel
theorem dX3_padsOn_14 : decode cX3_padsOn 14 = .ok (.iload_n 2, 1) := by decide +kernel
theorem dX3_padsOn_15 : decode cX3_padsOn 15 = .ok (.aaload, 1) := by decide +kernel
theorem dX3_padsOn_16 : decode cX3_padsOn 16 = .ok (.getfield 70, 3) := by decide +kernel
theorem dX3_padsOn_19 : decode cX3_padsOn 19 = .ok (.iadd, 1) := by decide +kernel
theorem dX3_padsOn_20 : decode cX3_padsOn 20 = .ok (.istore_n 1, 1) := by decide +kernel
theorem dX3_padsOn_21 : decode cX3_padsOn 21 = .ok (.iinc 2 1, 3) := by decide +kernel
theorem dX3_padsOn_24 : decode cX3_padsOn 24 = .ok (.goto (-20), 3) := by decide +kernel
theorem dX3_padsOn_27 : decode cX3_padsOn 27 = .ok (.iload_n 1, 1) := by decide +kernel
theorem dX3_padsOn_28 : decode cX3_padsOn 28 = .ok (.ireturn, 1) := by decide +kernel
theorem dX3_arches_0 : decode cX3_arches 0 = .ok (.iconst 0, 1) := by decide +kernel
theorem dX3_arches_1 : decode cX3_arches 1 = .ok (.istore_n 1, 1) := by decide +kernel
theorem dX3_arches_2 : decode cX3_arches 2 = .ok (.iconst 0, 1) := by decide +kernel
theorem dX3_arches_3 : decode cX3_arches 3 = .ok (.istore_n 2, 1) := by decide +kernel
theorem dX3_arches_4 : decode cX3_arches 4 = .ok (.iload_n 2, 1) := by decide +kernel
theorem dX3_arches_5 : decode cX3_arches 5 = .ok (.iconst 4, 1) := by decide +kernel
theorem dX3_arches_6 : decode cX3_arches 6 = .ok (.if_icmp .ge 29, 3) := by decide +kernel
theorem dX3_arches_9 : decode cX3_arches 9 = .ok (.iload_n 1, 1) := by decide +kernel
theorem dX3_arches_10 : decode cX3_arches 10 = .ok (.aload_n 0, 1) := by decide +kernel
theorem dX3_arches_11 : decode cX3_arches 11 = .ok (.getfield 11, 3) := by decide +kernel
theorem dX3_arches_14 : decode cX3_arches 14 = .ok (.iload_n 2, 1) := by decide +kernel
theorem dX3_arches_15 : decode cX3_arches 15 = .ok (.aaload, 1) := by decide +kernel
theorem dX3_arches_16 : decode cX3_arches 16 = .ok (.getfield 73, 3) := by decide +kernel
theorem dX3_arches_19 : decode cX3_arches 19 = .ok (.ifCond .ne 7, 3) := by decide +kernel
theorem dX3_arches_22 : decode cX3_arches 22 = .ok (.iconst 0, 1) := by decide +kernel
theorem dX3_arches_23 : decode cX3_arches 23 = .ok (.goto 4, 3) := by decide +kernel
theorem dX3_arches_26 : decode cX3_arches 26 = .ok (.iconst 1, 1) := by decide +kernel
theorem dX3_arches_27 : decode cX3_arches 27 = .ok (.iadd, 1) := by decide +kernel
theorem dX3_arches_28 : decode cX3_arches 28 = .ok (.istore_n 1, 1) := by decide +kernel
theorem dX3_arches_29 : decode cX3_arches 29 = .ok (.iinc 2 1, 3) := by decide +kernel
theorem dX3_arches_32 : decode cX3_arches 32 = .ok (.goto (-28), 3) := by decide +kernel
theorem dX3_arches_35 : decode cX3_arches 35 = .ok (.iload_n 1, 1) := by decide +kernel
theorem dX3_arches_36 : decode cX3_arches 36 = .ok (.ireturn, 1) := by decide +kernel
