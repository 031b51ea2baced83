set_option maxRecDepth 20000 in
theorem ggX4_init_X3_init : GoodIn wsX4_init wsX3_init := goodIn_r _ [27, 28, 2, 3, 29, 30, 31, 32, 33, 34, 35, 36, 37, 38, 39, 40, 41, 42, 43, 44, 45, 18, 19, 22, 23, 46, 47, 48, 10, 49, 50, 51, 52, 53, 54, 55, 56, 57, 58, 59, 68, 69, 70, 71, 72, 73, 74, 75, 76, 90, 91, 92, 93, 94, 95, 96, 97] (by decide +kernel) (by decide +kernel)
set_option maxRecDepth 20000 in
theorem gX4_init_X3_init : GoodIn wsX4_init (wsX3_init) := ggX4_init_X3_init
set_option maxRecDepth 20000 in
theorem ggX4_init_X2_init : GoodIn wsX4_init wsX2_init := goodIn_r _ [61, 62, 2, 3, 63, 64, 65, 66, 67, 85, 86, 87, 88, 89] (by decide +kernel) (by decide +kernel)
set_option maxRecDepth 20000 in
theorem gX4_init_X2_init_n33 : GoodIn wsX4_init (wsX2_init) := ggX4_init_X2_init
set_option maxRecDepth 20000 in
theorem ggX4_init_X1_init : GoodIn wsX4_init wsX1_init := goodIn_r _ [47, 48, 2, 3, 10, 49, 50, 51, 52, 53, 54, 90, 91, 92, 93, 94, 95] (by decide +kernel) (by decide +kernel)
set_option maxRecDepth 20000 in
theorem gX4_init_X1_init_n40 : GoodIn wsX4_init (wsX1_init) := ggX4_init_X1_init
set_option maxRecDepth 20000 in
theorem ggX4_init_X0_init : GoodIn wsX4_init wsX0_init := goodIn_r _ [56, 57, 2, 3, 58, 59, 96, 97] (by decide +kernel) (by decide +kernel)
set_option maxRecDepth 20000 in
theorem gX4_init_X0_init_n47 : GoodIn wsX4_init (wsX0_init) := ggX4_init_X0_init
theorem dX4_init_0 : decode cX4_init 0 = .ok (.aload_n 0, 1) := by decide +kernel
theorem dX4_init_1 : decode cX4_init 1 = .ok (.invokespecial 1, 3) := by decide +kernel
theorem dX4_init_4 : decode cX4_init 4 = .ok (.aload_n 0, 1) := by decide +kernel
theorem dX4_init_5 : decode cX4_init 5 = .ok (.new 7, 3) := by decide +kernel
theorem dX4_init_8 : decode cX4_init 8 = .ok (.dup, 1) := by decide +kernel
theorem dX4_init_9 : decode cX4_init 9 = .ok (.invokespecial 9, 3) := by decide +kernel
theorem dX4_init_12 : decode cX4_init 12 = .ok (.putfield 10, 3) := by decide +kernel
theorem dX4_init_15 : decode cX4_init 15 = .ok (.aload_n 0, 1) := by decide +kernel
theorem dX4_init_16 : decode cX4_init 16 = .ok (.bipush 6, 2) := by decide +kernel
theorem dX4_init_18 : decode cX4_init 18 = .ok (.anewarray 7, 3) := by decide +kernel
theorem dX4_init_21 : decode cX4_init 21 = .ok (.putfield 16, 3) := by decide +kernel
theorem dX4_init_24 : decode cX4_init 24 = .ok (.aload_n 0, 1) := by decide +kernel
theorem dX4_init_25 : decode cX4_init 25 = .ok (.iconst 0, 1) := by decide +kernel
theorem dX4_init_26 : decode cX4_init 26 = .ok (.putfield 20, 3) := by decide +kernel
theorem dX4_init_29 : decode cX4_init 29 = .ok (.aload_n 0, 1) := by decide +kernel
theorem dX4_init_30 : decode cX4_init 30 = .ok (.bipush 60, 2) := by decide +kernel
theorem dX4_init_32 : decode cX4_init 32 = .ok (.newarray .int, 2) := by decide +kernel
theorem dX4_init_34 : decode cX4_init 34 = .ok (.putfield 24, 3) := by decide +kernel
theorem dX4_init_37 : decode cX4_init 37 = .ok (.aload_n 0, 1) := by decide +kernel
theorem dX4_init_38 : decode cX4_init 38 = .ok (.iconst 0, 1) := by decide +kernel
theorem dX4_init_39 : decode cX4_init 39 = .ok (.putfield 28, 3) := by decide +kernel
theorem dX4_init_42 : decode cX4_init 42 = .ok (.aload_n 0, 1) := by decide +kernel
theorem dX4_init_43 : decode cX4_init 43 = .ok (.new 31, 3) := by decide +kernel
theorem dX4_init_46 : decode cX4_init 46 = .ok (.dup, 1) := by decide +kernel
theorem dX4_init_47 : decode cX4_init 47 = .ok (.invokespecial 33, 3) := by decide +kernel
theorem dX4_init_50 : decode cX4_init 50 = .ok (.putfield 34, 3) := by decide +kernel
theorem dX4_init_53 : decode cX4_init 53 = .ok (.aload_n 0, 1) := by decide +kernel
theorem dX4_init_54 : decode cX4_init 54 = .ok (.new 38, 3) := by decide +kernel
theorem dX4_init_57 : decode cX4_init 57 = .ok (.dup, 1) := by decide +kernel
theorem dX4_init_58 : decode cX4_init 58 = .ok (.invokespecial 40, 3) := by decide +kernel
theorem dX4_init_61 : decode cX4_init 61 = .ok (.putfield 41, 3) := by decide +kernel
theorem dX4_init_64 : decode cX4_init 64 = .ok (.aload_n 0, 1) := by decide +kernel
theorem dX4_init_65 : decode cX4_init 65 = .ok (.new 45, 3) := by decide +kernel
theorem dX4_init_68 : decode cX4_init 68 = .ok (.dup, 1) := by decide +kernel
theorem dX4_init_69 : decode cX4_init 69 = .ok (.invokespecial 47, 3) := by decide +kernel
theorem dX4_init_72 : decode cX4_init 72 = .ok (.putfield 48, 3) := by decide +kernel
theorem dX4_init_75 : decode cX4_init 75 = .ok (.iconst 0, 1) := by decide +kernel
theorem dX4_init_76 : decode cX4_init 76 = .ok (.istore_n 1, 1) := by decide +kernel
theorem dX4_init_77 : decode cX4_init 77 = .ok (.iload_n 1, 1) := by decide +kernel
theorem dX4_init_78 : decode cX4_init 78 = .ok (.aload_n 0, 1) := by decide +kernel
theorem dX4_init_79 : decode cX4_init 79 = .ok (.getfield 16, 3) := by decide +kernel
theorem dX4_init_82 : decode cX4_init 82 = .ok (.arraylength, 1) := by decide +kernel
theorem dX4_init_83 : decode cX4_init 83 = .ok (.if_icmp .ge 22, 3) := by decide +kernel
theorem dX4_init_86 : decode cX4_init 86 = .ok (.aload_n 0, 1) := by decide +kernel
theorem dX4_init_87 : decode cX4_init 87 = .ok (.getfield 16, 3) := by decide +kernel
theorem dX4_init_90 : decode cX4_init 90 = .ok (.iload_n 1, 1) := by decide +kernel
theorem dX4_init_91 : decode cX4_init 91 = .ok (.new 7, 3) := by decide +kernel
theorem dX4_init_94 : decode cX4_init 94 = .ok (.dup, 1) := by decide +kernel
theorem dX4_init_95 : decode cX4_init 95 = .ok (.invokespecial 9, 3) := by decide +kernel
theorem dX4_init_98 : decode cX4_init 98 = .ok (.aastore, 1) := by decide +kernel
theorem dX4_init_99 : decode cX4_init 99 = .ok (.iinc 1 1, 3) := by decide +kernel
theorem dX4_init_102 : decode cX4_init 102 = .ok (.goto (-25), 3) := by decide +kernel
theorem dX4_init_105 : decode cX4_init 105 = .ok (.return_, 1) := by decide +kernel
set_option maxRecDepth 20000 in
theorem ggX4_ship_X4_isNoShip : GoodIn wsX4_ship wsX4_isNoShip := goodIn_r _ [14] (by decide +kernel) (by decide +kernel)
set_option maxRecDepth 20000 in
theorem gX4_ship_X4_isNoShip : GoodIn wsX4_ship (va_wsS RX4 52 yX4_isNoShip wsX4_isNoShip) := goodIn_app (goodIn_of _ (by decide +kernel)) ggX4_ship_X4_isNoShip
set_option maxRecDepth 20000 in
theorem ggX4_ship_X4_saveState : GoodIn wsX4_ship wsX4_saveState := goodIn_r _ [18, 19, 20, 5, 21, 22, 23, 24, 25, 26, 27, 28, 29, 30, 31, 32, 33, 34, 35, 36, 37, 38, 39, 40, 41, 42, 43, 44, 45, 46, 47, 48, 49, 50, 51, 52, 53, 54, 55, 56, 57, 58, 59, 60, 61, 62, 63, 64, 65, 66, 67, 68, 69, 72, 73, 74, 75, 76, 77, 70, 71] (by decide +kernel) (by decide +kernel)
set_option maxRecDepth 20000 in
theorem gX4_ship_X4_saveState : GoodIn wsX4_ship (wsV RX4 68 RX4 yX4_saveState wsX4_saveState) := goodIn_app (goodIn_of _ (by decide +kernel)) ggX4_ship_X4_saveState
theorem dX4_ship_0 : decode cX4_ship 0 = .ok (.iload_n 1, 1) := by decide +kernel
theorem dX4_ship_1 : decode cX4_ship 1 = .ok (.invokestatic 52, 3) := by decide +kernel
theorem dX4_ship_4 : decode cX4_ship 4 = .ok (.ifCond .eq 13, 3) := by decide +kernel
theorem dX4_ship_7 : decode cX4_ship 7 = .ok (.new 56, 3) := by decide +kernel
theorem dX4_ship_10 : decode cX4_ship 10 = .ok (.dup, 1) := by decide +kernel
theorem dX4_ship_11 : decode cX4_ship 11 = .ok (.ldc 58, 2) := by decide +kernel
theorem dX4_ship_13 : decode cX4_ship 13 = .ok (.invokespecial 60, 3) := by decide +kernel
theorem dX4_ship_16 : decode cX4_ship 16 = .ok (.athrow, 1) := by decide +kernel
theorem dX4_ship_17 : decode cX4_ship 17 = .ok (.iload_n 2, 1) := by decide +kernel
theorem dX4_ship_18 : decode cX4_ship 18 = .ok (.ifCond .lt 19, 3) := by decide +kernel
theorem dX4_ship_21 : decode cX4_ship 21 = .ok (.iload_n 2, 1) := by decide +kernel
theorem dX4_ship_22 : decode cX4_ship 22 = .ok (.sipush 900, 3) := by decide +kernel
theorem dX4_ship_25 : decode cX4_ship 25 = .ok (.if_icmp .gt 12, 3) := by decide +kernel
theorem dX4_ship_28 : decode cX4_ship 28 = .ok (.iload_n 3, 1) := by decide +kernel
theorem dX4_ship_29 : decode cX4_ship 29 = .ok (.ifCond .lt 8, 3) := by decide +kernel
theorem dX4_ship_32 : decode cX4_ship 32 = .ok (.iload_n 3, 1) := by decide +kernel
theorem dX4_ship_33 : decode cX4_ship 33 = .ok (.iload_n 2, 1) := by decide +kernel
theorem dX4_ship_34 : decode cX4_ship 34 = .ok (.if_icmp .le 13, 3) := by decide +kernel
theorem dX4_ship_37 : decode cX4_ship 37 = .ok (.new 63, 3) := by decide +kernel
theorem dX4_ship_40 : decode cX4_ship 40 = .ok (.dup, 1) := by decide +kernel
theorem dX4_ship_41 : decode cX4_ship 41 = .ok (.ldc 65, 2) := by decide +kernel
theorem dX4_ship_43 : decode cX4_ship 43 = .ok (.invokespecial 67, 3) := by decide +kernel
theorem dX4_ship_46 : decode cX4_ship 46 = .ok (.athrow, 1) := by decide +kernel
theorem dX4_ship_47 : decode cX4_ship 47 = .ok (.aload_n 0, 1) := by decide +kernel
theorem dX4_ship_48 : decode cX4_ship 48 = .ok (.invokevirtual 68, 3) := by decide +kernel
theorem dX4_ship_51 : decode cX4_ship 51 = .ok (.aload_n 0, 1) := by decide +kernel
theorem dX4_ship_52 : decode cX4_ship 52 = .ok (.getfield 10, 3) := by decide +kernel
theorem dX4_ship_55 : decode cX4_ship 55 = .ok (.getfield 71, 3) := by decide +kernel
theorem dX4_ship_58 : decode cX4_ship 58 = .ok (.iload_n 1, 1) := by decide +kernel
theorem dX4_ship_59 : decode cX4_ship 59 = .ok (.aaload, 1) := by decide +kernel
theorem dX4_ship_60 : decode cX4_ship 60 = .ok (.astore 4, 2) := by decide +kernel
theorem dX4_ship_62 : decode cX4_ship 62 = .ok (.aload 4, 2) := by decide +kernel
theorem dX4_ship_64 : decode cX4_ship 64 = .ok (.getfield 75, 3) := by decide +kernel
theorem dX4_ship_67 : decode cX4_ship 67 = .ok (.istore 5, 2) := by decide +kernel
theorem dX4_ship_69 : decode cX4_ship 69 = .ok (.aload 4, 2) := by decide +kernel
theorem dX4_ship_71 : decode cX4_ship 71 = .ok (.iload_n 3, 1) := by decide +kernel
theorem dX4_ship_72 : decode cX4_ship 72 = .ok (.putfield 75, 3) := by decide +kernel
theorem dX4_ship_75 : decode cX4_ship 75 = .ok (.aload 4, 2) := by decide +kernel
theorem dX4_ship_77 : decode cX4_ship 77 = .ok (.iload_n 2, 1) := by decide +kernel
theorem dX4_ship_78 : decode cX4_ship 78 = .ok (.putfield 78, 3) := by decide +kernel
theorem dX4_ship_81 : decode cX4_ship 81 = .ok (.aload_n 0, 1) := by decide +kernel
theorem dX4_ship_82 : decode cX4_ship 82 = .ok (.getfield 10, 3) := by decide +kernel
theorem dX4_ship_85 : decode cX4_ship 85 = .ok (.dup, 1) := by decide +kernel
theorem dX4_ship_86 : decode cX4_ship 86 = .ok (.getfield 81, 3) := by decide +kernel
theorem dX4_ship_89 : decode cX4_ship 89 = .ok (.iload_n 3, 1) := by decide +kernel
theorem dX4_ship_90 : decode cX4_ship 90 = .ok (.iadd, 1) := by decide +kernel
theorem dX4_ship_91 : decode cX4_ship 91 = .ok (.putfield 81, 3) := by decide +kernel
theorem dX4_ship_94 : decode cX4_ship 94 = .ok (.aload_n 0, 1) := by decide +kernel
theorem dX4_ship_95 : decode cX4_ship 95 = .ok (.getfield 10, 3) := by decide +kernel
theorem dX4_ship_98 : decode cX4_ship 98 = .ok (.dup, 1) := by decide +kernel
theorem dX4_ship_99 : decode cX4_ship 99 = .ok (.getfield 84, 3) := by decide +kernel
theorem dX4_ship_102 : decode cX4_ship 102 = .ok (.iload 5, 2) := by decide +kernel
theorem dX4_ship_104 : decode cX4_ship 104 = .ok (.iadd, 1) := by decide +kernel
theorem dX4_ship_105 : decode cX4_ship 105 = .ok (.putfield 84, 3) := by decide +kernel
theorem dX4_ship_108 : decode cX4_ship 108 = .ok (.iload 5, 2) := by decide +kernel
theorem dX4_ship_110 : decode cX4_ship 110 = .ok (.ireturn, 1) := by decide +kernel
set_option maxRecDepth 20000 in
theorem ggX4_unload_X4_isNoSilo : GoodIn wsX4_unload wsX4_isNoSilo := goodIn_r _ [11] (by decide +kernel) (by decide +kernel)
set_option maxRecDepth 20000 in
theorem gX4_unload_X4_isNoSilo : GoodIn wsX4_unload (va_wsS RX4 87 yX4_isNoSilo wsX4_isNoSilo) := goodIn_app (goodIn_of _ (by decide +kernel)) ggX4_unload_X4_isNoSilo
set_option maxRecDepth 20000 in
theorem ggX4_unload_X4_isNoShip : GoodIn wsX4_unload wsX4_isNoShip := goodIn_r _ [14] (by decide +kernel) (by decide +kernel)
set_option maxRecDepth 20000 in
theorem gX4_unload_X4_isNoShip : GoodIn wsX4_unload (va_wsS RX4 52 yX4_isNoShip wsX4_isNoShip) := goodIn_app (goodIn_of _ (by decide +kernel)) ggX4_unload_X4_isNoShip
set_option maxRecDepth 20000 in
theorem ggX4_unload_X4_saveState : GoodIn wsX4_unload wsX4_saveState := goodIn_r _ [18, 19, 20, 5, 21, 22, 23, 24, 25, 26, 27, 28, 29, 30, 31, 32, 33, 34, 35, 36, 37, 38, 39, 40, 41, 42, 43, 44, 45, 46, 47, 48, 49, 50, 51, 52, 83, 84, 85, 86, 87, 88, 89, 90, 91, 92, 93, 94, 95, 96, 97, 98, 99, 100, 101, 102, 103, 104, 105, 106, 107] (by decide +kernel) (by decide +kernel)
set_option maxRecDepth 20000 in
theorem gX4_unload_X4_saveState : GoodIn wsX4_unload (wsV RX4 68 RX4 yX4_saveState wsX4_saveState) := goodIn_app (goodIn_of _ (by decide +kernel)) ggX4_unload_X4_saveState
set_option maxRecDepth 20000 in
theorem ggX4_unload_X4_bringIn : GoodIn wsX4_unload wsX4_bringIn := goodIn_r _ [56, 57, 58, 59, 60, 61, 62, 63, 64, 38, 65, 42, 66, 67, 68, 69, 70, 71, 72, 73, 74, 40, 75, 76, 77, 78, 41, 79, 80, 81, 82, 45, 106, 107, 100, 101, 102, 103, 104, 105] (by decide +kernel) (by decide +kernel)
set_option maxRecDepth 20000 in
theorem gX4_unload_X4_bringIn : GoodIn wsX4_unload (wsV RX4 98 RX4 yX4_bringIn wsX4_bringIn) := goodIn_app (goodIn_of _ (by decide +kernel)) ggX4_unload_X4_bringIn
theorem dX4_unload_0 : decode cX4_unload 0 = .ok (.iload_n 1, 1) := by decide +kernel
theorem dX4_unload_1 : decode cX4_unload 1 = .ok (.invokestatic 87, 3) := by decide +kernel
theorem dX4_unload_4 : decode cX4_unload 4 = .ok (.ifCond .ne 10, 3) := by decide +kernel
theorem dX4_unload_7 : decode cX4_unload 7 = .ok (.iload_n 2, 1) := by decide +kernel
theorem dX4_unload_8 : decode cX4_unload 8 = .ok (.invokestatic 52, 3) := by decide +kernel
theorem dX4_unload_11 : decode cX4_unload 11 = .ok (.ifCond .eq 13, 3) := by decide +kernel
theorem dX4_unload_14 : decode cX4_unload 14 = .ok (.new 56, 3) := by decide +kernel
theorem dX4_unload_17 : decode cX4_unload 17 = .ok (.dup, 1) := by decide +kernel
theorem dX4_unload_18 : decode cX4_unload 18 = .ok (.ldc 90, 2) := by decide +kernel
theorem dX4_unload_20 : decode cX4_unload 20 = .ok (.invokespecial 60, 3) := by decide +kernel
theorem dX4_unload_23 : decode cX4_unload 23 = .ok (.athrow, 1) := by decide +kernel
theorem dX4_unload_24 : decode cX4_unload 24 = .ok (.iload_n 3, 1) := by decide +kernel
theorem dX4_unload_25 : decode cX4_unload 25 = .ok (.iconst 1, 1) := by decide +kernel
theorem dX4_unload_26 : decode cX4_unload 26 = .ok (.if_icmp .lt 10, 3) := by decide +kernel
theorem dX4_unload_29 : decode cX4_unload 29 = .ok (.iload_n 3, 1) := by decide +kernel
theorem dX4_unload_30 : decode cX4_unload 30 = .ok (.sipush 500, 3) := by decide +kernel
theorem dX4_unload_33 : decode cX4_unload 33 = .ok (.if_icmp .le 13, 3) := by decide +kernel
theorem dX4_unload_36 : decode cX4_unload 36 = .ok (.new 63, 3) := by decide +kernel
theorem dX4_unload_39 : decode cX4_unload 39 = .ok (.dup, 1) := by decide +kernel
theorem dX4_unload_40 : decode cX4_unload 40 = .ok (.ldc 92, 2) := by decide +kernel
theorem dX4_unload_42 : decode cX4_unload 42 = .ok (.invokespecial 67, 3) := by decide +kernel
theorem dX4_unload_45 : decode cX4_unload 45 = .ok (.athrow, 1) := by decide +kernel
theorem dX4_unload_46 : decode cX4_unload 46 = .ok (.aload_n 0, 1) := by decide +kernel
theorem dX4_unload_47 : decode cX4_unload 47 = .ok (.invokevirtual 68, 3) := by decide +kernel
theorem dX4_unload_50 : decode cX4_unload 50 = .ok (.aload_n 0, 1) := by decide +kernel
theorem dX4_unload_51 : decode cX4_unload 51 = .ok (.aload_n 0, 1) := by decide +kernel
theorem dX4_unload_52 : decode cX4_unload 52 = .ok (.getfield 10, 3) := by decide +kernel
theorem dX4_unload_55 : decode cX4_unload 55 = .ok (.getfield 94, 3) := by decide +kernel
theorem dX4_unload_58 : decode cX4_unload 58 = .ok (.iload_n 1, 1) := by decide +kernel
theorem dX4_unload_59 : decode cX4_unload 59 = .ok (.aaload, 1) := by decide +kernel
theorem dX4_unload_60 : decode cX4_unload 60 = .ok (.aload_n 0, 1) := by decide +kernel
theorem dX4_unload_61 : decode cX4_unload 61 = .ok (.getfield 10, 3) := by decide +kernel
theorem dX4_unload_64 : decode cX4_unload 64 = .ok (.getfield 71, 3) := by decide +kernel
theorem dX4_unload_67 : decode cX4_unload 67 = .ok (.iload_n 2, 1) := by decide +kernel
theorem dX4_unload_68 : decode cX4_unload 68 = .ok (.aaload, 1) := by decide +kernel
theorem dX4_unload_69 : decode cX4_unload 69 = .ok (.iload_n 3, 1) := by decide +kernel
theorem dX4_unload_70 : decode cX4_unload 70 = .ok (.invokevirtual 98, 3) := by decide +kernel
theorem dX4_unload_73 : decode cX4_unload 73 = .ok (.ireturn, 1) := by decide +kernel
set_option maxRecDepth 20000 in
theorem ggX4_flow_X4_isNoSilo : GoodIn wsX4_flow wsX4_isNoSilo := goodIn_r _ [11] (by decide +kernel) (by decide +kernel)
set_option maxRecDepth 20000 in
theorem gX4_flow_X4_isNoSilo : GoodIn wsX4_flow (va_wsS RX4 87 yX4_isNoSilo wsX4_isNoSilo) := goodIn_app (goodIn_of _ (by decide +kernel)) ggX4_flow_X4_isNoSilo
set_option maxRecDepth 20000 in
theorem ggX4_flow_X4_isNoShip : GoodIn wsX4_flow wsX4_isNoShip := goodIn_r _ [14] (by decide +kernel) (by decide +kernel)
set_option maxRecDepth 20000 in
theorem gX4_flow_X4_isNoShip : GoodIn wsX4_flow (va_wsS RX4 52 yX4_isNoShip wsX4_isNoShip) := goodIn_app (goodIn_of _ (by decide +kernel)) ggX4_flow_X4_isNoShip
set_option maxRecDepth 20000 in
theorem ggX4_flow_X4_saveState : GoodIn wsX4_flow wsX4_saveState := goodIn_r _ [18, 19, 20, 5, 21, 22, 23, 24, 25, 26, 27, 28, 29, 30, 31, 32, 33, 34, 35, 36, 37, 38, 39, 40, 41, 42, 43, 44, 45, 46, 47, 48, 49, 50, 51, 52, 105, 106, 107, 108, 109, 110, 111, 112, 113, 114, 115, 116, 117, 118, 119, 120, 121, 122, 123, 124, 125, 126, 127, 128, 129] (by decide +kernel) (by decide +kernel)
set_option maxRecDepth 20000 in
theorem gX4_flow_X4_saveState : GoodIn wsX4_flow (wsV RX4 68 RX4 yX4_saveState wsX4_saveState) := goodIn_app (goodIn_of _ (by decide +kernel)) ggX4_flow_X4_saveState
set_option maxRecDepth 20000 in
theorem ggX4_flow_X4_letOut : GoodIn wsX4_flow wsX4_letOut := goodIn_r _ [56, 5, 57, 58, 59, 60, 38, 61, 62, 63, 64, 65, 42, 40, 66, 67, 68, 10, 69, 70, 71, 72, 73, 74, 75, 76, 77, 78, 79, 80, 81, 82, 83, 84, 85, 86, 87, 88, 89, 90, 91, 92, 93, 94, 95, 49, 96, 52, 51, 97, 98, 99, 100, 101, 102, 103, 104, 41, 44, 105, 106, 107, 108, 109, 110, 111, 112, 113, 114, 115, 116, 117, 118, 119, 120, 121, 122, 123, 124, 125, 126, 127, 128, 129] (by decide +kernel) (by decide +kernel)
set_option maxRecDepth 20000 in
theorem gX4_flow_X4_letOut : GoodIn wsX4_flow (wsV RX4 104 RX4 yX4_letOut wsX4_letOut) := goodIn_app (goodIn_of _ (by decide +kernel)) ggX4_flow_X4_letOut
theorem dX4_flow_0 : decode cX4_flow 0 = .ok (.iload_n 1, 1) := by decide +kernel
theorem dX4_flow_1 : decode cX4_flow 1 = .ok (.invokestatic 87, 3) := by decide +kernel
theorem dX4_flow_4 : decode cX4_flow 4 = .ok (.ifCond .ne 10, 3) := by decide +kernel
theorem dX4_flow_7 : decode cX4_flow 7 = .ok (.iload_n 2, 1) := by decide +kernel
theorem dX4_flow_8 : decode cX4_flow 8 = .ok (.invokestatic 52, 3) := by decide +kernel
theorem dX4_flow_11 : decode cX4_flow 11 = .ok (.ifCond .eq 13, 3) := by decide +kernel
theorem dX4_flow_14 : decode cX4_flow 14 = .ok (.new 56, 3) := by decide +kernel
theorem dX4_flow_17 : decode cX4_flow 17 = .ok (.dup, 1) := by decide +kernel
theorem dX4_flow_18 : decode cX4_flow 18 = .ok (.ldc 90, 2) := by decide +kernel
theorem dX4_flow_20 : decode cX4_flow 20 = .ok (.invokespecial 60, 3) := by decide +kernel
theorem dX4_flow_23 : decode cX4_flow 23 = .ok (.athrow, 1) := by decide +kernel
theorem dX4_flow_24 : decode cX4_flow 24 = .ok (.iload_n 3, 1) := by decide +kernel
theorem dX4_flow_25 : decode cX4_flow 25 = .ok (.iconst 1, 1) := by decide +kernel
theorem dX4_flow_26 : decode cX4_flow 26 = .ok (.if_icmp .lt 9, 3) := by decide +kernel
theorem dX4_flow_29 : decode cX4_flow 29 = .ok (.iload_n 3, 1) := by decide +kernel
theorem dX4_flow_30 : decode cX4_flow 30 = .ok (.bipush 24, 2) := by decide +kernel
theorem dX4_flow_32 : decode cX4_flow 32 = .ok (.if_icmp .le 13, 3) := by decide +kernel
theorem dX4_flow_35 : decode cX4_flow 35 = .ok (.new 63, 3) := by decide +kernel
theorem dX4_flow_38 : decode cX4_flow 38 = .ok (.dup, 1) := by decide +kernel
theorem dX4_flow_39 : decode cX4_flow 39 = .ok (.ldc 102, 2) := by decide +kernel
theorem dX4_flow_41 : decode cX4_flow 41 = .ok (.invokespecial 67, 3) := by decide +kernel
theorem dX4_flow_44 : decode cX4_flow 44 = .ok (.athrow, 1) := by decide +kernel
theorem dX4_flow_45 : decode cX4_flow 45 = .ok (.aload_n 0, 1) := by decide +kernel
theorem dX4_flow_46 : decode cX4_flow 46 = .ok (.invokevirtual 68, 3) := by decide +kernel
theorem dX4_flow_49 : decode cX4_flow 49 = .ok (.aload_n 0, 1) := by decide +kernel
theorem dX4_flow_50 : decode cX4_flow 50 = .ok (.aload_n 0, 1) := by decide +kernel
theorem dX4_flow_51 : decode cX4_flow 51 = .ok (.getfield 10, 3) := by decide +kernel
theorem dX4_flow_54 : decode cX4_flow 54 = .ok (.getfield 94, 3) := by decide +kernel
theorem dX4_flow_57 : decode cX4_flow 57 = .ok (.iload_n 1, 1) := by decide +kernel
theorem dX4_flow_58 : decode cX4_flow 58 = .ok (.aaload, 1) := by decide +kernel
theorem dX4_flow_59 : decode cX4_flow 59 = .ok (.aload_n 0, 1) := by decide +kernel
theorem dX4_flow_60 : decode cX4_flow 60 = .ok (.getfield 10, 3) := by decide +kernel
theorem dX4_flow_63 : decode cX4_flow 63 = .ok (.getfield 71, 3) := by decide +kernel
theorem dX4_flow_66 : decode cX4_flow 66 = .ok (.iload_n 2, 1) := by decide +kernel
theorem dX4_flow_67 : decode cX4_flow 67 = .ok (.aaload, 1) := by decide +kernel
theorem dX4_flow_68 : decode cX4_flow 68 = .ok (.iload_n 3, 1) := by decide +kernel
theorem dX4_flow_69 : decode cX4_flow 69 = .ok (.invokevirtual 104, 3) := by decide +kernel
theorem dX4_flow_72 : decode cX4_flow 72 = .ok (.ireturn, 1) := by decide +kernel
set_option maxRecDepth 20000 in
theorem ggX4_pads_X4_isNoSilo : GoodIn wsX4_pads wsX4_isNoSilo := goodIn_r _ [14] (by decide +kernel) (by decide +kernel)
set_option maxRecDepth 20000 in
theorem gX4_pads_X4_isNoSilo : GoodIn wsX4_pads (va_wsS RX4 87 yX4_isNoSilo wsX4_isNoSilo) := goodIn_app (goodIn_of _ (by decide +kernel)) ggX4_pads_X4_isNoSilo
set_option maxRecDepth 20000 in
theorem ggX4_pads_X3_padsOn : GoodIn wsX4_pads wsX3_padsOn := goodIn_r _ [19, 20, 21, 66, 67, 68, 69, 70, 71, 72, 73, 74, 75, 76, 77, 78, 79, 80] (by decide +kernel) (by decide +kernel)
set_option maxRecDepth 20000 in
theorem gX4_pads_X3_padsOn : GoodIn wsX4_pads (wsV RX4 114 RX3 yX3_padsOn wsX3_padsOn) := goodIn_app (goodIn_of _ (by decide +kernel)) ggX4_pads_X3_padsOn
set_option maxRecDepth 20000 in
theorem ggX4_pads_X4_saveState : GoodIn wsX4_pads wsX4_saveState := goodIn_r _ [25, 26, 27, 7, 28, 29, 30, 18, 31, 20, 32, 33, 34, 35, 36, 37, 38, 39, 40, 41, 42, 43, 44, 45, 46, 47, 48, 49, 50, 51, 52, 53, 54, 55, 56, 57, 58, 59, 60, 61, 62, 63, 64, 65, 66, 67, 68, 69, 70, 71, 72, 73, 74, 75, 76, 77, 78, 79, 80, 81, 82] (by decide +kernel) (by decide +kernel)
set_option maxRecDepth 20000 in
theorem gX4_pads_X4_saveState : GoodIn wsX4_pads (wsV RX4 68 RX4 yX4_saveState wsX4_saveState) := goodIn_app (goodIn_of _ (by decide +kernel)) ggX4_pads_X4_saveState
theorem dX4_pads_0 : decode cX4_pads 0 = .ok (.iload_n 1, 1) := by decide +kernel
theorem dX4_pads_1 : decode cX4_pads 1 = .ok (.invokestatic 87, 3) := by decide +kernel
theorem dX4_pads_4 : decode cX4_pads 4 = .ok (.ifCond .eq 13, 3) := by decide +kernel
theorem dX4_pads_7 : decode cX4_pads 7 = .ok (.new 56, 3) := by decide +kernel
theorem dX4_pads_10 : decode cX4_pads 10 = .ok (.dup, 1) := by decide +kernel
theorem dX4_pads_11 : decode cX4_pads 11 = .ok (.ldc 107, 2) := by decide +kernel
theorem dX4_pads_13 : decode cX4_pads 13 = .ok (.invokespecial 60, 3) := by decide +kernel
theorem dX4_pads_16 : decode cX4_pads 16 = .ok (.athrow, 1) := by decide +kernel
theorem dX4_pads_17 : decode cX4_pads 17 = .ok (.iload_n 2, 1) := by decide +kernel
theorem dX4_pads_18 : decode cX4_pads 18 = .ok (.ifCond .lt 8, 3) := by decide +kernel
theorem dX4_pads_21 : decode cX4_pads 21 = .ok (.iload_n 2, 1) := by decide +kernel
theorem dX4_pads_22 : decode cX4_pads 22 = .ok (.iconst 4, 1) := by decide +kernel
theorem dX4_pads_23 : decode cX4_pads 23 = .ok (.if_icmp .le 13, 3) := by decide +kernel
theorem dX4_pads_26 : decode cX4_pads 26 = .ok (.new 63, 3) := by decide +kernel
theorem dX4_pads_29 : decode cX4_pads 29 = .ok (.dup, 1) := by decide +kernel
theorem dX4_pads_30 : decode cX4_pads 30 = .ok (.ldc 109, 2) := by decide +kernel
theorem dX4_pads_32 : decode cX4_pads 32 = .ok (.invokespecial 67, 3) := by decide +kernel
theorem dX4_pads_35 : decode cX4_pads 35 = .ok (.athrow, 1) := by decide +kernel
theorem dX4_pads_36 : decode cX4_pads 36 = .ok (.aload_n 0, 1) := by decide +kernel
theorem dX4_pads_37 : decode cX4_pads 37 = .ok (.getfield 10, 3) := by decide +kernel
theorem dX4_pads_40 : decode cX4_pads 40 = .ok (.getfield 94, 3) := by decide +kernel
theorem dX4_pads_43 : decode cX4_pads 43 = .ok (.iload_n 1, 1) := by decide +kernel
theorem dX4_pads_44 : decode cX4_pads 44 = .ok (.aaload, 1) := by decide +kernel
theorem dX4_pads_45 : decode cX4_pads 45 = .ok (.getfield 111, 3) := by decide +kernel
theorem dX4_pads_48 : decode cX4_pads 48 = .ok (.istore_n 3, 1) := by decide +kernel
theorem dX4_pads_49 : decode cX4_pads 49 = .ok (.aload_n 0, 1) := by decide +kernel
theorem dX4_pads_50 : decode cX4_pads 50 = .ok (.getfield 10, 3) := by decide +kernel
theorem dX4_pads_53 : decode cX4_pads 53 = .ok (.invokevirtual 114, 3) := by decide +kernel
theorem dX4_pads_56 : decode cX4_pads 56 = .ok (.iload_n 3, 1) := by decide +kernel
theorem dX4_pads_57 : decode cX4_pads 57 = .ok (.isub, 1) := by decide +kernel
theorem dX4_pads_58 : decode cX4_pads 58 = .ok (.iload_n 2, 1) := by decide +kernel
theorem dX4_pads_59 : decode cX4_pads 59 = .ok (.iadd, 1) := by decide +kernel
theorem dX4_pads_60 : decode cX4_pads 60 = .ok (.aload_n 0, 1) := by decide +kernel
theorem dX4_pads_61 : decode cX4_pads 61 = .ok (.getfield 10, 3) := by decide +kernel
theorem dX4_pads_64 : decode cX4_pads 64 = .ok (.getfield 117, 3) := by decide +kernel
theorem dX4_pads_67 : decode cX4_pads 67 = .ok (.iconst 0, 1) := by decide +kernel
theorem dX4_pads_68 : decode cX4_pads 68 = .ok (.iaload, 1) := by decide +kernel
theorem dX4_pads_69 : decode cX4_pads 69 = .ok (.if_icmp .le 13, 3) := by decide +kernel
theorem dX4_pads_72 : decode cX4_pads 72 = .ok (.new 120, 3) := by decide +kernel
theorem dX4_pads_75 : decode cX4_pads 75 = .ok (.dup, 1) := by decide +kernel
theorem dX4_pads_76 : decode cX4_pads 76 = .ok (.ldc 122, 2) := by decide +kernel
theorem dX4_pads_78 : decode cX4_pads 78 = .ok (.invokespecial 124, 3) := by decide +kernel
theorem dX4_pads_81 : decode cX4_pads 81 = .ok (.athrow, 1) := by decide +kernel
theorem dX4_pads_82 : decode cX4_pads 82 = .ok (.aload_n 0, 1) := by decide +kernel
theorem dX4_pads_83 : decode cX4_pads 83 = .ok (.invokevirtual 68, 3) := by decide +kernel
theorem dX4_pads_86 : decode cX4_pads 86 = .ok (.aload_n 0, 1) := by decide +kernel
theorem dX4_pads_87 : decode cX4_pads 87 = .ok (.getfield 10, 3) := by decide +kernel
theorem dX4_pads_90 : decode cX4_pads 90 = .ok (.getfield 94, 3) := by decide +kernel
theorem dX4_pads_93 : decode cX4_pads 93 = .ok (.iload_n 1, 1) := by decide +kernel
theorem dX4_pads_94 : decode cX4_pads 94 = .ok (.aaload, 1) := by decide +kernel
theorem dX4_pads_95 : decode cX4_pads 95 = .ok (.iload_n 2, 1) := by decide +kernel
theorem dX4_pads_96 : decode cX4_pads 96 = .ok (.putfield 111, 3) := by decide +kernel
theorem dX4_pads_99 : decode cX4_pads 99 = .ok (.iload_n 3, 1) := by decide +kernel
theorem dX4_pads_100 : decode cX4_pads 100 = .ok (.ireturn, 1) := by decide +kernel
set_option maxRecDepth 20000 in
theorem ggX4_shake_X4_isNoSilo : GoodIn wsX4_shake wsX4_isNoSilo := goodIn_r _ [14] (by decide +kernel) (by decide +kernel)
set_option maxRecDepth 20000 in
theorem gX4_shake_X4_isNoSilo : GoodIn wsX4_shake (va_wsS RX4 87 yX4_isNoSilo wsX4_isNoSilo) := goodIn_app (goodIn_of _ (by decide +kernel)) ggX4_shake_X4_isNoSilo
set_option maxRecDepth 20000 in
theorem ggX4_shake_X4_saveState : GoodIn wsX4_shake wsX4_saveState := goodIn_r _ [18, 19, 20, 5, 21, 22, 23, 24, 25, 26, 27, 28, 29, 30, 31, 32, 33, 34, 35, 36, 37, 38, 39, 40, 41, 42, 43, 44, 45, 46, 47, 48, 49, 50, 51, 52, 75, 76, 77, 78, 79, 80, 81, 82, 83, 84, 85, 86, 87, 88, 89, 90, 91, 92, 93, 94, 95, 96, 97, 98, 99] (by decide +kernel) (by decide +kernel)
set_option maxRecDepth 20000 in
theorem gX4_shake_X4_saveState : GoodIn wsX4_shake (wsV RX4 68 RX4 yX4_saveState wsX4_saveState) := goodIn_app (goodIn_of _ (by decide +kernel)) ggX4_shake_X4_saveState
set_option maxRecDepth 20000 in
theorem ggX4_shake_X4_shakesToBreak : GoodIn wsX4_shake wsX4_shakesToBreak := goodIn_r _ [56, 10, 5, 57, 8, 58, 59, 60, 61, 62, 63, 64, 38, 65, 44, 66, 67, 68, 69, 42, 40, 92, 93, 94, 95, 96, 97, 75, 76, 77, 78, 79, 80, 81, 82, 83, 84, 85, 86, 87, 88, 89, 90, 91] (by decide +kernel) (by decide +kernel)
set_option maxRecDepth 20000 in
theorem gX4_shake_X4_shakesToBreak : GoodIn wsX4_shake (wsV RX4 130 RX4 yX4_shakesToBreak wsX4_shakesToBreak) := goodIn_app (goodIn_of _ (by decide +kernel)) ggX4_shake_X4_shakesToBreak
set_option maxRecDepth 20000 in
theorem ggX4_shake_X1_makeLowestYounger : GoodIn wsX4_shake wsX1_makeLowestYounger := goodIn_r _ [73, 41, 74, 59, 60, 61, 92, 93, 94, 95, 96, 97] (by decide +kernel) (by decide +kernel)
set_option maxRecDepth 20000 in
theorem gX4_shake_X1_makeLowestYounger : GoodIn wsX4_shake (wsV RX4 138 RX1 yX1_makeLowestYounger wsX1_makeLowestYounger) := goodIn_app (goodIn_of _ (by decide +kernel)) ggX4_shake_X1_makeLowestYounger
theorem dX4_shake_0 : decode cX4_shake 0 = .ok (.iload_n 1, 1) := by decide +kernel
theorem dX4_shake_1 : decode cX4_shake 1 = .ok (.invokestatic 87, 3) := by decide +kernel
theorem dX4_shake_4 : decode cX4_shake 4 = .ok (.ifCond .eq 13, 3) := by decide +kernel
theorem dX4_shake_7 : decode cX4_shake 7 = .ok (.new 56, 3) := by decide +kernel
theorem dX4_shake_10 : decode cX4_shake 10 = .ok (.dup, 1) := by decide +kernel
theorem dX4_shake_11 : decode cX4_shake 11 = .ok (.ldc 107, 2) := by decide +kernel
theorem dX4_shake_13 : decode cX4_shake 13 = .ok (.invokespecial 60, 3) := by decide +kernel
theorem dX4_shake_16 : decode cX4_shake 16 = .ok (.athrow, 1) := by decide +kernel
theorem dX4_shake_17 : decode cX4_shake 17 = .ok (.aload_n 0, 1) := by decide +kernel
theorem dX4_shake_18 : decode cX4_shake 18 = .ok (.getfield 10, 3) := by decide +kernel
theorem dX4_shake_21 : decode cX4_shake 21 = .ok (.getfield 94, 3) := by decide +kernel
theorem dX4_shake_24 : decode cX4_shake 24 = .ok (.iload_n 1, 1) := by decide +kernel
theorem dX4_shake_25 : decode cX4_shake 25 = .ok (.aaload, 1) := by decide +kernel
theorem dX4_shake_26 : decode cX4_shake 26 = .ok (.astore_n 2, 1) := by decide +kernel
theorem dX4_shake_27 : decode cX4_shake 27 = .ok (.aload_n 2, 1) := by decide +kernel
theorem dX4_shake_28 : decode cX4_shake 28 = .ok (.getfield 125, 3) := by decide +kernel
theorem dX4_shake_31 : decode cX4_shake 31 = .ok (.ifCond .ne 13, 3) := by decide +kernel
theorem dX4_shake_34 : decode cX4_shake 34 = .ok (.new 120, 3) := by decide +kernel
theorem dX4_shake_37 : decode cX4_shake 37 = .ok (.dup, 1) := by decide +kernel
theorem dX4_shake_38 : decode cX4_shake 38 = .ok (.ldc 128, 2) := by decide +kernel
theorem dX4_shake_40 : decode cX4_shake 40 = .ok (.invokespecial 124, 3) := by decide +kernel
theorem dX4_shake_43 : decode cX4_shake 43 = .ok (.athrow, 1) := by decide +kernel
theorem dX4_shake_44 : decode cX4_shake 44 = .ok (.aload_n 0, 1) := by decide +kernel
theorem dX4_shake_45 : decode cX4_shake 45 = .ok (.invokevirtual 68, 3) := by decide +kernel
theorem dX4_shake_48 : decode cX4_shake 48 = .ok (.aload_n 0, 1) := by decide +kernel
theorem dX4_shake_49 : decode cX4_shake 49 = .ok (.aload_n 2, 1) := by decide +kernel
theorem dX4_shake_50 : decode cX4_shake 50 = .ok (.invokevirtual 130, 3) := by decide +kernel
theorem dX4_shake_53 : decode cX4_shake 53 = .ok (.iconst 1, 1) := by decide +kernel
theorem dX4_shake_54 : decode cX4_shake 54 = .ok (.if_icmp .ne 7, 3) := by decide +kernel
theorem dX4_shake_57 : decode cX4_shake 57 = .ok (.iconst 1, 1) := by decide +kernel
theorem dX4_shake_58 : decode cX4_shake 58 = .ok (.goto 4, 3) := by decide +kernel
theorem dX4_shake_61 : decode cX4_shake 61 = .ok (.iconst 0, 1) := by decide +kernel
theorem dX4_shake_62 : decode cX4_shake 62 = .ok (.istore_n 3, 1) := by decide +kernel
theorem dX4_shake_63 : decode cX4_shake 63 = .ok (.aload_n 2, 1) := by decide +kernel
theorem dX4_shake_64 : decode cX4_shake 64 = .ok (.dup, 1) := by decide +kernel
theorem dX4_shake_65 : decode cX4_shake 65 = .ok (.getfield 134, 3) := by decide +kernel
theorem dX4_shake_68 : decode cX4_shake 68 = .ok (.iconst 1, 1) := by decide +kernel
theorem dX4_shake_69 : decode cX4_shake 69 = .ok (.iadd, 1) := by decide +kernel
theorem dX4_shake_70 : decode cX4_shake 70 = .ok (.putfield 134, 3) := by decide +kernel
theorem dX4_shake_73 : decode cX4_shake 73 = .ok (.aload_n 0, 1) := by decide +kernel
theorem dX4_shake_74 : decode cX4_shake 74 = .ok (.getfield 10, 3) := by decide +kernel
theorem dX4_shake_77 : decode cX4_shake 77 = .ok (.dup, 1) := by decide +kernel
theorem dX4_shake_78 : decode cX4_shake 78 = .ok (.getfield 137, 3) := by decide +kernel
theorem dX4_shake_81 : decode cX4_shake 81 = .ok (.iconst 1, 1) := by decide +kernel
theorem dX4_shake_82 : decode cX4_shake 82 = .ok (.iadd, 1) := by decide +kernel
theorem dX4_shake_83 : decode cX4_shake 83 = .ok (.putfield 137, 3) := by decide +kernel
theorem dX4_shake_86 : decode cX4_shake 86 = .ok (.aload_n 2, 1) := by decide +kernel
theorem dX4_shake_87 : decode cX4_shake 87 = .ok (.invokevirtual 138, 3) := by decide +kernel
theorem dX4_shake_90 : decode cX4_shake 90 = .ok (.iload_n 3, 1) := by decide +kernel
theorem dX4_shake_91 : decode cX4_shake 91 = .ok (.ifCond .eq 8, 3) := by decide +kernel
theorem dX4_shake_94 : decode cX4_shake 94 = .ok (.aload_n 2, 1) := by decide +kernel
theorem dX4_shake_95 : decode cX4_shake 95 = .ok (.iconst 0, 1) := by decide +kernel
theorem dX4_shake_96 : decode cX4_shake 96 = .ok (.putfield 141, 3) := by decide +kernel
theorem dX4_shake_99 : decode cX4_shake 99 = .ok (.iload_n 3, 1) := by decide +kernel
theorem dX4_shake_100 : decode cX4_shake 100 = .ok (.ifCond .eq 7, 3) := by decide +kernel
theorem dX4_shake_103 : decode cX4_shake 103 = .ok (.iconst 1, 1) := by decide +kernel
theorem dX4_shake_104 : decode cX4_shake 104 = .ok (.goto 4, 3) := by decide +kernel
theorem dX4_shake_107 : decode cX4_shake 107 = .ok (.iconst 0, 1) := by decide +kernel
theorem dX4_shake_108 : decode cX4_shake 108 = .ok (.ireturn, 1) := by decide +kernel
set_option maxRecDepth 20000 in
theorem ggX4_pass_X4_saveState : GoodIn wsX4_pass wsX4_saveState := goodIn_r _ [7, 8, 9, 10, 11, 12, 13, 14, 15, 16, 17, 18, 19, 20, 21, 22, 23, 24, 25, 26, 27, 28, 29, 30, 31, 32, 33, 34, 35, 36, 37, 38, 39, 40, 41, 42, 70, 71, 72, 73, 74, 75, 76, 77, 78, 79, 80, 81, 82, 83, 84, 85, 86, 87, 88, 89, 90, 91, 92, 93, 94] (by decide +kernel) (by decide +kernel)
set_option maxRecDepth 20000 in
theorem gX4_pass_X4_saveState : GoodIn wsX4_pass (wsV RX4 68 RX4 yX4_saveState wsX4_saveState) := goodIn_app (goodIn_of _ (by decide +kernel)) ggX4_pass_X4_saveState
set_option maxRecDepth 20000 in
theorem ggX4_pass_X4_passDays : GoodIn wsX4_pass wsX4_passDays := goodIn_r _ [46, 10, 47, 48, 49, 50, 51, 52, 6, 53, 54, 55, 56, 57, 58, 59, 28, 60, 32, 31, 61, 62, 63, 64, 34, 65, 66, 67, 68, 69, 70, 71, 72, 73, 74, 75, 76, 77, 78, 79, 80, 81, 82, 83, 84, 85, 86, 87, 88, 89, 90, 91, 92] (by decide +kernel) (by decide +kernel)
set_option maxRecDepth 20000 in
theorem gX4_pass_X4_passDays : GoodIn wsX4_pass (wsV RX4 146 RX4 yX4_passDays wsX4_passDays) := goodIn_app (goodIn_of _ (by decide +kernel)) ggX4_pass_X4_passDays
theorem dX4_pass_0 : decode cX4_pass 0 = .ok (.iload_n 1, 1) := by decide +kernel
theorem dX4_pass_1 : decode cX4_pass 1 = .ok (.iconst 1, 1) := by decide +kernel
theorem dX4_pass_2 : decode cX4_pass 2 = .ok (.if_icmp .lt 9, 3) := by decide +kernel
theorem dX4_pass_5 : decode cX4_pass 5 = .ok (.iload_n 1, 1) := by decide +kernel
theorem dX4_pass_6 : decode cX4_pass 6 = .ok (.bipush 30, 2) := by decide +kernel
theorem dX4_pass_8 : decode cX4_pass 8 = .ok (.if_icmp .le 13, 3) := by decide +kernel
theorem dX4_pass_11 : decode cX4_pass 11 = .ok (.new 63, 3) := by decide +kernel
theorem dX4_pass_14 : decode cX4_pass 14 = .ok (.dup, 1) := by decide +kernel
theorem dX4_pass_15 : decode cX4_pass 15 = .ok (.ldc 144, 2) := by decide +kernel
theorem dX4_pass_17 : decode cX4_pass 17 = .ok (.invokespecial 67, 3) := by decide +kernel
theorem dX4_pass_20 : decode cX4_pass 20 = .ok (.athrow, 1) := by decide +kernel
theorem dX4_pass_21 : decode cX4_pass 21 = .ok (.aload_n 0, 1) := by decide +kernel
theorem dX4_pass_22 : decode cX4_pass 22 = .ok (.invokevirtual 68, 3) := by decide +kernel
theorem dX4_pass_25 : decode cX4_pass 25 = .ok (.aload_n 0, 1) := by decide +kernel
theorem dX4_pass_26 : decode cX4_pass 26 = .ok (.iload_n 1, 1) := by decide +kernel
theorem dX4_pass_27 : decode cX4_pass 27 = .ok (.invokevirtual 146, 3) := by decide +kernel
theorem dX4_pass_30 : decode cX4_pass 30 = .ok (.ireturn, 1) := by decide +kernel
set_option maxRecDepth 20000 in
theorem ggX4_set_X3_padsOn : GoodIn wsX4_set wsX3_padsOn := goodIn_r _ [15, 16, 17, 63, 64, 65, 66, 67, 68, 69, 70, 71, 72, 73, 74, 75, 76, 77] (by decide +kernel) (by decide +kernel)
set_option maxRecDepth 20000 in
theorem gX4_set_X3_padsOn : GoodIn wsX4_set (wsV RX4 114 RX3 yX3_padsOn wsX3_padsOn) := goodIn_app (goodIn_of _ (by decide +kernel)) ggX4_set_X3_padsOn
set_option maxRecDepth 20000 in
theorem ggX4_set_X4_saveState : GoodIn wsX4_set wsX4_saveState := goodIn_r _ [22, 23, 24, 7, 25, 26, 27, 14, 28, 16, 29, 30, 31, 32, 33, 34, 35, 36, 37, 38, 39, 40, 41, 42, 43, 44, 45, 46, 47, 48, 49, 50, 51, 52, 53, 54, 55, 56, 57, 58, 59, 60, 61, 62, 63, 64, 65, 66, 67, 68, 69, 70, 71, 72, 73, 74, 75, 76, 77, 78, 79] (by decide +kernel) (by decide +kernel)
set_option maxRecDepth 20000 in
theorem gX4_set_X4_saveState : GoodIn wsX4_set (wsV RX4 68 RX4 yX4_saveState wsX4_saveState) := goodIn_app (goodIn_of _ (by decide +kernel)) ggX4_set_X4_saveState
theorem dX4_set_0 : decode cX4_set 0 = .ok (.iload_n 1, 1) := by decide +kernel
theorem dX4_set_1 : decode cX4_set 1 = .ok (.ifCond .lt 15, 3) := by decide +kernel
theorem dX4_set_4 : decode cX4_set 4 = .ok (.iload_n 1, 1) := by decide +kernel
theorem dX4_set_5 : decode cX4_set 5 = .ok (.aload_n 0, 1) := by decide +kernel
theorem dX4_set_6 : decode cX4_set 6 = .ok (.getfield 10, 3) := by decide +kernel
theorem dX4_set_9 : decode cX4_set 9 = .ok (.getfield 117, 3) := by decide +kernel
theorem dX4_set_12 : decode cX4_set 12 = .ok (.arraylength, 1) := by decide +kernel
theorem dX4_set_13 : decode cX4_set 13 = .ok (.if_icmp .lt 13, 3) := by decide +kernel
theorem dX4_set_16 : decode cX4_set 16 = .ok (.new 56, 3) := by decide +kernel
theorem dX4_set_19 : decode cX4_set 19 = .ok (.dup, 1) := by decide +kernel
theorem dX4_set_20 : decode cX4_set 20 = .ok (.ldc 150, 2) := by decide +kernel
theorem dX4_set_22 : decode cX4_set 22 = .ok (.invokespecial 60, 3) := by decide +kernel
theorem dX4_set_25 : decode cX4_set 25 = .ok (.athrow, 1) := by decide +kernel
theorem dX4_set_26 : decode cX4_set 26 = .ok (.iload_n 2, 1) := by decide +kernel
theorem dX4_set_27 : decode cX4_set 27 = .ok (.getstatic 152, 3) := by decide +kernel
theorem dX4_set_30 : decode cX4_set 30 = .ok (.iload_n 1, 1) := by decide +kernel
theorem dX4_set_31 : decode cX4_set 31 = .ok (.iaload, 1) := by decide +kernel
theorem dX4_set_32 : decode cX4_set 32 = .ok (.if_icmp .lt 12, 3) := by decide +kernel
theorem dX4_set_35 : decode cX4_set 35 = .ok (.iload_n 2, 1) := by decide +kernel
theorem dX4_set_36 : decode cX4_set 36 = .ok (.getstatic 155, 3) := by decide +kernel
theorem dX4_set_39 : decode cX4_set 39 = .ok (.iload_n 1, 1) := by decide +kernel
theorem dX4_set_40 : decode cX4_set 40 = .ok (.iaload, 1) := by decide +kernel
theorem dX4_set_41 : decode cX4_set 41 = .ok (.if_icmp .le 13, 3) := by decide +kernel
theorem dX4_set_44 : decode cX4_set 44 = .ok (.new 63, 3) := by decide +kernel
theorem dX4_set_47 : decode cX4_set 47 = .ok (.dup, 1) := by decide +kernel
theorem dX4_set_48 : decode cX4_set 48 = .ok (.ldc 158, 2) := by decide +kernel
theorem dX4_set_50 : decode cX4_set 50 = .ok (.invokespecial 67, 3) := by decide +kernel
theorem dX4_set_53 : decode cX4_set 53 = .ok (.athrow, 1) := by decide +kernel
theorem dX4_set_54 : decode cX4_set 54 = .ok (.iload_n 1, 1) := by decide +kernel
theorem dX4_set_55 : decode cX4_set 55 = .ok (.ifCond .ne 24, 3) := by decide +kernel
theorem dX4_set_58 : decode cX4_set 58 = .ok (.aload_n 0, 1) := by decide +kernel
theorem dX4_set_59 : decode cX4_set 59 = .ok (.getfield 10, 3) := by decide +kernel
theorem dX4_set_62 : decode cX4_set 62 = .ok (.invokevirtual 114, 3) := by decide +kernel
theorem dX4_set_65 : decode cX4_set 65 = .ok (.iload_n 2, 1) := by decide +kernel
theorem dX4_set_66 : decode cX4_set 66 = .ok (.if_icmp .le 13, 3) := by decide +kernel
theorem dX4_set_69 : decode cX4_set 69 = .ok (.new 120, 3) := by decide +kernel
theorem dX4_set_72 : decode cX4_set 72 = .ok (.dup, 1) := by decide +kernel
theorem dX4_set_73 : decode cX4_set 73 = .ok (.ldc 160, 2) := by decide +kernel
theorem dX4_set_75 : decode cX4_set 75 = .ok (.invokespecial 124, 3) := by decide +kernel
theorem dX4_set_78 : decode cX4_set 78 = .ok (.athrow, 1) := by decide +kernel
theorem dX4_set_79 : decode cX4_set 79 = .ok (.aload_n 0, 1) := by decide +kernel
theorem dX4_set_80 : decode cX4_set 80 = .ok (.invokevirtual 68, 3) := by decide +kernel
theorem dX4_set_83 : decode cX4_set 83 = .ok (.aload_n 0, 1) := by decide +kernel
theorem dX4_set_84 : decode cX4_set 84 = .ok (.getfield 10, 3) := by decide +kernel
theorem dX4_set_87 : decode cX4_set 87 = .ok (.getfield 117, 3) := by decide +kernel
theorem dX4_set_90 : decode cX4_set 90 = .ok (.iload_n 1, 1) := by decide +kernel
theorem dX4_set_91 : decode cX4_set 91 = .ok (.iaload, 1) := by decide +kernel
theorem dX4_set_92 : decode cX4_set 92 = .ok (.istore_n 3, 1) := by decide +kernel
theorem dX4_set_93 : decode cX4_set 93 = .ok (.aload_n 0, 1) := by decide +kernel
theorem dX4_set_94 : decode cX4_set 94 = .ok (.getfield 10, 3) := by decide +kernel
theorem dX4_set_97 : decode cX4_set 97 = .ok (.getfield 117, 3) := by decide +kernel
theorem dX4_set_100 : decode cX4_set 100 = .ok (.iload_n 1, 1) := by decide +kernel
theorem dX4_set_101 : decode cX4_set 101 = .ok (.iload_n 2, 1) := by decide +kernel
theorem dX4_set_102 : decode cX4_set 102 = .ok (.iastore, 1) := by decide +kernel
theorem dX4_set_103 : decode cX4_set 103 = .ok (.iload_n 3, 1) := by decide +kernel
theorem dX4_set_104 : decode cX4_set 104 = .ok (.ireturn, 1) := by decide +kernel
set_option maxRecDepth 20000 in
theorem ggX4_undo_X3_becomeLike : GoodIn wsX4_undo wsX3_becomeLike := goodIn_r _ [10, 11, 12, 13, 14, 15, 16, 17, 18, 19, 20, 21, 22, 23, 24, 25, 26, 27, 28, 29, 30, 31, 32, 33, 34, 35, 36, 37, 46, 47, 48, 49, 50, 51, 52, 53, 54, 55, 56, 57, 58, 59, 60, 61, 62] (by decide +kernel) (by decide +kernel)
set_option maxRecDepth 20000 in
theorem gX4_undo_X3_becomeLike : GoodIn wsX4_undo (wsV RX4 186 RX3 yX3_becomeLike wsX3_becomeLike) := goodIn_app (goodIn_of _ (by decide +kernel)) ggX4_undo_X3_becomeLike
theorem dX4_undo_0 : decode cX4_undo 0 = .ok (.aload_n 0, 1) := by decide +kernel
theorem dX4_undo_1 : decode cX4_undo 1 = .ok (.getfield 20, 3) := by decide +kernel
theorem dX4_undo_4 : decode cX4_undo 4 = .ok (.ifCond .ne 13, 3) := by decide +kernel
theorem dX4_undo_7 : decode cX4_undo 7 = .ok (.new 120, 3) := by decide +kernel
theorem dX4_undo_10 : decode cX4_undo 10 = .ok (.dup, 1) := by decide +kernel
theorem dX4_undo_11 : decode cX4_undo 11 = .ok (.ldc 184, 2) := by decide +kernel
theorem dX4_undo_13 : decode cX4_undo 13 = .ok (.invokespecial 124, 3) := by decide +kernel
theorem dX4_undo_16 : decode cX4_undo 16 = .ok (.athrow, 1) := by decide +kernel
theorem dX4_undo_17 : decode cX4_undo 17 = .ok (.aload_n 0, 1) := by decide +kernel
theorem dX4_undo_18 : decode cX4_undo 18 = .ok (.dup, 1) := by decide +kernel
theorem dX4_undo_19 : decode cX4_undo 19 = .ok (.getfield 20, 3) := by decide +kernel
theorem dX4_undo_22 : decode cX4_undo 22 = .ok (.iconst 1, 1) := by decide +kernel
theorem dX4_undo_23 : decode cX4_undo 23 = .ok (.isub, 1) := by decide +kernel
theorem dX4_undo_24 : decode cX4_undo 24 = .ok (.putfield 20, 3) := by decide +kernel
theorem dX4_undo_27 : decode cX4_undo 27 = .ok (.aload_n 0, 1) := by decide +kernel
theorem dX4_undo_28 : decode cX4_undo 28 = .ok (.getfield 10, 3) := by decide +kernel
theorem dX4_undo_31 : decode cX4_undo 31 = .ok (.aload_n 0, 1) := by decide +kernel
theorem dX4_undo_32 : decode cX4_undo 32 = .ok (.getfield 16, 3) := by decide +kernel
theorem dX4_undo_35 : decode cX4_undo 35 = .ok (.aload_n 0, 1) := by decide +kernel
theorem dX4_undo_36 : decode cX4_undo 36 = .ok (.getfield 20, 3) := by decide +kernel
theorem dX4_undo_39 : decode cX4_undo 39 = .ok (.aaload, 1) := by decide +kernel
theorem dX4_undo_40 : decode cX4_undo 40 = .ok (.invokevirtual 186, 3) := by decide +kernel
theorem dX4_undo_43 : decode cX4_undo 43 = .ok (.aload_n 0, 1) := by decide +kernel
theorem dX4_undo_44 : decode cX4_undo 44 = .ok (.getfield 20, 3) := by decide +kernel
theorem dX4_undo_47 : decode cX4_undo 47 = .ok (.ireturn, 1) := by decide +kernel
set_option maxRecDepth 20000 in
theorem ggX4_silo_X4_isNoSilo : GoodIn wsX4_silo wsX4_isNoSilo := goodIn_r _ [14] (by decide +kernel) (by decide +kernel)
set_option maxRecDepth 20000 in
theorem gX4_silo_X4_isNoSilo : GoodIn wsX4_silo (va_wsS RX4 87 yX4_isNoSilo wsX4_isNoSilo) := goodIn_app (goodIn_of _ (by decide +kernel)) ggX4_silo_X4_isNoSilo
set_option maxRecDepth 20000 in
theorem ggX4_silo_X1_total : GoodIn wsX4_silo wsX1_total := goodIn_r _ [19, 20, 21, 22, 18, 23, 24, 25, 53, 54, 55, 56, 57, 58] (by decide +kernel) (by decide +kernel)
set_option maxRecDepth 20000 in
theorem gX4_silo_X1_total : GoodIn wsX4_silo (wsV RX4 190 RX1 yX1_total wsX1_total) := goodIn_app (goodIn_of _ (by decide +kernel)) ggX4_silo_X1_total
set_option maxRecDepth 20000 in
theorem ggX4_silo_X4_outInHour : GoodIn wsX4_silo wsX4_outInHour := goodIn_r _ [29, 7, 30, 31, 32, 33, 13, 34, 5, 35, 53, 54, 55, 56, 57, 58, 36, 37, 38, 39, 40, 41, 42, 43, 44, 45, 46, 47, 48, 49, 50, 51, 52] (by decide +kernel) (by decide +kernel)
set_option maxRecDepth 20000 in
theorem gX4_silo_X4_outInHour : GoodIn wsX4_silo (wsV RX4 193 RX4 yX4_outInHour wsX4_outInHour) := goodIn_app (goodIn_of _ (by decide +kernel)) ggX4_silo_X4_outInHour
theorem dX4_silo_0 : decode cX4_silo 0 = .ok (.iload_n 1, 1) := by decide +kernel
theorem dX4_silo_1 : decode cX4_silo 1 = .ok (.invokestatic 87, 3) := by decide +kernel
theorem dX4_silo_4 : decode cX4_silo 4 = .ok (.ifCond .eq 13, 3) := by decide +kernel
theorem dX4_silo_7 : decode cX4_silo 7 = .ok (.new 56, 3) := by decide +kernel
theorem dX4_silo_10 : decode cX4_silo 10 = .ok (.dup, 1) := by decide +kernel
theorem dX4_silo_11 : decode cX4_silo 11 = .ok (.ldc 107, 2) := by decide +kernel
theorem dX4_silo_13 : decode cX4_silo 13 = .ok (.invokespecial 60, 3) := by decide +kernel
theorem dX4_silo_16 : decode cX4_silo 16 = .ok (.athrow, 1) := by decide +kernel
theorem dX4_silo_17 : decode cX4_silo 17 = .ok (.aload_n 0, 1) := by decide +kernel
theorem dX4_silo_18 : decode cX4_silo 18 = .ok (.getfield 10, 3) := by decide +kernel
theorem dX4_silo_21 : decode cX4_silo 21 = .ok (.getfield 94, 3) := by decide +kernel
theorem dX4_silo_24 : decode cX4_silo 24 = .ok (.iload_n 1, 1) := by decide +kernel
theorem dX4_silo_25 : decode cX4_silo 25 = .ok (.aaload, 1) := by decide +kernel
theorem dX4_silo_26 : decode cX4_silo 26 = .ok (.astore_n 3, 1) := by decide +kernel
theorem dX4_silo_27 : decode cX4_silo 27 = .ok (.iload_n 2, 1) := by decide +kernel
theorem dX4_silo_28 : decode cX4_silo 28 = .ok (.tableswitch 83 0 5 #[40, 45, 50, 55, 68, 73], 40) := by decide +kernel
theorem dX4_silo_68 : decode cX4_silo 68 = .ok (.aload_n 3, 1) := by decide +kernel
theorem dX4_silo_69 : decode cX4_silo 69 = .ok (.invokevirtual 190, 3) := by decide +kernel
theorem dX4_silo_72 : decode cX4_silo 72 = .ok (.ireturn, 1) := by decide +kernel
theorem dX4_silo_73 : decode cX4_silo 73 = .ok (.aload_n 3, 1) := by decide +kernel
theorem dX4_silo_74 : decode cX4_silo 74 = .ok (.getfield 125, 3) := by decide +kernel
theorem dX4_silo_77 : decode cX4_silo 77 = .ok (.ireturn, 1) := by decide +kernel
theorem dX4_silo_78 : decode cX4_silo 78 = .ok (.aload_n 3, 1) := by decide +kernel
theorem dX4_silo_79 : decode cX4_silo 79 = .ok (.getfield 111, 3) := by decide +kernel
theorem dX4_silo_82 : decode cX4_silo 82 = .ok (.ireturn, 1) := by decide +kernel
theorem dX4_silo_83 : decode cX4_silo 83 = .ok (.aload_n 3, 1) := by decide +kernel
theorem dX4_silo_84 : decode cX4_silo 84 = .ok (.getfield 141, 3) := by decide +kernel
theorem dX4_silo_87 : decode cX4_silo 87 = .ok (.ifCond .ne 7, 3) := by decide +kernel
theorem dX4_silo_90 : decode cX4_silo 90 = .ok (.iconst 0, 1) := by decide +kernel
theorem dX4_silo_91 : decode cX4_silo 91 = .ok (.goto 4, 3) := by decide +kernel
theorem dX4_silo_94 : decode cX4_silo 94 = .ok (.iconst 1, 1) := by decide +kernel
theorem dX4_silo_95 : decode cX4_silo 95 = .ok (.ireturn, 1) := by decide +kernel
theorem dX4_silo_96 : decode cX4_silo 96 = .ok (.aload_n 3, 1) := by decide +kernel
theorem dX4_silo_97 : decode cX4_silo 97 = .ok (.getfield 134, 3) := by decide +kernel
theorem dX4_silo_100 : decode cX4_silo 100 = .ok (.ireturn, 1) := by decide +kernel
theorem dX4_silo_101 : decode cX4_silo 101 = .ok (.aload_n 0, 1) := by decide +kernel
theorem dX4_silo_102 : decode cX4_silo 102 = .ok (.aload_n 3, 1) := by decide +kernel
theorem dX4_silo_103 : decode cX4_silo 103 = .ok (.aload_n 3, 1) := by decide +kernel
theorem dX4_silo_104 : decode cX4_silo 104 = .ok (.getfield 111, 3) := by decide +kernel
theorem dX4_silo_107 : decode cX4_silo 107 = .ok (.invokevirtual 193, 3) := by decide +kernel
theorem dX4_silo_110 : decode cX4_silo 110 = .ok (.ireturn, 1) := by decide +kernel
theorem dX4_silo_111 : decode cX4_silo 111 = .ok (.new 63, 3) := by decide +kernel
theorem dX4_silo_114 : decode cX4_silo 114 = .ok (.dup, 1) := by decide +kernel
theorem dX4_silo_115 : decode cX4_silo 115 = .ok (.ldc 197, 2) := by decide +kernel
theorem dX4_silo_117 : decode cX4_silo 117 = .ok (.invokespecial 67, 3) := by decide +kernel
theorem dX4_silo_120 : decode cX4_silo 120 = .ok (.athrow, 1) := by decide +kernel
set_option maxRecDepth 20000 in
theorem ggX4_layer_X4_isNoSilo : GoodIn wsX4_layer wsX4_isNoSilo := goodIn_r _ [13] (by decide +kernel) (by decide +kernel)
set_option maxRecDepth 20000 in
theorem gX4_layer_X4_isNoSilo : GoodIn wsX4_layer (va_wsS RX4 87 yX4_isNoSilo wsX4_isNoSilo) := goodIn_app (goodIn_of _ (by decide +kernel)) ggX4_layer_X4_isNoSilo
set_option maxRecDepth 20000 in
theorem ggX4_layer_X4_hardnessAt : GoodIn wsX4_layer wsX4_hardnessAt := goodIn_r _ [17, 5, 18, 19, 20, 21, 22, 23, 24, 25, 26, 27, 28, 29, 30, 31, 32, 33, 34, 35] (by decide +kernel) (by decide +kernel)
set_option maxRecDepth 20000 in
theorem gX4_layer_X4_hardnessAt : GoodIn wsX4_layer (wsV RX4 206 RX4 yX4_hardnessAt wsX4_hardnessAt) := goodIn_app (goodIn_of _ (by decide +kernel)) ggX4_layer_X4_hardnessAt
theorem dX4_layer_0 : decode cX4_layer 0 = .ok (.iload_n 1, 1) := by decide +kernel
theorem dX4_layer_1 : decode cX4_layer 1 = .ok (.invokestatic 87, 3) := by decide +kernel
theorem dX4_layer_4 : decode cX4_layer 4 = .ok (.ifCond .eq 13, 3) := by decide +kernel
theorem dX4_layer_7 : decode cX4_layer 7 = .ok (.new 56, 3) := by decide +kernel
theorem dX4_layer_10 : decode cX4_layer 10 = .ok (.dup, 1) := by decide +kernel
theorem dX4_layer_11 : decode cX4_layer 11 = .ok (.ldc 107, 2) := by decide +kernel
theorem dX4_layer_13 : decode cX4_layer 13 = .ok (.invokespecial 60, 3) := by decide +kernel
theorem dX4_layer_16 : decode cX4_layer 16 = .ok (.athrow, 1) := by decide +kernel
theorem dX4_layer_17 : decode cX4_layer 17 = .ok (.aload_n 0, 1) := by decide +kernel
theorem dX4_layer_18 : decode cX4_layer 18 = .ok (.getfield 10, 3) := by decide +kernel
theorem dX4_layer_21 : decode cX4_layer 21 = .ok (.getfield 94, 3) := by decide +kernel
theorem dX4_layer_24 : decode cX4_layer 24 = .ok (.iload_n 1, 1) := by decide +kernel
theorem dX4_layer_25 : decode cX4_layer 25 = .ok (.aaload, 1) := by decide +kernel
theorem dX4_layer_26 : decode cX4_layer 26 = .ok (.astore 4, 2) := by decide +kernel
theorem dX4_layer_28 : decode cX4_layer 28 = .ok (.iload_n 2, 1) := by decide +kernel
theorem dX4_layer_29 : decode cX4_layer 29 = .ok (.ifCond .lt 12, 3) := by decide +kernel
theorem dX4_layer_32 : decode cX4_layer 32 = .ok (.iload_n 2, 1) := by decide +kernel
theorem dX4_layer_33 : decode cX4_layer 33 = .ok (.aload 4, 2) := by decide +kernel
theorem dX4_layer_35 : decode cX4_layer 35 = .ok (.getfield 125, 3) := by decide +kernel
theorem dX4_layer_38 : decode cX4_layer 38 = .ok (.if_icmp .lt 13, 3) := by decide +kernel
theorem dX4_layer_41 : decode cX4_layer 41 = .ok (.new 56, 3) := by decide +kernel
theorem dX4_layer_44 : decode cX4_layer 44 = .ok (.dup, 1) := by decide +kernel
theorem dX4_layer_45 : decode cX4_layer 45 = .ok (.ldc 199, 2) := by decide +kernel
theorem dX4_layer_47 : decode cX4_layer 47 = .ok (.invokespecial 60, 3) := by decide +kernel
theorem dX4_layer_50 : decode cX4_layer 50 = .ok (.athrow, 1) := by decide +kernel
theorem dX4_layer_51 : decode cX4_layer 51 = .ok (.iload_n 3, 1) := by decide +kernel
theorem dX4_layer_52 : decode cX4_layer 52 = .ok (.tableswitch 56 0 2 #[28, 36, 44], 28) := by decide +kernel
theorem dX4_layer_80 : decode cX4_layer 80 = .ok (.aload 4, 2) := by decide +kernel
theorem dX4_layer_82 : decode cX4_layer 82 = .ok (.getfield 201, 3) := by decide +kernel
theorem dX4_layer_85 : decode cX4_layer 85 = .ok (.iload_n 2, 1) := by decide +kernel
theorem dX4_layer_86 : decode cX4_layer 86 = .ok (.iaload, 1) := by decide +kernel
theorem dX4_layer_87 : decode cX4_layer 87 = .ok (.ireturn, 1) := by decide +kernel
theorem dX4_layer_88 : decode cX4_layer 88 = .ok (.aload 4, 2) := by decide +kernel
theorem dX4_layer_90 : decode cX4_layer 90 = .ok (.getfield 203, 3) := by decide +kernel
theorem dX4_layer_93 : decode cX4_layer 93 = .ok (.iload_n 2, 1) := by decide +kernel
theorem dX4_layer_94 : decode cX4_layer 94 = .ok (.iaload, 1) := by decide +kernel
theorem dX4_layer_95 : decode cX4_layer 95 = .ok (.ireturn, 1) := by decide +kernel
theorem dX4_layer_96 : decode cX4_layer 96 = .ok (.aload_n 0, 1) := by decide +kernel
theorem dX4_layer_97 : decode cX4_layer 97 = .ok (.aload 4, 2) := by decide +kernel
theorem dX4_layer_99 : decode cX4_layer 99 = .ok (.getfield 203, 3) := by decide +kernel
theorem dX4_layer_102 : decode cX4_layer 102 = .ok (.iload_n 2, 1) := by decide +kernel
theorem dX4_layer_103 : decode cX4_layer 103 = .ok (.iaload, 1) := by decide +kernel
theorem dX4_layer_104 : decode cX4_layer 104 = .ok (.invokevirtual 206, 3) := by decide +kernel
theorem dX4_layer_107 : decode cX4_layer 107 = .ok (.ireturn, 1) := by decide +kernel
theorem dX4_layer_108 : decode cX4_layer 108 = .ok (.new 63, 3) := by decide +kernel
theorem dX4_layer_111 : decode cX4_layer 111 = .ok (.dup, 1) := by decide +kernel
theorem dX4_layer_112 : decode cX4_layer 112 = .ok (.ldc 209, 2) := by decide +kernel
theorem dX4_layer_114 : decode cX4_layer 114 = .ok (.invokespecial 67, 3) := by decide +kernel
theorem dX4_layer_117 : decode cX4_layer 117 = .ok (.athrow, 1) := by decide +kernel
set_option maxRecDepth 20000 in
theorem ggX4_shipOf_X4_isNoShip : GoodIn wsX4_shipOf wsX4_isNoShip := goodIn_r _ [12] (by decide +kernel) (by decide +kernel)
set_option maxRecDepth 20000 in
theorem gX4_shipOf_X4_isNoShip : GoodIn wsX4_shipOf (va_wsS RX4 52 yX4_isNoShip wsX4_isNoShip) := goodIn_app (goodIn_of _ (by decide +kernel)) ggX4_shipOf_X4_isNoShip
theorem dX4_shipOf_0 : decode cX4_shipOf 0 = .ok (.iload_n 1, 1) := by decide +kernel
theorem dX4_shipOf_1 : decode cX4_shipOf 1 = .ok (.invokestatic 52, 3) := by decide +kernel
theorem dX4_shipOf_4 : decode cX4_shipOf 4 = .ok (.ifCond .eq 13, 3) := by decide +kernel
theorem dX4_shipOf_7 : decode cX4_shipOf 7 = .ok (.new 56, 3) := by decide +kernel
theorem dX4_shipOf_10 : decode cX4_shipOf 10 = .ok (.dup, 1) := by decide +kernel
theorem dX4_shipOf_11 : decode cX4_shipOf 11 = .ok (.ldc 58, 2) := by decide +kernel
theorem dX4_shipOf_13 : decode cX4_shipOf 13 = .ok (.invokespecial 60, 3) := by decide +kernel
theorem dX4_shipOf_16 : decode cX4_shipOf 16 = .ok (.athrow, 1) := by decide +kernel
theorem dX4_shipOf_17 : decode cX4_shipOf 17 = .ok (.iload_n 2, 1) := by decide +kernel
theorem dX4_shipOf_18 : decode cX4_shipOf 18 = .ok (.ifCond .eq 18, 3) := by decide +kernel
theorem dX4_shipOf_21 : decode cX4_shipOf 21 = .ok (.iload_n 2, 1) := by decide +kernel
theorem dX4_shipOf_22 : decode cX4_shipOf 22 = .ok (.iconst 1, 1) := by decide +kernel
theorem dX4_shipOf_23 : decode cX4_shipOf 23 = .ok (.if_icmp .eq 13, 3) := by decide +kernel
theorem dX4_shipOf_26 : decode cX4_shipOf 26 = .ok (.new 63, 3) := by decide +kernel
theorem dX4_shipOf_29 : decode cX4_shipOf 29 = .ok (.dup, 1) := by decide +kernel
theorem dX4_shipOf_30 : decode cX4_shipOf 30 = .ok (.ldc 211, 2) := by decide +kernel
theorem dX4_shipOf_32 : decode cX4_shipOf 32 = .ok (.invokespecial 67, 3) := by decide +kernel
theorem dX4_shipOf_35 : decode cX4_shipOf 35 = .ok (.athrow, 1) := by decide +kernel
theorem dX4_shipOf_36 : decode cX4_shipOf 36 = .ok (.iload_n 2, 1) := by decide +kernel
theorem dX4_shipOf_37 : decode cX4_shipOf 37 = .ok (.ifCond .ne 18, 3) := by decide +kernel
theorem dX4_shipOf_40 : decode cX4_shipOf 40 = .ok (.aload_n 0, 1) := by decide +kernel
theorem dX4_shipOf_41 : decode cX4_shipOf 41 = .ok (.getfield 10, 3) := by decide +kernel
theorem dX4_shipOf_44 : decode cX4_shipOf 44 = .ok (.getfield 71, 3) := by decide +kernel
theorem dX4_shipOf_47 : decode cX4_shipOf 47 = .ok (.iload_n 1, 1) := by decide +kernel
theorem dX4_shipOf_48 : decode cX4_shipOf 48 = .ok (.aaload, 1) := by decide +kernel
theorem dX4_shipOf_49 : decode cX4_shipOf 49 = .ok (.getfield 75, 3) := by decide +kernel
theorem dX4_shipOf_52 : decode cX4_shipOf 52 = .ok (.goto 15, 3) := by decide +kernel
theorem dX4_shipOf_55 : decode cX4_shipOf 55 = .ok (.aload_n 0, 1) := by decide +kernel
theorem dX4_shipOf_56 : decode cX4_shipOf 56 = .ok (.getfield 10, 3) := by decide +kernel
theorem dX4_shipOf_59 : decode cX4_shipOf 59 = .ok (.getfield 71, 3) := by decide +kernel
theorem dX4_shipOf_62 : decode cX4_shipOf 62 = .ok (.iload_n 1, 1) := by decide +kernel
theorem dX4_shipOf_63 : decode cX4_shipOf 63 = .ok (.aaload, 1) := by decide +kernel
theorem dX4_shipOf_64 : decode cX4_shipOf 64 = .ok (.getfield 78, 3) := by decide +kernel
theorem dX4_shipOf_67 : decode cX4_shipOf 67 = .ok (.ireturn, 1) := by decide +kernel
set_option maxRecDepth 20000 in
theorem ggX4_count_X3_siloTonnes : GoodIn wsX4_count wsX3_siloTonnes := goodIn_r _ [16, 17, 18, 19, 20, 21, 22, 23, 24, 25, 26, 27, 28, 53, 54, 55, 56, 57, 58, 59, 60, 61, 62, 63, 64, 65, 66, 67] (by decide +kernel) (by decide +kernel)
set_option maxRecDepth 20000 in
theorem gX4_count_X3_siloTonnes : GoodIn wsX4_count (wsV RX4 216 RX3 yX3_siloTonnes wsX3_siloTonnes) := goodIn_app (goodIn_of _ (by decide +kernel)) ggX4_count_X3_siloTonnes
set_option maxRecDepth 20000 in
theorem ggX4_count_X3_shipTonnes : GoodIn wsX4_count wsX3_shipTonnes := goodIn_r _ [32, 33, 34, 53, 54, 55, 56, 57, 58, 59, 60, 61, 68, 69] (by decide +kernel) (by decide +kernel)
set_option maxRecDepth 20000 in
theorem gX4_count_X3_shipTonnes : GoodIn wsX4_count (wsV RX4 219 RX3 yX3_shipTonnes wsX3_shipTonnes) := goodIn_app (goodIn_of _ (by decide +kernel)) ggX4_count_X3_shipTonnes
set_option maxRecDepth 20000 in
theorem ggX4_count_X3_padsOn : GoodIn wsX4_count wsX3_padsOn := goodIn_r _ [38, 17, 39, 53, 54, 55, 56, 57, 58, 59, 60, 61, 62, 63, 64, 65, 66, 67] (by decide +kernel) (by decide +kernel)
set_option maxRecDepth 20000 in
theorem gX4_count_X3_padsOn : GoodIn wsX4_count (wsV RX4 114 RX3 yX3_padsOn wsX3_padsOn) := goodIn_app (goodIn_of _ (by decide +kernel)) ggX4_count_X3_padsOn
set_option maxRecDepth 20000 in
theorem ggX4_count_X3_arches : GoodIn wsX4_count wsX3_arches := goodIn_r _ [43, 17, 44, 53, 54, 55, 56, 57, 58, 59, 60, 61, 62, 63, 64, 65, 66, 67] (by decide +kernel) (by decide +kernel)
set_option maxRecDepth 20000 in
theorem gX4_count_X3_arches : GoodIn wsX4_count (wsV RX4 225 RX3 yX3_arches wsX3_arches) := goodIn_app (goodIn_of _ (by decide +kernel)) ggX4_count_X3_arches
theorem dX4_count_0 : decode cX4_count 0 = .ok (.iload_n 1, 1) := by decide +kernel
theorem dX4_count_1 : decode cX4_count 1 = .ok (.tableswitch 173 0 14 #[75, 83, 91, 99, 107, 115, 123, 131, 139, 147, 155, 155, 155, 155, 168], 75) := by decide +kernel
theorem dX4_count_76 : decode cX4_count 76 = .ok (.aload_n 0, 1) := by decide +kernel
theorem dX4_count_77 : decode cX4_count 77 = .ok (.getfield 10, 3) := by decide +kernel
theorem dX4_count_80 : decode cX4_count 80 = .ok (.getfield 213, 3) := by decide +kernel
theorem dX4_count_83 : decode cX4_count 83 = .ok (.ireturn, 1) := by decide +kernel
theorem dX4_count_84 : decode cX4_count 84 = .ok (.aload_n 0, 1) := by decide +kernel
theorem dX4_count_85 : decode cX4_count 85 = .ok (.getfield 10, 3) := by decide +kernel
theorem dX4_count_88 : decode cX4_count 88 = .ok (.invokevirtual 216, 3) := by decide +kernel
theorem dX4_count_91 : decode cX4_count 91 = .ok (.ireturn, 1) := by decide +kernel
theorem dX4_count_92 : decode cX4_count 92 = .ok (.aload_n 0, 1) := by decide +kernel
theorem dX4_count_93 : decode cX4_count 93 = .ok (.getfield 10, 3) := by decide +kernel
theorem dX4_count_96 : decode cX4_count 96 = .ok (.invokevirtual 219, 3) := by decide +kernel
theorem dX4_count_99 : decode cX4_count 99 = .ok (.ireturn, 1) := by decide +kernel
theorem dX4_count_100 : decode cX4_count 100 = .ok (.aload_n 0, 1) := by decide +kernel
theorem dX4_count_101 : decode cX4_count 101 = .ok (.getfield 10, 3) := by decide +kernel
theorem dX4_count_104 : decode cX4_count 104 = .ok (.getfield 222, 3) := by decide +kernel
theorem dX4_count_107 : decode cX4_count 107 = .ok (.ireturn, 1) := by decide +kernel
theorem dX4_count_108 : decode cX4_count 108 = .ok (.aload_n 0, 1) := by decide +kernel
theorem dX4_count_109 : decode cX4_count 109 = .ok (.getfield 10, 3) := by decide +kernel
theorem dX4_count_112 : decode cX4_count 112 = .ok (.getfield 81, 3) := by decide +kernel
theorem dX4_count_115 : decode cX4_count 115 = .ok (.ireturn, 1) := by decide +kernel
theorem dX4_count_116 : decode cX4_count 116 = .ok (.aload_n 0, 1) := by decide +kernel
theorem dX4_count_117 : decode cX4_count 117 = .ok (.getfield 10, 3) := by decide +kernel
theorem dX4_count_120 : decode cX4_count 120 = .ok (.getfield 84, 3) := by decide +kernel
theorem dX4_count_123 : decode cX4_count 123 = .ok (.ireturn, 1) := by decide +kernel
theorem dX4_count_124 : decode cX4_count 124 = .ok (.aload_n 0, 1) := by decide +kernel
theorem dX4_count_125 : decode cX4_count 125 = .ok (.getfield 10, 3) := by decide +kernel
theorem dX4_count_128 : decode cX4_count 128 = .ok (.invokevirtual 114, 3) := by decide +kernel
theorem dX4_count_131 : decode cX4_count 131 = .ok (.ireturn, 1) := by decide +kernel
theorem dX4_count_132 : decode cX4_count 132 = .ok (.aload_n 0, 1) := by decide +kernel
theorem dX4_count_133 : decode cX4_count 133 = .ok (.getfield 10, 3) := by decide +kernel
theorem dX4_count_136 : decode cX4_count 136 = .ok (.invokevirtual 225, 3) := by decide +kernel
theorem dX4_count_139 : decode cX4_count 139 = .ok (.ireturn, 1) := by decide +kernel
theorem dX4_count_140 : decode cX4_count 140 = .ok (.aload_n 0, 1) := by decide +kernel
theorem dX4_count_141 : decode cX4_count 141 = .ok (.getfield 10, 3) := by decide +kernel
theorem dX4_count_144 : decode cX4_count 144 = .ok (.getfield 137, 3) := by decide +kernel
theorem dX4_count_147 : decode cX4_count 147 = .ok (.ireturn, 1) := by decide +kernel
theorem dX4_count_148 : decode cX4_count 148 = .ok (.aload_n 0, 1) := by decide +kernel
theorem dX4_count_149 : decode cX4_count 149 = .ok (.getfield 10, 3) := by decide +kernel
theorem dX4_count_152 : decode cX4_count 152 = .ok (.getfield 228, 3) := by decide +kernel
theorem dX4_count_155 : decode cX4_count 155 = .ok (.ireturn, 1) := by decide +kernel
theorem dX4_count_156 : decode cX4_count 156 = .ok (.aload_n 0, 1) := by decide +kernel
theorem dX4_count_157 : decode cX4_count 157 = .ok (.getfield 10, 3) := by decide +kernel
theorem dX4_count_160 : decode cX4_count 160 = .ok (.getfield 117, 3) := by decide +kernel
theorem dX4_count_163 : decode cX4_count 163 = .ok (.iload_n 1, 1) := by decide +kernel
theorem dX4_count_164 : decode cX4_count 164 = .ok (.bipush 10, 2) := by decide +kernel
theorem dX4_count_166 : decode cX4_count 166 = .ok (.isub, 1) := by decide +kernel
theorem dX4_count_167 : decode cX4_count 167 = .ok (.iaload, 1) := by decide +kernel
theorem dX4_count_168 : decode cX4_count 168 = .ok (.ireturn, 1) := by decide +kernel
theorem dX4_count_169 : decode cX4_count 169 = .ok (.aload_n 0, 1) := by decide +kernel
theorem dX4_count_170 : decode cX4_count 170 = .ok (.getfield 20, 3) := by decide +kernel
theorem dX4_count_173 : decode cX4_count 173 = .ok (.ireturn, 1) := by decide +kernel
theorem dX4_count_174 : decode cX4_count 174 = .ok (.new 63, 3) := by decide +kernel
theorem dX4_count_177 : decode cX4_count 177 = .ok (.dup, 1) := by decide +kernel
theorem dX4_count_178 : decode cX4_count 178 = .ok (.ldc 231, 2) := by decide +kernel
theorem dX4_count_180 : decode cX4_count 180 = .ok (.invokespecial 67, 3) := by decide +kernel
theorem dX4_count_183 : decode cX4_count 183 = .ok (.athrow, 1) := by decide +kernel
set_option maxRecDepth 20000 in
theorem ggX4_whyNot_X4_isNoSilo : GoodIn wsX4_whyNot wsX4_isNoSilo := goodIn_r _ [12] (by decide +kernel) (by decide +kernel)
set_option maxRecDepth 20000 in
theorem gX4_whyNot_X4_isNoSilo : GoodIn wsX4_whyNot (va_wsS RX4 87 yX4_isNoSilo wsX4_isNoSilo) := goodIn_app (goodIn_of _ (by decide +kernel)) ggX4_whyNot_X4_isNoSilo
set_option maxRecDepth 20000 in
theorem ggX4_whyNot_X4_isNoShip : GoodIn wsX4_whyNot wsX4_isNoShip := goodIn_r _ [15] (by decide +kernel) (by decide +kernel)
set_option maxRecDepth 20000 in
theorem gX4_whyNot_X4_isNoShip : GoodIn wsX4_whyNot (va_wsS RX4 52 yX4_isNoShip wsX4_isNoShip) := goodIn_app (goodIn_of _ (by decide +kernel)) ggX4_whyNot_X4_isNoShip
set_option maxRecDepth 20000 in
theorem ggX4_whyNot_X0_room : GoodIn wsX4_whyNot wsX0_room := goodIn_r _ [20, 21, 22, 56, 57] (by decide +kernel) (by decide +kernel)
set_option maxRecDepth 20000 in
theorem gX4_whyNot_X0_room : GoodIn wsX4_whyNot (wsV RX4 233 RX0 yX0_room wsX0_room) := goodIn_app (goodIn_of _ (by decide +kernel)) ggX4_whyNot_X0_room
set_option maxRecDepth 20000 in
theorem ggX4_whyNot_X4_outInHour : GoodIn wsX4_whyNot wsX4_outInHour := goodIn_r _ [26, 5, 27, 28, 29, 30, 11, 31, 3, 32, 50, 51, 52, 53, 54, 55, 33, 34, 35, 36, 37, 38, 39, 40, 41, 42, 43, 44, 45, 46, 47, 48, 49] (by decide +kernel) (by decide +kernel)
set_option maxRecDepth 20000 in
theorem gX4_whyNot_X4_outInHour : GoodIn wsX4_whyNot (wsV RX4 193 RX4 yX4_outInHour wsX4_outInHour) := goodIn_app (goodIn_of _ (by decide +kernel)) ggX4_whyNot_X4_outInHour
theorem dX4_whyNot_0 : decode cX4_whyNot 0 = .ok (.iload_n 1, 1) := by decide +kernel
theorem dX4_whyNot_1 : decode cX4_whyNot 1 = .ok (.invokestatic 87, 3) := by decide +kernel
theorem dX4_whyNot_4 : decode cX4_whyNot 4 = .ok (.ifCond .ne 10, 3) := by decide +kernel
theorem dX4_whyNot_7 : decode cX4_whyNot 7 = .ok (.iload_n 2, 1) := by decide +kernel
theorem dX4_whyNot_8 : decode cX4_whyNot 8 = .ok (.invokestatic 52, 3) := by decide +kernel
theorem dX4_whyNot_11 : decode cX4_whyNot 11 = .ok (.ifCond .eq 13, 3) := by decide +kernel
theorem dX4_whyNot_14 : decode cX4_whyNot 14 = .ok (.new 56, 3) := by decide +kernel
theorem dX4_whyNot_17 : decode cX4_whyNot 17 = .ok (.dup, 1) := by decide +kernel
theorem dX4_whyNot_18 : decode cX4_whyNot 18 = .ok (.ldc 90, 2) := by decide +kernel
theorem dX4_whyNot_20 : decode cX4_whyNot 20 = .ok (.invokespecial 60, 3) := by decide +kernel
theorem dX4_whyNot_23 : decode cX4_whyNot 23 = .ok (.athrow, 1) := by decide +kernel
theorem dX4_whyNot_24 : decode cX4_whyNot 24 = .ok (.aload_n 0, 1) := by decide +kernel
theorem dX4_whyNot_25 : decode cX4_whyNot 25 = .ok (.getfield 10, 3) := by decide +kernel
theorem dX4_whyNot_28 : decode cX4_whyNot 28 = .ok (.getfield 94, 3) := by decide +kernel
theorem dX4_whyNot_31 : decode cX4_whyNot 31 = .ok (.iload_n 1, 1) := by decide +kernel
theorem dX4_whyNot_32 : decode cX4_whyNot 32 = .ok (.aaload, 1) := by decide +kernel
theorem dX4_whyNot_33 : decode cX4_whyNot 33 = .ok (.astore_n 3, 1) := by decide +kernel
theorem dX4_whyNot_34 : decode cX4_whyNot 34 = .ok (.aload_n 3, 1) := by decide +kernel
theorem dX4_whyNot_35 : decode cX4_whyNot 35 = .ok (.getfield 125, 3) := by decide +kernel
theorem dX4_whyNot_38 : decode cX4_whyNot 38 = .ok (.ifCond .ne 5, 3) := by decide +kernel
theorem dX4_whyNot_41 : decode cX4_whyNot 41 = .ok (.iconst 1, 1) := by decide +kernel
theorem dX4_whyNot_42 : decode cX4_whyNot 42 = .ok (.ireturn, 1) := by decide +kernel
theorem dX4_whyNot_43 : decode cX4_whyNot 43 = .ok (.aload_n 3, 1) := by decide +kernel
theorem dX4_whyNot_44 : decode cX4_whyNot 44 = .ok (.getfield 141, 3) := by decide +kernel
theorem dX4_whyNot_47 : decode cX4_whyNot 47 = .ok (.iconst 2, 1) := by decide +kernel
theorem dX4_whyNot_48 : decode cX4_whyNot 48 = .ok (.if_icmp .ne 5, 3) := by decide +kernel
theorem dX4_whyNot_51 : decode cX4_whyNot 51 = .ok (.iconst 2, 1) := by decide +kernel
theorem dX4_whyNot_52 : decode cX4_whyNot 52 = .ok (.ireturn, 1) := by decide +kernel
theorem dX4_whyNot_53 : decode cX4_whyNot 53 = .ok (.aload_n 0, 1) := by decide +kernel
theorem dX4_whyNot_54 : decode cX4_whyNot 54 = .ok (.getfield 10, 3) := by decide +kernel
theorem dX4_whyNot_57 : decode cX4_whyNot 57 = .ok (.getfield 71, 3) := by decide +kernel
theorem dX4_whyNot_60 : decode cX4_whyNot 60 = .ok (.iload_n 2, 1) := by decide +kernel
theorem dX4_whyNot_61 : decode cX4_whyNot 61 = .ok (.aaload, 1) := by decide +kernel
theorem dX4_whyNot_62 : decode cX4_whyNot 62 = .ok (.invokevirtual 233, 3) := by decide +kernel
theorem dX4_whyNot_65 : decode cX4_whyNot 65 = .ok (.ifCond .ne 5, 3) := by decide +kernel
theorem dX4_whyNot_68 : decode cX4_whyNot 68 = .ok (.iconst 3, 1) := by decide +kernel
theorem dX4_whyNot_69 : decode cX4_whyNot 69 = .ok (.ireturn, 1) := by decide +kernel
theorem dX4_whyNot_70 : decode cX4_whyNot 70 = .ok (.aload_n 0, 1) := by decide +kernel
theorem dX4_whyNot_71 : decode cX4_whyNot 71 = .ok (.aload_n 3, 1) := by decide +kernel
theorem dX4_whyNot_72 : decode cX4_whyNot 72 = .ok (.aload_n 3, 1) := by decide +kernel
theorem dX4_whyNot_73 : decode cX4_whyNot 73 = .ok (.getfield 111, 3) := by decide +kernel
theorem dX4_whyNot_76 : decode cX4_whyNot 76 = .ok (.invokevirtual 193, 3) := by decide +kernel
theorem dX4_whyNot_79 : decode cX4_whyNot 79 = .ok (.ifCond .ne 7, 3) := by decide +kernel
theorem dX4_whyNot_82 : decode cX4_whyNot 82 = .ok (.iconst 4, 1) := by decide +kernel
theorem dX4_whyNot_83 : decode cX4_whyNot 83 = .ok (.goto 4, 3) := by decide +kernel
theorem dX4_whyNot_86 : decode cX4_whyNot 86 = .ok (.iconst 0, 1) := by decide +kernel
theorem dX4_whyNot_87 : decode cX4_whyNot 87 = .ok (.ireturn, 1) := by decide +kernel
set_option maxRecDepth 20000 in
theorem ggX4_urgent_X4_isMoreUrgent : GoodIn wsX4_urgent wsX4_isMoreUrgent := goodIn_r _ [7, 8, 9, 10, 11, 12, 13, 14, 15, 16, 17, 18, 19, 37, 38, 39, 40, 41, 42] (by decide +kernel) (by decide +kernel)
set_option maxRecDepth 20000 in
theorem gX4_urgent_X4_isMoreUrgent : GoodIn wsX4_urgent (va_wsS RX4 247 yX4_isMoreUrgent wsX4_isMoreUrgent) := goodIn_app (goodIn_of _ (by decide +kernel)) ggX4_urgent_X4_isMoreUrgent
theorem dX4_urgent_0 : decode cX4_urgent 0 = .ok (.iconst (-1), 1) := by decide +kernel
theorem dX4_urgent_1 : decode cX4_urgent 1 = .ok (.istore_n 1, 1) := by decide +kernel
theorem dX4_urgent_2 : decode cX4_urgent 2 = .ok (.iconst 0, 1) := by decide +kernel
theorem dX4_urgent_3 : decode cX4_urgent 3 = .ok (.istore_n 2, 1) := by decide +kernel
theorem dX4_urgent_4 : decode cX4_urgent 4 = .ok (.iload_n 2, 1) := by decide +kernel
theorem dX4_urgent_5 : decode cX4_urgent 5 = .ok (.iconst 4, 1) := by decide +kernel
theorem dX4_urgent_6 : decode cX4_urgent 6 = .ok (.if_icmp .ge 55, 3) := by decide +kernel
theorem dX4_urgent_9 : decode cX4_urgent 9 = .ok (.aload_n 0, 1) := by decide +kernel
theorem dX4_urgent_10 : decode cX4_urgent 10 = .ok (.getfield 10, 3) := by decide +kernel
theorem dX4_urgent_13 : decode cX4_urgent 13 = .ok (.getfield 94, 3) := by decide +kernel
theorem dX4_urgent_16 : decode cX4_urgent 16 = .ok (.iload_n 2, 1) := by decide +kernel
theorem dX4_urgent_17 : decode cX4_urgent 17 = .ok (.aaload, 1) := by decide +kernel
theorem dX4_urgent_18 : decode cX4_urgent 18 = .ok (.getfield 125, 3) := by decide +kernel
theorem dX4_urgent_21 : decode cX4_urgent 21 = .ok (.ifCond .le 34, 3) := by decide +kernel
theorem dX4_urgent_24 : decode cX4_urgent 24 = .ok (.iload_n 1, 1) := by decide +kernel
theorem dX4_urgent_25 : decode cX4_urgent 25 = .ok (.iconst (-1), 1) := by decide +kernel
theorem dX4_urgent_26 : decode cX4_urgent 26 = .ok (.if_icmp .eq 27, 3) := by decide +kernel
theorem dX4_urgent_29 : decode cX4_urgent 29 = .ok (.aload_n 0, 1) := by decide +kernel
theorem dX4_urgent_30 : decode cX4_urgent 30 = .ok (.getfield 10, 3) := by decide +kernel
theorem dX4_urgent_33 : decode cX4_urgent 33 = .ok (.getfield 94, 3) := by decide +kernel
theorem dX4_urgent_36 : decode cX4_urgent 36 = .ok (.iload_n 2, 1) := by decide +kernel
theorem dX4_urgent_37 : decode cX4_urgent 37 = .ok (.aaload, 1) := by decide +kernel
theorem dX4_urgent_38 : decode cX4_urgent 38 = .ok (.aload_n 0, 1) := by decide +kernel
theorem dX4_urgent_39 : decode cX4_urgent 39 = .ok (.getfield 10, 3) := by decide +kernel
theorem dX4_urgent_42 : decode cX4_urgent 42 = .ok (.getfield 94, 3) := by decide +kernel
theorem dX4_urgent_45 : decode cX4_urgent 45 = .ok (.iload_n 1, 1) := by decide +kernel
theorem dX4_urgent_46 : decode cX4_urgent 46 = .ok (.aaload, 1) := by decide +kernel
theorem dX4_urgent_47 : decode cX4_urgent 47 = .ok (.invokestatic 247, 3) := by decide +kernel
theorem dX4_urgent_50 : decode cX4_urgent 50 = .ok (.ifCond .eq 5, 3) := by decide +kernel
theorem dX4_urgent_53 : decode cX4_urgent 53 = .ok (.iload_n 2, 1) := by decide +kernel
theorem dX4_urgent_54 : decode cX4_urgent 54 = .ok (.istore_n 1, 1) := by decide +kernel
theorem dX4_urgent_55 : decode cX4_urgent 55 = .ok (.iinc 2 1, 3) := by decide +kernel
theorem dX4_urgent_58 : decode cX4_urgent 58 = .ok (.goto (-54), 3) := by decide +kernel
theorem dX4_urgent_61 : decode cX4_urgent 61 = .ok (.iload_n 1, 1) := by decide +kernel
theorem dX4_urgent_62 : decode cX4_urgent 62 = .ok (.ireturn, 1) := by decide +kernel
set_option maxRecDepth 20000 in
theorem ggX4_shakesNeeded_X4_isNoSilo : GoodIn wsX4_shakesNeeded wsX4_isNoSilo := goodIn_r _ [8] (by decide +kernel) (by decide +kernel)
set_option maxRecDepth 20000 in
theorem gX4_shakesNeeded_X4_isNoSilo : GoodIn wsX4_shakesNeeded (va_wsS RX4 87 yX4_isNoSilo wsX4_isNoSilo) := goodIn_app (goodIn_of _ (by decide +kernel)) ggX4_shakesNeeded_X4_isNoSilo
set_option maxRecDepth 20000 in
theorem ggX4_shakesNeeded_X4_shakesToBreak : GoodIn wsX4_shakesNeeded wsX4_shakesToBreak := goodIn_r _ [12, 13, 3, 14, 15, 16, 17, 18, 19, 20, 21, 22, 23, 24, 25, 26, 27, 28, 29, 30, 31, 49, 50, 51, 52, 53, 54, 32, 33, 34, 35, 36, 37, 38, 39, 40, 41, 42, 43, 44, 45, 46, 47, 48] (by decide +kernel) (by decide +kernel)
set_option maxRecDepth 20000 in
theorem gX4_shakesNeeded_X4_shakesToBreak : GoodIn wsX4_shakesNeeded (wsV RX4 130 RX4 yX4_shakesToBreak wsX4_shakesToBreak) := goodIn_app (goodIn_of _ (by decide +kernel)) ggX4_shakesNeeded_X4_shakesToBreak
theorem dX4_shakesNeeded_0 : decode cX4_shakesNeeded 0 = .ok (.iload_n 1, 1) := by decide +kernel
theorem dX4_shakesNeeded_1 : decode cX4_shakesNeeded 1 = .ok (.invokestatic 87, 3) := by decide +kernel
theorem dX4_shakesNeeded_4 : decode cX4_shakesNeeded 4 = .ok (.ifCond .eq 13, 3) := by decide +kernel
theorem dX4_shakesNeeded_7 : decode cX4_shakesNeeded 7 = .ok (.new 56, 3) := by decide +kernel
theorem dX4_shakesNeeded_10 : decode cX4_shakesNeeded 10 = .ok (.dup, 1) := by decide +kernel
theorem dX4_shakesNeeded_11 : decode cX4_shakesNeeded 11 = .ok (.ldc 107, 2) := by decide +kernel
theorem dX4_shakesNeeded_13 : decode cX4_shakesNeeded 13 = .ok (.invokespecial 60, 3) := by decide +kernel
theorem dX4_shakesNeeded_16 : decode cX4_shakesNeeded 16 = .ok (.athrow, 1) := by decide +kernel
theorem dX4_shakesNeeded_17 : decode cX4_shakesNeeded 17 = .ok (.aload_n 0, 1) := by decide +kernel
theorem dX4_shakesNeeded_18 : decode cX4_shakesNeeded 18 = .ok (.aload_n 0, 1) := by decide +kernel
theorem dX4_shakesNeeded_19 : decode cX4_shakesNeeded 19 = .ok (.getfield 10, 3) := by decide +kernel
theorem dX4_shakesNeeded_22 : decode cX4_shakesNeeded 22 = .ok (.getfield 94, 3) := by decide +kernel
theorem dX4_shakesNeeded_25 : decode cX4_shakesNeeded 25 = .ok (.iload_n 1, 1) := by decide +kernel
theorem dX4_shakesNeeded_26 : decode cX4_shakesNeeded 26 = .ok (.aaload, 1) := by decide +kernel
theorem dX4_shakesNeeded_27 : decode cX4_shakesNeeded 27 = .ok (.invokevirtual 130, 3) := by decide +kernel
theorem dX4_shakesNeeded_30 : decode cX4_shakesNeeded 30 = .ok (.ireturn, 1) := by decide +kernel
set_option maxRecDepth 20000 in
theorem ggX4_softness_X3_siloTonnes : GoodIn wsX4_softness wsX3_siloTonnes := goodIn_r _ [7, 8, 9, 10, 11, 12, 13, 14, 15, 16, 17, 18, 19, 41, 42, 43, 44, 45, 46, 47, 48, 49, 50, 51, 52, 53, 54, 55] (by decide +kernel) (by decide +kernel)
set_option maxRecDepth 20000 in
theorem gX4_softness_X3_siloTonnes : GoodIn wsX4_softness (wsV RX4 216 RX3 yX3_siloTonnes wsX3_siloTonnes) := goodIn_app (goodIn_of _ (by decide +kernel)) ggX4_softness_X3_siloTonnes
set_option maxRecDepth 20000 in
theorem ggX4_softness_X4_softTonnes : GoodIn wsX4_softness wsX4_softTonnes := goodIn_r _ [24, 25, 26, 27, 28, 29, 30, 23, 31, 1, 32, 50, 51, 52, 53, 54, 55, 33, 34, 35, 36, 37, 38, 39, 40, 41, 42, 43, 44, 45, 46, 47, 48, 49] (by decide +kernel) (by decide +kernel)
set_option maxRecDepth 20000 in
theorem gX4_softness_X4_softTonnes : GoodIn wsX4_softness (wsV RX4 263 RX4 yX4_softTonnes wsX4_softTonnes) := goodIn_app (goodIn_of _ (by decide +kernel)) ggX4_softness_X4_softTonnes
theorem dX4_softness_0 : decode cX4_softness 0 = .ok (.aload_n 0, 1) := by decide +kernel
theorem dX4_softness_1 : decode cX4_softness 1 = .ok (.getfield 10, 3) := by decide +kernel
theorem dX4_softness_4 : decode cX4_softness 4 = .ok (.invokevirtual 216, 3) := by decide +kernel
theorem dX4_softness_7 : decode cX4_softness 7 = .ok (.istore_n 1, 1) := by decide +kernel
theorem dX4_softness_8 : decode cX4_softness 8 = .ok (.iload_n 1, 1) := by decide +kernel
theorem dX4_softness_9 : decode cX4_softness 9 = .ok (.ifCond .ne 5, 3) := by decide +kernel
theorem dX4_softness_12 : decode cX4_softness 12 = .ok (.dconst 1, 1) := by decide +kernel
theorem dX4_softness_13 : decode cX4_softness 13 = .ok (.dreturn, 1) := by decide +kernel
theorem dX4_softness_14 : decode cX4_softness 14 = .ok (.iconst 0, 1) := by decide +kernel
theorem dX4_softness_15 : decode cX4_softness 15 = .ok (.istore_n 2, 1) := by decide +kernel
theorem dX4_softness_16 : decode cX4_softness 16 = .ok (.iconst 0, 1) := by decide +kernel
theorem dX4_softness_17 : decode cX4_softness 17 = .ok (.istore_n 3, 1) := by decide +kernel
theorem dX4_softness_18 : decode cX4_softness 18 = .ok (.iload_n 3, 1) := by decide +kernel
theorem dX4_softness_19 : decode cX4_softness 19 = .ok (.iconst 4, 1) := by decide +kernel
theorem dX4_softness_20 : decode cX4_softness 20 = .ok (.if_icmp .ge 25, 3) := by decide +kernel
theorem dX4_softness_23 : decode cX4_softness 23 = .ok (.iload_n 2, 1) := by decide +kernel
theorem dX4_softness_24 : decode cX4_softness 24 = .ok (.aload_n 0, 1) := by decide +kernel
theorem dX4_softness_25 : decode cX4_softness 25 = .ok (.aload_n 0, 1) := by decide +kernel
theorem dX4_softness_26 : decode cX4_softness 26 = .ok (.getfield 10, 3) := by decide +kernel
theorem dX4_softness_29 : decode cX4_softness 29 = .ok (.getfield 94, 3) := by decide +kernel
theorem dX4_softness_32 : decode cX4_softness 32 = .ok (.iload_n 3, 1) := by decide +kernel
theorem dX4_softness_33 : decode cX4_softness 33 = .ok (.aaload, 1) := by decide +kernel
theorem dX4_softness_34 : decode cX4_softness 34 = .ok (.invokevirtual 263, 3) := by decide +kernel
theorem dX4_softness_37 : decode cX4_softness 37 = .ok (.iadd, 1) := by decide +kernel
theorem dX4_softness_38 : decode cX4_softness 38 = .ok (.istore_n 2, 1) := by decide +kernel
theorem dX4_softness_39 : decode cX4_softness 39 = .ok (.iinc 3 1, 3) := by decide +kernel
theorem dX4_softness_42 : decode cX4_softness 42 = .ok (.goto (-24), 3) := by decide +kernel
theorem dX4_softness_45 : decode cX4_softness 45 = .ok (.iload_n 2, 1) := by decide +kernel
theorem dX4_softness_46 : decode cX4_softness 46 = .ok (.i2d, 1) := by decide +kernel
theorem dX4_softness_47 : decode cX4_softness 47 = .ok (.iload_n 1, 1) := by decide +kernel
theorem dX4_softness_48 : decode cX4_softness 48 = .ok (.i2d, 1) := by decide +kernel
theorem dX4_softness_49 : decode cX4_softness 49 = .ok (.ddiv, 1) := by decide +kernel
theorem dX4_softness_50 : decode cX4_softness 50 = .ok (.dreturn, 1) := by decide +kernel
theorem dX4_isNoSilo_0 : decode cX4_isNoSilo 0 = .ok (.iload_n 0, 1) := by decide +kernel
theorem dX4_isNoSilo_1 : decode cX4_isNoSilo 1 = .ok (.ifCond .lt 8, 3) := by decide +kernel
theorem dX4_isNoSilo_4 : decode cX4_isNoSilo 4 = .ok (.iload_n 0, 1) := by decide +kernel
theorem dX4_isNoSilo_5 : decode cX4_isNoSilo 5 = .ok (.iconst 4, 1) := by decide +kernel
theorem dX4_isNoSilo_6 : decode cX4_isNoSilo 6 = .ok (.if_icmp .lt 7, 3) := by decide +kernel
theorem dX4_isNoSilo_9 : decode cX4_isNoSilo 9 = .ok (.iconst 1, 1) := by decide +kernel
theorem dX4_isNoSilo_10 : decode cX4_isNoSilo 10 = .ok (.goto 4, 3) := by decide +kernel
theorem dX4_isNoSilo_13 : decode cX4_isNoSilo 13 = .ok (.iconst 0, 1) := by decide +kernel
theorem dX4_isNoSilo_14 : decode cX4_isNoSilo 14 = .ok (.ireturn, 1) := by decide +kernel
theorem dX4_isNoShip_0 : decode cX4_isNoShip 0 = .ok (.iload_n 0, 1) := by decide +kernel
theorem dX4_isNoShip_1 : decode cX4_isNoShip 1 = .ok (.ifCond .lt 9, 3) := by decide +kernel
theorem dX4_isNoShip_4 : decode cX4_isNoShip 4 = .ok (.iload_n 0, 1) := by decide +kernel
theorem dX4_isNoShip_5 : decode cX4_isNoShip 5 = .ok (.bipush 6, 2) := by decide +kernel
theorem dX4_isNoShip_7 : decode cX4_isNoShip 7 = .ok (.if_icmp .lt 7, 3) := by decide +kernel
theorem dX4_isNoShip_10 : decode cX4_isNoShip 10 = .ok (.iconst 1, 1) := by decide +kernel
theorem dX4_isNoShip_11 : decode cX4_isNoShip 11 = .ok (.goto 4, 3) := by decide +kernel
theorem dX4_isNoShip_14 : decode cX4_isNoShip 14 = .ok (.iconst 0, 1) := by decide +kernel
theorem dX4_isNoShip_15 : decode cX4_isNoShip 15 = .ok (.ireturn, 1) := by decide +kernel
set_option maxRecDepth 20000 in
theorem ggX4_saveState_X3_becomeLike : GoodIn wsX4_saveState wsX3_becomeLike := goodIn_r _ [8, 9, 10, 11, 12, 13, 14, 15, 16, 17, 18, 19, 20, 21, 22, 23, 24, 25, 26, 27, 28, 29, 30, 31, 32, 33, 34, 35, 44, 45, 46, 47, 48, 49, 50, 51, 52, 53, 54, 55, 56, 57, 58, 59, 60] (by decide +kernel) (by decide +kernel)
set_option maxRecDepth 20000 in
theorem gX4_saveState_X3_becomeLike : GoodIn wsX4_saveState (wsV RX4 186 RX3 yX3_becomeLike wsX3_becomeLike) := goodIn_app (goodIn_of _ (by decide +kernel)) ggX4_saveState_X3_becomeLike
theorem dX4_saveState_0 : decode cX4_saveState 0 = .ok (.aload_n 0, 1) := by decide +kernel
theorem dX4_saveState_1 : decode cX4_saveState 1 = .ok (.getfield 20, 3) := by decide +kernel
theorem dX4_saveState_4 : decode cX4_saveState 4 = .ok (.bipush 6, 2) := by decide +kernel
theorem dX4_saveState_6 : decode cX4_saveState 6 = .ok (.if_icmp .ne 55, 3) := by decide +kernel
theorem dX4_saveState_9 : decode cX4_saveState 9 = .ok (.aload_n 0, 1) := by decide +kernel
theorem dX4_saveState_10 : decode cX4_saveState 10 = .ok (.getfield 16, 3) := by decide +kernel
theorem dX4_saveState_13 : decode cX4_saveState 13 = .ok (.iconst 0, 1) := by decide +kernel
theorem dX4_saveState_14 : decode cX4_saveState 14 = .ok (.aaload, 1) := by decide +kernel
theorem dX4_saveState_15 : decode cX4_saveState 15 = .ok (.astore_n 1, 1) := by decide +kernel
theorem dX4_saveState_16 : decode cX4_saveState 16 = .ok (.iconst 1, 1) := by decide +kernel
theorem dX4_saveState_17 : decode cX4_saveState 17 = .ok (.istore_n 2, 1) := by decide +kernel
theorem dX4_saveState_18 : decode cX4_saveState 18 = .ok (.iload_n 2, 1) := by decide +kernel
theorem dX4_saveState_19 : decode cX4_saveState 19 = .ok (.bipush 6, 2) := by decide +kernel
theorem dX4_saveState_21 : decode cX4_saveState 21 = .ok (.if_icmp .ge 23, 3) := by decide +kernel
theorem dX4_saveState_24 : decode cX4_saveState 24 = .ok (.aload_n 0, 1) := by decide +kernel
theorem dX4_saveState_25 : decode cX4_saveState 25 = .ok (.getfield 16, 3) := by decide +kernel
theorem dX4_saveState_28 : decode cX4_saveState 28 = .ok (.iload_n 2, 1) := by decide +kernel
theorem dX4_saveState_29 : decode cX4_saveState 29 = .ok (.iconst 1, 1) := by decide +kernel
theorem dX4_saveState_30 : decode cX4_saveState 30 = .ok (.isub, 1) := by decide +kernel
theorem dX4_saveState_31 : decode cX4_saveState 31 = .ok (.aload_n 0, 1) := by decide +kernel
theorem dX4_saveState_32 : decode cX4_saveState 32 = .ok (.getfield 16, 3) := by decide +kernel
theorem dX4_saveState_35 : decode cX4_saveState 35 = .ok (.iload_n 2, 1) := by decide +kernel
theorem dX4_saveState_36 : decode cX4_saveState 36 = .ok (.aaload, 1) := by decide +kernel
theorem dX4_saveState_37 : decode cX4_saveState 37 = .ok (.aastore, 1) := by decide +kernel
theorem dX4_saveState_38 : decode cX4_saveState 38 = .ok (.iinc 2 1, 3) := by decide +kernel
theorem dX4_saveState_41 : decode cX4_saveState 41 = .ok (.goto (-23), 3) := by decide +kernel
theorem dX4_saveState_44 : decode cX4_saveState 44 = .ok (.aload_n 0, 1) := by decide +kernel
theorem dX4_saveState_45 : decode cX4_saveState 45 = .ok (.getfield 16, 3) := by decide +kernel
theorem dX4_saveState_48 : decode cX4_saveState 48 = .ok (.iconst 5, 1) := by decide +kernel
theorem dX4_saveState_49 : decode cX4_saveState 49 = .ok (.aload_n 1, 1) := by decide +kernel
theorem dX4_saveState_50 : decode cX4_saveState 50 = .ok (.aastore, 1) := by decide +kernel
theorem dX4_saveState_51 : decode cX4_saveState 51 = .ok (.aload_n 0, 1) := by decide +kernel
theorem dX4_saveState_52 : decode cX4_saveState 52 = .ok (.dup, 1) := by decide +kernel
theorem dX4_saveState_53 : decode cX4_saveState 53 = .ok (.getfield 20, 3) := by decide +kernel
theorem dX4_saveState_56 : decode cX4_saveState 56 = .ok (.iconst 1, 1) := by decide +kernel
theorem dX4_saveState_57 : decode cX4_saveState 57 = .ok (.isub, 1) := by decide +kernel
theorem dX4_saveState_58 : decode cX4_saveState 58 = .ok (.putfield 20, 3) := by decide +kernel
theorem dX4_saveState_61 : decode cX4_saveState 61 = .ok (.aload_n 0, 1) := by decide +kernel
theorem dX4_saveState_62 : decode cX4_saveState 62 = .ok (.getfield 16, 3) := by decide +kernel
theorem dX4_saveState_65 : decode cX4_saveState 65 = .ok (.aload_n 0, 1) := by decide +kernel
theorem dX4_saveState_66 : decode cX4_saveState 66 = .ok (.getfield 20, 3) := by decide +kernel
theorem dX4_saveState_69 : decode cX4_saveState 69 = .ok (.aaload, 1) := by decide +kernel
theorem dX4_saveState_70 : decode cX4_saveState 70 = .ok (.aload_n 0, 1) := by decide +kernel
theorem dX4_saveState_71 : decode cX4_saveState 71 = .ok (.getfield 10, 3) := by decide +kernel
theorem dX4_saveState_74 : decode cX4_saveState 74 = .ok (.invokevirtual 186, 3) := by decide +kernel
theorem dX4_saveState_77 : decode cX4_saveState 77 = .ok (.aload_n 0, 1) := by decide +kernel
theorem dX4_saveState_78 : decode cX4_saveState 78 = .ok (.dup, 1) := by decide +kernel
theorem dX4_saveState_79 : decode cX4_saveState 79 = .ok (.getfield 20, 3) := by decide +kernel
theorem dX4_saveState_82 : decode cX4_saveState 82 = .ok (.iconst 1, 1) := by decide +kernel
theorem dX4_saveState_83 : decode cX4_saveState 83 = .ok (.iadd, 1) := by decide +kernel
theorem dX4_saveState_84 : decode cX4_saveState 84 = .ok (.putfield 20, 3) := by decide +kernel
theorem dX4_saveState_87 : decode cX4_saveState 87 = .ok (.return_, 1) := by decide +kernel
set_option maxRecDepth 20000 in
theorem ggX4_bringIn_X1_place : GoodIn wsX4_bringIn wsX1_place := goodIn_r _ [10, 11, 12, 3, 4, 5, 13, 14, 15, 9, 16, 17, 18, 19, 20, 21, 22, 23, 24, 25, 26, 34, 35, 36, 37, 38, 39] (by decide +kernel) (by decide +kernel)
set_option maxRecDepth 20000 in
theorem gX4_bringIn_X1_place : GoodIn wsX4_bringIn (wsV RX4 294 RX1 yX1_place wsX1_place) := goodIn_app (goodIn_of _ (by decide +kernel)) ggX4_bringIn_X1_place
set_option maxRecDepth 20000 in
theorem ggX4_bringIn_X1_fill : GoodIn wsX4_bringIn wsX1_fill := goodIn_r _ [30, 12, 3, 4, 5, 11, 21, 26, 31, 22, 23, 24, 9, 25, 34, 35, 36, 37, 38, 39] (by decide +kernel) (by decide +kernel)
set_option maxRecDepth 20000 in
theorem gX4_bringIn_X1_fill : GoodIn wsX4_bringIn (wsV RX4 297 RX1 yX1_fill wsX1_fill) := goodIn_app (goodIn_of _ (by decide +kernel)) ggX4_bringIn_X1_fill
theorem dX4_bringIn_0 : decode cX4_bringIn 0 = .ok (.iload_n 3, 1) := by decide +kernel
theorem dX4_bringIn_1 : decode cX4_bringIn 1 = .ok (.aload_n 2, 1) := by decide +kernel
theorem dX4_bringIn_2 : decode cX4_bringIn 2 = .ok (.getfield 75, 3) := by decide +kernel
theorem dX4_bringIn_5 : decode cX4_bringIn 5 = .ok (.aload_n 1, 1) := by decide +kernel
theorem dX4_bringIn_6 : decode cX4_bringIn 6 = .ok (.invokevirtual 294, 3) := by decide +kernel
theorem dX4_bringIn_9 : decode cX4_bringIn 9 = .ok (.invokestatic 257, 3) := by decide +kernel
theorem dX4_bringIn_12 : decode cX4_bringIn 12 = .ok (.invokestatic 257, 3) := by decide +kernel
theorem dX4_bringIn_15 : decode cX4_bringIn 15 = .ok (.istore 4, 2) := by decide +kernel
theorem dX4_bringIn_17 : decode cX4_bringIn 17 = .ok (.aload_n 2, 1) := by decide +kernel
theorem dX4_bringIn_18 : decode cX4_bringIn 18 = .ok (.dup, 1) := by decide +kernel
theorem dX4_bringIn_19 : decode cX4_bringIn 19 = .ok (.getfield 75, 3) := by decide +kernel
theorem dX4_bringIn_22 : decode cX4_bringIn 22 = .ok (.iload 4, 2) := by decide +kernel
theorem dX4_bringIn_24 : decode cX4_bringIn 24 = .ok (.isub, 1) := by decide +kernel
theorem dX4_bringIn_25 : decode cX4_bringIn 25 = .ok (.putfield 75, 3) := by decide +kernel
theorem dX4_bringIn_28 : decode cX4_bringIn 28 = .ok (.aload_n 1, 1) := by decide +kernel
theorem dX4_bringIn_29 : decode cX4_bringIn 29 = .ok (.iload 4, 2) := by decide +kernel
theorem dX4_bringIn_31 : decode cX4_bringIn 31 = .ok (.invokevirtual 297, 3) := by decide +kernel
theorem dX4_bringIn_34 : decode cX4_bringIn 34 = .ok (.iload 4, 2) := by decide +kernel
theorem dX4_bringIn_36 : decode cX4_bringIn 36 = .ok (.ireturn, 1) := by decide +kernel
set_option maxRecDepth 20000 in
theorem ggX4_letOut_X1_total : GoodIn wsX4_letOut wsX1_total := goodIn_r _ [7, 8, 9, 10, 6, 11, 12, 13, 76, 77, 78, 79, 80, 81] (by decide +kernel) (by decide +kernel)
set_option maxRecDepth 20000 in
theorem gX4_letOut_X1_total : GoodIn wsX4_letOut (wsV RX4 190 RX1 yX1_total wsX1_total) := goodIn_app (goodIn_of _ (by decide +kernel)) ggX4_letOut_X1_total
set_option maxRecDepth 20000 in
theorem ggX4_letOut_X4_pour : GoodIn wsX4_letOut wsX4_pour := goodIn_r _ [18, 19, 20, 21, 17, 22, 23, 24, 25, 26, 27, 28, 29, 30, 31, 32, 33, 34, 35, 36, 37, 38, 39, 40, 1, 41, 42, 43, 44, 45, 46, 47, 48, 49, 50, 51, 52, 53, 54, 55, 6, 56, 13, 12, 57, 58, 76, 77, 78, 79, 80, 81, 82, 83, 59, 60, 61, 62, 63, 64, 65, 66, 67, 68, 69, 70, 71, 72, 73, 74, 75] (by decide +kernel) (by decide +kernel)
set_option maxRecDepth 20000 in
theorem gX4_letOut_X4_pour : GoodIn wsX4_letOut (wsV RX4 244 RX4 yX4_pour wsX4_pour) := goodIn_app (goodIn_of _ (by decide +kernel)) ggX4_letOut_X4_pour
theorem dX4_letOut_0 : decode cX4_letOut 0 = .ok (.aload_n 1, 1) := by decide +kernel
theorem dX4_letOut_1 : decode cX4_letOut 1 = .ok (.invokevirtual 190, 3) := by decide +kernel
theorem dX4_letOut_4 : decode cX4_letOut 4 = .ok (.istore 4, 2) := by decide +kernel
theorem dX4_letOut_6 : decode cX4_letOut 6 = .ok (.aload_n 0, 1) := by decide +kernel
theorem dX4_letOut_7 : decode cX4_letOut 7 = .ok (.aload_n 1, 1) := by decide +kernel
theorem dX4_letOut_8 : decode cX4_letOut 8 = .ok (.aload_n 2, 1) := by decide +kernel
theorem dX4_letOut_9 : decode cX4_letOut 9 = .ok (.iload_n 3, 1) := by decide +kernel
theorem dX4_letOut_10 : decode cX4_letOut 10 = .ok (.invokevirtual 244, 3) := by decide +kernel
theorem dX4_letOut_13 : decode cX4_letOut 13 = .ok (.istore 5, 2) := by decide +kernel
theorem dX4_letOut_15 : decode cX4_letOut 15 = .ok (.aload_n 0, 1) := by decide +kernel
theorem dX4_letOut_16 : decode cX4_letOut 16 = .ok (.getfield 10, 3) := by decide +kernel
theorem dX4_letOut_19 : decode cX4_letOut 19 = .ok (.dup, 1) := by decide +kernel
theorem dX4_letOut_20 : decode cX4_letOut 20 = .ok (.getfield 222, 3) := by decide +kernel
theorem dX4_letOut_23 : decode cX4_letOut 23 = .ok (.iload 4, 2) := by decide +kernel
theorem dX4_letOut_25 : decode cX4_letOut 25 = .ok (.aload_n 1, 1) := by decide +kernel
theorem dX4_letOut_26 : decode cX4_letOut 26 = .ok (.invokevirtual 190, 3) := by decide +kernel
theorem dX4_letOut_29 : decode cX4_letOut 29 = .ok (.isub, 1) := by decide +kernel
theorem dX4_letOut_30 : decode cX4_letOut 30 = .ok (.iload 5, 2) := by decide +kernel
theorem dX4_letOut_32 : decode cX4_letOut 32 = .ok (.isub, 1) := by decide +kernel
theorem dX4_letOut_33 : decode cX4_letOut 33 = .ok (.iadd, 1) := by decide +kernel
theorem dX4_letOut_34 : decode cX4_letOut 34 = .ok (.putfield 222, 3) := by decide +kernel
theorem dX4_letOut_37 : decode cX4_letOut 37 = .ok (.iload 5, 2) := by decide +kernel
theorem dX4_letOut_39 : decode cX4_letOut 39 = .ok (.ireturn, 1) := by decide +kernel
set_option maxRecDepth 20000 in
theorem ggX4_pour_X4_pourForHour : GoodIn wsX4_pour wsX4_pourForHour := goodIn_r _ [5, 6, 7, 8, 9, 10, 11, 12, 13, 14, 15, 16, 17, 4, 18, 19, 20, 21, 22, 23, 24, 25, 26, 27, 28, 29, 30, 31, 32, 33, 34, 35, 36, 37, 38, 39, 40, 41, 42, 43, 44, 45, 46, 47, 48, 49, 50, 51, 52, 53, 54, 55, 56, 57, 58, 59, 60, 61, 62, 63, 64, 65, 66, 67, 68, 69, 70] (by decide +kernel) (by decide +kernel)
set_option maxRecDepth 20000 in
theorem gX4_pour_X4_pourForHour : GoodIn wsX4_pour (wsV RX4 301 RX4 yX4_pourForHour wsX4_pourForHour) := goodIn_app (goodIn_of _ (by decide +kernel)) ggX4_pour_X4_pourForHour
theorem dX4_pour_0 : decode cX4_pour 0 = .ok (.iconst 0, 1) := by decide +kernel
theorem dX4_pour_1 : decode cX4_pour 1 = .ok (.istore 4, 2) := by decide +kernel
theorem dX4_pour_3 : decode cX4_pour 3 = .ok (.iconst 0, 1) := by decide +kernel
theorem dX4_pour_4 : decode cX4_pour 4 = .ok (.istore 5, 2) := by decide +kernel
theorem dX4_pour_6 : decode cX4_pour 6 = .ok (.iload 5, 2) := by decide +kernel
theorem dX4_pour_8 : decode cX4_pour 8 = .ok (.iload_n 3, 1) := by decide +kernel
theorem dX4_pour_9 : decode cX4_pour 9 = .ok (.if_icmp .ge 20, 3) := by decide +kernel
theorem dX4_pour_12 : decode cX4_pour 12 = .ok (.iload 4, 2) := by decide +kernel
theorem dX4_pour_14 : decode cX4_pour 14 = .ok (.aload_n 0, 1) := by decide +kernel
theorem dX4_pour_15 : decode cX4_pour 15 = .ok (.aload_n 1, 1) := by decide +kernel
theorem dX4_pour_16 : decode cX4_pour 16 = .ok (.aload_n 2, 1) := by decide +kernel
theorem dX4_pour_17 : decode cX4_pour 17 = .ok (.invokevirtual 301, 3) := by decide +kernel
theorem dX4_pour_20 : decode cX4_pour 20 = .ok (.iadd, 1) := by decide +kernel
theorem dX4_pour_21 : decode cX4_pour 21 = .ok (.istore 4, 2) := by decide +kernel
theorem dX4_pour_23 : decode cX4_pour 23 = .ok (.iinc 5 1, 3) := by decide +kernel
theorem dX4_pour_26 : decode cX4_pour 26 = .ok (.goto (-20), 3) := by decide +kernel
theorem dX4_pour_29 : decode cX4_pour 29 = .ok (.iload 4, 2) := by decide +kernel
theorem dX4_pour_31 : decode cX4_pour 31 = .ok (.ireturn, 1) := by decide +kernel
set_option maxRecDepth 20000 in
theorem ggX4_pourForHour_X4_outInHour : GoodIn wsX4_pourForHour wsX4_outInHour := goodIn_r _ [14, 1, 15, 16, 17, 18, 13, 19, 20, 21, 42, 43, 44, 45, 46, 47, 50, 51, 52, 53, 54, 55, 56, 57, 58, 59, 60, 61, 62, 63, 64, 65, 66] (by decide +kernel) (by decide +kernel)
set_option maxRecDepth 20000 in
theorem gX4_pourForHour_X4_outInHour : GoodIn wsX4_pourForHour (wsV RX4 193 RX4 yX4_outInHour wsX4_outInHour) := goodIn_app (goodIn_of _ (by decide +kernel)) ggX4_pourForHour_X4_outInHour
set_option maxRecDepth 20000 in
theorem ggX4_pourForHour_X0_room : GoodIn wsX4_pourForHour wsX0_room := goodIn_r _ [26, 27, 28, 48, 49] (by decide +kernel) (by decide +kernel)
set_option maxRecDepth 20000 in
theorem gX4_pourForHour_X0_room : GoodIn wsX4_pourForHour (wsV RX4 233 RX0 yX0_room wsX0_room) := goodIn_app (goodIn_of _ (by decide +kernel)) ggX4_pourForHour_X0_room
set_option maxRecDepth 20000 in
theorem ggX4_pourForHour_X4_dustOf : GoodIn wsX4_pourForHour wsX4_dustOf := goodIn_r _ [32, 20, 21, 50, 51, 52, 53, 54, 55, 56, 57, 58, 59, 60, 61, 62, 63, 64, 65, 66] (by decide +kernel) (by decide +kernel)
set_option maxRecDepth 20000 in
theorem gX4_pourForHour_X4_dustOf : GoodIn wsX4_pourForHour (wsV RX4 305 RX4 yX4_dustOf wsX4_dustOf) := goodIn_app (goodIn_of _ (by decide +kernel)) ggX4_pourForHour_X4_dustOf
set_option maxRecDepth 20000 in
theorem ggX4_pourForHour_X1_takeFromLowest : GoodIn wsX4_pourForHour wsX1_takeFromLowest := goodIn_r _ [37, 38, 39, 40, 41, 42, 43, 44, 45, 46, 47] (by decide +kernel) (by decide +kernel)
set_option maxRecDepth 20000 in
theorem gX4_pourForHour_X1_takeFromLowest : GoodIn wsX4_pourForHour (wsV RX4 308 RX1 yX1_takeFromLowest wsX1_takeFromLowest) := goodIn_app (goodIn_of _ (by decide +kernel)) ggX4_pourForHour_X1_takeFromLowest
theorem dX4_pourForHour_0 : decode cX4_pourForHour 0 = .ok (.aload_n 1, 1) := by decide +kernel
theorem dX4_pourForHour_1 : decode cX4_pourForHour 1 = .ok (.getfield 125, 3) := by decide +kernel
theorem dX4_pourForHour_4 : decode cX4_pourForHour 4 = .ok (.ifCond .eq 11, 3) := by decide +kernel
theorem dX4_pourForHour_7 : decode cX4_pourForHour 7 = .ok (.aload_n 1, 1) := by decide +kernel
theorem dX4_pourForHour_8 : decode cX4_pourForHour 8 = .ok (.getfield 141, 3) := by decide +kernel
theorem dX4_pourForHour_11 : decode cX4_pourForHour 11 = .ok (.iconst 2, 1) := by decide +kernel
theorem dX4_pourForHour_12 : decode cX4_pourForHour 12 = .ok (.if_icmp .ne 5, 3) := by decide +kernel
theorem dX4_pourForHour_15 : decode cX4_pourForHour 15 = .ok (.iconst 0, 1) := by decide +kernel
theorem dX4_pourForHour_16 : decode cX4_pourForHour 16 = .ok (.ireturn, 1) := by decide +kernel
theorem dX4_pourForHour_17 : decode cX4_pourForHour 17 = .ok (.aload_n 0, 1) := by decide +kernel
theorem dX4_pourForHour_18 : decode cX4_pourForHour 18 = .ok (.aload_n 1, 1) := by decide +kernel
theorem dX4_pourForHour_19 : decode cX4_pourForHour 19 = .ok (.aload_n 1, 1) := by decide +kernel
theorem dX4_pourForHour_20 : decode cX4_pourForHour 20 = .ok (.getfield 111, 3) := by decide +kernel
theorem dX4_pourForHour_23 : decode cX4_pourForHour 23 = .ok (.invokevirtual 193, 3) := by decide +kernel
theorem dX4_pourForHour_26 : decode cX4_pourForHour 26 = .ok (.aload_n 1, 1) := by decide +kernel
theorem dX4_pourForHour_27 : decode cX4_pourForHour 27 = .ok (.getfield 201, 3) := by decide +kernel
theorem dX4_pourForHour_30 : decode cX4_pourForHour 30 = .ok (.iconst 0, 1) := by decide +kernel
theorem dX4_pourForHour_31 : decode cX4_pourForHour 31 = .ok (.iaload, 1) := by decide +kernel
theorem dX4_pourForHour_32 : decode cX4_pourForHour 32 = .ok (.aload_n 2, 1) := by decide +kernel
theorem dX4_pourForHour_33 : decode cX4_pourForHour 33 = .ok (.invokevirtual 233, 3) := by decide +kernel
theorem dX4_pourForHour_36 : decode cX4_pourForHour 36 = .ok (.invokestatic 257, 3) := by decide +kernel
theorem dX4_pourForHour_39 : decode cX4_pourForHour 39 = .ok (.invokestatic 257, 3) := by decide +kernel
theorem dX4_pourForHour_42 : decode cX4_pourForHour 42 = .ok (.istore_n 3, 1) := by decide +kernel
theorem dX4_pourForHour_43 : decode cX4_pourForHour 43 = .ok (.iload_n 3, 1) := by decide +kernel
theorem dX4_pourForHour_44 : decode cX4_pourForHour 44 = .ok (.aload_n 0, 1) := by decide +kernel
theorem dX4_pourForHour_45 : decode cX4_pourForHour 45 = .ok (.iload_n 3, 1) := by decide +kernel
theorem dX4_pourForHour_46 : decode cX4_pourForHour 46 = .ok (.invokevirtual 305, 3) := by decide +kernel
theorem dX4_pourForHour_49 : decode cX4_pourForHour 49 = .ok (.isub, 1) := by decide +kernel
theorem dX4_pourForHour_50 : decode cX4_pourForHour 50 = .ok (.istore 4, 2) := by decide +kernel
theorem dX4_pourForHour_52 : decode cX4_pourForHour 52 = .ok (.aload_n 1, 1) := by decide +kernel
theorem dX4_pourForHour_53 : decode cX4_pourForHour 53 = .ok (.iload_n 3, 1) := by decide +kernel
theorem dX4_pourForHour_54 : decode cX4_pourForHour 54 = .ok (.invokevirtual 308, 3) := by decide +kernel
theorem dX4_pourForHour_57 : decode cX4_pourForHour 57 = .ok (.aload_n 2, 1) := by decide +kernel
theorem dX4_pourForHour_58 : decode cX4_pourForHour 58 = .ok (.dup, 1) := by decide +kernel
theorem dX4_pourForHour_59 : decode cX4_pourForHour 59 = .ok (.getfield 75, 3) := by decide +kernel
theorem dX4_pourForHour_62 : decode cX4_pourForHour 62 = .ok (.iload 4, 2) := by decide +kernel
theorem dX4_pourForHour_64 : decode cX4_pourForHour 64 = .ok (.iadd, 1) := by decide +kernel
theorem dX4_pourForHour_65 : decode cX4_pourForHour 65 = .ok (.putfield 75, 3) := by decide +kernel
theorem dX4_pourForHour_68 : decode cX4_pourForHour 68 = .ok (.iload 4, 2) := by decide +kernel
theorem dX4_pourForHour_70 : decode cX4_pourForHour 70 = .ok (.ireturn, 1) := by decide +kernel
theorem dX4_dustOf_0 : decode cX4_dustOf 0 = .ok (.aload_n 0, 1) := by decide +kernel
theorem dX4_dustOf_1 : decode cX4_dustOf 1 = .ok (.getfield 10, 3) := by decide +kernel
theorem dX4_dustOf_4 : decode cX4_dustOf 4 = .ok (.getfield 117, 3) := by decide +kernel
theorem dX4_dustOf_7 : decode cX4_dustOf 7 = .ok (.iconst 2, 1) := by decide +kernel
theorem dX4_dustOf_8 : decode cX4_dustOf 8 = .ok (.iaload, 1) := by decide +kernel
theorem dX4_dustOf_9 : decode cX4_dustOf 9 = .ok (.istore_n 2, 1) := by decide +kernel
theorem dX4_dustOf_10 : decode cX4_dustOf 10 = .ok (.iload_n 2, 1) := by decide +kernel
theorem dX4_dustOf_11 : decode cX4_dustOf 11 = .ok (.ifCond .le 9, 3) := by decide +kernel
theorem dX4_dustOf_14 : decode cX4_dustOf 14 = .ok (.iload_n 1, 1) := by decide +kernel
theorem dX4_dustOf_15 : decode cX4_dustOf 15 = .ok (.iload_n 2, 1) := by decide +kernel
theorem dX4_dustOf_16 : decode cX4_dustOf 16 = .ok (.idiv, 1) := by decide +kernel
theorem dX4_dustOf_17 : decode cX4_dustOf 17 = .ok (.goto 4, 3) := by decide +kernel
theorem dX4_dustOf_20 : decode cX4_dustOf 20 = .ok (.iconst 0, 1) := by decide +kernel
theorem dX4_dustOf_21 : decode cX4_dustOf 21 = .ok (.ireturn, 1) := by decide +kernel
set_option maxRecDepth 20000 in
theorem ggX4_outInHour_X4_hardnessAt : GoodIn wsX4_outInHour wsX4_hardnessAt := goodIn_r _ [7, 8, 9, 16, 17, 18, 19, 20, 21, 22, 23, 24, 25, 26, 27, 28, 29, 30, 31, 32] (by decide +kernel) (by decide +kernel)
set_option maxRecDepth 20000 in
theorem gX4_outInHour_X4_hardnessAt : GoodIn wsX4_outInHour (wsV RX4 206 RX4 yX4_hardnessAt wsX4_hardnessAt) := goodIn_app (goodIn_of _ (by decide +kernel)) ggX4_outInHour_X4_hardnessAt
theorem dX4_outInHour_0 : decode cX4_outInHour 0 = .ok (.aload_n 1, 1) := by decide +kernel
theorem dX4_outInHour_1 : decode cX4_outInHour 1 = .ok (.getfield 125, 3) := by decide +kernel
theorem dX4_outInHour_4 : decode cX4_outInHour 4 = .ok (.ifCond .ne 5, 3) := by decide +kernel
theorem dX4_outInHour_7 : decode cX4_outInHour 7 = .ok (.iconst 0, 1) := by decide +kernel
theorem dX4_outInHour_8 : decode cX4_outInHour 8 = .ok (.ireturn, 1) := by decide +kernel
theorem dX4_outInHour_9 : decode cX4_outInHour 9 = .ok (.aload_n 0, 1) := by decide +kernel
theorem dX4_outInHour_10 : decode cX4_outInHour 10 = .ok (.aload_n 1, 1) := by decide +kernel
theorem dX4_outInHour_11 : decode cX4_outInHour 11 = .ok (.getfield 203, 3) := by decide +kernel
theorem dX4_outInHour_14 : decode cX4_outInHour 14 = .ok (.iconst 0, 1) := by decide +kernel
theorem dX4_outInHour_15 : decode cX4_outInHour 15 = .ok (.iaload, 1) := by decide +kernel
theorem dX4_outInHour_16 : decode cX4_outInHour 16 = .ok (.invokevirtual 206, 3) := by decide +kernel
theorem dX4_outInHour_19 : decode cX4_outInHour 19 = .ok (.lookupswitch 53 #[(0, 25), (1, 38)], 25) := by decide +kernel
theorem dX4_outInHour_44 : decode cX4_outInHour 44 = .ok (.iload_n 2, 1) := by decide +kernel
theorem dX4_outInHour_45 : decode cX4_outInHour 45 = .ok (.ifCond .ne 7, 3) := by decide +kernel
theorem dX4_outInHour_48 : decode cX4_outInHour 48 = .ok (.iconst 5, 1) := by decide +kernel
theorem dX4_outInHour_49 : decode cX4_outInHour 49 = .ok (.goto 7, 3) := by decide +kernel
theorem dX4_outInHour_52 : decode cX4_outInHour 52 = .ok (.bipush 40, 2) := by decide +kernel
theorem dX4_outInHour_54 : decode cX4_outInHour 54 = .ok (.iload_n 2, 1) := by decide +kernel
theorem dX4_outInHour_55 : decode cX4_outInHour 55 = .ok (.imul, 1) := by decide +kernel
theorem dX4_outInHour_56 : decode cX4_outInHour 56 = .ok (.ireturn, 1) := by decide +kernel
theorem dX4_outInHour_57 : decode cX4_outInHour 57 = .ok (.iload_n 2, 1) := by decide +kernel
theorem dX4_outInHour_58 : decode cX4_outInHour 58 = .ok (.ifCond .ne 7, 3) := by decide +kernel
theorem dX4_outInHour_61 : decode cX4_outInHour 61 = .ok (.iconst 0, 1) := by decide +kernel
theorem dX4_outInHour_62 : decode cX4_outInHour 62 = .ok (.goto 9, 3) := by decide +kernel
theorem dX4_outInHour_65 : decode cX4_outInHour 65 = .ok (.bipush 20, 2) := by decide +kernel
theorem dX4_outInHour_67 : decode cX4_outInHour 67 = .ok (.iload_n 2, 1) := by decide +kernel
theorem dX4_outInHour_68 : decode cX4_outInHour 68 = .ok (.iconst 1, 1) := by decide +kernel
theorem dX4_outInHour_69 : decode cX4_outInHour 69 = .ok (.isub, 1) := by decide +kernel
theorem dX4_outInHour_70 : decode cX4_outInHour 70 = .ok (.imul, 1) := by decide +kernel
theorem dX4_outInHour_71 : decode cX4_outInHour 71 = .ok (.ireturn, 1) := by decide +kernel
theorem dX4_outInHour_72 : decode cX4_outInHour 72 = .ok (.iload_n 2, 1) := by decide +kernel
theorem dX4_outInHour_73 : decode cX4_outInHour 73 = .ok (.iconst 4, 1) := by decide +kernel
theorem dX4_outInHour_74 : decode cX4_outInHour 74 = .ok (.if_icmp .ne 12, 3) := by decide +kernel
theorem dX4_outInHour_77 : decode cX4_outInHour 77 = .ok (.bipush 10, 2) := by decide +kernel
theorem dX4_outInHour_79 : decode cX4_outInHour 79 = .ok (.iload_n 2, 1) := by decide +kernel
theorem dX4_outInHour_80 : decode cX4_outInHour 80 = .ok (.iconst 3, 1) := by decide +kernel
theorem dX4_outInHour_81 : decode cX4_outInHour 81 = .ok (.isub, 1) := by decide +kernel
theorem dX4_outInHour_82 : decode cX4_outInHour 82 = .ok (.imul, 1) := by decide +kernel
theorem dX4_outInHour_83 : decode cX4_outInHour 83 = .ok (.goto 4, 3) := by decide +kernel
theorem dX4_outInHour_86 : decode cX4_outInHour 86 = .ok (.iconst 0, 1) := by decide +kernel
theorem dX4_outInHour_87 : decode cX4_outInHour 87 = .ok (.ireturn, 1) := by decide +kernel
theorem dX4_hardnessAt_0 : decode cX4_hardnessAt 0 = .ok (.aload_n 0, 1) := by decide +kernel
theorem dX4_hardnessAt_1 : decode cX4_hardnessAt 1 = .ok (.getfield 10, 3) := by decide +kernel
theorem dX4_hardnessAt_4 : decode cX4_hardnessAt 4 = .ok (.getfield 117, 3) := by decide +kernel
theorem dX4_hardnessAt_7 : decode cX4_hardnessAt 7 = .ok (.iconst 1, 1) := by decide +kernel
theorem dX4_hardnessAt_8 : decode cX4_hardnessAt 8 = .ok (.iaload, 1) := by decide +kernel
theorem dX4_hardnessAt_9 : decode cX4_hardnessAt 9 = .ok (.istore_n 2, 1) := by decide +kernel
theorem dX4_hardnessAt_10 : decode cX4_hardnessAt 10 = .ok (.iload_n 1, 1) := by decide +kernel
theorem dX4_hardnessAt_11 : decode cX4_hardnessAt 11 = .ok (.iload_n 2, 1) := by decide +kernel
theorem dX4_hardnessAt_12 : decode cX4_hardnessAt 12 = .ok (.if_icmp .gt 5, 3) := by decide +kernel
theorem dX4_hardnessAt_15 : decode cX4_hardnessAt 15 = .ok (.iconst 0, 1) := by decide +kernel
theorem dX4_hardnessAt_16 : decode cX4_hardnessAt 16 = .ok (.ireturn, 1) := by decide +kernel
theorem dX4_hardnessAt_17 : decode cX4_hardnessAt 17 = .ok (.iload_n 1, 1) := by decide +kernel
theorem dX4_hardnessAt_18 : decode cX4_hardnessAt 18 = .ok (.iconst 2, 1) := by decide +kernel
theorem dX4_hardnessAt_19 : decode cX4_hardnessAt 19 = .ok (.iload_n 2, 1) := by decide +kernel
theorem dX4_hardnessAt_20 : decode cX4_hardnessAt 20 = .ok (.imul, 1) := by decide +kernel
theorem dX4_hardnessAt_21 : decode cX4_hardnessAt 21 = .ok (.if_icmp .gt 7, 3) := by decide +kernel
theorem dX4_hardnessAt_24 : decode cX4_hardnessAt 24 = .ok (.iconst 1, 1) := by decide +kernel
theorem dX4_hardnessAt_25 : decode cX4_hardnessAt 25 = .ok (.goto 4, 3) := by decide +kernel
theorem dX4_hardnessAt_28 : decode cX4_hardnessAt 28 = .ok (.iconst 2, 1) := by decide +kernel
theorem dX4_hardnessAt_29 : decode cX4_hardnessAt 29 = .ok (.ireturn, 1) := by decide +kernel
set_option maxRecDepth 20000 in
theorem ggX4_softTonnes_X4_hardnessAt : GoodIn wsX4_softTonnes wsX4_hardnessAt := goodIn_r _ [8, 9, 10, 17, 18, 19, 20, 21, 22, 23, 24, 25, 26, 27, 28, 29, 30, 31, 32, 33] (by decide +kernel) (by decide +kernel)
set_option maxRecDepth 20000 in
theorem gX4_softTonnes_X4_hardnessAt : GoodIn wsX4_softTonnes (wsV RX4 206 RX4 yX4_hardnessAt wsX4_hardnessAt) := goodIn_app (goodIn_of _ (by decide +kernel)) ggX4_softTonnes_X4_hardnessAt
theorem dX4_softTonnes_0 : decode cX4_softTonnes 0 = .ok (.iconst 0, 1) := by decide +kernel
theorem dX4_softTonnes_1 : decode cX4_softTonnes 1 = .ok (.istore_n 2, 1) := by decide +kernel
theorem dX4_softTonnes_2 : decode cX4_softTonnes 2 = .ok (.iconst 0, 1) := by decide +kernel
theorem dX4_softTonnes_3 : decode cX4_softTonnes 3 = .ok (.istore_n 3, 1) := by decide +kernel
theorem dX4_softTonnes_4 : decode cX4_softTonnes 4 = .ok (.iload_n 3, 1) := by decide +kernel
theorem dX4_softTonnes_5 : decode cX4_softTonnes 5 = .ok (.aload_n 1, 1) := by decide +kernel
theorem dX4_softTonnes_6 : decode cX4_softTonnes 6 = .ok (.getfield 125, 3) := by decide +kernel
theorem dX4_softTonnes_9 : decode cX4_softTonnes 9 = .ok (.if_icmp .ge 31, 3) := by decide +kernel
theorem dX4_softTonnes_12 : decode cX4_softTonnes 12 = .ok (.aload_n 0, 1) := by decide +kernel
theorem dX4_softTonnes_13 : decode cX4_softTonnes 13 = .ok (.aload_n 1, 1) := by decide +kernel
theorem dX4_softTonnes_14 : decode cX4_softTonnes 14 = .ok (.getfield 203, 3) := by decide +kernel
theorem dX4_softTonnes_17 : decode cX4_softTonnes 17 = .ok (.iload_n 3, 1) := by decide +kernel
theorem dX4_softTonnes_18 : decode cX4_softTonnes 18 = .ok (.iaload, 1) := by decide +kernel
theorem dX4_softTonnes_19 : decode cX4_softTonnes 19 = .ok (.invokevirtual 206, 3) := by decide +kernel
theorem dX4_softTonnes_22 : decode cX4_softTonnes 22 = .ok (.ifCond .ne 12, 3) := by decide +kernel
theorem dX4_softTonnes_25 : decode cX4_softTonnes 25 = .ok (.iload_n 2, 1) := by decide +kernel
theorem dX4_softTonnes_26 : decode cX4_softTonnes 26 = .ok (.aload_n 1, 1) := by decide +kernel
theorem dX4_softTonnes_27 : decode cX4_softTonnes 27 = .ok (.getfield 201, 3) := by decide +kernel
theorem dX4_softTonnes_30 : decode cX4_softTonnes 30 = .ok (.iload_n 3, 1) := by decide +kernel
theorem dX4_softTonnes_31 : decode cX4_softTonnes 31 = .ok (.iaload, 1) := by decide +kernel
theorem dX4_softTonnes_32 : decode cX4_softTonnes 32 = .ok (.iadd, 1) := by decide +kernel
theorem dX4_softTonnes_33 : decode cX4_softTonnes 33 = .ok (.istore_n 2, 1) := by decide +kernel
theorem dX4_softTonnes_34 : decode cX4_softTonnes 34 = .ok (.iinc 3 1, 3) := by decide +kernel
theorem dX4_softTonnes_37 : decode cX4_softTonnes 37 = .ok (.goto (-33), 3) := by decide +kernel
theorem dX4_softTonnes_40 : decode cX4_softTonnes 40 = .ok (.iload_n 2, 1) := by decide +kernel
theorem dX4_softTonnes_41 : decode cX4_softTonnes 41 = .ok (.ireturn, 1) := by decide +kernel
set_option maxRecDepth 20000 in
theorem ggX4_passDays_X4_passDayIn : GoodIn wsX4_passDays wsX4_passDayIn := goodIn_r _ [9, 10, 11, 12, 13, 14, 15, 16, 17, 18, 19, 20, 21, 22, 23, 24, 25, 26, 27, 8, 28, 1, 29, 47, 48, 49, 50, 51, 52, 30, 31, 32, 33, 34, 35, 36, 37, 38, 39, 40, 41, 42, 43, 44, 45, 46] (by decide +kernel) (by decide +kernel)
set_option maxRecDepth 20000 in
theorem gX4_passDays_X4_passDayIn : GoodIn wsX4_passDays (wsV RX4 311 RX4 yX4_passDayIn wsX4_passDayIn) := goodIn_app (goodIn_of _ (by decide +kernel)) ggX4_passDays_X4_passDayIn
theorem dX4_passDays_0 : decode cX4_passDays 0 = .ok (.iconst 0, 1) := by decide +kernel
theorem dX4_passDays_1 : decode cX4_passDays 1 = .ok (.istore_n 2, 1) := by decide +kernel
theorem dX4_passDays_2 : decode cX4_passDays 2 = .ok (.iconst 0, 1) := by decide +kernel
theorem dX4_passDays_3 : decode cX4_passDays 3 = .ok (.istore_n 3, 1) := by decide +kernel
theorem dX4_passDays_4 : decode cX4_passDays 4 = .ok (.iload_n 3, 1) := by decide +kernel
theorem dX4_passDays_5 : decode cX4_passDays 5 = .ok (.iload_n 1, 1) := by decide +kernel
theorem dX4_passDays_6 : decode cX4_passDays 6 = .ok (.if_icmp .ge 54, 3) := by decide +kernel
theorem dX4_passDays_9 : decode cX4_passDays 9 = .ok (.aload_n 0, 1) := by decide +kernel
theorem dX4_passDays_10 : decode cX4_passDays 10 = .ok (.getfield 10, 3) := by decide +kernel
theorem dX4_passDays_13 : decode cX4_passDays 13 = .ok (.dup, 1) := by decide +kernel
theorem dX4_passDays_14 : decode cX4_passDays 14 = .ok (.getfield 213, 3) := by decide +kernel
theorem dX4_passDays_17 : decode cX4_passDays 17 = .ok (.iconst 1, 1) := by decide +kernel
theorem dX4_passDays_18 : decode cX4_passDays 18 = .ok (.iadd, 1) := by decide +kernel
theorem dX4_passDays_19 : decode cX4_passDays 19 = .ok (.putfield 213, 3) := by decide +kernel
theorem dX4_passDays_22 : decode cX4_passDays 22 = .ok (.iconst 0, 1) := by decide +kernel
theorem dX4_passDays_23 : decode cX4_passDays 23 = .ok (.istore 4, 2) := by decide +kernel
theorem dX4_passDays_25 : decode cX4_passDays 25 = .ok (.iload 4, 2) := by decide +kernel
theorem dX4_passDays_27 : decode cX4_passDays 27 = .ok (.iconst 4, 1) := by decide +kernel
theorem dX4_passDays_28 : decode cX4_passDays 28 = .ok (.if_icmp .ge 26, 3) := by decide +kernel
theorem dX4_passDays_31 : decode cX4_passDays 31 = .ok (.iload_n 2, 1) := by decide +kernel
theorem dX4_passDays_32 : decode cX4_passDays 32 = .ok (.aload_n 0, 1) := by decide +kernel
theorem dX4_passDays_33 : decode cX4_passDays 33 = .ok (.aload_n 0, 1) := by decide +kernel
theorem dX4_passDays_34 : decode cX4_passDays 34 = .ok (.getfield 10, 3) := by decide +kernel
theorem dX4_passDays_37 : decode cX4_passDays 37 = .ok (.getfield 94, 3) := by decide +kernel
theorem dX4_passDays_40 : decode cX4_passDays 40 = .ok (.iload 4, 2) := by decide +kernel
theorem dX4_passDays_42 : decode cX4_passDays 42 = .ok (.aaload, 1) := by decide +kernel
theorem dX4_passDays_43 : decode cX4_passDays 43 = .ok (.invokevirtual 311, 3) := by decide +kernel
theorem dX4_passDays_46 : decode cX4_passDays 46 = .ok (.iadd, 1) := by decide +kernel
theorem dX4_passDays_47 : decode cX4_passDays 47 = .ok (.istore_n 2, 1) := by decide +kernel
theorem dX4_passDays_48 : decode cX4_passDays 48 = .ok (.iinc 4 1, 3) := by decide +kernel
theorem dX4_passDays_51 : decode cX4_passDays 51 = .ok (.goto (-26), 3) := by decide +kernel
theorem dX4_passDays_54 : decode cX4_passDays 54 = .ok (.iinc 3 1, 3) := by decide +kernel
theorem dX4_passDays_57 : decode cX4_passDays 57 = .ok (.goto (-53), 3) := by decide +kernel
theorem dX4_passDays_60 : decode cX4_passDays 60 = .ok (.aload_n 0, 1) := by decide +kernel
theorem dX4_passDays_61 : decode cX4_passDays 61 = .ok (.getfield 10, 3) := by decide +kernel
theorem dX4_passDays_64 : decode cX4_passDays 64 = .ok (.dup, 1) := by decide +kernel
theorem dX4_passDays_65 : decode cX4_passDays 65 = .ok (.getfield 228, 3) := by decide +kernel
theorem dX4_passDays_68 : decode cX4_passDays 68 = .ok (.iload_n 2, 1) := by decide +kernel
theorem dX4_passDays_69 : decode cX4_passDays 69 = .ok (.iadd, 1) := by decide +kernel
theorem dX4_passDays_70 : decode cX4_passDays 70 = .ok (.putfield 228, 3) := by decide +kernel
theorem dX4_passDays_73 : decode cX4_passDays 73 = .ok (.iload_n 2, 1) := by decide +kernel
theorem dX4_passDays_74 : decode cX4_passDays 74 = .ok (.ireturn, 1) := by decide +kernel
set_option maxRecDepth 20000 in
theorem ggX4_passDayIn_X1_makeOlder : GoodIn wsX4_passDayIn wsX1_makeOlder := goodIn_r _ [8, 9, 10, 23, 24, 25, 26, 27, 28] (by decide +kernel) (by decide +kernel)
set_option maxRecDepth 20000 in
theorem gX4_passDayIn_X1_makeOlder : GoodIn wsX4_passDayIn (wsV RX4 314 RX1 yX1_makeOlder wsX1_makeOlder) := goodIn_app (goodIn_of _ (by decide +kernel)) ggX4_passDayIn_X1_makeOlder
set_option maxRecDepth 20000 in
theorem ggX4_passDayIn_X1_canGetArch : GoodIn wsX4_passDayIn wsX1_canGetArch := goodIn_r _ [14, 9, 15, 23, 24, 25, 26, 27, 28] (by decide +kernel) (by decide +kernel)
set_option maxRecDepth 20000 in
theorem gX4_passDayIn_X1_canGetArch : GoodIn wsX4_passDayIn (wsV RX4 251 RX1 yX1_canGetArch wsX1_canGetArch) := goodIn_app (goodIn_of _ (by decide +kernel)) ggX4_passDayIn_X1_canGetArch
set_option maxRecDepth 20000 in
theorem ggX4_passDayIn_X4_hardnessAt : GoodIn wsX4_passDayIn wsX4_hardnessAt := goodIn_r _ [20, 21, 22, 29, 30, 31, 32, 33, 34, 35, 36, 37, 38, 39, 40, 41, 42, 43, 44, 45] (by decide +kernel) (by decide +kernel)
set_option maxRecDepth 20000 in
theorem gX4_passDayIn_X4_hardnessAt : GoodIn wsX4_passDayIn (wsV RX4 206 RX4 yX4_hardnessAt wsX4_hardnessAt) := goodIn_app (goodIn_of _ (by decide +kernel)) ggX4_passDayIn_X4_hardnessAt
theorem dX4_passDayIn_0 : decode cX4_passDayIn 0 = .ok (.aload_n 1, 1) := by decide +kernel
theorem dX4_passDayIn_1 : decode cX4_passDayIn 1 = .ok (.invokevirtual 314, 3) := by decide +kernel
theorem dX4_passDayIn_4 : decode cX4_passDayIn 4 = .ok (.aload_n 1, 1) := by decide +kernel
theorem dX4_passDayIn_5 : decode cX4_passDayIn 5 = .ok (.invokevirtual 251, 3) := by decide +kernel
theorem dX4_passDayIn_8 : decode cX4_passDayIn 8 = .ok (.ifCond .eq 16, 3) := by decide +kernel
theorem dX4_passDayIn_11 : decode cX4_passDayIn 11 = .ok (.aload_n 0, 1) := by decide +kernel
theorem dX4_passDayIn_12 : decode cX4_passDayIn 12 = .ok (.aload_n 1, 1) := by decide +kernel
theorem dX4_passDayIn_13 : decode cX4_passDayIn 13 = .ok (.getfield 203, 3) := by decide +kernel
theorem dX4_passDayIn_16 : decode cX4_passDayIn 16 = .ok (.iconst 0, 1) := by decide +kernel
theorem dX4_passDayIn_17 : decode cX4_passDayIn 17 = .ok (.iaload, 1) := by decide +kernel
theorem dX4_passDayIn_18 : decode cX4_passDayIn 18 = .ok (.invokevirtual 206, 3) := by decide +kernel
theorem dX4_passDayIn_21 : decode cX4_passDayIn 21 = .ok (.ifCond .ne 5, 3) := by decide +kernel
theorem dX4_passDayIn_24 : decode cX4_passDayIn 24 = .ok (.iconst 0, 1) := by decide +kernel
theorem dX4_passDayIn_25 : decode cX4_passDayIn 25 = .ok (.ireturn, 1) := by decide +kernel
theorem dX4_passDayIn_26 : decode cX4_passDayIn 26 = .ok (.aload_n 1, 1) := by decide +kernel
theorem dX4_passDayIn_27 : decode cX4_passDayIn 27 = .ok (.iconst 1, 1) := by decide +kernel
theorem dX4_passDayIn_28 : decode cX4_passDayIn 28 = .ok (.putfield 141, 3) := by decide +kernel
theorem dX4_passDayIn_31 : decode cX4_passDayIn 31 = .ok (.aload_n 1, 1) := by decide +kernel
theorem dX4_passDayIn_32 : decode cX4_passDayIn 32 = .ok (.iconst 0, 1) := by decide +kernel
theorem dX4_passDayIn_33 : decode cX4_passDayIn 33 = .ok (.putfield 134, 3) := by decide +kernel
theorem dX4_passDayIn_36 : decode cX4_passDayIn 36 = .ok (.iconst 1, 1) := by decide +kernel
theorem dX4_passDayIn_37 : decode cX4_passDayIn 37 = .ok (.ireturn, 1) := by decide +kernel
set_option maxRecDepth 20000 in
theorem ggX4_shakesToBreak_X1_tonnesHeld : GoodIn wsX4_shakesToBreak wsX1_tonnesHeld := goodIn_r _ [13, 14, 15, 16, 17, 12, 18, 19, 20, 21, 22, 23, 24, 25, 26] (by decide +kernel) (by decide +kernel)
set_option maxRecDepth 20000 in
theorem gX4_shakesToBreak_X1_tonnesHeld : GoodIn wsX4_shakesToBreak (wsV RX4 320 RX1 yX1_tonnesHeld wsX1_tonnesHeld) := goodIn_app (goodIn_of _ (by decide +kernel)) ggX4_shakesToBreak_X1_tonnesHeld
theorem dX4_shakesToBreak_0 : decode cX4_shakesToBreak 0 = .ok (.aload_n 1, 1) := by decide +kernel
theorem dX4_shakesToBreak_1 : decode cX4_shakesToBreak 1 = .ok (.getfield 141, 3) := by decide +kernel
theorem dX4_shakesToBreak_4 : decode cX4_shakesToBreak 4 = .ok (.ifCond .ne 5, 3) := by decide +kernel
theorem dX4_shakesToBreak_7 : decode cX4_shakesToBreak 7 = .ok (.iconst 0, 1) := by decide +kernel
theorem dX4_shakesToBreak_8 : decode cX4_shakesToBreak 8 = .ok (.ireturn, 1) := by decide +kernel
theorem dX4_shakesToBreak_9 : decode cX4_shakesToBreak 9 = .ok (.aload_n 1, 1) := by decide +kernel
theorem dX4_shakesToBreak_10 : decode cX4_shakesToBreak 10 = .ok (.invokevirtual 320, 3) := by decide +kernel
theorem dX4_shakesToBreak_13 : decode cX4_shakesToBreak 13 = .ok (.aload_n 0, 1) := by decide +kernel
theorem dX4_shakesToBreak_14 : decode cX4_shakesToBreak 14 = .ok (.getfield 10, 3) := by decide +kernel
theorem dX4_shakesToBreak_17 : decode cX4_shakesToBreak 17 = .ok (.getfield 117, 3) := by decide +kernel
theorem dX4_shakesToBreak_20 : decode cX4_shakesToBreak 20 = .ok (.iconst 3, 1) := by decide +kernel
theorem dX4_shakesToBreak_21 : decode cX4_shakesToBreak 21 = .ok (.iaload, 1) := by decide +kernel
theorem dX4_shakesToBreak_22 : decode cX4_shakesToBreak 22 = .ok (.if_icmp .lt 5, 3) := by decide +kernel
theorem dX4_shakesToBreak_25 : decode cX4_shakesToBreak 25 = .ok (.iconst 1, 1) := by decide +kernel
theorem dX4_shakesToBreak_26 : decode cX4_shakesToBreak 26 = .ok (.ireturn, 1) := by decide +kernel
theorem dX4_shakesToBreak_27 : decode cX4_shakesToBreak 27 = .ok (.iconst 1, 1) := by decide +kernel
theorem dX4_shakesToBreak_28 : decode cX4_shakesToBreak 28 = .ok (.iconst 3, 1) := by decide +kernel
theorem dX4_shakesToBreak_29 : decode cX4_shakesToBreak 29 = .ok (.aload_n 1, 1) := by decide +kernel
theorem dX4_shakesToBreak_30 : decode cX4_shakesToBreak 30 = .ok (.getfield 134, 3) := by decide +kernel
theorem dX4_shakesToBreak_33 : decode cX4_shakesToBreak 33 = .ok (.isub, 1) := by decide +kernel
theorem dX4_shakesToBreak_34 : decode cX4_shakesToBreak 34 = .ok (.invokestatic 317, 3) := by decide +kernel
theorem dX4_shakesToBreak_37 : decode cX4_shakesToBreak 37 = .ok (.ireturn, 1) := by decide +kernel
set_option maxRecDepth 20000 in
theorem ggX4_isMoreUrgent_X1_total : GoodIn wsX4_isMoreUrgent wsX1_total := goodIn_r _ [6, 7, 8, 9, 5, 10, 11, 12, 13, 14, 15, 16, 17, 18] (by decide +kernel) (by decide +kernel)
set_option maxRecDepth 20000 in
theorem gX4_isMoreUrgent_X1_total : GoodIn wsX4_isMoreUrgent (wsV RX4 190 RX1 yX1_total wsX1_total) := goodIn_app (goodIn_of _ (by decide +kernel)) ggX4_isMoreUrgent_X1_total
theorem dX4_isMoreUrgent_0 : decode cX4_isMoreUrgent 0 = .ok (.aload_n 0, 1) := by decide +kernel
theorem dX4_isMoreUrgent_1 : decode cX4_isMoreUrgent 1 = .ok (.getfield 203, 3) := by decide +kernel
theorem dX4_isMoreUrgent_4 : decode cX4_isMoreUrgent 4 = .ok (.iconst 0, 1) := by decide +kernel
theorem dX4_isMoreUrgent_5 : decode cX4_isMoreUrgent 5 = .ok (.iaload, 1) := by decide +kernel
theorem dX4_isMoreUrgent_6 : decode cX4_isMoreUrgent 6 = .ok (.aload_n 1, 1) := by decide +kernel
theorem dX4_isMoreUrgent_7 : decode cX4_isMoreUrgent 7 = .ok (.getfield 203, 3) := by decide +kernel
theorem dX4_isMoreUrgent_10 : decode cX4_isMoreUrgent 10 = .ok (.iconst 0, 1) := by decide +kernel
theorem dX4_isMoreUrgent_11 : decode cX4_isMoreUrgent 11 = .ok (.iaload, 1) := by decide +kernel
theorem dX4_isMoreUrgent_12 : decode cX4_isMoreUrgent 12 = .ok (.if_icmp .eq 24, 3) := by decide +kernel
theorem dX4_isMoreUrgent_15 : decode cX4_isMoreUrgent 15 = .ok (.aload_n 0, 1) := by decide +kernel
theorem dX4_isMoreUrgent_16 : decode cX4_isMoreUrgent 16 = .ok (.getfield 203, 3) := by decide +kernel
theorem dX4_isMoreUrgent_19 : decode cX4_isMoreUrgent 19 = .ok (.iconst 0, 1) := by decide +kernel
theorem dX4_isMoreUrgent_20 : decode cX4_isMoreUrgent 20 = .ok (.iaload, 1) := by decide +kernel
theorem dX4_isMoreUrgent_21 : decode cX4_isMoreUrgent 21 = .ok (.aload_n 1, 1) := by decide +kernel
theorem dX4_isMoreUrgent_22 : decode cX4_isMoreUrgent 22 = .ok (.getfield 203, 3) := by decide +kernel
theorem dX4_isMoreUrgent_25 : decode cX4_isMoreUrgent 25 = .ok (.iconst 0, 1) := by decide +kernel
theorem dX4_isMoreUrgent_26 : decode cX4_isMoreUrgent 26 = .ok (.iaload, 1) := by decide +kernel
theorem dX4_isMoreUrgent_27 : decode cX4_isMoreUrgent 27 = .ok (.if_icmp .le 7, 3) := by decide +kernel
theorem dX4_isMoreUrgent_30 : decode cX4_isMoreUrgent 30 = .ok (.iconst 1, 1) := by decide +kernel
theorem dX4_isMoreUrgent_31 : decode cX4_isMoreUrgent 31 = .ok (.goto 4, 3) := by decide +kernel
theorem dX4_isMoreUrgent_34 : decode cX4_isMoreUrgent 34 = .ok (.iconst 0, 1) := by decide +kernel
theorem dX4_isMoreUrgent_35 : decode cX4_isMoreUrgent 35 = .ok (.ireturn, 1) := by decide +kernel
theorem dX4_isMoreUrgent_36 : decode cX4_isMoreUrgent 36 = .ok (.aload_n 0, 1) := by decide +kernel
theorem dX4_isMoreUrgent_37 : decode cX4_isMoreUrgent 37 = .ok (.invokevirtual 190, 3) := by decide +kernel
theorem dX4_isMoreUrgent_40 : decode cX4_isMoreUrgent 40 = .ok (.aload_n 1, 1) := by decide +kernel
theorem dX4_isMoreUrgent_41 : decode cX4_isMoreUrgent 41 = .ok (.invokevirtual 190, 3) := by decide +kernel
theorem dX4_isMoreUrgent_44 : decode cX4_isMoreUrgent 44 = .ok (.if_icmp .le 7, 3) := by decide +kernel
theorem dX4_isMoreUrgent_47 : decode cX4_isMoreUrgent 47 = .ok (.iconst 1, 1) := by decide +kernel
theorem dX4_isMoreUrgent_48 : decode cX4_isMoreUrgent 48 = .ok (.goto 4, 3) := by decide +kernel
theorem dX4_isMoreUrgent_51 : decode cX4_isMoreUrgent 51 = .ok (.iconst 0, 1) := by decide +kernel
theorem dX4_isMoreUrgent_52 : decode cX4_isMoreUrgent 52 = .ok (.ireturn, 1) := by decide +kernel
theorem dJ9_max_7cf53_0 : decode cJ9_max_7cf53 0 = .ok (.iload_n 0, 1) := by decide +kernel
theorem dJ9_max_7cf53_1 : decode cJ9_max_7cf53 1 = .ok (.iload_n 1, 1) := by decide +kernel
theorem dJ9_max_7cf53_2 : decode cJ9_max_7cf53 2 = .ok (.if_icmp .lt 7, 3) := by decide +kernel
theorem dJ9_max_7cf53_5 : decode cJ9_max_7cf53 5 = .ok (.iload_n 0, 1) := by decide +kernel
theorem dJ9_max_7cf53_6 : decode cJ9_max_7cf53 6 = .ok (.goto 4, 3) := by decide +kernel
theorem dJ9_max_7cf53_9 : decode cJ9_max_7cf53 9 = .ok (.iload_n 1, 1) := by decide +kernel
theorem dJ9_max_7cf53_10 : decode cJ9_max_7cf53 10 = .ok (.ireturn, 1) := by decide +kernel
theorem dJ9_min_7cf53_0 : decode cJ9_min_7cf53 0 = .ok (.iload_n 0, 1) := by decide +kernel
theorem dJ9_min_7cf53_1 : decode cJ9_min_7cf53 1 = .ok (.iload_n 1, 1) := by decide +kernel
theorem dJ9_min_7cf53_2 : decode cJ9_min_7cf53 2 = .ok (.if_icmp .gt 7, 3) := by decide +kernel
theorem dJ9_min_7cf53_5 : decode cJ9_min_7cf53 5 = .ok (.iload_n 0, 1) := by decide +kernel
theorem dJ9_min_7cf53_6 : decode cJ9_min_7cf53 6 = .ok (.goto 4, 3) := by decide +kernel
theorem dJ9_min_7cf53_9 : decode cJ9_min_7cf53 9 = .ok (.iload_n 1, 1) := by decide +kernel
theorem dJ9_min_7cf53_10 : decode cJ9_min_7cf53 10 = .ok (.ireturn, 1) := by decide +kernel
