theorem dL_cell_0 : decode cL_cell 0 = .ok (.iload_n 1, 1) := by decide +kernel
theorem dL_cell_1 : decode cL_cell 1 = .ok (.aload_n 0, 1) := by decide +kernel
theorem dL_cell_2 : decode cL_cell 2 = .ok (.arraylength, 1) := by decide +kernel
theorem dL_cell_3 : decode cL_cell 3 = .ok (.if_icmp .ge 9, 3) := by decide +kernel
theorem dL_cell_6 : decode cL_cell 6 = .ok (.aload_n 0, 1) := by decide +kernel
theorem dL_cell_7 : decode cL_cell 7 = .ok (.iload_n 1, 1) := by decide +kernel
theorem dL_cell_8 : decode cL_cell 8 = .ok (.iaload, 1) := by decide +kernel
theorem dL_cell_9 : decode cL_cell 9 = .ok (.goto 15, 3) := by decide +kernel
theorem dL_cell_12 : decode cL_cell 12 = .ok (.sipush 7919, 3) := by decide +kernel
theorem dL_cell_15 : decode cL_cell 15 = .ok (.iload_n 1, 1) := by decide +kernel
theorem dL_cell_16 : decode cL_cell 16 = .ok (.iconst 3, 1) := by decide +kernel
theorem dL_cell_17 : decode cL_cell 17 = .ok (.iadd, 1) := by decide +kernel
theorem dL_cell_18 : decode cL_cell 18 = .ok (.imul, 1) := by decide +kernel
theorem dL_cell_19 : decode cL_cell 19 = .ok (.iload_n 1, 1) := by decide +kernel
theorem dL_cell_20 : decode cL_cell 20 = .ok (.bipush 11, 2) := by decide +kernel
theorem dL_cell_22 : decode cL_cell 22 = .ok (.iadd, 1) := by decide +kernel
theorem dL_cell_23 : decode cL_cell 23 = .ok (.imul, 1) := by decide +kernel
theorem dL_cell_24 : decode cL_cell 24 = .ok (.ireturn, 1) := by decide +kernel
theorem dL_low_0 : decode cL_low 0 = .ok (.iload_n 0, 1) := by decide +kernel
theorem dL_low_1 : decode cL_low 1 = .ok (.ldc 7, 2) := by decide +kernel
theorem dL_low_3 : decode cL_low 3 = .ok (.iand, 1) := by decide +kernel
theorem dL_low_4 : decode cL_low 4 = .ok (.iload_n 1, 1) := by decide +kernel
theorem dL_low_5 : decode cL_low 5 = .ok (.irem, 1) := by decide +kernel
theorem dL_low_6 : decode cL_low 6 = .ok (.ireturn, 1) := by decide +kernel
set_option maxRecDepth 20000 in
theorem ggL_told_X4_count : GoodIn wsL_told wsX4_count := goodIn_ca (goodIn_r _ [7, 8, 9, 10, 11, 12, 13, 14, 15, 16, 17, 18, 19, 20, 21, 22, 23, 24, 25, 26, 27, 28, 29, 30, 31, 32, 33, 34, 35, 36, 37, 38, 39, 40, 41, 42, 43, 44, 45, 46, 47, 48, 49, 50, 51, 91, 92, 93, 94, 95, 96, 97, 98, 99, 100, 101, 102, 103, 104, 105, 106, 107, 108, 109, 110, 111, 112, 113, 114, 115] (by decide +kernel) (by decide +kernel)) (goodIn_sub (fun _ h => List.mem_cons_of_mem _ (List.mem_append_left _ (List.mem_append_right _ h))) (by decide +kernel))
set_option maxRecDepth 20000 in
theorem gL_told_X4_count : GoodIn wsL_told (wsV RL 12 RX4 yX4_count wsX4_count) := goodIn_app (goodIn_of _ (by decide +kernel)) ggL_told_X4_count
set_option maxRecDepth 20000 in
theorem ggL_told_X4_silo : GoodIn wsL_told wsX4_silo := goodIn_ca (goodIn_ca (goodIn_r _ [55, 56, 57, 8, 9, 10, 58, 59, 60, 61, 62, 63, 64, 6, 65, 66, 26, 27, 28, 29, 30, 31, 32, 33, 34, 35, 67, 68, 69, 70, 71, 72, 73, 74, 75, 17, 91, 92, 93, 94, 95, 96, 97, 98, 99, 100, 101, 102, 103, 104, 105, 106, 107, 108, 109, 110, 111, 112, 113] (by decide +kernel) (by decide +kernel)) (goodIn_sub (fun _ h => List.mem_cons_of_mem _ (List.mem_append_right _ h)) (by decide +kernel))) (goodIn_sub (fun _ h => List.mem_cons_of_mem _ (List.mem_append_left _ (List.mem_append_right _ h))) (by decide +kernel))
set_option maxRecDepth 20000 in
theorem gL_told_X4_silo : GoodIn wsL_told (wsV RL 18 RX4 yX4_silo wsX4_silo) := goodIn_app (goodIn_of _ (by decide +kernel)) ggL_told_X4_silo
set_option maxRecDepth 20000 in
theorem ggL_told_X4_layer : GoodIn wsL_told wsX4_layer := goodIn_ca (goodIn_ca (goodIn_r _ [79, 56, 57, 8, 9, 10, 58, 59, 80, 71, 63, 64, 6, 65, 72, 73, 74, 75, 17, 91, 92, 93, 94, 95, 96, 97, 98, 99, 100, 101, 102, 103, 104, 105, 106, 107, 108, 109, 110, 111, 112, 113] (by decide +kernel) (by decide +kernel)) (goodIn_sub (fun _ h => List.mem_cons_of_mem _ (List.mem_append_right _ h)) (by decide +kernel))) (goodIn_sub (fun _ h => List.mem_cons_of_mem _ (List.mem_append_left _ (List.mem_append_right _ h))) (by decide +kernel))
set_option maxRecDepth 20000 in
theorem gL_told_X4_layer : GoodIn wsL_told (wsV RL 22 RX4 yX4_layer wsX4_layer) := goodIn_app (goodIn_of _ (by decide +kernel)) ggL_told_X4_layer
set_option maxRecDepth 20000 in
theorem ggL_told_X4_shipOf : GoodIn wsL_told wsX4_shipOf := goodIn_ca (goodIn_ca (goodIn_r _ [84, 56, 57, 8, 9, 10, 85, 86, 87, 88, 89, 6, 90, 91, 92, 93, 94, 95, 96, 97, 98, 99, 100, 101, 102, 103, 104, 105, 106, 107, 114, 115] (by decide +kernel) (by decide +kernel)) (goodIn_sub (fun _ h => List.mem_cons_of_mem _ (List.mem_append_right _ h)) (by decide +kernel))) (goodIn_sub (fun _ h => List.mem_cons_of_mem _ (List.mem_append_left _ (List.mem_append_right _ h))) (by decide +kernel))
set_option maxRecDepth 20000 in
theorem gL_told_X4_shipOf : GoodIn wsL_told (wsV RL 26 RX4 yX4_shipOf wsX4_shipOf) := goodIn_app (goodIn_of _ (by decide +kernel)) ggL_told_X4_shipOf
theorem dL_told_0 : decode cL_told 0 = .ok (.ldc2_w 8, 3) := by decide +kernel
theorem dL_told_3 : decode cL_told 3 = .ok (.lstore_n 1, 1) := by decide +kernel
theorem dL_told_4 : decode cL_told 4 = .ok (.iconst 0, 1) := by decide +kernel
theorem dL_told_5 : decode cL_told 5 = .ok (.istore_n 3, 1) := by decide +kernel
theorem dL_told_6 : decode cL_told 6 = .ok (.iload_n 3, 1) := by decide +kernel
theorem dL_told_7 : decode cL_told 7 = .ok (.bipush 14, 2) := by decide +kernel
theorem dL_told_9 : decode cL_told 9 = .ok (.if_icmp .ge 22, 3) := by decide +kernel
theorem dL_told_12 : decode cL_told 12 = .ok (.ldc2_w 10, 3) := by decide +kernel
theorem dL_told_15 : decode cL_told 15 = .ok (.lload_n 1, 1) := by decide +kernel
theorem dL_told_16 : decode cL_told 16 = .ok (.lmul, 1) := by decide +kernel
theorem dL_told_17 : decode cL_told 17 = .ok (.aload_n 0, 1) := by decide +kernel
theorem dL_told_18 : decode cL_told 18 = .ok (.iload_n 3, 1) := by decide +kernel
theorem dL_told_19 : decode cL_told 19 = .ok (.invokevirtual 12, 3) := by decide +kernel
theorem dL_told_22 : decode cL_told 22 = .ok (.i2l, 1) := by decide +kernel
theorem dL_told_23 : decode cL_told 23 = .ok (.ladd, 1) := by decide +kernel
theorem dL_told_24 : decode cL_told 24 = .ok (.lstore_n 1, 1) := by decide +kernel
theorem dL_told_25 : decode cL_told 25 = .ok (.iinc 3 1, 3) := by decide +kernel
theorem dL_told_28 : decode cL_told 28 = .ok (.goto (-22), 3) := by decide +kernel
theorem dL_told_31 : decode cL_told 31 = .ok (.iconst 0, 1) := by decide +kernel
theorem dL_told_32 : decode cL_told 32 = .ok (.istore_n 3, 1) := by decide +kernel
theorem dL_told_33 : decode cL_told 33 = .ok (.iload_n 3, 1) := by decide +kernel
theorem dL_told_34 : decode cL_told 34 = .ok (.iconst 4, 1) := by decide +kernel
theorem dL_told_35 : decode cL_told 35 = .ok (.if_icmp .ge 90, 3) := by decide +kernel
theorem dL_told_38 : decode cL_told 38 = .ok (.iconst 0, 1) := by decide +kernel
theorem dL_told_39 : decode cL_told 39 = .ok (.istore 4, 2) := by decide +kernel
theorem dL_told_41 : decode cL_told 41 = .ok (.iload 4, 2) := by decide +kernel
theorem dL_told_43 : decode cL_told 43 = .ok (.bipush 6, 2) := by decide +kernel
theorem dL_told_45 : decode cL_told 45 = .ok (.if_icmp .ge 24, 3) := by decide +kernel
theorem dL_told_48 : decode cL_told 48 = .ok (.ldc2_w 10, 3) := by decide +kernel
theorem dL_told_51 : decode cL_told 51 = .ok (.lload_n 1, 1) := by decide +kernel
theorem dL_told_52 : decode cL_told 52 = .ok (.lmul, 1) := by decide +kernel
theorem dL_told_53 : decode cL_told 53 = .ok (.aload_n 0, 1) := by decide +kernel
theorem dL_told_54 : decode cL_told 54 = .ok (.iload_n 3, 1) := by decide +kernel
theorem dL_told_55 : decode cL_told 55 = .ok (.iload 4, 2) := by decide +kernel
theorem dL_told_57 : decode cL_told 57 = .ok (.invokevirtual 18, 3) := by decide +kernel
theorem dL_told_60 : decode cL_told 60 = .ok (.i2l, 1) := by decide +kernel
theorem dL_told_61 : decode cL_told 61 = .ok (.ladd, 1) := by decide +kernel
theorem dL_told_62 : decode cL_told 62 = .ok (.lstore_n 1, 1) := by decide +kernel
theorem dL_told_63 : decode cL_told 63 = .ok (.iinc 4 1, 3) := by decide +kernel
theorem dL_told_66 : decode cL_told 66 = .ok (.goto (-25), 3) := by decide +kernel
theorem dL_told_69 : decode cL_told 69 = .ok (.iconst 0, 1) := by decide +kernel
theorem dL_told_70 : decode cL_told 70 = .ok (.istore 4, 2) := by decide +kernel
theorem dL_told_72 : decode cL_told 72 = .ok (.iload 4, 2) := by decide +kernel
theorem dL_told_74 : decode cL_told 74 = .ok (.aload_n 0, 1) := by decide +kernel
theorem dL_told_75 : decode cL_told 75 = .ok (.iload_n 3, 1) := by decide +kernel
theorem dL_told_76 : decode cL_told 76 = .ok (.iconst 1, 1) := by decide +kernel
theorem dL_told_77 : decode cL_told 77 = .ok (.invokevirtual 18, 3) := by decide +kernel
theorem dL_told_80 : decode cL_told 80 = .ok (.if_icmp .ge 39, 3) := by decide +kernel
theorem dL_told_83 : decode cL_told 83 = .ok (.ldc2_w 10, 3) := by decide +kernel
theorem dL_told_86 : decode cL_told 86 = .ok (.ldc2_w 10, 3) := by decide +kernel
theorem dL_told_89 : decode cL_told 89 = .ok (.lload_n 1, 1) := by decide +kernel
theorem dL_told_90 : decode cL_told 90 = .ok (.lmul, 1) := by decide +kernel
theorem dL_told_91 : decode cL_told 91 = .ok (.aload_n 0, 1) := by decide +kernel
theorem dL_told_92 : decode cL_told 92 = .ok (.iload_n 3, 1) := by decide +kernel
theorem dL_told_93 : decode cL_told 93 = .ok (.iload 4, 2) := by decide +kernel
theorem dL_told_95 : decode cL_told 95 = .ok (.iconst 0, 1) := by decide +kernel
theorem dL_told_96 : decode cL_told 96 = .ok (.invokevirtual 22, 3) := by decide +kernel
theorem dL_told_99 : decode cL_told 99 = .ok (.i2l, 1) := by decide +kernel
theorem dL_told_100 : decode cL_told 100 = .ok (.ladd, 1) := by decide +kernel
theorem dL_told_101 : decode cL_told 101 = .ok (.lmul, 1) := by decide +kernel
theorem dL_told_102 : decode cL_told 102 = .ok (.aload_n 0, 1) := by decide +kernel
theorem dL_told_103 : decode cL_told 103 = .ok (.iload_n 3, 1) := by decide +kernel
theorem dL_told_104 : decode cL_told 104 = .ok (.iload 4, 2) := by decide +kernel
theorem dL_told_106 : decode cL_told 106 = .ok (.iconst 1, 1) := by decide +kernel
theorem dL_told_107 : decode cL_told 107 = .ok (.invokevirtual 22, 3) := by decide +kernel
theorem dL_told_110 : decode cL_told 110 = .ok (.i2l, 1) := by decide +kernel
theorem dL_told_111 : decode cL_told 111 = .ok (.ladd, 1) := by decide +kernel
theorem dL_told_112 : decode cL_told 112 = .ok (.lstore_n 1, 1) := by decide +kernel
theorem dL_told_113 : decode cL_told 113 = .ok (.iinc 4 1, 3) := by decide +kernel
theorem dL_told_116 : decode cL_told 116 = .ok (.goto (-44), 3) := by decide +kernel
theorem dL_told_119 : decode cL_told 119 = .ok (.iinc 3 1, 3) := by decide +kernel
theorem dL_told_122 : decode cL_told 122 = .ok (.goto (-89), 3) := by decide +kernel
theorem dL_told_125 : decode cL_told 125 = .ok (.iconst 0, 1) := by decide +kernel
theorem dL_told_126 : decode cL_told 126 = .ok (.istore_n 3, 1) := by decide +kernel
theorem dL_told_127 : decode cL_told 127 = .ok (.iload_n 3, 1) := by decide +kernel
theorem dL_told_128 : decode cL_told 128 = .ok (.bipush 6, 2) := by decide +kernel
theorem dL_told_130 : decode cL_told 130 = .ok (.if_icmp .ge 35, 3) := by decide +kernel
theorem dL_told_133 : decode cL_told 133 = .ok (.ldc2_w 10, 3) := by decide +kernel
theorem dL_told_136 : decode cL_told 136 = .ok (.ldc2_w 10, 3) := by decide +kernel
theorem dL_told_139 : decode cL_told 139 = .ok (.lload_n 1, 1) := by decide +kernel
theorem dL_told_140 : decode cL_told 140 = .ok (.lmul, 1) := by decide +kernel
theorem dL_told_141 : decode cL_told 141 = .ok (.aload_n 0, 1) := by decide +kernel
theorem dL_told_142 : decode cL_told 142 = .ok (.iload_n 3, 1) := by decide +kernel
theorem dL_told_143 : decode cL_told 143 = .ok (.iconst 0, 1) := by decide +kernel
theorem dL_told_144 : decode cL_told 144 = .ok (.invokevirtual 26, 3) := by decide +kernel
theorem dL_told_147 : decode cL_told 147 = .ok (.i2l, 1) := by decide +kernel
theorem dL_told_148 : decode cL_told 148 = .ok (.ladd, 1) := by decide +kernel
theorem dL_told_149 : decode cL_told 149 = .ok (.lmul, 1) := by decide +kernel
theorem dL_told_150 : decode cL_told 150 = .ok (.aload_n 0, 1) := by decide +kernel
theorem dL_told_151 : decode cL_told 151 = .ok (.iload_n 3, 1) := by decide +kernel
theorem dL_told_152 : decode cL_told 152 = .ok (.iconst 1, 1) := by decide +kernel
theorem dL_told_153 : decode cL_told 153 = .ok (.invokevirtual 26, 3) := by decide +kernel
theorem dL_told_156 : decode cL_told 156 = .ok (.i2l, 1) := by decide +kernel
theorem dL_told_157 : decode cL_told 157 = .ok (.ladd, 1) := by decide +kernel
theorem dL_told_158 : decode cL_told 158 = .ok (.lstore_n 1, 1) := by decide +kernel
theorem dL_told_159 : decode cL_told 159 = .ok (.iinc 3 1, 3) := by decide +kernel
theorem dL_told_162 : decode cL_told 162 = .ok (.goto (-35), 3) := by decide +kernel
theorem dL_told_165 : decode cL_told 165 = .ok (.lload_n 1, 1) := by decide +kernel
theorem dL_told_166 : decode cL_told 166 = .ok (.lreturn, 1) := by decide +kernel
set_option maxRecDepth 20000 in
theorem ggL_act_L_low : GoodIn wsL_act wsL_low := goodIn_r _ [4, 5] (by decide +kernel) (by decide +kernel)
set_option maxRecDepth 20000 in
theorem gL_act_L_low : GoodIn wsL_act (va_wsS RL 29 yL_low wsL_low) := goodIn_app (goodIn_of _ (by decide +kernel)) ggL_act_L_low
set_option maxRecDepth 20000 in
theorem ggL_act_X4_ship : GoodIn wsL_act wsX4_ship := goodIn_ca (goodIn_ca (goodIn_r _ [10, 11, 12, 13, 14, 15, 16, 17, 18, 19, 20, 21, 22, 9, 23, 24, 25, 26, 27, 28, 29, 30, 31, 32, 33, 34, 35, 36, 37, 38, 39, 40, 41, 42, 43, 44, 45, 46, 47, 48, 49, 50, 51, 52, 53, 54, 55, 56, 57, 58, 59, 60, 61, 227, 228, 229, 230, 231, 232, 233, 234, 235, 236, 237, 238, 239, 240, 241, 242, 243, 244, 245, 246, 247, 248, 249, 250, 251] (by decide +kernel) (by decide +kernel)) (goodIn_sub (fun _ h => List.mem_cons_of_mem _ (List.mem_append_left _ (List.mem_append_left _ (List.mem_append_right _ h)))) (by decide +kernel))) (goodIn_sub (fun _ h => List.mem_cons_of_mem _ (List.mem_append_left _ (List.mem_append_right _ h))) (by decide +kernel))
set_option maxRecDepth 20000 in
theorem gL_act_X4_ship : GoodIn wsL_act (wsV RL 34 RX4 yX4_ship wsX4_ship) := goodIn_app (goodIn_of _ (by decide +kernel)) ggL_act_X4_ship
set_option maxRecDepth 20000 in
theorem ggL_act_X4_unload : GoodIn wsL_act wsX4_unload := goodIn_ca (goodIn_ca (goodIn_r _ [65, 11, 12, 13, 14, 15, 66, 16, 67, 68, 9, 69, 21, 22, 23, 24, 25, 26, 27, 28, 29, 30, 31, 32, 33, 34, 35, 36, 37, 38, 39, 40, 41, 42, 43, 44, 45, 46, 47, 48, 49, 50, 51, 52, 53, 54, 55, 56, 57, 58, 59, 60, 61, 70, 71, 72, 73, 17, 74, 75, 76, 77, 78, 79, 80, 81, 82, 83, 84, 85, 86, 87, 88, 89, 90, 91, 92, 93, 94, 95, 96, 97, 98, 227, 228, 229, 230, 231, 232, 233, 234, 235, 236, 237, 238, 239, 240, 241, 242, 243, 246, 247, 248, 249, 250, 251, 244, 245] (by decide +kernel) (by decide +kernel)) (goodIn_sub (fun _ h => List.mem_cons_of_mem _ (List.mem_append_left _ (List.mem_append_left _ (List.mem_append_right _ h)))) (by decide +kernel))) (goodIn_sub (fun _ h => List.mem_cons_of_mem _ (List.mem_append_left _ (List.mem_append_right _ h))) (by decide +kernel))
set_option maxRecDepth 20000 in
theorem gL_act_X4_unload : GoodIn wsL_act (wsV RL 37 RX4 yX4_unload wsX4_unload) := goodIn_app (goodIn_of _ (by decide +kernel)) ggL_act_X4_unload
set_option maxRecDepth 20000 in
theorem ggL_act_X4_flow : GoodIn wsL_act wsX4_flow := goodIn_ca (goodIn_ca (goodIn_r _ [102, 11, 12, 13, 14, 15, 66, 16, 67, 68, 9, 69, 21, 22, 23, 24, 25, 26, 27, 28, 29, 30, 31, 32, 33, 34, 35, 36, 37, 38, 39, 40, 41, 42, 43, 44, 45, 46, 47, 48, 49, 50, 51, 52, 53, 54, 55, 56, 57, 58, 59, 60, 61, 103, 104, 105, 106, 107, 108, 84, 85, 86, 87, 88, 89, 90, 109, 110, 111, 112, 113, 114, 115, 116, 117, 118, 119, 120, 74, 75, 76, 77, 17, 121, 122, 123, 124, 125, 126, 127, 128, 129, 130, 131, 132, 133, 134, 135, 136, 137, 138, 139, 140, 141, 142, 227, 228, 229, 230, 231, 232, 233, 234, 235, 236, 237, 238, 239, 240, 241, 242, 243, 246, 247, 248, 249, 250, 251, 244, 245] (by decide +kernel) (by decide +kernel)) (goodIn_sub (fun _ h => List.mem_cons_of_mem _ (List.mem_append_left _ (List.mem_append_left _ (List.mem_append_right _ h)))) (by decide +kernel))) (goodIn_sub (fun _ h => List.mem_cons_of_mem _ (List.mem_append_left _ (List.mem_append_right _ h))) (by decide +kernel))
set_option maxRecDepth 20000 in
theorem gL_act_X4_flow : GoodIn wsL_act (wsV RL 40 RX4 yX4_flow wsX4_flow) := goodIn_app (goodIn_of _ (by decide +kernel)) ggL_act_X4_flow
set_option maxRecDepth 20000 in
theorem ggL_act_X4_count : GoodIn wsL_act wsX4_count := goodIn_ca (goodIn_r _ [146, 13, 14, 15, 147, 107, 19, 20, 148, 149, 130, 28, 150, 151, 152, 33, 153, 35, 154, 84, 85, 47, 86, 87, 88, 89, 90, 51, 49, 155, 156, 157, 158, 36, 159, 160, 161, 162, 163, 164, 165, 166, 167, 168, 169, 227, 228, 229, 230, 231, 232, 233, 234, 235, 236, 237, 238, 239, 240, 241, 242, 243, 246, 247, 248, 249, 250, 251, 244, 245] (by decide +kernel) (by decide +kernel)) (goodIn_sub (fun _ h => List.mem_cons_of_mem _ (List.mem_append_left _ (List.mem_append_right _ h))) (by decide +kernel))
set_option maxRecDepth 20000 in
theorem gL_act_X4_count : GoodIn wsL_act (wsV RL 12 RX4 yX4_count wsX4_count) := goodIn_app (goodIn_of _ (by decide +kernel)) ggL_act_X4_count
set_option maxRecDepth 20000 in
theorem ggL_act_X4_silo : GoodIn wsL_act wsX4_silo := goodIn_ca (goodIn_ca (goodIn_r _ [173, 11, 12, 13, 14, 15, 66, 117, 119, 118, 174, 67, 68, 9, 69, 108, 84, 85, 47, 86, 87, 88, 89, 90, 51, 49, 121, 122, 123, 124, 125, 126, 127, 128, 129, 130, 227, 228, 229, 230, 231, 232, 233, 234, 235, 236, 237, 238, 239, 240, 241, 242, 243, 246, 247, 248, 249, 250, 251] (by decide +kernel) (by decide +kernel)) (goodIn_sub (fun _ h => List.mem_cons_of_mem _ (List.mem_append_left _ (List.mem_append_left _ (List.mem_append_right _ h)))) (by decide +kernel))) (goodIn_sub (fun _ h => List.mem_cons_of_mem _ (List.mem_append_left _ (List.mem_append_right _ h))) (by decide +kernel))
set_option maxRecDepth 20000 in
theorem gL_act_X4_silo : GoodIn wsL_act (wsV RL 18 RX4 yX4_silo wsX4_silo) := goodIn_app (goodIn_of _ (by decide +kernel)) ggL_act_X4_silo
set_option maxRecDepth 20000 in
theorem ggL_act_X4_pads : GoodIn wsL_act wsX4_pads := goodIn_ca (goodIn_ca (goodIn_ca (goodIn_r _ [178, 11, 12, 13, 14, 179, 180, 15, 66, 119, 130, 67, 68, 9, 69, 160, 161, 162, 33, 163, 35, 164, 24, 25, 26, 27, 28, 29, 30, 31, 32, 34, 36, 37, 38, 39, 40, 41, 42, 43, 44, 45, 46, 47, 48, 49, 50, 51, 52, 53, 54, 55, 56, 57, 58, 59, 60, 61, 227, 228, 229, 230, 231, 232, 233, 234, 235, 236, 237, 238, 239, 240, 241, 242, 243, 246, 247, 248, 249, 250, 251, 244, 245] (by decide +kernel) (by decide +kernel)) (goodIn_sub (fun _ h => List.mem_cons_of_mem _ (List.mem_append_left _ (List.mem_append_left _ (List.mem_append_right _ h)))) (by decide +kernel))) (goodIn_sub (fun _ h => List.mem_cons_of_mem _ (List.mem_append_left _ (List.mem_append_right _ h))) (by decide +kernel))) (goodIn_sub (fun _ h => List.mem_cons_of_mem _ (List.mem_append_right _ h)) (by decide +kernel))
set_option maxRecDepth 20000 in
theorem gL_act_X4_pads : GoodIn wsL_act (wsV RL 43 RX4 yX4_pads wsX4_pads) := goodIn_app (goodIn_of _ (by decide +kernel)) ggL_act_X4_pads
set_option maxRecDepth 20000 in
theorem ggL_act_X4_shake : GoodIn wsL_act wsX4_shake := goodIn_ca (goodIn_ca (goodIn_r _ [184, 11, 12, 179, 180, 15, 66, 117, 174, 148, 118, 67, 68, 9, 69, 24, 25, 26, 27, 28, 29, 30, 31, 32, 33, 34, 35, 36, 37, 38, 39, 40, 41, 42, 43, 44, 45, 46, 47, 48, 49, 50, 51, 52, 53, 54, 55, 56, 57, 58, 59, 60, 61, 185, 186, 187, 188, 130, 189, 190, 76, 191, 192, 193, 194, 195, 87, 88, 89, 90, 196, 197, 198, 199, 200, 227, 228, 229, 230, 231, 232, 233, 234, 235, 236, 237, 238, 239, 240, 241, 242, 243, 246, 247, 248, 249, 250, 251, 244, 245] (by decide +kernel) (by decide +kernel)) (goodIn_sub (fun _ h => List.mem_cons_of_mem _ (List.mem_append_left _ (List.mem_append_left _ (List.mem_append_right _ h)))) (by decide +kernel))) (goodIn_sub (fun _ h => List.mem_cons_of_mem _ (List.mem_append_right _ h)) (by decide +kernel))
set_option maxRecDepth 20000 in
theorem gL_act_X4_shake : GoodIn wsL_act (wsV RL 46 RX4 yX4_shake wsX4_shake) := goodIn_app (goodIn_of _ (by decide +kernel)) ggL_act_X4_shake
set_option maxRecDepth 20000 in
theorem ggL_act_X4_set : GoodIn wsL_act wsX4_set := goodIn_ca (goodIn_ca (goodIn_ca (goodIn_r _ [204, 11, 12, 13, 14, 179, 180, 15, 130, 205, 206, 160, 161, 162, 33, 163, 35, 164, 24, 25, 26, 9, 27, 28, 29, 30, 31, 32, 34, 36, 37, 38, 39, 40, 41, 42, 43, 44, 45, 46, 47, 48, 49, 50, 51, 52, 53, 54, 55, 56, 57, 58, 59, 60, 61, 227, 228, 229, 230, 231, 232, 233, 234, 235, 236, 237, 238, 239, 240, 241, 242, 243, 246, 247, 248, 249, 250, 251, 244, 245] (by decide +kernel) (by decide +kernel)) (goodIn_sub (fun _ h => List.mem_cons_of_mem _ (List.mem_append_left _ (List.mem_append_left _ (List.mem_append_right _ h)))) (by decide +kernel))) (goodIn_sub (fun _ h => List.mem_cons_of_mem _ (List.mem_append_left _ (List.mem_append_right _ h))) (by decide +kernel))) (goodIn_sub (fun _ h => List.mem_cons_of_mem _ (List.mem_append_right _ h)) (by decide +kernel))
set_option maxRecDepth 20000 in
theorem gL_act_X4_set : GoodIn wsL_act (wsV RL 49 RX4 yX4_set wsX4_set) := goodIn_app (goodIn_of _ (by decide +kernel)) ggL_act_X4_set
set_option maxRecDepth 20000 in
theorem ggL_act_X4_pass : GoodIn wsL_act wsX4_pass := goodIn_ca (goodIn_r _ [210, 13, 14, 24, 25, 26, 9, 27, 28, 29, 15, 30, 31, 32, 33, 34, 35, 36, 37, 38, 39, 40, 41, 42, 43, 44, 45, 46, 47, 48, 49, 50, 51, 52, 53, 54, 55, 56, 57, 58, 59, 60, 61, 211, 212, 213, 214, 147, 66, 149, 215, 216, 217, 218, 125, 118, 174, 219, 220, 221, 222, 223, 224, 225, 226, 126, 127, 128, 129, 130, 227, 228, 229, 230, 231, 232, 233, 234, 235, 236, 237, 238, 239, 240, 241, 242, 243, 246, 247, 248, 249, 250, 251, 244, 245] (by decide +kernel) (by decide +kernel)) (goodIn_sub (fun _ h => List.mem_cons_of_mem _ (List.mem_append_left _ (List.mem_append_right _ h))) (by decide +kernel))
set_option maxRecDepth 20000 in
theorem gL_act_X4_pass : GoodIn wsL_act (wsV RL 52 RX4 yX4_pass wsX4_pass) := goodIn_app (goodIn_of _ (by decide +kernel)) ggL_act_X4_pass
theorem dL_act_0 : decode cL_act 0 = .ok (.iload_n 1, 1) := by decide +kernel
theorem dL_act_1 : decode cL_act 1 = .ok (.iconst 4, 1) := by decide +kernel
theorem dL_act_2 : decode cL_act 2 = .ok (.ishr, 1) := by decide +kernel
theorem dL_act_3 : decode cL_act 3 = .ok (.iload_n 1, 1) := by decide +kernel
theorem dL_act_4 : decode cL_act 4 = .ok (.bipush 20, 2) := by decide +kernel
theorem dL_act_6 : decode cL_act 6 = .ok (.ishr, 1) := by decide +kernel
theorem dL_act_7 : decode cL_act 7 = .ok (.iconst 1, 1) := by decide +kernel
theorem dL_act_8 : decode cL_act 8 = .ok (.iand, 1) := by decide +kernel
theorem dL_act_9 : decode cL_act 9 = .ok (.ifCond .ne 7, 3) := by decide +kernel
theorem dL_act_12 : decode cL_act 12 = .ok (.iconst 2, 1) := by decide +kernel
theorem dL_act_13 : decode cL_act 13 = .ok (.goto 4, 3) := by decide +kernel
theorem dL_act_16 : decode cL_act 16 = .ok (.iconst 4, 1) := by decide +kernel
theorem dL_act_17 : decode cL_act 17 = .ok (.invokestatic 29, 3) := by decide +kernel
theorem dL_act_20 : decode cL_act 20 = .ok (.istore_n 3, 1) := by decide +kernel
theorem dL_act_21 : decode cL_act 21 = .ok (.iload_n 1, 1) := by decide +kernel
theorem dL_act_22 : decode cL_act 22 = .ok (.bipush 6, 2) := by decide +kernel
theorem dL_act_24 : decode cL_act 24 = .ok (.ishr, 1) := by decide +kernel
theorem dL_act_25 : decode cL_act 25 = .ok (.bipush 6, 2) := by decide +kernel
theorem dL_act_27 : decode cL_act 27 = .ok (.invokestatic 29, 3) := by decide +kernel
theorem dL_act_30 : decode cL_act 30 = .ok (.istore 4, 2) := by decide +kernel
theorem dL_act_32 : decode cL_act 32 = .ok (.iload_n 1, 1) := by decide +kernel
theorem dL_act_33 : decode cL_act 33 = .ok (.bipush 15, 2) := by decide +kernel
theorem dL_act_35 : decode cL_act 35 = .ok (.iand, 1) := by decide +kernel
theorem dL_act_36 : decode cL_act 36 = .ok (.tableswitch 231 0 12 #[68, 68, 97, 97, 97, 128, 128, 128, 144, 144, 189, 189, 209], 68) := by decide +kernel
theorem dL_act_104 : decode cL_act 104 = .ok (.iload_n 2, 1) := by decide +kernel
theorem dL_act_105 : decode cL_act 105 = .ok (.sipush 901, 3) := by decide +kernel
theorem dL_act_108 : decode cL_act 108 = .ok (.invokestatic 29, 3) := by decide +kernel
theorem dL_act_111 : decode cL_act 111 = .ok (.istore 5, 2) := by decide +kernel
theorem dL_act_113 : decode cL_act 113 = .ok (.aload_n 0, 1) := by decide +kernel
theorem dL_act_114 : decode cL_act 114 = .ok (.iload 4, 2) := by decide +kernel
theorem dL_act_116 : decode cL_act 116 = .ok (.iload 5, 2) := by decide +kernel
theorem dL_act_118 : decode cL_act 118 = .ok (.iload_n 2, 1) := by decide +kernel
theorem dL_act_119 : decode cL_act 119 = .ok (.bipush 6, 2) := by decide +kernel
theorem dL_act_121 : decode cL_act 121 = .ok (.ishr, 1) := by decide +kernel
theorem dL_act_122 : decode cL_act 122 = .ok (.iload 5, 2) := by decide +kernel
theorem dL_act_124 : decode cL_act 124 = .ok (.iconst 1, 1) := by decide +kernel
theorem dL_act_125 : decode cL_act 125 = .ok (.iadd, 1) := by decide +kernel
theorem dL_act_126 : decode cL_act 126 = .ok (.invokestatic 29, 3) := by decide +kernel
theorem dL_act_129 : decode cL_act 129 = .ok (.invokevirtual 34, 3) := by decide +kernel
theorem dL_act_132 : decode cL_act 132 = .ok (.ireturn, 1) := by decide +kernel
theorem dL_act_133 : decode cL_act 133 = .ok (.aload_n 0, 1) := by decide +kernel
theorem dL_act_134 : decode cL_act 134 = .ok (.iload_n 3, 1) := by decide +kernel
theorem dL_act_135 : decode cL_act 135 = .ok (.iload 4, 2) := by decide +kernel
theorem dL_act_137 : decode cL_act 137 = .ok (.iconst 1, 1) := by decide +kernel
theorem dL_act_138 : decode cL_act 138 = .ok (.iload_n 2, 1) := by decide +kernel
theorem dL_act_139 : decode cL_act 139 = .ok (.iload_n 2, 1) := by decide +kernel
theorem dL_act_140 : decode cL_act 140 = .ok (.bipush 20, 2) := by decide +kernel
theorem dL_act_142 : decode cL_act 142 = .ok (.ishr, 1) := by decide +kernel
theorem dL_act_143 : decode cL_act 143 = .ok (.iconst 1, 1) := by decide +kernel
theorem dL_act_144 : decode cL_act 144 = .ok (.iand, 1) := by decide +kernel
theorem dL_act_145 : decode cL_act 145 = .ok (.ifCond .ne 9, 3) := by decide +kernel
theorem dL_act_148 : decode cL_act 148 = .ok (.sipush 500, 3) := by decide +kernel
theorem dL_act_151 : decode cL_act 151 = .ok (.goto 5, 3) := by decide +kernel
theorem dL_act_154 : decode cL_act 154 = .ok (.bipush 60, 2) := by decide +kernel
theorem dL_act_156 : decode cL_act 156 = .ok (.invokestatic 29, 3) := by decide +kernel
theorem dL_act_159 : decode cL_act 159 = .ok (.iadd, 1) := by decide +kernel
theorem dL_act_160 : decode cL_act 160 = .ok (.invokevirtual 37, 3) := by decide +kernel
theorem dL_act_163 : decode cL_act 163 = .ok (.ireturn, 1) := by decide +kernel
theorem dL_act_164 : decode cL_act 164 = .ok (.aload_n 0, 1) := by decide +kernel
theorem dL_act_165 : decode cL_act 165 = .ok (.iload_n 3, 1) := by decide +kernel
theorem dL_act_166 : decode cL_act 166 = .ok (.iload 4, 2) := by decide +kernel
theorem dL_act_168 : decode cL_act 168 = .ok (.iconst 1, 1) := by decide +kernel
theorem dL_act_169 : decode cL_act 169 = .ok (.iload_n 2, 1) := by decide +kernel
theorem dL_act_170 : decode cL_act 170 = .ok (.bipush 24, 2) := by decide +kernel
theorem dL_act_172 : decode cL_act 172 = .ok (.invokestatic 29, 3) := by decide +kernel
theorem dL_act_175 : decode cL_act 175 = .ok (.iadd, 1) := by decide +kernel
theorem dL_act_176 : decode cL_act 176 = .ok (.invokevirtual 40, 3) := by decide +kernel
theorem dL_act_179 : decode cL_act 179 = .ok (.ireturn, 1) := by decide +kernel
theorem dL_act_180 : decode cL_act 180 = .ok (.iload_n 2, 1) := by decide +kernel
theorem dL_act_181 : decode cL_act 181 = .ok (.iconst 5, 1) := by decide +kernel
theorem dL_act_182 : decode cL_act 182 = .ok (.invokestatic 29, 3) := by decide +kernel
theorem dL_act_185 : decode cL_act 185 = .ok (.istore 6, 2) := by decide +kernel
theorem dL_act_187 : decode cL_act 187 = .ok (.aload_n 0, 1) := by decide +kernel
theorem dL_act_188 : decode cL_act 188 = .ok (.bipush 6, 2) := by decide +kernel
theorem dL_act_190 : decode cL_act 190 = .ok (.invokevirtual 12, 3) := by decide +kernel
theorem dL_act_193 : decode cL_act 193 = .ok (.aload_n 0, 1) := by decide +kernel
theorem dL_act_194 : decode cL_act 194 = .ok (.iload_n 3, 1) := by decide +kernel
theorem dL_act_195 : decode cL_act 195 = .ok (.iconst 2, 1) := by decide +kernel
theorem dL_act_196 : decode cL_act 196 = .ok (.invokevirtual 18, 3) := by decide +kernel
theorem dL_act_199 : decode cL_act 199 = .ok (.isub, 1) := by decide +kernel
theorem dL_act_200 : decode cL_act 200 = .ok (.iload 6, 2) := by decide +kernel
theorem dL_act_202 : decode cL_act 202 = .ok (.iadd, 1) := by decide +kernel
theorem dL_act_203 : decode cL_act 203 = .ok (.aload_n 0, 1) := by decide +kernel
theorem dL_act_204 : decode cL_act 204 = .ok (.bipush 10, 2) := by decide +kernel
theorem dL_act_206 : decode cL_act 206 = .ok (.invokevirtual 12, 3) := by decide +kernel
theorem dL_act_209 : decode cL_act 209 = .ok (.if_icmp .le 8, 3) := by decide +kernel
theorem dL_act_212 : decode cL_act 212 = .ok (.bipush (-9), 2) := by decide +kernel
theorem dL_act_214 : decode cL_act 214 = .ok (.goto 10, 3) := by decide +kernel
theorem dL_act_217 : decode cL_act 217 = .ok (.aload_n 0, 1) := by decide +kernel
theorem dL_act_218 : decode cL_act 218 = .ok (.iload_n 3, 1) := by decide +kernel
theorem dL_act_219 : decode cL_act 219 = .ok (.iload 6, 2) := by decide +kernel
theorem dL_act_221 : decode cL_act 221 = .ok (.invokevirtual 43, 3) := by decide +kernel
theorem dL_act_224 : decode cL_act 224 = .ok (.ireturn, 1) := by decide +kernel
theorem dL_act_225 : decode cL_act 225 = .ok (.aload_n 0, 1) := by decide +kernel
theorem dL_act_226 : decode cL_act 226 = .ok (.iload_n 3, 1) := by decide +kernel
theorem dL_act_227 : decode cL_act 227 = .ok (.iconst 1, 1) := by decide +kernel
theorem dL_act_228 : decode cL_act 228 = .ok (.invokevirtual 18, 3) := by decide +kernel
theorem dL_act_231 : decode cL_act 231 = .ok (.ifCond .ne 8, 3) := by decide +kernel
theorem dL_act_234 : decode cL_act 234 = .ok (.bipush (-9), 2) := by decide +kernel
theorem dL_act_236 : decode cL_act 236 = .ok (.goto 8, 3) := by decide +kernel
theorem dL_act_239 : decode cL_act 239 = .ok (.aload_n 0, 1) := by decide +kernel
theorem dL_act_240 : decode cL_act 240 = .ok (.iload_n 3, 1) := by decide +kernel
theorem dL_act_241 : decode cL_act 241 = .ok (.invokevirtual 46, 3) := by decide +kernel
theorem dL_act_244 : decode cL_act 244 = .ok (.ireturn, 1) := by decide +kernel
theorem dL_act_245 : decode cL_act 245 = .ok (.aload_n 0, 1) := by decide +kernel
theorem dL_act_246 : decode cL_act 246 = .ok (.iconst 1, 1) := by decide +kernel
theorem dL_act_247 : decode cL_act 247 = .ok (.iload_n 2, 1) := by decide +kernel
theorem dL_act_248 : decode cL_act 248 = .ok (.iconst 3, 1) := by decide +kernel
theorem dL_act_249 : decode cL_act 249 = .ok (.invokestatic 29, 3) := by decide +kernel
theorem dL_act_252 : decode cL_act 252 = .ok (.iadd, 1) := by decide +kernel
theorem dL_act_253 : decode cL_act 253 = .ok (.iconst 5, 1) := by decide +kernel
theorem dL_act_254 : decode cL_act 254 = .ok (.iload_n 2, 1) := by decide +kernel
theorem dL_act_255 : decode cL_act 255 = .ok (.iconst 2, 1) := by decide +kernel
theorem dL_act_256 : decode cL_act 256 = .ok (.ishr, 1) := by decide +kernel
theorem dL_act_257 : decode cL_act 257 = .ok (.bipush 16, 2) := by decide +kernel
theorem dL_act_259 : decode cL_act 259 = .ok (.invokestatic 29, 3) := by decide +kernel
theorem dL_act_262 : decode cL_act 262 = .ok (.iadd, 1) := by decide +kernel
theorem dL_act_263 : decode cL_act 263 = .ok (.invokevirtual 49, 3) := by decide +kernel
theorem dL_act_266 : decode cL_act 266 = .ok (.ireturn, 1) := by decide +kernel
theorem dL_act_267 : decode cL_act 267 = .ok (.aload_n 0, 1) := by decide +kernel
theorem dL_act_268 : decode cL_act 268 = .ok (.iconst 1, 1) := by decide +kernel
theorem dL_act_269 : decode cL_act 269 = .ok (.iload_n 2, 1) := by decide +kernel
theorem dL_act_270 : decode cL_act 270 = .ok (.iload_n 2, 1) := by decide +kernel
theorem dL_act_271 : decode cL_act 271 = .ok (.bipush 20, 2) := by decide +kernel
theorem dL_act_273 : decode cL_act 273 = .ok (.ishr, 1) := by decide +kernel
theorem dL_act_274 : decode cL_act 274 = .ok (.iconst 1, 1) := by decide +kernel
theorem dL_act_275 : decode cL_act 275 = .ok (.iand, 1) := by decide +kernel
theorem dL_act_276 : decode cL_act 276 = .ok (.ifCond .ne 7, 3) := by decide +kernel
theorem dL_act_279 : decode cL_act 279 = .ok (.iconst 3, 1) := by decide +kernel
theorem dL_act_280 : decode cL_act 280 = .ok (.goto 5, 3) := by decide +kernel
theorem dL_act_283 : decode cL_act 283 = .ok (.bipush 30, 2) := by decide +kernel
theorem dL_act_285 : decode cL_act 285 = .ok (.invokestatic 29, 3) := by decide +kernel
theorem dL_act_288 : decode cL_act 288 = .ok (.iadd, 1) := by decide +kernel
theorem dL_act_289 : decode cL_act 289 = .ok (.invokevirtual 52, 3) := by decide +kernel
theorem dL_act_292 : decode cL_act 292 = .ok (.ireturn, 1) := by decide +kernel
set_option maxRecDepth 20000 in
theorem ggL_holds_X4_silo : GoodIn wsL_holds wsX4_silo := goodIn_ca (goodIn_ca (goodIn_r _ [5, 6, 7, 8, 9, 10, 11, 12, 13, 14, 15, 16, 17, 4, 18, 19, 20, 21, 22, 23, 24, 25, 26, 27, 28, 29, 30, 31, 32, 33, 34, 35, 36, 37, 38, 39, 132, 133, 134, 135, 136, 137, 138, 139, 140, 141, 142, 143, 144, 145, 146, 147, 148, 149, 150, 151, 152, 153, 154] (by decide +kernel) (by decide +kernel)) (goodIn_sub (fun _ h => List.mem_cons_of_mem _ (List.mem_append_left _ (List.mem_append_right _ h))) (by decide +kernel))) (goodIn_sub (fun _ h => List.mem_cons_of_mem _ (List.mem_append_right _ h)) (by decide +kernel))
set_option maxRecDepth 20000 in
theorem gL_holds_X4_silo : GoodIn wsL_holds (wsV RL 18 RX4 yX4_silo wsX4_silo) := goodIn_app (goodIn_of _ (by decide +kernel)) ggL_holds_X4_silo
set_option maxRecDepth 20000 in
theorem ggL_holds_X4_layer : GoodIn wsL_holds wsX4_layer := goodIn_ca (goodIn_ca (goodIn_r _ [43, 6, 7, 8, 9, 10, 11, 12, 44, 34, 16, 17, 4, 18, 35, 36, 37, 38, 39, 132, 133, 134, 135, 136, 137, 138, 139, 140, 141, 142, 143, 144, 145, 146, 147, 148, 149, 150, 151, 152, 153, 154] (by decide +kernel) (by decide +kernel)) (goodIn_sub (fun _ h => List.mem_cons_of_mem _ (List.mem_append_left _ (List.mem_append_right _ h))) (by decide +kernel))) (goodIn_sub (fun _ h => List.mem_cons_of_mem _ (List.mem_append_right _ h)) (by decide +kernel))
set_option maxRecDepth 20000 in
theorem gL_holds_X4_layer : GoodIn wsL_holds (wsV RL 22 RX4 yX4_layer wsX4_layer) := goodIn_app (goodIn_of _ (by decide +kernel)) ggL_holds_X4_layer
set_option maxRecDepth 20000 in
theorem ggL_holds_X4_count : GoodIn wsL_holds wsX4_count := goodIn_ca (goodIn_r _ [48, 8, 9, 10, 49, 50, 51, 52, 53, 54, 39, 55, 56, 57, 58, 59, 60, 61, 62, 20, 21, 22, 23, 24, 25, 26, 27, 28, 29, 63, 64, 65, 66, 67, 68, 69, 70, 71, 72, 73, 74, 75, 76, 77, 78, 132, 133, 134, 135, 136, 137, 138, 139, 140, 141, 142, 143, 144, 145, 146, 147, 148, 149, 150, 151, 152, 153, 154, 155, 156] (by decide +kernel) (by decide +kernel)) (goodIn_sub (fun _ h => List.mem_cons_of_mem _ (List.mem_append_right _ h)) (by decide +kernel))
set_option maxRecDepth 20000 in
theorem gL_holds_X4_count : GoodIn wsL_holds (wsV RL 12 RX4 yX4_count wsX4_count) := goodIn_app (goodIn_of _ (by decide +kernel)) ggL_holds_X4_count
set_option maxRecDepth 20000 in
theorem ggL_holds_X4_shakesNeeded : GoodIn wsL_holds wsX4_shakesNeeded := goodIn_ca (goodIn_r _ [82, 6, 7, 10, 11, 16, 17, 4, 18, 83, 84, 85, 86, 14, 39, 15, 87, 88, 89, 90, 91, 92, 93, 22, 94, 95, 24, 25, 26, 27, 28, 29, 132, 133, 134, 135, 136, 137, 138, 139, 140, 141, 142, 143, 144, 145, 146, 147, 148, 149, 150, 151, 152, 153, 154] (by decide +kernel) (by decide +kernel)) (goodIn_sub (fun _ h => List.mem_cons_of_mem _ (List.mem_append_left _ (List.mem_append_right _ h))) (by decide +kernel))
set_option maxRecDepth 20000 in
theorem gL_holds_X4_shakesNeeded : GoodIn wsL_holds (wsV RL 55 RX4 yX4_shakesNeeded wsX4_shakesNeeded) := goodIn_app (goodIn_of _ (by decide +kernel)) ggL_holds_X4_shakesNeeded
set_option maxRecDepth 20000 in
theorem ggL_holds_X4_whyNot : GoodIn wsL_holds wsX4_whyNot := goodIn_ca (goodIn_r _ [99, 6, 7, 10, 11, 12, 14, 100, 13, 16, 17, 4, 18, 101, 102, 103, 104, 105, 106, 107, 108, 109, 110, 30, 31, 32, 33, 34, 35, 36, 37, 38, 39, 132, 133, 134, 135, 136, 137, 138, 139, 140, 141, 142, 143, 144, 145, 146, 147, 148, 149, 150, 151, 152, 153, 154, 155, 156] (by decide +kernel) (by decide +kernel)) (goodIn_sub (fun _ h => List.mem_cons_of_mem _ (List.mem_append_left _ (List.mem_append_right _ h))) (by decide +kernel))
set_option maxRecDepth 20000 in
theorem gL_holds_X4_whyNot : GoodIn wsL_holds (wsV RL 58 RX4 yX4_whyNot wsX4_whyNot) := goodIn_app (goodIn_of _ (by decide +kernel)) ggL_holds_X4_whyNot
set_option maxRecDepth 20000 in
theorem ggL_holds_X4_shipOf : GoodIn wsL_holds wsX4_shipOf := goodIn_ca (goodIn_ca (goodIn_r _ [114, 6, 7, 8, 9, 10, 100, 115, 116, 101, 102, 4, 103, 132, 133, 134, 135, 136, 137, 138, 139, 140, 141, 142, 143, 144, 145, 146, 147, 148, 155, 156] (by decide +kernel) (by decide +kernel)) (goodIn_sub (fun _ h => List.mem_cons_of_mem _ (List.mem_append_left _ (List.mem_append_right _ h))) (by decide +kernel))) (goodIn_sub (fun _ h => List.mem_cons_of_mem _ (List.mem_append_right _ h)) (by decide +kernel))
set_option maxRecDepth 20000 in
theorem gL_holds_X4_shipOf : GoodIn wsL_holds (wsV RL 26 RX4 yX4_shipOf wsX4_shipOf) := goodIn_app (goodIn_of _ (by decide +kernel)) ggL_holds_X4_shipOf
set_option maxRecDepth 20000 in
theorem ggL_holds_X4_urgent : GoodIn wsL_holds wsX4_urgent := goodIn_r _ [120, 10, 11, 12, 121, 122, 4, 123, 34, 19, 20, 21, 22, 23, 24, 25, 26, 27, 28, 29, 132, 133, 134, 135, 136, 137, 138, 139, 140, 141, 142, 143, 144, 145, 146, 147, 148, 149, 150, 151, 152, 153, 154] (by decide +kernel) (by decide +kernel)
set_option maxRecDepth 20000 in
theorem gL_holds_X4_urgent : GoodIn wsL_holds (wsV RL 61 RX4 yX4_urgent wsX4_urgent) := goodIn_app (goodIn_of _ (by decide +kernel)) ggL_holds_X4_urgent
set_option maxRecDepth 20000 in
theorem ggL_holds_X4_softness : GoodIn wsL_holds wsX4_softness := goodIn_r _ [127, 10, 11, 56, 57, 58, 59, 60, 61, 62, 20, 21, 22, 23, 24, 25, 26, 27, 28, 29, 128, 129, 130, 4, 131, 12, 34, 44, 35, 36, 37, 38, 39, 132, 133, 134, 135, 136, 137, 138, 139, 140, 141, 142, 143, 144, 145, 146, 147, 148, 149, 150, 151, 152, 153, 154] (by decide +kernel) (by decide +kernel)
set_option maxRecDepth 20000 in
theorem gL_holds_X4_softness : GoodIn wsL_holds (wsV RL 65 RX4 yX4_softness wsX4_softness) := goodIn_app (goodIn_of _ (by decide +kernel)) ggL_holds_X4_softness
theorem dL_holds_0 : decode cL_holds 0 = .ok (.iconst 0, 1) := by decide +kernel
theorem dL_holds_1 : decode cL_holds 1 = .ok (.istore_n 1, 1) := by decide +kernel
theorem dL_holds_2 : decode cL_holds 2 = .ok (.iconst 0, 1) := by decide +kernel
theorem dL_holds_3 : decode cL_holds 3 = .ok (.istore_n 2, 1) := by decide +kernel
theorem dL_holds_4 : decode cL_holds 4 = .ok (.iconst 0, 1) := by decide +kernel
theorem dL_holds_5 : decode cL_holds 5 = .ok (.istore_n 3, 1) := by decide +kernel
theorem dL_holds_6 : decode cL_holds 6 = .ok (.iconst 0, 1) := by decide +kernel
theorem dL_holds_7 : decode cL_holds 7 = .ok (.istore 4, 2) := by decide +kernel
theorem dL_holds_9 : decode cL_holds 9 = .ok (.iload 4, 2) := by decide +kernel
theorem dL_holds_11 : decode cL_holds 11 = .ok (.iconst 4, 1) := by decide +kernel
theorem dL_holds_12 : decode cL_holds 12 = .ok (.if_icmp .ge 309, 3) := by decide +kernel
theorem dL_holds_15 : decode cL_holds 15 = .ok (.iconst 0, 1) := by decide +kernel
theorem dL_holds_16 : decode cL_holds 16 = .ok (.istore 5, 2) := by decide +kernel
theorem dL_holds_18 : decode cL_holds 18 = .ok (.aload_n 0, 1) := by decide +kernel
theorem dL_holds_19 : decode cL_holds 19 = .ok (.iload 4, 2) := by decide +kernel
theorem dL_holds_21 : decode cL_holds 21 = .ok (.iconst 1, 1) := by decide +kernel
theorem dL_holds_22 : decode cL_holds 22 = .ok (.invokevirtual 18, 3) := by decide +kernel
theorem dL_holds_25 : decode cL_holds 25 = .ok (.istore 6, 2) := by decide +kernel
theorem dL_holds_27 : decode cL_holds 27 = .ok (.iconst 0, 1) := by decide +kernel
theorem dL_holds_28 : decode cL_holds 28 = .ok (.istore 7, 2) := by decide +kernel
theorem dL_holds_30 : decode cL_holds 30 = .ok (.iload 7, 2) := by decide +kernel
theorem dL_holds_32 : decode cL_holds 32 = .ok (.iload 6, 2) := by decide +kernel
theorem dL_holds_34 : decode cL_holds 34 = .ok (.if_icmp .ge 156, 3) := by decide +kernel
theorem dL_holds_37 : decode cL_holds 37 = .ok (.aload_n 0, 1) := by decide +kernel
theorem dL_holds_38 : decode cL_holds 38 = .ok (.iload 4, 2) := by decide +kernel
theorem dL_holds_40 : decode cL_holds 40 = .ok (.iload 7, 2) := by decide +kernel
theorem dL_holds_42 : decode cL_holds 42 = .ok (.iconst 0, 1) := by decide +kernel
theorem dL_holds_43 : decode cL_holds 43 = .ok (.invokevirtual 22, 3) := by decide +kernel
theorem dL_holds_46 : decode cL_holds 46 = .ok (.istore 8, 2) := by decide +kernel
theorem dL_holds_48 : decode cL_holds 48 = .ok (.aload_n 0, 1) := by decide +kernel
theorem dL_holds_49 : decode cL_holds 49 = .ok (.iload 4, 2) := by decide +kernel
theorem dL_holds_51 : decode cL_holds 51 = .ok (.iload 7, 2) := by decide +kernel
theorem dL_holds_53 : decode cL_holds 53 = .ok (.iconst 2, 1) := by decide +kernel
theorem dL_holds_54 : decode cL_holds 54 = .ok (.invokevirtual 22, 3) := by decide +kernel
theorem dL_holds_57 : decode cL_holds 57 = .ok (.istore 9, 2) := by decide +kernel
theorem dL_holds_59 : decode cL_holds 59 = .ok (.aload_n 0, 1) := by decide +kernel
theorem dL_holds_60 : decode cL_holds 60 = .ok (.iload 4, 2) := by decide +kernel
theorem dL_holds_62 : decode cL_holds 62 = .ok (.iload 7, 2) := by decide +kernel
theorem dL_holds_64 : decode cL_holds 64 = .ok (.iconst 1, 1) := by decide +kernel
theorem dL_holds_65 : decode cL_holds 65 = .ok (.invokevirtual 22, 3) := by decide +kernel
theorem dL_holds_68 : decode cL_holds 68 = .ok (.istore 10, 2) := by decide +kernel
theorem dL_holds_70 : decode cL_holds 70 = .ok (.iload 5, 2) := by decide +kernel
theorem dL_holds_72 : decode cL_holds 72 = .ok (.iload 8, 2) := by decide +kernel
theorem dL_holds_74 : decode cL_holds 74 = .ok (.iadd, 1) := by decide +kernel
theorem dL_holds_75 : decode cL_holds 75 = .ok (.istore 5, 2) := by decide +kernel
theorem dL_holds_77 : decode cL_holds 77 = .ok (.iload 8, 2) := by decide +kernel
theorem dL_holds_79 : decode cL_holds 79 = .ok (.iconst 1, 1) := by decide +kernel
theorem dL_holds_80 : decode cL_holds 80 = .ok (.if_icmp .lt 102, 3) := by decide +kernel
theorem dL_holds_83 : decode cL_holds 83 = .ok (.iload 8, 2) := by decide +kernel
theorem dL_holds_85 : decode cL_holds 85 = .ok (.sipush 500, 3) := by decide +kernel
theorem dL_holds_88 : decode cL_holds 88 = .ok (.if_icmp .gt 94, 3) := by decide +kernel
theorem dL_holds_91 : decode cL_holds 91 = .ok (.iload 9, 2) := by decide +kernel
theorem dL_holds_93 : decode cL_holds 93 = .ok (.ifCond .ne 7, 3) := by decide +kernel
theorem dL_holds_96 : decode cL_holds 96 = .ok (.iconst 1, 1) := by decide +kernel
theorem dL_holds_97 : decode cL_holds 97 = .ok (.goto 4, 3) := by decide +kernel
theorem dL_holds_100 : decode cL_holds 100 = .ok (.iconst 0, 1) := by decide +kernel
theorem dL_holds_101 : decode cL_holds 101 = .ok (.iload 10, 2) := by decide +kernel
theorem dL_holds_103 : decode cL_holds 103 = .ok (.aload_n 0, 1) := by decide +kernel
theorem dL_holds_104 : decode cL_holds 104 = .ok (.bipush 11, 2) := by decide +kernel
theorem dL_holds_106 : decode cL_holds 106 = .ok (.invokevirtual 12, 3) := by decide +kernel
theorem dL_holds_109 : decode cL_holds 109 = .ok (.if_icmp .gt 7, 3) := by decide +kernel
theorem dL_holds_112 : decode cL_holds 112 = .ok (.iconst 1, 1) := by decide +kernel
theorem dL_holds_113 : decode cL_holds 113 = .ok (.goto 4, 3) := by decide +kernel
theorem dL_holds_116 : decode cL_holds 116 = .ok (.iconst 0, 1) := by decide +kernel
theorem dL_holds_117 : decode cL_holds 117 = .ok (.if_icmp .ne 65, 3) := by decide +kernel
theorem dL_holds_120 : decode cL_holds 120 = .ok (.iload 9, 2) := by decide +kernel
theorem dL_holds_122 : decode cL_holds 122 = .ok (.iconst 2, 1) := by decide +kernel
theorem dL_holds_123 : decode cL_holds 123 = .ok (.if_icmp .ne 7, 3) := by decide +kernel
theorem dL_holds_126 : decode cL_holds 126 = .ok (.iconst 1, 1) := by decide +kernel
theorem dL_holds_127 : decode cL_holds 127 = .ok (.goto 4, 3) := by decide +kernel
theorem dL_holds_130 : decode cL_holds 130 = .ok (.iconst 0, 1) := by decide +kernel
theorem dL_holds_131 : decode cL_holds 131 = .ok (.iload 10, 2) := by decide +kernel
theorem dL_holds_133 : decode cL_holds 133 = .ok (.iconst 2, 1) := by decide +kernel
theorem dL_holds_134 : decode cL_holds 134 = .ok (.aload_n 0, 1) := by decide +kernel
theorem dL_holds_135 : decode cL_holds 135 = .ok (.bipush 11, 2) := by decide +kernel
theorem dL_holds_137 : decode cL_holds 137 = .ok (.invokevirtual 12, 3) := by decide +kernel
theorem dL_holds_140 : decode cL_holds 140 = .ok (.imul, 1) := by decide +kernel
theorem dL_holds_141 : decode cL_holds 141 = .ok (.if_icmp .le 7, 3) := by decide +kernel
theorem dL_holds_144 : decode cL_holds 144 = .ok (.iconst 1, 1) := by decide +kernel
theorem dL_holds_145 : decode cL_holds 145 = .ok (.goto 4, 3) := by decide +kernel
theorem dL_holds_148 : decode cL_holds 148 = .ok (.iconst 0, 1) := by decide +kernel
theorem dL_holds_149 : decode cL_holds 149 = .ok (.if_icmp .ne 33, 3) := by decide +kernel
theorem dL_holds_152 : decode cL_holds 152 = .ok (.aload_n 0, 1) := by decide +kernel
theorem dL_holds_153 : decode cL_holds 153 = .ok (.bipush 8, 2) := by decide +kernel
theorem dL_holds_155 : decode cL_holds 155 = .ok (.invokevirtual 12, 3) := by decide +kernel
theorem dL_holds_158 : decode cL_holds 158 = .ok (.ifCond .ne 26, 3) := by decide +kernel
theorem dL_holds_161 : decode cL_holds 161 = .ok (.iload 7, 2) := by decide +kernel
theorem dL_holds_163 : decode cL_holds 163 = .ok (.ifCond .le 21, 3) := by decide +kernel
theorem dL_holds_166 : decode cL_holds 166 = .ok (.aload_n 0, 1) := by decide +kernel
theorem dL_holds_167 : decode cL_holds 167 = .ok (.iload 4, 2) := by decide +kernel
theorem dL_holds_169 : decode cL_holds 169 = .ok (.iload 7, 2) := by decide +kernel
theorem dL_holds_171 : decode cL_holds 171 = .ok (.iconst 1, 1) := by decide +kernel
theorem dL_holds_172 : decode cL_holds 172 = .ok (.isub, 1) := by decide +kernel
theorem dL_holds_173 : decode cL_holds 173 = .ok (.iconst 1, 1) := by decide +kernel
theorem dL_holds_174 : decode cL_holds 174 = .ok (.invokevirtual 22, 3) := by decide +kernel
theorem dL_holds_177 : decode cL_holds 177 = .ok (.iload 10, 2) := by decide +kernel
theorem dL_holds_179 : decode cL_holds 179 = .ok (.if_icmp .ge 5, 3) := by decide +kernel
theorem dL_holds_182 : decode cL_holds 182 = .ok (.iconst 0, 1) := by decide +kernel
theorem dL_holds_183 : decode cL_holds 183 = .ok (.ireturn, 1) := by decide +kernel
theorem dL_holds_184 : decode cL_holds 184 = .ok (.iinc 7 1, 3) := by decide +kernel
theorem dL_holds_187 : decode cL_holds 187 = .ok (.goto (-157), 3) := by decide +kernel
theorem dL_holds_190 : decode cL_holds 190 = .ok (.aload_n 0, 1) := by decide +kernel
theorem dL_holds_191 : decode cL_holds 191 = .ok (.iload 4, 2) := by decide +kernel
theorem dL_holds_193 : decode cL_holds 193 = .ok (.invokevirtual 55, 3) := by decide +kernel
theorem dL_holds_196 : decode cL_holds 196 = .ok (.istore 7, 2) := by decide +kernel
theorem dL_holds_198 : decode cL_holds 198 = .ok (.iload 5, 2) := by decide +kernel
theorem dL_holds_200 : decode cL_holds 200 = .ok (.aload_n 0, 1) := by decide +kernel
theorem dL_holds_201 : decode cL_holds 201 = .ok (.iload 4, 2) := by decide +kernel
theorem dL_holds_203 : decode cL_holds 203 = .ok (.iconst 0, 1) := by decide +kernel
theorem dL_holds_204 : decode cL_holds 204 = .ok (.invokevirtual 18, 3) := by decide +kernel
theorem dL_holds_207 : decode cL_holds 207 = .ok (.if_icmp .ne 81, 3) := by decide +kernel
theorem dL_holds_210 : decode cL_holds 210 = .ok (.iload 5, 2) := by decide +kernel
theorem dL_holds_212 : decode cL_holds 212 = .ok (.sipush 1200, 3) := by decide +kernel
theorem dL_holds_215 : decode cL_holds 215 = .ok (.if_icmp .gt 73, 3) := by decide +kernel
theorem dL_holds_218 : decode cL_holds 218 = .ok (.iload 6, 2) := by decide +kernel
theorem dL_holds_220 : decode cL_holds 220 = .ok (.bipush 10, 2) := by decide +kernel
theorem dL_holds_222 : decode cL_holds 222 = .ok (.if_icmp .gt 66, 3) := by decide +kernel
theorem dL_holds_225 : decode cL_holds 225 = .ok (.iload 7, 2) := by decide +kernel
theorem dL_holds_227 : decode cL_holds 227 = .ok (.ifCond .ne 7, 3) := by decide +kernel
theorem dL_holds_230 : decode cL_holds 230 = .ok (.iconst 1, 1) := by decide +kernel
theorem dL_holds_231 : decode cL_holds 231 = .ok (.goto 4, 3) := by decide +kernel
theorem dL_holds_234 : decode cL_holds 234 = .ok (.iconst 0, 1) := by decide +kernel
theorem dL_holds_235 : decode cL_holds 235 = .ok (.aload_n 0, 1) := by decide +kernel
theorem dL_holds_236 : decode cL_holds 236 = .ok (.iload 4, 2) := by decide +kernel
theorem dL_holds_238 : decode cL_holds 238 = .ok (.iconst 3, 1) := by decide +kernel
theorem dL_holds_239 : decode cL_holds 239 = .ok (.invokevirtual 18, 3) := by decide +kernel
theorem dL_holds_242 : decode cL_holds 242 = .ok (.ifCond .ne 7, 3) := by decide +kernel
theorem dL_holds_245 : decode cL_holds 245 = .ok (.iconst 1, 1) := by decide +kernel
theorem dL_holds_246 : decode cL_holds 246 = .ok (.goto 4, 3) := by decide +kernel
theorem dL_holds_249 : decode cL_holds 249 = .ok (.iconst 0, 1) := by decide +kernel
theorem dL_holds_250 : decode cL_holds 250 = .ok (.if_icmp .ne 38, 3) := by decide +kernel
theorem dL_holds_253 : decode cL_holds 253 = .ok (.iload 7, 2) := by decide +kernel
theorem dL_holds_255 : decode cL_holds 255 = .ok (.iconst 3, 1) := by decide +kernel
theorem dL_holds_256 : decode cL_holds 256 = .ok (.if_icmp .gt 32, 3) := by decide +kernel
theorem dL_holds_259 : decode cL_holds 259 = .ok (.aload_n 0, 1) := by decide +kernel
theorem dL_holds_260 : decode cL_holds 260 = .ok (.iload 4, 2) := by decide +kernel
theorem dL_holds_262 : decode cL_holds 262 = .ok (.iconst 0, 1) := by decide +kernel
theorem dL_holds_263 : decode cL_holds 263 = .ok (.invokevirtual 58, 3) := by decide +kernel
theorem dL_holds_266 : decode cL_holds 266 = .ok (.iconst 1, 1) := by decide +kernel
theorem dL_holds_267 : decode cL_holds 267 = .ok (.if_icmp .ne 7, 3) := by decide +kernel
theorem dL_holds_270 : decode cL_holds 270 = .ok (.iconst 1, 1) := by decide +kernel
theorem dL_holds_271 : decode cL_holds 271 = .ok (.goto 4, 3) := by decide +kernel
theorem dL_holds_274 : decode cL_holds 274 = .ok (.iconst 0, 1) := by decide +kernel
theorem dL_holds_275 : decode cL_holds 275 = .ok (.iload 6, 2) := by decide +kernel
theorem dL_holds_277 : decode cL_holds 277 = .ok (.ifCond .ne 7, 3) := by decide +kernel
theorem dL_holds_280 : decode cL_holds 280 = .ok (.iconst 1, 1) := by decide +kernel
theorem dL_holds_281 : decode cL_holds 281 = .ok (.goto 4, 3) := by decide +kernel
theorem dL_holds_284 : decode cL_holds 284 = .ok (.iconst 0, 1) := by decide +kernel
theorem dL_holds_285 : decode cL_holds 285 = .ok (.if_icmp .eq 5, 3) := by decide +kernel
theorem dL_holds_288 : decode cL_holds 288 = .ok (.iconst 0, 1) := by decide +kernel
theorem dL_holds_289 : decode cL_holds 289 = .ok (.ireturn, 1) := by decide +kernel
theorem dL_holds_290 : decode cL_holds 290 = .ok (.iload_n 1, 1) := by decide +kernel
theorem dL_holds_291 : decode cL_holds 291 = .ok (.iload 5, 2) := by decide +kernel
theorem dL_holds_293 : decode cL_holds 293 = .ok (.iadd, 1) := by decide +kernel
theorem dL_holds_294 : decode cL_holds 294 = .ok (.istore_n 1, 1) := by decide +kernel
theorem dL_holds_295 : decode cL_holds 295 = .ok (.iload_n 2, 1) := by decide +kernel
theorem dL_holds_296 : decode cL_holds 296 = .ok (.aload_n 0, 1) := by decide +kernel
theorem dL_holds_297 : decode cL_holds 297 = .ok (.iload 4, 2) := by decide +kernel
theorem dL_holds_299 : decode cL_holds 299 = .ok (.iconst 2, 1) := by decide +kernel
theorem dL_holds_300 : decode cL_holds 300 = .ok (.invokevirtual 18, 3) := by decide +kernel
theorem dL_holds_303 : decode cL_holds 303 = .ok (.iadd, 1) := by decide +kernel
theorem dL_holds_304 : decode cL_holds 304 = .ok (.istore_n 2, 1) := by decide +kernel
theorem dL_holds_305 : decode cL_holds 305 = .ok (.iload_n 3, 1) := by decide +kernel
theorem dL_holds_306 : decode cL_holds 306 = .ok (.aload_n 0, 1) := by decide +kernel
theorem dL_holds_307 : decode cL_holds 307 = .ok (.iload 4, 2) := by decide +kernel
theorem dL_holds_309 : decode cL_holds 309 = .ok (.iconst 3, 1) := by decide +kernel
theorem dL_holds_310 : decode cL_holds 310 = .ok (.invokevirtual 18, 3) := by decide +kernel
theorem dL_holds_313 : decode cL_holds 313 = .ok (.iadd, 1) := by decide +kernel
theorem dL_holds_314 : decode cL_holds 314 = .ok (.istore_n 3, 1) := by decide +kernel
theorem dL_holds_315 : decode cL_holds 315 = .ok (.iinc 4 1, 3) := by decide +kernel
theorem dL_holds_318 : decode cL_holds 318 = .ok (.goto (-309), 3) := by decide +kernel
theorem dL_holds_321 : decode cL_holds 321 = .ok (.iconst 0, 1) := by decide +kernel
theorem dL_holds_322 : decode cL_holds 322 = .ok (.istore 4, 2) := by decide +kernel
theorem dL_holds_324 : decode cL_holds 324 = .ok (.iconst 0, 1) := by decide +kernel
theorem dL_holds_325 : decode cL_holds 325 = .ok (.istore 5, 2) := by decide +kernel
theorem dL_holds_327 : decode cL_holds 327 = .ok (.iload 5, 2) := by decide +kernel
theorem dL_holds_329 : decode cL_holds 329 = .ok (.bipush 6, 2) := by decide +kernel
theorem dL_holds_331 : decode cL_holds 331 = .ok (.if_icmp .ge 44, 3) := by decide +kernel
theorem dL_holds_334 : decode cL_holds 334 = .ok (.aload_n 0, 1) := by decide +kernel
theorem dL_holds_335 : decode cL_holds 335 = .ok (.iload 5, 2) := by decide +kernel
theorem dL_holds_337 : decode cL_holds 337 = .ok (.iconst 0, 1) := by decide +kernel
theorem dL_holds_338 : decode cL_holds 338 = .ok (.invokevirtual 26, 3) := by decide +kernel
theorem dL_holds_341 : decode cL_holds 341 = .ok (.istore 6, 2) := by decide +kernel
theorem dL_holds_343 : decode cL_holds 343 = .ok (.iload 4, 2) := by decide +kernel
theorem dL_holds_345 : decode cL_holds 345 = .ok (.iload 6, 2) := by decide +kernel
theorem dL_holds_347 : decode cL_holds 347 = .ok (.iadd, 1) := by decide +kernel
theorem dL_holds_348 : decode cL_holds 348 = .ok (.istore 4, 2) := by decide +kernel
theorem dL_holds_350 : decode cL_holds 350 = .ok (.iload 6, 2) := by decide +kernel
theorem dL_holds_352 : decode cL_holds 352 = .ok (.ifCond .lt 15, 3) := by decide +kernel
theorem dL_holds_355 : decode cL_holds 355 = .ok (.iload 6, 2) := by decide +kernel
theorem dL_holds_357 : decode cL_holds 357 = .ok (.aload_n 0, 1) := by decide +kernel
theorem dL_holds_358 : decode cL_holds 358 = .ok (.iload 5, 2) := by decide +kernel
theorem dL_holds_360 : decode cL_holds 360 = .ok (.iconst 1, 1) := by decide +kernel
theorem dL_holds_361 : decode cL_holds 361 = .ok (.invokevirtual 26, 3) := by decide +kernel
theorem dL_holds_364 : decode cL_holds 364 = .ok (.if_icmp .le 5, 3) := by decide +kernel
theorem dL_holds_367 : decode cL_holds 367 = .ok (.iconst 0, 1) := by decide +kernel
theorem dL_holds_368 : decode cL_holds 368 = .ok (.ireturn, 1) := by decide +kernel
theorem dL_holds_369 : decode cL_holds 369 = .ok (.iinc 5 1, 3) := by decide +kernel
theorem dL_holds_372 : decode cL_holds 372 = .ok (.goto (-45), 3) := by decide +kernel
theorem dL_holds_375 : decode cL_holds 375 = .ok (.aload_n 0, 1) := by decide +kernel
theorem dL_holds_376 : decode cL_holds 376 = .ok (.iconst 1, 1) := by decide +kernel
theorem dL_holds_377 : decode cL_holds 377 = .ok (.invokevirtual 12, 3) := by decide +kernel
theorem dL_holds_380 : decode cL_holds 380 = .ok (.aload_n 0, 1) := by decide +kernel
theorem dL_holds_381 : decode cL_holds 381 = .ok (.iconst 2, 1) := by decide +kernel
theorem dL_holds_382 : decode cL_holds 382 = .ok (.invokevirtual 12, 3) := by decide +kernel
theorem dL_holds_385 : decode cL_holds 385 = .ok (.iadd, 1) := by decide +kernel
theorem dL_holds_386 : decode cL_holds 386 = .ok (.aload_n 0, 1) := by decide +kernel
theorem dL_holds_387 : decode cL_holds 387 = .ok (.iconst 3, 1) := by decide +kernel
theorem dL_holds_388 : decode cL_holds 388 = .ok (.invokevirtual 12, 3) := by decide +kernel
theorem dL_holds_391 : decode cL_holds 391 = .ok (.iadd, 1) := by decide +kernel
theorem dL_holds_392 : decode cL_holds 392 = .ok (.aload_n 0, 1) := by decide +kernel
theorem dL_holds_393 : decode cL_holds 393 = .ok (.iconst 5, 1) := by decide +kernel
theorem dL_holds_394 : decode cL_holds 394 = .ok (.invokevirtual 12, 3) := by decide +kernel
theorem dL_holds_397 : decode cL_holds 397 = .ok (.iadd, 1) := by decide +kernel
theorem dL_holds_398 : decode cL_holds 398 = .ok (.aload_n 0, 1) := by decide +kernel
theorem dL_holds_399 : decode cL_holds 399 = .ok (.iconst 4, 1) := by decide +kernel
theorem dL_holds_400 : decode cL_holds 400 = .ok (.invokevirtual 12, 3) := by decide +kernel
theorem dL_holds_403 : decode cL_holds 403 = .ok (.if_icmp .ne 7, 3) := by decide +kernel
theorem dL_holds_406 : decode cL_holds 406 = .ok (.iconst 1, 1) := by decide +kernel
theorem dL_holds_407 : decode cL_holds 407 = .ok (.goto 4, 3) := by decide +kernel
theorem dL_holds_410 : decode cL_holds 410 = .ok (.iconst 0, 1) := by decide +kernel
theorem dL_holds_411 : decode cL_holds 411 = .ok (.istore 5, 2) := by decide +kernel
theorem dL_holds_413 : decode cL_holds 413 = .ok (.iload 5, 2) := by decide +kernel
theorem dL_holds_415 : decode cL_holds 415 = .ok (.ifCond .eq 99, 3) := by decide +kernel
theorem dL_holds_418 : decode cL_holds 418 = .ok (.iload_n 1, 1) := by decide +kernel
theorem dL_holds_419 : decode cL_holds 419 = .ok (.aload_n 0, 1) := by decide +kernel
theorem dL_holds_420 : decode cL_holds 420 = .ok (.iconst 1, 1) := by decide +kernel
theorem dL_holds_421 : decode cL_holds 421 = .ok (.invokevirtual 12, 3) := by decide +kernel
theorem dL_holds_424 : decode cL_holds 424 = .ok (.if_icmp .ne 90, 3) := by decide +kernel
theorem dL_holds_427 : decode cL_holds 427 = .ok (.iload 4, 2) := by decide +kernel
theorem dL_holds_429 : decode cL_holds 429 = .ok (.aload_n 0, 1) := by decide +kernel
theorem dL_holds_430 : decode cL_holds 430 = .ok (.iconst 2, 1) := by decide +kernel
theorem dL_holds_431 : decode cL_holds 431 = .ok (.invokevirtual 12, 3) := by decide +kernel
theorem dL_holds_434 : decode cL_holds 434 = .ok (.if_icmp .ne 80, 3) := by decide +kernel
theorem dL_holds_437 : decode cL_holds 437 = .ok (.iload_n 2, 1) := by decide +kernel
theorem dL_holds_438 : decode cL_holds 438 = .ok (.aload_n 0, 1) := by decide +kernel
theorem dL_holds_439 : decode cL_holds 439 = .ok (.bipush 6, 2) := by decide +kernel
theorem dL_holds_441 : decode cL_holds 441 = .ok (.invokevirtual 12, 3) := by decide +kernel
theorem dL_holds_444 : decode cL_holds 444 = .ok (.if_icmp .ne 70, 3) := by decide +kernel
theorem dL_holds_447 : decode cL_holds 447 = .ok (.iload_n 2, 1) := by decide +kernel
theorem dL_holds_448 : decode cL_holds 448 = .ok (.aload_n 0, 1) := by decide +kernel
theorem dL_holds_449 : decode cL_holds 449 = .ok (.bipush 10, 2) := by decide +kernel
theorem dL_holds_451 : decode cL_holds 451 = .ok (.invokevirtual 12, 3) := by decide +kernel
theorem dL_holds_454 : decode cL_holds 454 = .ok (.if_icmp .gt 60, 3) := by decide +kernel
theorem dL_holds_457 : decode cL_holds 457 = .ok (.iload_n 3, 1) := by decide +kernel
theorem dL_holds_458 : decode cL_holds 458 = .ok (.aload_n 0, 1) := by decide +kernel
theorem dL_holds_459 : decode cL_holds 459 = .ok (.bipush 7, 2) := by decide +kernel
theorem dL_holds_461 : decode cL_holds 461 = .ok (.invokevirtual 12, 3) := by decide +kernel
theorem dL_holds_464 : decode cL_holds 464 = .ok (.if_icmp .ne 50, 3) := by decide +kernel
theorem dL_holds_467 : decode cL_holds 467 = .ok (.aload_n 0, 1) := by decide +kernel
theorem dL_holds_468 : decode cL_holds 468 = .ok (.invokevirtual 61, 3) := by decide +kernel
theorem dL_holds_471 : decode cL_holds 471 = .ok (.iconst (-1), 1) := by decide +kernel
theorem dL_holds_472 : decode cL_holds 472 = .ok (.if_icmp .ne 7, 3) := by decide +kernel
theorem dL_holds_475 : decode cL_holds 475 = .ok (.iconst 1, 1) := by decide +kernel
theorem dL_holds_476 : decode cL_holds 476 = .ok (.goto 4, 3) := by decide +kernel
theorem dL_holds_479 : decode cL_holds 479 = .ok (.iconst 0, 1) := by decide +kernel
theorem dL_holds_480 : decode cL_holds 480 = .ok (.iload_n 1, 1) := by decide +kernel
theorem dL_holds_481 : decode cL_holds 481 = .ok (.ifCond .ne 7, 3) := by decide +kernel
theorem dL_holds_484 : decode cL_holds 484 = .ok (.iconst 1, 1) := by decide +kernel
theorem dL_holds_485 : decode cL_holds 485 = .ok (.goto 4, 3) := by decide +kernel
theorem dL_holds_488 : decode cL_holds 488 = .ok (.iconst 0, 1) := by decide +kernel
theorem dL_holds_489 : decode cL_holds 489 = .ok (.if_icmp .ne 25, 3) := by decide +kernel
theorem dL_holds_492 : decode cL_holds 492 = .ok (.aload_n 0, 1) := by decide +kernel
theorem dL_holds_493 : decode cL_holds 493 = .ok (.invokevirtual 65, 3) := by decide +kernel
theorem dL_holds_496 : decode cL_holds 496 = .ok (.dconst 0, 1) := by decide +kernel
theorem dL_holds_497 : decode cL_holds 497 = .ok (.dcmp .l, 1) := by decide +kernel
theorem dL_holds_498 : decode cL_holds 498 = .ok (.ifCond .lt 16, 3) := by decide +kernel
theorem dL_holds_501 : decode cL_holds 501 = .ok (.aload_n 0, 1) := by decide +kernel
theorem dL_holds_502 : decode cL_holds 502 = .ok (.invokevirtual 65, 3) := by decide +kernel
theorem dL_holds_505 : decode cL_holds 505 = .ok (.dconst 1, 1) := by decide +kernel
theorem dL_holds_506 : decode cL_holds 506 = .ok (.dcmp .g, 1) := by decide +kernel
theorem dL_holds_507 : decode cL_holds 507 = .ok (.ifCond .gt 7, 3) := by decide +kernel
theorem dL_holds_510 : decode cL_holds 510 = .ok (.iconst 1, 1) := by decide +kernel
theorem dL_holds_511 : decode cL_holds 511 = .ok (.goto 4, 3) := by decide +kernel
theorem dL_holds_514 : decode cL_holds 514 = .ok (.iconst 0, 1) := by decide +kernel
theorem dL_holds_515 : decode cL_holds 515 = .ok (.ireturn, 1) := by decide +kernel
set_option maxRecDepth 20000 in
theorem ggL_law_X4_init : GoodIn wsL_law wsX4_init := goodIn_r _ [5, 6, 7, 8, 9, 10, 11, 12, 13, 14, 15, 16, 17, 18, 19, 20, 21, 22, 23, 24, 25, 26, 27, 28, 29, 30, 31, 32, 33, 34, 35, 36, 37, 38, 39, 40, 41, 42, 43, 44, 45, 46, 47, 48, 49, 50, 51, 52, 53, 54, 55, 56, 57, 58, 59, 60, 61, 62, 63, 64, 65, 66, 67, 68, 69, 70, 71, 72, 332, 333, 334, 335, 336, 337, 338, 339, 340, 324, 325, 326, 327, 328, 329, 330, 331, 341, 342, 343, 344, 345, 346, 347, 348, 349, 350, 351, 352, 353] (by decide +kernel) (by decide +kernel)
set_option maxRecDepth 20000 in
theorem gL_law_X4_init : GoodIn wsL_law (wsX4_init) := ggL_law_X4_init
set_option maxRecDepth 20000 in
theorem ggL_law_L_cell : GoodIn wsL_law wsL_cell := goodIn_r _ [76] (by decide +kernel) (by decide +kernel)
set_option maxRecDepth 20000 in
theorem gL_law_L_cell : GoodIn wsL_law (va_wsS RL 70 yL_cell wsL_cell) := goodIn_app (goodIn_of _ (by decide +kernel)) ggL_law_L_cell
set_option maxRecDepth 20000 in
theorem ggL_law_X4_count : GoodIn wsL_law wsX4_count := goodIn_ca (goodIn_r _ [80, 81, 82, 12, 83, 84, 85, 86, 87, 88, 89, 14, 90, 91, 92, 11, 93, 35, 94, 95, 96, 24, 97, 98, 99, 100, 101, 56, 54, 102, 103, 104, 105, 37, 106, 107, 108, 109, 110, 111, 112, 113, 114, 115, 116, 324, 325, 326, 327, 328, 329, 330, 331, 332, 333, 334, 335, 336, 337, 338, 339, 340, 346, 347, 348, 349, 350, 351, 352, 353] (by decide +kernel) (by decide +kernel)) (goodIn_sub (fun _ h => List.mem_append_left _ (List.mem_append_left _ (List.mem_append_right _ h))) (by decide +kernel))
set_option maxRecDepth 20000 in
theorem gL_law_X4_count : GoodIn wsL_law (wsV RL 12 RX4 yX4_count wsX4_count) := goodIn_app (goodIn_of _ (by decide +kernel)) ggL_law_X4_count
set_option maxRecDepth 20000 in
theorem ggL_law_X4_undo : GoodIn wsL_law wsX4_undo := goodIn_ca (goodIn_r _ [120, 121, 122, 14, 12, 13, 123, 124, 125, 11, 126, 35, 37, 44, 45, 46, 47, 48, 49, 50, 127, 128, 129, 24, 130, 54, 55, 56, 57, 58, 59, 131, 132, 133, 28, 134, 63, 64, 324, 325, 326, 327, 328, 329, 330, 331, 332, 333, 334, 335, 336, 337, 338, 339, 340, 346, 347, 348, 349, 350, 351, 352, 353] (by decide +kernel) (by decide +kernel)) (goodIn_sub (fun _ h => List.mem_append_left _ (List.mem_append_right _ h)) (by decide +kernel))
set_option maxRecDepth 20000 in
theorem gL_law_X4_undo : GoodIn wsL_law (wsV RL 74 RX4 yX4_undo wsX4_undo) := goodIn_app (goodIn_of _ (by decide +kernel)) ggL_law_X4_undo
set_option maxRecDepth 20000 in
theorem ggL_law_L_told : GoodIn wsL_law wsL_told := goodIn_ca (goodIn_ca (goodIn_r _ [137, 138, 139, 77, 78, 79, 2, 80, 81, 82, 12, 83, 84, 85, 86, 87, 88, 89, 14, 90, 91, 92, 11, 93, 35, 94, 95, 96, 24, 97, 98, 99, 100, 101, 56, 54, 102, 103, 104, 105, 37, 106, 107, 108, 109, 110, 111, 112, 113, 114, 115, 116, 140, 141, 142, 143, 144, 145, 146, 147, 148, 149, 150, 151, 152, 153, 154, 155, 156, 157, 158, 159, 160, 161, 162, 163, 164, 165, 166, 167, 168, 169, 170, 171, 172, 173, 174, 175, 176, 177, 178, 324, 325, 326, 327, 328, 329, 330, 331, 332, 333, 334, 335, 336, 337, 338, 339, 340, 346, 347, 348, 349, 350, 351, 352, 353] (by decide +kernel) (by decide +kernel)) (goodIn_sub (fun _ h => List.mem_append_left _ (List.mem_append_left _ (List.mem_append_right _ h))) (by decide +kernel))) (goodIn_sub (fun _ h => List.mem_append_right _ h) (by decide +kernel))
set_option maxRecDepth 20000 in
theorem gL_law_L_told : GoodIn wsL_law (va_wsS RL 77 yL_told wsL_told) := goodIn_app (goodIn_of _ (by decide +kernel)) ggL_law_L_told
theorem dL_law_0 : decode cL_law 0 = .ok (.new 13, 3) := by decide +kernel
theorem dL_law_3 : decode cL_law 3 = .ok (.dup, 1) := by decide +kernel
theorem dL_law_4 : decode cL_law 4 = .ok (.invokespecial 69, 3) := by decide +kernel
theorem dL_law_7 : decode cL_law 7 = .ok (.astore_n 1, 1) := by decide +kernel
theorem dL_law_8 : decode cL_law 8 = .ok (.iconst 0, 1) := by decide +kernel
theorem dL_law_9 : decode cL_law 9 = .ok (.istore_n 2, 1) := by decide +kernel
theorem dL_law_10 : decode cL_law 10 = .ok (.iload_n 2, 1) := by decide +kernel
theorem dL_law_11 : decode cL_law 11 = .ok (.bipush 44, 2) := by decide +kernel
theorem dL_law_13 : decode cL_law 13 = .ok (.if_icmp .ge 208, 3) := by decide +kernel
theorem dL_law_16 : decode cL_law 16 = .ok (.iload_n 2, 1) := by decide +kernel
theorem dL_law_17 : decode cL_law 17 = .ok (.iconst 4, 1) := by decide +kernel
theorem dL_law_18 : decode cL_law 18 = .ok (.if_icmp .ge 16, 3) := by decide +kernel
theorem dL_law_21 : decode cL_law 21 = .ok (.aload_n 0, 1) := by decide +kernel
theorem dL_law_22 : decode cL_law 22 = .ok (.iconst 2, 1) := by decide +kernel
theorem dL_law_23 : decode cL_law 23 = .ok (.iload_n 2, 1) := by decide +kernel
theorem dL_law_24 : decode cL_law 24 = .ok (.imul, 1) := by decide +kernel
theorem dL_law_25 : decode cL_law 25 = .ok (.invokestatic 70, 3) := by decide +kernel
theorem dL_law_28 : decode cL_law 28 = .ok (.bipush (-16), 2) := by decide +kernel
theorem dL_law_30 : decode cL_law 30 = .ok (.iand, 1) := by decide +kernel
theorem dL_law_31 : decode cL_law 31 = .ok (.goto 10, 3) := by decide +kernel
theorem dL_law_34 : decode cL_law 34 = .ok (.aload_n 0, 1) := by decide +kernel
theorem dL_law_35 : decode cL_law 35 = .ok (.iconst 2, 1) := by decide +kernel
theorem dL_law_36 : decode cL_law 36 = .ok (.iload_n 2, 1) := by decide +kernel
theorem dL_law_37 : decode cL_law 37 = .ok (.imul, 1) := by decide +kernel
theorem dL_law_38 : decode cL_law 38 = .ok (.invokestatic 70, 3) := by decide +kernel
theorem dL_law_41 : decode cL_law 41 = .ok (.istore_n 3, 1) := by decide +kernel
theorem dL_law_42 : decode cL_law 42 = .ok (.aload_n 0, 1) := by decide +kernel
theorem dL_law_43 : decode cL_law 43 = .ok (.iconst 2, 1) := by decide +kernel
theorem dL_law_44 : decode cL_law 44 = .ok (.iload_n 2, 1) := by decide +kernel
theorem dL_law_45 : decode cL_law 45 = .ok (.imul, 1) := by decide +kernel
theorem dL_law_46 : decode cL_law 46 = .ok (.iconst 1, 1) := by decide +kernel
theorem dL_law_47 : decode cL_law 47 = .ok (.iadd, 1) := by decide +kernel
theorem dL_law_48 : decode cL_law 48 = .ok (.invokestatic 70, 3) := by decide +kernel
theorem dL_law_51 : decode cL_law 51 = .ok (.istore 4, 2) := by decide +kernel
theorem dL_law_53 : decode cL_law 53 = .ok (.aload_n 1, 1) := by decide +kernel
theorem dL_law_54 : decode cL_law 54 = .ok (.bipush 14, 2) := by decide +kernel
theorem dL_law_56 : decode cL_law 56 = .ok (.invokevirtual 12, 3) := by decide +kernel
theorem dL_law_59 : decode cL_law 59 = .ok (.bipush 6, 2) := by decide +kernel
theorem dL_law_61 : decode cL_law 61 = .ok (.if_icmp .ne 13, 3) := by decide +kernel
theorem dL_law_64 : decode cL_law 64 = .ok (.aload_n 1, 1) := by decide +kernel
theorem dL_law_65 : decode cL_law 65 = .ok (.invokevirtual 74, 3) := by decide +kernel
theorem dL_law_68 : decode cL_law 68 = .ok (.pop, 1) := by decide +kernel
theorem dL_law_69 : decode cL_law 69 = .ok (.aload_n 1, 1) := by decide +kernel
theorem dL_law_70 : decode cL_law 70 = .ok (.invokevirtual 74, 3) := by decide +kernel
theorem dL_law_73 : decode cL_law 73 = .ok (.pop, 1) := by decide +kernel
theorem dL_law_74 : decode cL_law 74 = .ok (.aload_n 1, 1) := by decide +kernel
theorem dL_law_75 : decode cL_law 75 = .ok (.bipush 14, 2) := by decide +kernel
theorem dL_law_77 : decode cL_law 77 = .ok (.invokevirtual 12, 3) := by decide +kernel
theorem dL_law_80 : decode cL_law 80 = .ok (.istore 5, 2) := by decide +kernel
theorem dL_law_82 : decode cL_law 82 = .ok (.aload_n 1, 1) := by decide +kernel
theorem dL_law_83 : decode cL_law 83 = .ok (.invokestatic 77, 3) := by decide +kernel
theorem dL_law_86 : decode cL_law 86 = .ok (.lstore 6, 2) := by decide +kernel
theorem dL_law_88 : decode cL_law 88 = .ok (.aload_n 1, 1) := by decide +kernel
theorem dL_law_89 : decode cL_law 89 = .ok (.iload_n 3, 1) := by decide +kernel
theorem dL_law_90 : decode cL_law 90 = .ok (.iload 4, 2) := by decide +kernel
theorem dL_law_92 : decode cL_law 92 = .ok (.invokestatic 81, 3) := by decide +kernel
theorem dL_law_95 : decode cL_law 95 = .ok (.istore 8, 2) := by decide +kernel
theorem dL_law_97 : decode cL_law 97 = .ok (.aload_n 1, 1) := by decide +kernel
theorem dL_law_98 : decode cL_law 98 = .ok (.invokestatic 77, 3) := by decide +kernel
theorem dL_law_101 : decode cL_law 101 = .ok (.lstore 9, 2) := by decide +kernel
theorem dL_law_103 : decode cL_law 103 = .ok (.iload 8, 2) := by decide +kernel
theorem dL_law_105 : decode cL_law 105 = .ok (.bipush (-9), 2) := by decide +kernel
theorem dL_law_107 : decode cL_law 107 = .ok (.if_icmp .ne 25, 3) := by decide +kernel
theorem dL_law_110 : decode cL_law 110 = .ok (.lload 9, 2) := by decide +kernel
theorem dL_law_112 : decode cL_law 112 = .ok (.lload 6, 2) := by decide +kernel
theorem dL_law_114 : decode cL_law 114 = .ok (.lcmp, 1) := by decide +kernel
theorem dL_law_115 : decode cL_law 115 = .ok (.ifCond .ne 30, 3) := by decide +kernel
theorem dL_law_118 : decode cL_law 118 = .ok (.aload_n 1, 1) := by decide +kernel
theorem dL_law_119 : decode cL_law 119 = .ok (.bipush 14, 2) := by decide +kernel
theorem dL_law_121 : decode cL_law 121 = .ok (.invokevirtual 12, 3) := by decide +kernel
theorem dL_law_124 : decode cL_law 124 = .ok (.iload 5, 2) := by decide +kernel
theorem dL_law_126 : decode cL_law 126 = .ok (.if_icmp .eq 21, 3) := by decide +kernel
theorem dL_law_129 : decode cL_law 129 = .ok (.goto 16, 3) := by decide +kernel
theorem dL_law_132 : decode cL_law 132 = .ok (.aload_n 1, 1) := by decide +kernel
theorem dL_law_133 : decode cL_law 133 = .ok (.bipush 14, 2) := by decide +kernel
theorem dL_law_135 : decode cL_law 135 = .ok (.invokevirtual 12, 3) := by decide +kernel
theorem dL_law_138 : decode cL_law 138 = .ok (.iload 5, 2) := by decide +kernel
theorem dL_law_140 : decode cL_law 140 = .ok (.iconst 1, 1) := by decide +kernel
theorem dL_law_141 : decode cL_law 141 = .ok (.iadd, 1) := by decide +kernel
theorem dL_law_142 : decode cL_law 142 = .ok (.if_icmp .eq 5, 3) := by decide +kernel
theorem dL_law_145 : decode cL_law 145 = .ok (.iconst 0, 1) := by decide +kernel
theorem dL_law_146 : decode cL_law 146 = .ok (.ireturn, 1) := by decide +kernel
theorem dL_law_147 : decode cL_law 147 = .ok (.iload 8, 2) := by decide +kernel
theorem dL_law_149 : decode cL_law 149 = .ok (.bipush (-9), 2) := by decide +kernel
theorem dL_law_151 : decode cL_law 151 = .ok (.if_icmp .le 55, 3) := by decide +kernel
theorem dL_law_154 : decode cL_law 154 = .ok (.iload_n 3, 1) := by decide +kernel
theorem dL_law_155 : decode cL_law 155 = .ok (.bipush 10, 2) := by decide +kernel
theorem dL_law_157 : decode cL_law 157 = .ok (.ishr, 1) := by decide +kernel
theorem dL_law_158 : decode cL_law 158 = .ok (.iconst 1, 1) := by decide +kernel
theorem dL_law_159 : decode cL_law 159 = .ok (.iand, 1) := by decide +kernel
theorem dL_law_160 : decode cL_law 160 = .ok (.ifCond .ne 46, 3) := by decide +kernel
theorem dL_law_163 : decode cL_law 163 = .ok (.aload_n 1, 1) := by decide +kernel
theorem dL_law_164 : decode cL_law 164 = .ok (.invokevirtual 74, 3) := by decide +kernel
theorem dL_law_167 : decode cL_law 167 = .ok (.iload 5, 2) := by decide +kernel
theorem dL_law_169 : decode cL_law 169 = .ok (.if_icmp .ne 35, 3) := by decide +kernel
theorem dL_law_172 : decode cL_law 172 = .ok (.aload_n 1, 1) := by decide +kernel
theorem dL_law_173 : decode cL_law 173 = .ok (.invokestatic 77, 3) := by decide +kernel
theorem dL_law_176 : decode cL_law 176 = .ok (.lload 6, 2) := by decide +kernel
theorem dL_law_178 : decode cL_law 178 = .ok (.lcmp, 1) := by decide +kernel
theorem dL_law_179 : decode cL_law 179 = .ok (.ifCond .ne 25, 3) := by decide +kernel
theorem dL_law_182 : decode cL_law 182 = .ok (.aload_n 1, 1) := by decide +kernel
theorem dL_law_183 : decode cL_law 183 = .ok (.iload_n 3, 1) := by decide +kernel
theorem dL_law_184 : decode cL_law 184 = .ok (.iload 4, 2) := by decide +kernel
theorem dL_law_186 : decode cL_law 186 = .ok (.invokestatic 81, 3) := by decide +kernel
theorem dL_law_189 : decode cL_law 189 = .ok (.iload 8, 2) := by decide +kernel
theorem dL_law_191 : decode cL_law 191 = .ok (.if_icmp .ne 13, 3) := by decide +kernel
theorem dL_law_194 : decode cL_law 194 = .ok (.aload_n 1, 1) := by decide +kernel
theorem dL_law_195 : decode cL_law 195 = .ok (.invokestatic 77, 3) := by decide +kernel
theorem dL_law_198 : decode cL_law 198 = .ok (.lload 9, 2) := by decide +kernel
theorem dL_law_200 : decode cL_law 200 = .ok (.lcmp, 1) := by decide +kernel
theorem dL_law_201 : decode cL_law 201 = .ok (.ifCond .eq 5, 3) := by decide +kernel
theorem dL_law_204 : decode cL_law 204 = .ok (.iconst 0, 1) := by decide +kernel
theorem dL_law_205 : decode cL_law 205 = .ok (.ireturn, 1) := by decide +kernel
theorem dL_law_206 : decode cL_law 206 = .ok (.aload_n 1, 1) := by decide +kernel
theorem dL_law_207 : decode cL_law 207 = .ok (.invokestatic 85, 3) := by decide +kernel
theorem dL_law_210 : decode cL_law 210 = .ok (.ifCond .ne 5, 3) := by decide +kernel
theorem dL_law_213 : decode cL_law 213 = .ok (.iconst 0, 1) := by decide +kernel
theorem dL_law_214 : decode cL_law 214 = .ok (.ireturn, 1) := by decide +kernel
theorem dL_law_215 : decode cL_law 215 = .ok (.iinc 2 1, 3) := by decide +kernel
theorem dL_law_218 : decode cL_law 218 = .ok (.goto (-208), 3) := by decide +kernel
theorem dL_law_221 : decode cL_law 221 = .ok (.iconst 1, 1) := by decide +kernel
theorem dL_law_222 : decode cL_law 222 = .ok (.ireturn, 1) := by decide +kernel
