theorem dX1_init_0 : decode cX1_init 0 = .ok (.aload_n 0, 1) := by decide +kernel
theorem dX1_init_1 : decode cX1_init 1 = .ok (.invokespecial 1, 3) := by decide +kernel
theorem dX1_init_4 : decode cX1_init 4 = .ok (.aload_n 0, 1) := by decide +kernel
theorem dX1_init_5 : decode cX1_init 5 = .ok (.bipush 48, 2) := by decide +kernel
theorem dX1_init_7 : decode cX1_init 7 = .ok (.bipush 16, 2) := by decide +kernel
theorem dX1_init_9 : decode cX1_init 9 = .ok (.multianewarray 9 2, 4) := by decide +kernel
theorem dX1_init_13 : decode cX1_init 13 = .ok (.putfield 11, 3) := by decide +kernel
theorem dX1_init_16 : decode cX1_init 16 = .ok (.aload_n 0, 1) := by decide +kernel
theorem dX1_init_17 : decode cX1_init 17 = .ok (.bipush 16, 2) := by decide +kernel
theorem dX1_init_19 : decode cX1_init 19 = .ok (.newarray .long, 2) := by decide +kernel
theorem dX1_init_21 : decode cX1_init 21 = .ok (.putfield 14, 3) := by decide +kernel
theorem dX1_init_24 : decode cX1_init 24 = .ok (.aload_n 0, 1) := by decide +kernel
theorem dX1_init_25 : decode cX1_init 25 = .ok (.bipush 16, 2) := by decide +kernel
theorem dX1_init_27 : decode cX1_init 27 = .ok (.newarray .long, 2) := by decide +kernel
theorem dX1_init_29 : decode cX1_init 29 = .ok (.putfield 18, 3) := by decide +kernel
theorem dX1_init_32 : decode cX1_init 32 = .ok (.aload_n 0, 1) := by decide +kernel
theorem dX1_init_33 : decode cX1_init 33 = .ok (.bipush 16, 2) := by decide +kernel
theorem dX1_init_35 : decode cX1_init 35 = .ok (.newarray .long, 2) := by decide +kernel
theorem dX1_init_37 : decode cX1_init 37 = .ok (.putfield 21, 3) := by decide +kernel
theorem dX1_init_40 : decode cX1_init 40 = .ok (.aload_n 0, 1) := by decide +kernel
theorem dX1_init_41 : decode cX1_init 41 = .ok (.bipush 16, 2) := by decide +kernel
theorem dX1_init_43 : decode cX1_init 43 = .ok (.newarray .long, 2) := by decide +kernel
theorem dX1_init_45 : decode cX1_init 45 = .ok (.putfield 24, 3) := by decide +kernel
theorem dX1_init_48 : decode cX1_init 48 = .ok (.aload_n 0, 1) := by decide +kernel
theorem dX1_init_49 : decode cX1_init 49 = .ok (.new 27, 3) := by decide +kernel
theorem dX1_init_52 : decode cX1_init 52 = .ok (.dup, 1) := by decide +kernel
theorem dX1_init_53 : decode cX1_init 53 = .ok (.invokespecial 29, 3) := by decide +kernel
theorem dX1_init_56 : decode cX1_init 56 = .ok (.putfield 30, 3) := by decide +kernel
theorem dX1_init_59 : decode cX1_init 59 = .ok (.return_, 1) := by decide +kernel
set_option maxRecDepth 20000 in
theorem ggX1_constant_X1_checkSlot : GoodIn wsX1_constant wsX1_checkSlot := goodIn_ca (goodIn_r _ [6, 7, 8] (by decide +kernel) (by decide +kernel)) (goodIn_sub (fun _ h => List.mem_cons_of_mem _ (List.mem_append_right _ h)) (by decide +kernel))
set_option maxRecDepth 20000 in
theorem gX1_constant_X1_checkSlot : GoodIn wsX1_constant (va_wsS RX1 34 yX1_checkSlot wsX1_checkSlot) := goodIn_app (goodIn_of _ (by decide +kernel)) ggX1_constant_X1_checkSlot
theorem dX1_constant_0 : decode cX1_constant 0 = .ok (.iload_n 1, 1) := by decide +kernel
theorem dX1_constant_1 : decode cX1_constant 1 = .ok (.invokestatic 34, 3) := by decide +kernel
theorem dX1_constant_4 : decode cX1_constant 4 = .ok (.iconst 0, 1) := by decide +kernel
theorem dX1_constant_5 : decode cX1_constant 5 = .ok (.istore_n 3, 1) := by decide +kernel
theorem dX1_constant_6 : decode cX1_constant 6 = .ok (.iload_n 3, 1) := by decide +kernel
theorem dX1_constant_7 : decode cX1_constant 7 = .ok (.bipush 16, 2) := by decide +kernel
theorem dX1_constant_9 : decode cX1_constant 9 = .ok (.if_icmp .ge 28, 3) := by decide +kernel
theorem dX1_constant_12 : decode cX1_constant 12 = .ok (.aload_n 0, 1) := by decide +kernel
theorem dX1_constant_13 : decode cX1_constant 13 = .ok (.getfield 11, 3) := by decide +kernel
theorem dX1_constant_16 : decode cX1_constant 16 = .ok (.iload_n 1, 1) := by decide +kernel
theorem dX1_constant_17 : decode cX1_constant 17 = .ok (.aaload, 1) := by decide +kernel
theorem dX1_constant_18 : decode cX1_constant 18 = .ok (.iload_n 3, 1) := by decide +kernel
theorem dX1_constant_19 : decode cX1_constant 19 = .ok (.iload_n 2, 1) := by decide +kernel
theorem dX1_constant_20 : decode cX1_constant 20 = .ok (.ifCond .eq 9, 3) := by decide +kernel
theorem dX1_constant_23 : decode cX1_constant 23 = .ok (.ldc2_w 38, 3) := by decide +kernel
theorem dX1_constant_26 : decode cX1_constant 26 = .ok (.goto 4, 3) := by decide +kernel
theorem dX1_constant_29 : decode cX1_constant 29 = .ok (.lconst 0, 1) := by decide +kernel
theorem dX1_constant_30 : decode cX1_constant 30 = .ok (.lastore, 1) := by decide +kernel
theorem dX1_constant_31 : decode cX1_constant 31 = .ok (.iinc 3 1, 3) := by decide +kernel
theorem dX1_constant_34 : decode cX1_constant 34 = .ok (.goto (-28), 3) := by decide +kernel
theorem dX1_constant_37 : decode cX1_constant 37 = .ok (.return_, 1) := by decide +kernel
set_option maxRecDepth 20000 in
theorem ggX1_variable_X1_checkSlot : GoodIn wsX1_variable wsX1_checkSlot := goodIn_ca (goodIn_r _ [5, 6, 7] (by decide +kernel) (by decide +kernel)) (goodIn_sub (fun _ h => List.mem_cons_of_mem _ (List.mem_append_left _ (List.mem_append_right _ h))) (by decide +kernel))
set_option maxRecDepth 20000 in
theorem gX1_variable_X1_checkSlot : GoodIn wsX1_variable (va_wsS RX1 34 yX1_checkSlot wsX1_checkSlot) := goodIn_app (goodIn_of _ (by decide +kernel)) ggX1_variable_X1_checkSlot
set_option maxRecDepth 20000 in
theorem ggX1_variable_X1_checkVariable : GoodIn wsX1_variable wsX1_checkVariable := goodIn_ca (goodIn_r _ [10, 11, 12] (by decide +kernel) (by decide +kernel)) (goodIn_sub (fun _ h => List.mem_cons_of_mem _ (List.mem_append_right _ h)) (by decide +kernel))
set_option maxRecDepth 20000 in
theorem gX1_variable_X1_checkVariable : GoodIn wsX1_variable (va_wsS RX1 40 yX1_checkVariable wsX1_checkVariable) := goodIn_app (goodIn_of _ (by decide +kernel)) ggX1_variable_X1_checkVariable
set_option maxRecDepth 20000 in
theorem ggX1_variable_X1_variableWord : GoodIn wsX1_variable wsX1_variableWord := goodIn_r _ [15, 16, 17, 18, 4, 19] (by decide +kernel) (by decide +kernel)
set_option maxRecDepth 20000 in
theorem gX1_variable_X1_variableWord : GoodIn wsX1_variable (va_wsS RX1 43 yX1_variableWord wsX1_variableWord) := goodIn_app (goodIn_of _ (by decide +kernel)) ggX1_variable_X1_variableWord
theorem dX1_variable_0 : decode cX1_variable 0 = .ok (.iload_n 1, 1) := by decide +kernel
theorem dX1_variable_1 : decode cX1_variable 1 = .ok (.invokestatic 34, 3) := by decide +kernel
theorem dX1_variable_4 : decode cX1_variable 4 = .ok (.iload_n 2, 1) := by decide +kernel
theorem dX1_variable_5 : decode cX1_variable 5 = .ok (.invokestatic 40, 3) := by decide +kernel
theorem dX1_variable_8 : decode cX1_variable 8 = .ok (.iconst 0, 1) := by decide +kernel
theorem dX1_variable_9 : decode cX1_variable 9 = .ok (.istore_n 3, 1) := by decide +kernel
theorem dX1_variable_10 : decode cX1_variable 10 = .ok (.iload_n 3, 1) := by decide +kernel
theorem dX1_variable_11 : decode cX1_variable 11 = .ok (.bipush 16, 2) := by decide +kernel
theorem dX1_variable_13 : decode cX1_variable 13 = .ok (.if_icmp .ge 22, 3) := by decide +kernel
theorem dX1_variable_16 : decode cX1_variable 16 = .ok (.aload_n 0, 1) := by decide +kernel
theorem dX1_variable_17 : decode cX1_variable 17 = .ok (.getfield 11, 3) := by decide +kernel
theorem dX1_variable_20 : decode cX1_variable 20 = .ok (.iload_n 1, 1) := by decide +kernel
theorem dX1_variable_21 : decode cX1_variable 21 = .ok (.aaload, 1) := by decide +kernel
theorem dX1_variable_22 : decode cX1_variable 22 = .ok (.iload_n 3, 1) := by decide +kernel
theorem dX1_variable_23 : decode cX1_variable 23 = .ok (.iload_n 2, 1) := by decide +kernel
theorem dX1_variable_24 : decode cX1_variable 24 = .ok (.iload_n 3, 1) := by decide +kernel
theorem dX1_variable_25 : decode cX1_variable 25 = .ok (.invokestatic 43, 3) := by decide +kernel
theorem dX1_variable_28 : decode cX1_variable 28 = .ok (.lastore, 1) := by decide +kernel
theorem dX1_variable_29 : decode cX1_variable 29 = .ok (.iinc 3 1, 3) := by decide +kernel
theorem dX1_variable_32 : decode cX1_variable 32 = .ok (.goto (-22), 3) := by decide +kernel
theorem dX1_variable_35 : decode cX1_variable 35 = .ok (.return_, 1) := by decide +kernel
set_option maxRecDepth 20000 in
theorem ggX1_join_X1_checkSlot : GoodIn wsX1_join wsX1_checkSlot := goodIn_ca (goodIn_r _ [8, 9, 10] (by decide +kernel) (by decide +kernel)) (goodIn_sub (fun _ h => List.mem_cons_of_mem _ (List.mem_append_right _ h)) (by decide +kernel))
set_option maxRecDepth 20000 in
theorem gX1_join_X1_checkSlot : GoodIn wsX1_join (va_wsS RX1 34 yX1_checkSlot wsX1_checkSlot) := goodIn_app (goodIn_of _ (by decide +kernel)) ggX1_join_X1_checkSlot
set_option maxRecDepth 20000 in
theorem ggX1_join_X1_spreadBit : GoodIn wsX1_join wsX1_spreadBit := goodIn_r _ [13] (by decide +kernel) (by decide +kernel)
set_option maxRecDepth 20000 in
theorem gX1_join_X1_spreadBit : GoodIn wsX1_join (va_wsS RX1 54 yX1_spreadBit wsX1_spreadBit) := goodIn_app (goodIn_of _ (by decide +kernel)) ggX1_join_X1_spreadBit
theorem dX1_join_0 : decode cX1_join 0 = .ok (.iload_n 1, 1) := by decide +kernel
theorem dX1_join_1 : decode cX1_join 1 = .ok (.invokestatic 34, 3) := by decide +kernel
theorem dX1_join_4 : decode cX1_join 4 = .ok (.iload_n 2, 1) := by decide +kernel
theorem dX1_join_5 : decode cX1_join 5 = .ok (.invokestatic 34, 3) := by decide +kernel
theorem dX1_join_8 : decode cX1_join 8 = .ok (.iload_n 3, 1) := by decide +kernel
theorem dX1_join_9 : decode cX1_join 9 = .ok (.invokestatic 34, 3) := by decide +kernel
theorem dX1_join_12 : decode cX1_join 12 = .ok (.iload 4, 2) := by decide +kernel
theorem dX1_join_14 : decode cX1_join 14 = .ok (.ifCond .lt 10, 3) := by decide +kernel
theorem dX1_join_17 : decode cX1_join 17 = .ok (.iload 4, 2) := by decide +kernel
theorem dX1_join_19 : decode cX1_join 19 = .ok (.bipush 15, 2) := by decide +kernel
theorem dX1_join_21 : decode cX1_join 21 = .ok (.if_icmp .le 13, 3) := by decide +kernel
theorem dX1_join_24 : decode cX1_join 24 = .ok (.new 47, 3) := by decide +kernel
theorem dX1_join_27 : decode cX1_join 27 = .ok (.dup, 1) := by decide +kernel
theorem dX1_join_28 : decode cX1_join 28 = .ok (.ldc 49, 2) := by decide +kernel
theorem dX1_join_30 : decode cX1_join 30 = .ok (.invokespecial 51, 3) := by decide +kernel
theorem dX1_join_33 : decode cX1_join 33 = .ok (.athrow, 1) := by decide +kernel
theorem dX1_join_34 : decode cX1_join 34 = .ok (.iconst 0, 1) := by decide +kernel
theorem dX1_join_35 : decode cX1_join 35 = .ok (.istore 5, 2) := by decide +kernel
theorem dX1_join_37 : decode cX1_join 37 = .ok (.iload 5, 2) := by decide +kernel
theorem dX1_join_39 : decode cX1_join 39 = .ok (.bipush 16, 2) := by decide +kernel
theorem dX1_join_41 : decode cX1_join 41 = .ok (.if_icmp .ge 107, 3) := by decide +kernel
theorem dX1_join_44 : decode cX1_join 44 = .ok (.aload_n 0, 1) := by decide +kernel
theorem dX1_join_45 : decode cX1_join 45 = .ok (.getfield 11, 3) := by decide +kernel
theorem dX1_join_48 : decode cX1_join 48 = .ok (.iload_n 2, 1) := by decide +kernel
theorem dX1_join_49 : decode cX1_join 49 = .ok (.aaload, 1) := by decide +kernel
theorem dX1_join_50 : decode cX1_join 50 = .ok (.iload 5, 2) := by decide +kernel
theorem dX1_join_52 : decode cX1_join 52 = .ok (.laload, 1) := by decide +kernel
theorem dX1_join_53 : decode cX1_join 53 = .ok (.lstore 6, 2) := by decide +kernel
theorem dX1_join_55 : decode cX1_join 55 = .ok (.aload_n 0, 1) := by decide +kernel
theorem dX1_join_56 : decode cX1_join 56 = .ok (.getfield 11, 3) := by decide +kernel
theorem dX1_join_59 : decode cX1_join 59 = .ok (.iload_n 3, 1) := by decide +kernel
theorem dX1_join_60 : decode cX1_join 60 = .ok (.aaload, 1) := by decide +kernel
theorem dX1_join_61 : decode cX1_join 61 = .ok (.iload 5, 2) := by decide +kernel
theorem dX1_join_63 : decode cX1_join 63 = .ok (.laload, 1) := by decide +kernel
theorem dX1_join_64 : decode cX1_join 64 = .ok (.lstore 8, 2) := by decide +kernel
theorem dX1_join_66 : decode cX1_join 66 = .ok (.aload_n 0, 1) := by decide +kernel
theorem dX1_join_67 : decode cX1_join 67 = .ok (.getfield 11, 3) := by decide +kernel
theorem dX1_join_70 : decode cX1_join 70 = .ok (.iload_n 1, 1) := by decide +kernel
theorem dX1_join_71 : decode cX1_join 71 = .ok (.aaload, 1) := by decide +kernel
theorem dX1_join_72 : decode cX1_join 72 = .ok (.iload 5, 2) := by decide +kernel
theorem dX1_join_74 : decode cX1_join 74 = .ok (.iload 4, 2) := by decide +kernel
theorem dX1_join_76 : decode cX1_join 76 = .ok (.iconst 0, 1) := by decide +kernel
theorem dX1_join_77 : decode cX1_join 77 = .ok (.invokestatic 54, 3) := by decide +kernel
theorem dX1_join_80 : decode cX1_join 80 = .ok (.lload 6, 2) := by decide +kernel
theorem dX1_join_82 : decode cX1_join 82 = .ok (.ldc2_w 38, 3) := by decide +kernel
theorem dX1_join_85 : decode cX1_join 85 = .ok (.lxor, 1) := by decide +kernel
theorem dX1_join_86 : decode cX1_join 86 = .ok (.land, 1) := by decide +kernel
theorem dX1_join_87 : decode cX1_join 87 = .ok (.lload 8, 2) := by decide +kernel
theorem dX1_join_89 : decode cX1_join 89 = .ok (.ldc2_w 38, 3) := by decide +kernel
theorem dX1_join_92 : decode cX1_join 92 = .ok (.lxor, 1) := by decide +kernel
theorem dX1_join_93 : decode cX1_join 93 = .ok (.land, 1) := by decide +kernel
theorem dX1_join_94 : decode cX1_join 94 = .ok (.iload 4, 2) := by decide +kernel
theorem dX1_join_96 : decode cX1_join 96 = .ok (.iconst 1, 1) := by decide +kernel
theorem dX1_join_97 : decode cX1_join 97 = .ok (.invokestatic 54, 3) := by decide +kernel
theorem dX1_join_100 : decode cX1_join 100 = .ok (.lload 6, 2) := by decide +kernel
theorem dX1_join_102 : decode cX1_join 102 = .ok (.ldc2_w 38, 3) := by decide +kernel
theorem dX1_join_105 : decode cX1_join 105 = .ok (.lxor, 1) := by decide +kernel
theorem dX1_join_106 : decode cX1_join 106 = .ok (.land, 1) := by decide +kernel
theorem dX1_join_107 : decode cX1_join 107 = .ok (.lload 8, 2) := by decide +kernel
theorem dX1_join_109 : decode cX1_join 109 = .ok (.land, 1) := by decide +kernel
theorem dX1_join_110 : decode cX1_join 110 = .ok (.lor, 1) := by decide +kernel
theorem dX1_join_111 : decode cX1_join 111 = .ok (.iload 4, 2) := by decide +kernel
theorem dX1_join_113 : decode cX1_join 113 = .ok (.iconst 2, 1) := by decide +kernel
theorem dX1_join_114 : decode cX1_join 114 = .ok (.invokestatic 54, 3) := by decide +kernel
theorem dX1_join_117 : decode cX1_join 117 = .ok (.lload 6, 2) := by decide +kernel
theorem dX1_join_119 : decode cX1_join 119 = .ok (.land, 1) := by decide +kernel
theorem dX1_join_120 : decode cX1_join 120 = .ok (.lload 8, 2) := by decide +kernel
theorem dX1_join_122 : decode cX1_join 122 = .ok (.ldc2_w 38, 3) := by decide +kernel
theorem dX1_join_125 : decode cX1_join 125 = .ok (.lxor, 1) := by decide +kernel
theorem dX1_join_126 : decode cX1_join 126 = .ok (.land, 1) := by decide +kernel
theorem dX1_join_127 : decode cX1_join 127 = .ok (.lor, 1) := by decide +kernel
theorem dX1_join_128 : decode cX1_join 128 = .ok (.iload 4, 2) := by decide +kernel
theorem dX1_join_130 : decode cX1_join 130 = .ok (.iconst 3, 1) := by decide +kernel
theorem dX1_join_131 : decode cX1_join 131 = .ok (.invokestatic 54, 3) := by decide +kernel
theorem dX1_join_134 : decode cX1_join 134 = .ok (.lload 6, 2) := by decide +kernel
theorem dX1_join_136 : decode cX1_join 136 = .ok (.land, 1) := by decide +kernel
theorem dX1_join_137 : decode cX1_join 137 = .ok (.lload 8, 2) := by decide +kernel
theorem dX1_join_139 : decode cX1_join 139 = .ok (.land, 1) := by decide +kernel
theorem dX1_join_140 : decode cX1_join 140 = .ok (.lor, 1) := by decide +kernel
theorem dX1_join_141 : decode cX1_join 141 = .ok (.lastore, 1) := by decide +kernel
theorem dX1_join_142 : decode cX1_join 142 = .ok (.iinc 5 1, 3) := by decide +kernel
theorem dX1_join_145 : decode cX1_join 145 = .ok (.goto (-108), 3) := by decide +kernel
theorem dX1_join_148 : decode cX1_join 148 = .ok (.return_, 1) := by decide +kernel
set_option maxRecDepth 20000 in
theorem ggX1_choose_X1_checkSlot : GoodIn wsX1_choose wsX1_checkSlot := goodIn_ca (goodIn_r _ [5, 6, 7] (by decide +kernel) (by decide +kernel)) (goodIn_sub (fun _ h => List.mem_cons_of_mem _ (List.mem_append_right _ h)) (by decide +kernel))
set_option maxRecDepth 20000 in
theorem gX1_choose_X1_checkSlot : GoodIn wsX1_choose (va_wsS RX1 34 yX1_checkSlot wsX1_checkSlot) := goodIn_app (goodIn_of _ (by decide +kernel)) ggX1_choose_X1_checkSlot
set_option maxRecDepth 20000 in
theorem ggX1_choose_X1_pick : GoodIn wsX1_choose wsX1_pick := goodIn_r _ [10, 11] (by decide +kernel) (by decide +kernel)
set_option maxRecDepth 20000 in
theorem gX1_choose_X1_pick : GoodIn wsX1_choose (va_wsS RX1 57 yX1_pick wsX1_pick) := goodIn_app (goodIn_of _ (by decide +kernel)) ggX1_choose_X1_pick
theorem dX1_choose_0 : decode cX1_choose 0 = .ok (.iload_n 1, 1) := by decide +kernel
theorem dX1_choose_1 : decode cX1_choose 1 = .ok (.invokestatic 34, 3) := by decide +kernel
theorem dX1_choose_4 : decode cX1_choose 4 = .ok (.iload_n 2, 1) := by decide +kernel
theorem dX1_choose_5 : decode cX1_choose 5 = .ok (.invokestatic 34, 3) := by decide +kernel
theorem dX1_choose_8 : decode cX1_choose 8 = .ok (.iload_n 3, 1) := by decide +kernel
theorem dX1_choose_9 : decode cX1_choose 9 = .ok (.invokestatic 34, 3) := by decide +kernel
theorem dX1_choose_12 : decode cX1_choose 12 = .ok (.iload 4, 2) := by decide +kernel
theorem dX1_choose_14 : decode cX1_choose 14 = .ok (.invokestatic 34, 3) := by decide +kernel
theorem dX1_choose_17 : decode cX1_choose 17 = .ok (.iconst 0, 1) := by decide +kernel
theorem dX1_choose_18 : decode cX1_choose 18 = .ok (.istore 5, 2) := by decide +kernel
theorem dX1_choose_20 : decode cX1_choose 20 = .ok (.iload 5, 2) := by decide +kernel
theorem dX1_choose_22 : decode cX1_choose 22 = .ok (.bipush 16, 2) := by decide +kernel
theorem dX1_choose_24 : decode cX1_choose 24 = .ok (.if_icmp .ge 49, 3) := by decide +kernel
theorem dX1_choose_27 : decode cX1_choose 27 = .ok (.aload_n 0, 1) := by decide +kernel
theorem dX1_choose_28 : decode cX1_choose 28 = .ok (.getfield 11, 3) := by decide +kernel
theorem dX1_choose_31 : decode cX1_choose 31 = .ok (.iload_n 1, 1) := by decide +kernel
theorem dX1_choose_32 : decode cX1_choose 32 = .ok (.aaload, 1) := by decide +kernel
theorem dX1_choose_33 : decode cX1_choose 33 = .ok (.iload 5, 2) := by decide +kernel
theorem dX1_choose_35 : decode cX1_choose 35 = .ok (.aload_n 0, 1) := by decide +kernel
theorem dX1_choose_36 : decode cX1_choose 36 = .ok (.getfield 11, 3) := by decide +kernel
theorem dX1_choose_39 : decode cX1_choose 39 = .ok (.iload_n 2, 1) := by decide +kernel
theorem dX1_choose_40 : decode cX1_choose 40 = .ok (.aaload, 1) := by decide +kernel
theorem dX1_choose_41 : decode cX1_choose 41 = .ok (.iload 5, 2) := by decide +kernel
theorem dX1_choose_43 : decode cX1_choose 43 = .ok (.laload, 1) := by decide +kernel
theorem dX1_choose_44 : decode cX1_choose 44 = .ok (.aload_n 0, 1) := by decide +kernel
theorem dX1_choose_45 : decode cX1_choose 45 = .ok (.getfield 11, 3) := by decide +kernel
theorem dX1_choose_48 : decode cX1_choose 48 = .ok (.iload_n 3, 1) := by decide +kernel
theorem dX1_choose_49 : decode cX1_choose 49 = .ok (.aaload, 1) := by decide +kernel
theorem dX1_choose_50 : decode cX1_choose 50 = .ok (.iload 5, 2) := by decide +kernel
theorem dX1_choose_52 : decode cX1_choose 52 = .ok (.laload, 1) := by decide +kernel
theorem dX1_choose_53 : decode cX1_choose 53 = .ok (.aload_n 0, 1) := by decide +kernel
theorem dX1_choose_54 : decode cX1_choose 54 = .ok (.getfield 11, 3) := by decide +kernel
theorem dX1_choose_57 : decode cX1_choose 57 = .ok (.iload 4, 2) := by decide +kernel
theorem dX1_choose_59 : decode cX1_choose 59 = .ok (.aaload, 1) := by decide +kernel
theorem dX1_choose_60 : decode cX1_choose 60 = .ok (.iload 5, 2) := by decide +kernel
theorem dX1_choose_62 : decode cX1_choose 62 = .ok (.laload, 1) := by decide +kernel
theorem dX1_choose_63 : decode cX1_choose 63 = .ok (.invokestatic 57, 3) := by decide +kernel
theorem dX1_choose_66 : decode cX1_choose 66 = .ok (.lastore, 1) := by decide +kernel
theorem dX1_choose_67 : decode cX1_choose 67 = .ok (.iinc 5 1, 3) := by decide +kernel
theorem dX1_choose_70 : decode cX1_choose 70 = .ok (.goto (-50), 3) := by decide +kernel
theorem dX1_choose_73 : decode cX1_choose 73 = .ok (.return_, 1) := by decide +kernel
set_option maxRecDepth 20000 in
theorem ggX1_fix_X1_checkSlot : GoodIn wsX1_fix wsX1_checkSlot := goodIn_ca (goodIn_r _ [7, 8, 9] (by decide +kernel) (by decide +kernel)) (goodIn_sub (fun _ h => List.mem_cons_of_mem _ (List.mem_append_left _ (List.mem_append_right _ h))) (by decide +kernel))
set_option maxRecDepth 20000 in
theorem gX1_fix_X1_checkSlot : GoodIn wsX1_fix (va_wsS RX1 34 yX1_checkSlot wsX1_checkSlot) := goodIn_app (goodIn_of _ (by decide +kernel)) ggX1_fix_X1_checkSlot
set_option maxRecDepth 20000 in
theorem ggX1_fix_X1_checkVariable : GoodIn wsX1_fix wsX1_checkVariable := goodIn_ca (goodIn_r _ [12, 13, 14] (by decide +kernel) (by decide +kernel)) (goodIn_sub (fun _ h => List.mem_cons_of_mem _ (List.mem_append_right _ h)) (by decide +kernel))
set_option maxRecDepth 20000 in
theorem gX1_fix_X1_checkVariable : GoodIn wsX1_fix (va_wsS RX1 40 yX1_checkVariable wsX1_checkVariable) := goodIn_app (goodIn_of _ (by decide +kernel)) ggX1_fix_X1_checkVariable
set_option maxRecDepth 20000 in
theorem ggX1_fix_X1_wordWith : GoodIn wsX1_fix wsX1_wordWith := goodIn_r _ [17, 18, 19, 6, 20, 21, 22, 23, 24, 25, 26, 27, 28, 29, 30, 31, 32, 33, 3] (by decide +kernel) (by decide +kernel)
set_option maxRecDepth 20000 in
theorem gX1_fix_X1_wordWith : GoodIn wsX1_fix (va_wsS RX1 61 yX1_wordWith wsX1_wordWith) := goodIn_app (goodIn_of _ (by decide +kernel)) ggX1_fix_X1_wordWith
set_option maxRecDepth 20000 in
theorem ggX1_fix_X1_copyRow : GoodIn wsX1_fix wsX1_copyRow := goodIn_r _ [36, 37, 38, 39, 40] (by decide +kernel) (by decide +kernel)
set_option maxRecDepth 20000 in
theorem gX1_fix_X1_copyRow : GoodIn wsX1_fix (va_wsS RX1 65 yX1_copyRow wsX1_copyRow) := goodIn_app (goodIn_of _ (by decide +kernel)) ggX1_fix_X1_copyRow
theorem dX1_fix_0 : decode cX1_fix 0 = .ok (.iload_n 1, 1) := by decide +kernel
theorem dX1_fix_1 : decode cX1_fix 1 = .ok (.invokestatic 34, 3) := by decide +kernel
theorem dX1_fix_4 : decode cX1_fix 4 = .ok (.iload_n 2, 1) := by decide +kernel
theorem dX1_fix_5 : decode cX1_fix 5 = .ok (.invokestatic 34, 3) := by decide +kernel
theorem dX1_fix_8 : decode cX1_fix 8 = .ok (.iload_n 3, 1) := by decide +kernel
theorem dX1_fix_9 : decode cX1_fix 9 = .ok (.invokestatic 40, 3) := by decide +kernel
theorem dX1_fix_12 : decode cX1_fix 12 = .ok (.iconst 0, 1) := by decide +kernel
theorem dX1_fix_13 : decode cX1_fix 13 = .ok (.istore 5, 2) := by decide +kernel
theorem dX1_fix_15 : decode cX1_fix 15 = .ok (.iload 5, 2) := by decide +kernel
theorem dX1_fix_17 : decode cX1_fix 17 = .ok (.bipush 16, 2) := by decide +kernel
theorem dX1_fix_19 : decode cX1_fix 19 = .ok (.if_icmp .ge 40, 3) := by decide +kernel
theorem dX1_fix_22 : decode cX1_fix 22 = .ok (.aload_n 0, 1) := by decide +kernel
theorem dX1_fix_23 : decode cX1_fix 23 = .ok (.getfield 14, 3) := by decide +kernel
theorem dX1_fix_26 : decode cX1_fix 26 = .ok (.iload 5, 2) := by decide +kernel
theorem dX1_fix_28 : decode cX1_fix 28 = .ok (.aload_n 0, 1) := by decide +kernel
theorem dX1_fix_29 : decode cX1_fix 29 = .ok (.getfield 11, 3) := by decide +kernel
theorem dX1_fix_32 : decode cX1_fix 32 = .ok (.iload_n 2, 1) := by decide +kernel
theorem dX1_fix_33 : decode cX1_fix 33 = .ok (.aaload, 1) := by decide +kernel
theorem dX1_fix_34 : decode cX1_fix 34 = .ok (.iload 5, 2) := by decide +kernel
theorem dX1_fix_36 : decode cX1_fix 36 = .ok (.iload_n 3, 1) := by decide +kernel
theorem dX1_fix_37 : decode cX1_fix 37 = .ok (.iload 4, 2) := by decide +kernel
theorem dX1_fix_39 : decode cX1_fix 39 = .ok (.ifCond .eq 9, 3) := by decide +kernel
theorem dX1_fix_42 : decode cX1_fix 42 = .ok (.ldc2_w 38, 3) := by decide +kernel
theorem dX1_fix_45 : decode cX1_fix 45 = .ok (.goto 4, 3) := by decide +kernel
theorem dX1_fix_48 : decode cX1_fix 48 = .ok (.lconst 0, 1) := by decide +kernel
theorem dX1_fix_49 : decode cX1_fix 49 = .ok (.invokestatic 61, 3) := by decide +kernel
theorem dX1_fix_52 : decode cX1_fix 52 = .ok (.lastore, 1) := by decide +kernel
theorem dX1_fix_53 : decode cX1_fix 53 = .ok (.iinc 5 1, 3) := by decide +kernel
theorem dX1_fix_56 : decode cX1_fix 56 = .ok (.goto (-41), 3) := by decide +kernel
theorem dX1_fix_59 : decode cX1_fix 59 = .ok (.aload_n 0, 1) := by decide +kernel
theorem dX1_fix_60 : decode cX1_fix 60 = .ok (.getfield 14, 3) := by decide +kernel
theorem dX1_fix_63 : decode cX1_fix 63 = .ok (.aload_n 0, 1) := by decide +kernel
theorem dX1_fix_64 : decode cX1_fix 64 = .ok (.getfield 11, 3) := by decide +kernel
theorem dX1_fix_67 : decode cX1_fix 67 = .ok (.iload_n 1, 1) := by decide +kernel
theorem dX1_fix_68 : decode cX1_fix 68 = .ok (.aaload, 1) := by decide +kernel
theorem dX1_fix_69 : decode cX1_fix 69 = .ok (.invokestatic 65, 3) := by decide +kernel
theorem dX1_fix_72 : decode cX1_fix 72 = .ok (.return_, 1) := by decide +kernel
set_option maxRecDepth 20000 in
theorem ggX1_some_X1_checkSlot : GoodIn wsX1_some wsX1_checkSlot := goodIn_ca (goodIn_r _ [8, 9, 10] (by decide +kernel) (by decide +kernel)) (goodIn_sub (fun _ h => List.mem_cons_of_mem _ (List.mem_append_right _ h)) (by decide +kernel))
set_option maxRecDepth 20000 in
theorem gX1_some_X1_checkSlot : GoodIn wsX1_some (va_wsS RX1 34 yX1_checkSlot wsX1_checkSlot) := goodIn_app (goodIn_of _ (by decide +kernel)) ggX1_some_X1_checkSlot
set_option maxRecDepth 20000 in
theorem ggX1_some_X1_copyRow : GoodIn wsX1_some wsX1_copyRow := goodIn_r _ [13, 14, 15, 16, 17] (by decide +kernel) (by decide +kernel)
set_option maxRecDepth 20000 in
theorem gX1_some_X1_copyRow : GoodIn wsX1_some (va_wsS RX1 65 yX1_copyRow wsX1_copyRow) := goodIn_app (goodIn_of _ (by decide +kernel)) ggX1_some_X1_copyRow
set_option maxRecDepth 20000 in
theorem ggX1_some_X1_bitOf : GoodIn wsX1_some wsX1_bitOf := goodIn_r _ [20] (by decide +kernel) (by decide +kernel)
set_option maxRecDepth 20000 in
theorem gX1_some_X1_bitOf : GoodIn wsX1_some (va_wsS RX1 71 yX1_bitOf wsX1_bitOf) := goodIn_app (goodIn_of _ (by decide +kernel)) ggX1_some_X1_bitOf
set_option maxRecDepth 20000 in
theorem ggX1_some_X1_quantifyMade : GoodIn wsX1_some wsX1_quantifyMade := goodIn_r _ [24, 4, 25, 26, 27, 7, 28, 29, 18, 19, 20, 11, 12, 13, 14, 15, 16, 17, 30, 31, 32, 33, 34, 35] (by decide +kernel) (by decide +kernel)
set_option maxRecDepth 20000 in
theorem gX1_some_X1_quantifyMade : GoodIn wsX1_some (wsV RX1 75 RX1 yX1_quantifyMade wsX1_quantifyMade) := goodIn_app (goodIn_of _ (by decide +kernel)) ggX1_some_X1_quantifyMade
theorem dX1_some_0 : decode cX1_some 0 = .ok (.iload_n 1, 1) := by decide +kernel
theorem dX1_some_1 : decode cX1_some 1 = .ok (.invokestatic 34, 3) := by decide +kernel
theorem dX1_some_4 : decode cX1_some 4 = .ok (.iload_n 2, 1) := by decide +kernel
theorem dX1_some_5 : decode cX1_some 5 = .ok (.invokestatic 34, 3) := by decide +kernel
theorem dX1_some_8 : decode cX1_some 8 = .ok (.iload_n 3, 1) := by decide +kernel
theorem dX1_some_9 : decode cX1_some 9 = .ok (.ifCond .lt 10, 3) := by decide +kernel
theorem dX1_some_12 : decode cX1_some 12 = .ok (.iload_n 3, 1) := by decide +kernel
theorem dX1_some_13 : decode cX1_some 13 = .ok (.sipush 1024, 3) := by decide +kernel
theorem dX1_some_16 : decode cX1_some 16 = .ok (.if_icmp .lt 13, 3) := by decide +kernel
theorem dX1_some_19 : decode cX1_some 19 = .ok (.new 47, 3) := by decide +kernel
theorem dX1_some_22 : decode cX1_some 22 = .ok (.dup, 1) := by decide +kernel
theorem dX1_some_23 : decode cX1_some 23 = .ok (.ldc 69, 2) := by decide +kernel
theorem dX1_some_25 : decode cX1_some 25 = .ok (.invokespecial 51, 3) := by decide +kernel
theorem dX1_some_28 : decode cX1_some 28 = .ok (.athrow, 1) := by decide +kernel
theorem dX1_some_29 : decode cX1_some 29 = .ok (.aload_n 0, 1) := by decide +kernel
theorem dX1_some_30 : decode cX1_some 30 = .ok (.getfield 11, 3) := by decide +kernel
theorem dX1_some_33 : decode cX1_some 33 = .ok (.iload_n 2, 1) := by decide +kernel
theorem dX1_some_34 : decode cX1_some 34 = .ok (.aaload, 1) := by decide +kernel
theorem dX1_some_35 : decode cX1_some 35 = .ok (.aload_n 0, 1) := by decide +kernel
theorem dX1_some_36 : decode cX1_some 36 = .ok (.getfield 14, 3) := by decide +kernel
theorem dX1_some_39 : decode cX1_some 39 = .ok (.invokestatic 65, 3) := by decide +kernel
theorem dX1_some_42 : decode cX1_some 42 = .ok (.iconst 0, 1) := by decide +kernel
theorem dX1_some_43 : decode cX1_some 43 = .ok (.istore 5, 2) := by decide +kernel
theorem dX1_some_45 : decode cX1_some 45 = .ok (.iload 5, 2) := by decide +kernel
theorem dX1_some_47 : decode cX1_some 47 = .ok (.bipush 10, 2) := by decide +kernel
theorem dX1_some_49 : decode cX1_some 49 = .ok (.if_icmp .ge 27, 3) := by decide +kernel
theorem dX1_some_52 : decode cX1_some 52 = .ok (.iload_n 3, 1) := by decide +kernel
theorem dX1_some_53 : decode cX1_some 53 = .ok (.iload 5, 2) := by decide +kernel
theorem dX1_some_55 : decode cX1_some 55 = .ok (.invokestatic 71, 3) := by decide +kernel
theorem dX1_some_58 : decode cX1_some 58 = .ok (.iand, 1) := by decide +kernel
theorem dX1_some_59 : decode cX1_some 59 = .ok (.ifCond .eq 11, 3) := by decide +kernel
theorem dX1_some_62 : decode cX1_some 62 = .ok (.aload_n 0, 1) := by decide +kernel
theorem dX1_some_63 : decode cX1_some 63 = .ok (.iload 5, 2) := by decide +kernel
theorem dX1_some_65 : decode cX1_some 65 = .ok (.iload 4, 2) := by decide +kernel
theorem dX1_some_67 : decode cX1_some 67 = .ok (.invokevirtual 75, 3) := by decide +kernel
theorem dX1_some_70 : decode cX1_some 70 = .ok (.iinc 5 1, 3) := by decide +kernel
theorem dX1_some_73 : decode cX1_some 73 = .ok (.goto (-28), 3) := by decide +kernel
theorem dX1_some_76 : decode cX1_some 76 = .ok (.aload_n 0, 1) := by decide +kernel
theorem dX1_some_77 : decode cX1_some 77 = .ok (.getfield 14, 3) := by decide +kernel
theorem dX1_some_80 : decode cX1_some 80 = .ok (.aload_n 0, 1) := by decide +kernel
theorem dX1_some_81 : decode cX1_some 81 = .ok (.getfield 11, 3) := by decide +kernel
theorem dX1_some_84 : decode cX1_some 84 = .ok (.iload_n 1, 1) := by decide +kernel
theorem dX1_some_85 : decode cX1_some 85 = .ok (.aaload, 1) := by decide +kernel
theorem dX1_some_86 : decode cX1_some 86 = .ok (.invokestatic 65, 3) := by decide +kernel
theorem dX1_some_89 : decode cX1_some 89 = .ok (.return_, 1) := by decide +kernel
set_option maxRecDepth 20000 in
theorem ggX1_put_X1_checkSlot : GoodIn wsX1_put wsX1_checkSlot := goodIn_ca (goodIn_r _ [6, 7, 8] (by decide +kernel) (by decide +kernel)) (goodIn_sub (fun _ h => List.mem_cons_of_mem _ (List.mem_append_left _ (List.mem_append_right _ h))) (by decide +kernel))
set_option maxRecDepth 20000 in
theorem gX1_put_X1_checkSlot : GoodIn wsX1_put (va_wsS RX1 34 yX1_checkSlot wsX1_checkSlot) := goodIn_app (goodIn_of _ (by decide +kernel)) ggX1_put_X1_checkSlot
set_option maxRecDepth 20000 in
theorem ggX1_put_X1_checkVariable : GoodIn wsX1_put wsX1_checkVariable := goodIn_ca (goodIn_r _ [11, 12, 13] (by decide +kernel) (by decide +kernel)) (goodIn_sub (fun _ h => List.mem_cons_of_mem _ (List.mem_append_right _ h)) (by decide +kernel))
set_option maxRecDepth 20000 in
theorem gX1_put_X1_checkVariable : GoodIn wsX1_put (va_wsS RX1 40 yX1_checkVariable wsX1_checkVariable) := goodIn_app (goodIn_of _ (by decide +kernel)) ggX1_put_X1_checkVariable
set_option maxRecDepth 20000 in
theorem ggX1_put_X1_wordWith : GoodIn wsX1_put wsX1_wordWith := goodIn_r _ [16, 17, 18, 5, 19, 20, 21, 22, 23, 24, 25, 26, 27, 28, 29, 30, 31, 32, 33] (by decide +kernel) (by decide +kernel)
set_option maxRecDepth 20000 in
theorem gX1_put_X1_wordWith : GoodIn wsX1_put (va_wsS RX1 61 yX1_wordWith wsX1_wordWith) := goodIn_app (goodIn_of _ (by decide +kernel)) ggX1_put_X1_wordWith
set_option maxRecDepth 20000 in
theorem ggX1_put_X1_copyRow : GoodIn wsX1_put wsX1_copyRow := goodIn_r _ [36, 37, 38, 39, 40] (by decide +kernel) (by decide +kernel)
set_option maxRecDepth 20000 in
theorem gX1_put_X1_copyRow : GoodIn wsX1_put (va_wsS RX1 65 yX1_copyRow wsX1_copyRow) := goodIn_app (goodIn_of _ (by decide +kernel)) ggX1_put_X1_copyRow
theorem dX1_put_0 : decode cX1_put 0 = .ok (.iload_n 1, 1) := by decide +kernel
theorem dX1_put_1 : decode cX1_put 1 = .ok (.invokestatic 34, 3) := by decide +kernel
theorem dX1_put_4 : decode cX1_put 4 = .ok (.iload_n 2, 1) := by decide +kernel
theorem dX1_put_5 : decode cX1_put 5 = .ok (.invokestatic 34, 3) := by decide +kernel
theorem dX1_put_8 : decode cX1_put 8 = .ok (.iload 4, 2) := by decide +kernel
theorem dX1_put_10 : decode cX1_put 10 = .ok (.invokestatic 34, 3) := by decide +kernel
theorem dX1_put_13 : decode cX1_put 13 = .ok (.iload_n 3, 1) := by decide +kernel
theorem dX1_put_14 : decode cX1_put 14 = .ok (.invokestatic 40, 3) := by decide +kernel
theorem dX1_put_17 : decode cX1_put 17 = .ok (.iconst 0, 1) := by decide +kernel
theorem dX1_put_18 : decode cX1_put 18 = .ok (.istore 5, 2) := by decide +kernel
theorem dX1_put_20 : decode cX1_put 20 = .ok (.iload 5, 2) := by decide +kernel
theorem dX1_put_22 : decode cX1_put 22 = .ok (.bipush 16, 2) := by decide +kernel
theorem dX1_put_24 : decode cX1_put 24 = .ok (.if_icmp .ge 38, 3) := by decide +kernel
theorem dX1_put_27 : decode cX1_put 27 = .ok (.aload_n 0, 1) := by decide +kernel
theorem dX1_put_28 : decode cX1_put 28 = .ok (.getfield 14, 3) := by decide +kernel
theorem dX1_put_31 : decode cX1_put 31 = .ok (.iload 5, 2) := by decide +kernel
theorem dX1_put_33 : decode cX1_put 33 = .ok (.aload_n 0, 1) := by decide +kernel
theorem dX1_put_34 : decode cX1_put 34 = .ok (.getfield 11, 3) := by decide +kernel
theorem dX1_put_37 : decode cX1_put 37 = .ok (.iload_n 2, 1) := by decide +kernel
theorem dX1_put_38 : decode cX1_put 38 = .ok (.aaload, 1) := by decide +kernel
theorem dX1_put_39 : decode cX1_put 39 = .ok (.iload 5, 2) := by decide +kernel
theorem dX1_put_41 : decode cX1_put 41 = .ok (.iload_n 3, 1) := by decide +kernel
theorem dX1_put_42 : decode cX1_put 42 = .ok (.aload_n 0, 1) := by decide +kernel
theorem dX1_put_43 : decode cX1_put 43 = .ok (.getfield 11, 3) := by decide +kernel
theorem dX1_put_46 : decode cX1_put 46 = .ok (.iload 4, 2) := by decide +kernel
theorem dX1_put_48 : decode cX1_put 48 = .ok (.aaload, 1) := by decide +kernel
theorem dX1_put_49 : decode cX1_put 49 = .ok (.iload 5, 2) := by decide +kernel
theorem dX1_put_51 : decode cX1_put 51 = .ok (.laload, 1) := by decide +kernel
theorem dX1_put_52 : decode cX1_put 52 = .ok (.invokestatic 61, 3) := by decide +kernel
theorem dX1_put_55 : decode cX1_put 55 = .ok (.lastore, 1) := by decide +kernel
theorem dX1_put_56 : decode cX1_put 56 = .ok (.iinc 5 1, 3) := by decide +kernel
theorem dX1_put_59 : decode cX1_put 59 = .ok (.goto (-39), 3) := by decide +kernel
theorem dX1_put_62 : decode cX1_put 62 = .ok (.aload_n 0, 1) := by decide +kernel
theorem dX1_put_63 : decode cX1_put 63 = .ok (.getfield 14, 3) := by decide +kernel
theorem dX1_put_66 : decode cX1_put 66 = .ok (.aload_n 0, 1) := by decide +kernel
theorem dX1_put_67 : decode cX1_put 67 = .ok (.getfield 11, 3) := by decide +kernel
theorem dX1_put_70 : decode cX1_put 70 = .ok (.iload_n 1, 1) := by decide +kernel
theorem dX1_put_71 : decode cX1_put 71 = .ok (.aaload, 1) := by decide +kernel
theorem dX1_put_72 : decode cX1_put 72 = .ok (.invokestatic 65, 3) := by decide +kernel
theorem dX1_put_75 : decode cX1_put 75 = .ok (.return_, 1) := by decide +kernel
set_option maxRecDepth 20000 in
theorem ggX1_swap_X1_checkSlot : GoodIn wsX1_swap wsX1_checkSlot := goodIn_ca (goodIn_r _ [7, 8, 9] (by decide +kernel) (by decide +kernel)) (goodIn_sub (fun _ h => List.mem_cons_of_mem _ (List.mem_append_left _ (List.mem_append_right _ h))) (by decide +kernel))
set_option maxRecDepth 20000 in
theorem gX1_swap_X1_checkSlot : GoodIn wsX1_swap (va_wsS RX1 34 yX1_checkSlot wsX1_checkSlot) := goodIn_app (goodIn_of _ (by decide +kernel)) ggX1_swap_X1_checkSlot
set_option maxRecDepth 20000 in
theorem ggX1_swap_X1_checkVariable : GoodIn wsX1_swap wsX1_checkVariable := goodIn_ca (goodIn_r _ [12, 13, 14] (by decide +kernel) (by decide +kernel)) (goodIn_sub (fun _ h => List.mem_cons_of_mem _ (List.mem_append_right _ h)) (by decide +kernel))
set_option maxRecDepth 20000 in
theorem gX1_swap_X1_checkVariable : GoodIn wsX1_swap (va_wsS RX1 40 yX1_checkVariable wsX1_checkVariable) := goodIn_app (goodIn_of _ (by decide +kernel)) ggX1_swap_X1_checkVariable
set_option maxRecDepth 20000 in
theorem ggX1_swap_X1_turnedWord : GoodIn wsX1_swap wsX1_turnedWord := goodIn_r _ [17, 18, 19, 20, 6, 21] (by decide +kernel) (by decide +kernel)
set_option maxRecDepth 20000 in
theorem gX1_swap_X1_turnedWord : GoodIn wsX1_swap (va_wsS RX1 79 yX1_turnedWord wsX1_turnedWord) := goodIn_app (goodIn_of _ (by decide +kernel)) ggX1_swap_X1_turnedWord
set_option maxRecDepth 20000 in
theorem ggX1_swap_X1_variableWord : GoodIn wsX1_swap wsX1_variableWord := goodIn_r _ [24, 18, 25, 26, 6, 27] (by decide +kernel) (by decide +kernel)
set_option maxRecDepth 20000 in
theorem gX1_swap_X1_variableWord : GoodIn wsX1_swap (va_wsS RX1 43 yX1_variableWord wsX1_variableWord) := goodIn_app (goodIn_of _ (by decide +kernel)) ggX1_swap_X1_variableWord
set_option maxRecDepth 20000 in
theorem ggX1_swap_X1_pick : GoodIn wsX1_swap wsX1_pick := goodIn_r _ [30, 31] (by decide +kernel) (by decide +kernel)
set_option maxRecDepth 20000 in
theorem gX1_swap_X1_pick : GoodIn wsX1_swap (va_wsS RX1 57 yX1_pick wsX1_pick) := goodIn_app (goodIn_of _ (by decide +kernel)) ggX1_swap_X1_pick
set_option maxRecDepth 20000 in
theorem ggX1_swap_X1_copyRow : GoodIn wsX1_swap wsX1_copyRow := goodIn_r _ [34, 35, 36, 37, 38] (by decide +kernel) (by decide +kernel)
set_option maxRecDepth 20000 in
theorem gX1_swap_X1_copyRow : GoodIn wsX1_swap (va_wsS RX1 65 yX1_copyRow wsX1_copyRow) := goodIn_app (goodIn_of _ (by decide +kernel)) ggX1_swap_X1_copyRow
theorem dX1_swap_0 : decode cX1_swap 0 = .ok (.iload_n 1, 1) := by decide +kernel
theorem dX1_swap_1 : decode cX1_swap 1 = .ok (.invokestatic 34, 3) := by decide +kernel
theorem dX1_swap_4 : decode cX1_swap 4 = .ok (.iload_n 2, 1) := by decide +kernel
theorem dX1_swap_5 : decode cX1_swap 5 = .ok (.invokestatic 34, 3) := by decide +kernel
theorem dX1_swap_8 : decode cX1_swap 8 = .ok (.iload_n 3, 1) := by decide +kernel
theorem dX1_swap_9 : decode cX1_swap 9 = .ok (.invokestatic 40, 3) := by decide +kernel
theorem dX1_swap_12 : decode cX1_swap 12 = .ok (.iload 4, 2) := by decide +kernel
theorem dX1_swap_14 : decode cX1_swap 14 = .ok (.invokestatic 40, 3) := by decide +kernel
theorem dX1_swap_17 : decode cX1_swap 17 = .ok (.iconst 0, 1) := by decide +kernel
theorem dX1_swap_18 : decode cX1_swap 18 = .ok (.istore 5, 2) := by decide +kernel
theorem dX1_swap_20 : decode cX1_swap 20 = .ok (.iload 5, 2) := by decide +kernel
theorem dX1_swap_22 : decode cX1_swap 22 = .ok (.bipush 16, 2) := by decide +kernel
theorem dX1_swap_24 : decode cX1_swap 24 = .ok (.if_icmp .ge 28, 3) := by decide +kernel
theorem dX1_swap_27 : decode cX1_swap 27 = .ok (.aload_n 0, 1) := by decide +kernel
theorem dX1_swap_28 : decode cX1_swap 28 = .ok (.getfield 14, 3) := by decide +kernel
theorem dX1_swap_31 : decode cX1_swap 31 = .ok (.iload 5, 2) := by decide +kernel
theorem dX1_swap_33 : decode cX1_swap 33 = .ok (.aload_n 0, 1) := by decide +kernel
theorem dX1_swap_34 : decode cX1_swap 34 = .ok (.getfield 11, 3) := by decide +kernel
theorem dX1_swap_37 : decode cX1_swap 37 = .ok (.iload_n 2, 1) := by decide +kernel
theorem dX1_swap_38 : decode cX1_swap 38 = .ok (.aaload, 1) := by decide +kernel
theorem dX1_swap_39 : decode cX1_swap 39 = .ok (.iload 5, 2) := by decide +kernel
theorem dX1_swap_41 : decode cX1_swap 41 = .ok (.iload_n 3, 1) := by decide +kernel
theorem dX1_swap_42 : decode cX1_swap 42 = .ok (.invokestatic 79, 3) := by decide +kernel
theorem dX1_swap_45 : decode cX1_swap 45 = .ok (.lastore, 1) := by decide +kernel
theorem dX1_swap_46 : decode cX1_swap 46 = .ok (.iinc 5 1, 3) := by decide +kernel
theorem dX1_swap_49 : decode cX1_swap 49 = .ok (.goto (-29), 3) := by decide +kernel
theorem dX1_swap_52 : decode cX1_swap 52 = .ok (.iconst 0, 1) := by decide +kernel
theorem dX1_swap_53 : decode cX1_swap 53 = .ok (.istore 5, 2) := by decide +kernel
theorem dX1_swap_55 : decode cX1_swap 55 = .ok (.iload 5, 2) := by decide +kernel
theorem dX1_swap_57 : decode cX1_swap 57 = .ok (.bipush 16, 2) := by decide +kernel
theorem dX1_swap_59 : decode cX1_swap 59 = .ok (.if_icmp .ge 57, 3) := by decide +kernel
theorem dX1_swap_62 : decode cX1_swap 62 = .ok (.iload_n 3, 1) := by decide +kernel
theorem dX1_swap_63 : decode cX1_swap 63 = .ok (.iload 5, 2) := by decide +kernel
theorem dX1_swap_65 : decode cX1_swap 65 = .ok (.invokestatic 43, 3) := by decide +kernel
theorem dX1_swap_68 : decode cX1_swap 68 = .ok (.iload 4, 2) := by decide +kernel
theorem dX1_swap_70 : decode cX1_swap 70 = .ok (.iload 5, 2) := by decide +kernel
theorem dX1_swap_72 : decode cX1_swap 72 = .ok (.invokestatic 43, 3) := by decide +kernel
theorem dX1_swap_75 : decode cX1_swap 75 = .ok (.lxor, 1) := by decide +kernel
theorem dX1_swap_76 : decode cX1_swap 76 = .ok (.lstore 6, 2) := by decide +kernel
theorem dX1_swap_78 : decode cX1_swap 78 = .ok (.aload_n 0, 1) := by decide +kernel
theorem dX1_swap_79 : decode cX1_swap 79 = .ok (.getfield 18, 3) := by decide +kernel
theorem dX1_swap_82 : decode cX1_swap 82 = .ok (.iload 5, 2) := by decide +kernel
theorem dX1_swap_84 : decode cX1_swap 84 = .ok (.lload 6, 2) := by decide +kernel
theorem dX1_swap_86 : decode cX1_swap 86 = .ok (.aload_n 0, 1) := by decide +kernel
theorem dX1_swap_87 : decode cX1_swap 87 = .ok (.getfield 14, 3) := by decide +kernel
theorem dX1_swap_90 : decode cX1_swap 90 = .ok (.iload 5, 2) := by decide +kernel
theorem dX1_swap_92 : decode cX1_swap 92 = .ok (.iload 4, 2) := by decide +kernel
theorem dX1_swap_94 : decode cX1_swap 94 = .ok (.invokestatic 79, 3) := by decide +kernel
theorem dX1_swap_97 : decode cX1_swap 97 = .ok (.aload_n 0, 1) := by decide +kernel
theorem dX1_swap_98 : decode cX1_swap 98 = .ok (.getfield 11, 3) := by decide +kernel
theorem dX1_swap_101 : decode cX1_swap 101 = .ok (.iload_n 2, 1) := by decide +kernel
theorem dX1_swap_102 : decode cX1_swap 102 = .ok (.aaload, 1) := by decide +kernel
theorem dX1_swap_103 : decode cX1_swap 103 = .ok (.iload 5, 2) := by decide +kernel
theorem dX1_swap_105 : decode cX1_swap 105 = .ok (.laload, 1) := by decide +kernel
theorem dX1_swap_106 : decode cX1_swap 106 = .ok (.invokestatic 57, 3) := by decide +kernel
theorem dX1_swap_109 : decode cX1_swap 109 = .ok (.lastore, 1) := by decide +kernel
theorem dX1_swap_110 : decode cX1_swap 110 = .ok (.iinc 5 1, 3) := by decide +kernel
theorem dX1_swap_113 : decode cX1_swap 113 = .ok (.goto (-58), 3) := by decide +kernel
theorem dX1_swap_116 : decode cX1_swap 116 = .ok (.aload_n 0, 1) := by decide +kernel
theorem dX1_swap_117 : decode cX1_swap 117 = .ok (.getfield 18, 3) := by decide +kernel
theorem dX1_swap_120 : decode cX1_swap 120 = .ok (.aload_n 0, 1) := by decide +kernel
theorem dX1_swap_121 : decode cX1_swap 121 = .ok (.getfield 11, 3) := by decide +kernel
theorem dX1_swap_124 : decode cX1_swap 124 = .ok (.iload_n 1, 1) := by decide +kernel
theorem dX1_swap_125 : decode cX1_swap 125 = .ok (.aaload, 1) := by decide +kernel
theorem dX1_swap_126 : decode cX1_swap 126 = .ok (.invokestatic 65, 3) := by decide +kernel
theorem dX1_swap_129 : decode cX1_swap 129 = .ok (.return_, 1) := by decide +kernel
set_option maxRecDepth 20000 in
theorem ggX1_nearest_X1_checkSlot : GoodIn wsX1_nearest wsX1_checkSlot := goodIn_ca (goodIn_r _ [9, 10, 11] (by decide +kernel) (by decide +kernel)) (goodIn_sub (fun _ h => List.mem_cons_of_mem _ (List.mem_append_right _ h)) (by decide +kernel))
set_option maxRecDepth 20000 in
theorem gX1_nearest_X1_checkSlot : GoodIn wsX1_nearest (va_wsS RX1 34 yX1_checkSlot wsX1_checkSlot) := goodIn_app (goodIn_of _ (by decide +kernel)) ggX1_nearest_X1_checkSlot
set_option maxRecDepth 20000 in
theorem ggX1_nearest_X1_isFalse : GoodIn wsX1_nearest wsX1_isFalse := goodIn_r _ [14] (by decide +kernel) (by decide +kernel)
set_option maxRecDepth 20000 in
theorem gX1_nearest_X1_isFalse : GoodIn wsX1_nearest (va_wsS RX1 83 yX1_isFalse wsX1_isFalse) := goodIn_app (goodIn_of _ (by decide +kernel)) ggX1_nearest_X1_isFalse
set_option maxRecDepth 20000 in
theorem ggX1_nearest_X1_copyRow : GoodIn wsX1_nearest wsX1_copyRow := goodIn_r _ [17, 18, 19, 20, 21] (by decide +kernel) (by decide +kernel)
set_option maxRecDepth 20000 in
theorem gX1_nearest_X1_copyRow : GoodIn wsX1_nearest (va_wsS RX1 65 yX1_copyRow wsX1_copyRow) := goodIn_app (goodIn_of _ (by decide +kernel)) ggX1_nearest_X1_copyRow
set_option maxRecDepth 20000 in
theorem ggX1_nearest_X1_widenSearch : GoodIn wsX1_nearest wsX1_widenSearch := goodIn_r _ [25, 26, 5, 4, 27, 28, 29, 8, 30, 31, 32, 33, 34, 35, 36, 37, 38, 15, 16, 17, 18, 19, 20, 21, 39, 40, 41, 42, 43, 44] (by decide +kernel) (by decide +kernel)
set_option maxRecDepth 20000 in
theorem gX1_nearest_X1_widenSearch : GoodIn wsX1_nearest (wsV RX1 89 RX1 yX1_widenSearch wsX1_widenSearch) := goodIn_app (goodIn_of _ (by decide +kernel)) ggX1_nearest_X1_widenSearch
theorem dX1_nearest_0 : decode cX1_nearest 0 = .ok (.iload_n 1, 1) := by decide +kernel
theorem dX1_nearest_1 : decode cX1_nearest 1 = .ok (.invokestatic 34, 3) := by decide +kernel
theorem dX1_nearest_4 : decode cX1_nearest 4 = .ok (.iload_n 2, 1) := by decide +kernel
theorem dX1_nearest_5 : decode cX1_nearest 5 = .ok (.invokestatic 34, 3) := by decide +kernel
theorem dX1_nearest_8 : decode cX1_nearest 8 = .ok (.iload_n 3, 1) := by decide +kernel
theorem dX1_nearest_9 : decode cX1_nearest 9 = .ok (.invokestatic 34, 3) := by decide +kernel
theorem dX1_nearest_12 : decode cX1_nearest 12 = .ok (.aload_n 0, 1) := by decide +kernel
theorem dX1_nearest_13 : decode cX1_nearest 13 = .ok (.getfield 11, 3) := by decide +kernel
theorem dX1_nearest_16 : decode cX1_nearest 16 = .ok (.iload_n 3, 1) := by decide +kernel
theorem dX1_nearest_17 : decode cX1_nearest 17 = .ok (.aaload, 1) := by decide +kernel
theorem dX1_nearest_18 : decode cX1_nearest 18 = .ok (.invokestatic 83, 3) := by decide +kernel
theorem dX1_nearest_21 : decode cX1_nearest 21 = .ok (.ifCond .eq 13, 3) := by decide +kernel
theorem dX1_nearest_24 : decode cX1_nearest 24 = .ok (.new 47, 3) := by decide +kernel
theorem dX1_nearest_27 : decode cX1_nearest 27 = .ok (.dup, 1) := by decide +kernel
theorem dX1_nearest_28 : decode cX1_nearest 28 = .ok (.ldc 87, 2) := by decide +kernel
theorem dX1_nearest_30 : decode cX1_nearest 30 = .ok (.invokespecial 51, 3) := by decide +kernel
theorem dX1_nearest_33 : decode cX1_nearest 33 = .ok (.athrow, 1) := by decide +kernel
theorem dX1_nearest_34 : decode cX1_nearest 34 = .ok (.aload_n 0, 1) := by decide +kernel
theorem dX1_nearest_35 : decode cX1_nearest 35 = .ok (.getfield 11, 3) := by decide +kernel
theorem dX1_nearest_38 : decode cX1_nearest 38 = .ok (.iload_n 2, 1) := by decide +kernel
theorem dX1_nearest_39 : decode cX1_nearest 39 = .ok (.aaload, 1) := by decide +kernel
theorem dX1_nearest_40 : decode cX1_nearest 40 = .ok (.aload_n 0, 1) := by decide +kernel
theorem dX1_nearest_41 : decode cX1_nearest 41 = .ok (.getfield 14, 3) := by decide +kernel
theorem dX1_nearest_44 : decode cX1_nearest 44 = .ok (.invokestatic 65, 3) := by decide +kernel
theorem dX1_nearest_47 : decode cX1_nearest 47 = .ok (.aload_n 0, 1) := by decide +kernel
theorem dX1_nearest_48 : decode cX1_nearest 48 = .ok (.getfield 11, 3) := by decide +kernel
theorem dX1_nearest_51 : decode cX1_nearest 51 = .ok (.iload_n 3, 1) := by decide +kernel
theorem dX1_nearest_52 : decode cX1_nearest 52 = .ok (.aaload, 1) := by decide +kernel
theorem dX1_nearest_53 : decode cX1_nearest 53 = .ok (.aload_n 0, 1) := by decide +kernel
theorem dX1_nearest_54 : decode cX1_nearest 54 = .ok (.getfield 21, 3) := by decide +kernel
theorem dX1_nearest_57 : decode cX1_nearest 57 = .ok (.invokestatic 65, 3) := by decide +kernel
theorem dX1_nearest_60 : decode cX1_nearest 60 = .ok (.bipush 9, 2) := by decide +kernel
theorem dX1_nearest_62 : decode cX1_nearest 62 = .ok (.istore 4, 2) := by decide +kernel
theorem dX1_nearest_64 : decode cX1_nearest 64 = .ok (.iload 4, 2) := by decide +kernel
theorem dX1_nearest_66 : decode cX1_nearest 66 = .ok (.ifCond .lt 15, 3) := by decide +kernel
theorem dX1_nearest_69 : decode cX1_nearest 69 = .ok (.aload_n 0, 1) := by decide +kernel
theorem dX1_nearest_70 : decode cX1_nearest 70 = .ok (.iload 4, 2) := by decide +kernel
theorem dX1_nearest_72 : decode cX1_nearest 72 = .ok (.invokevirtual 89, 3) := by decide +kernel
theorem dX1_nearest_75 : decode cX1_nearest 75 = .ok (.iinc 4 (-1), 3) := by decide +kernel
theorem dX1_nearest_78 : decode cX1_nearest 78 = .ok (.goto (-14), 3) := by decide +kernel
theorem dX1_nearest_81 : decode cX1_nearest 81 = .ok (.aload_n 0, 1) := by decide +kernel
theorem dX1_nearest_82 : decode cX1_nearest 82 = .ok (.getfield 14, 3) := by decide +kernel
theorem dX1_nearest_85 : decode cX1_nearest 85 = .ok (.aload_n 0, 1) := by decide +kernel
theorem dX1_nearest_86 : decode cX1_nearest 86 = .ok (.getfield 11, 3) := by decide +kernel
theorem dX1_nearest_89 : decode cX1_nearest 89 = .ok (.iload_n 1, 1) := by decide +kernel
theorem dX1_nearest_90 : decode cX1_nearest 90 = .ok (.aaload, 1) := by decide +kernel
theorem dX1_nearest_91 : decode cX1_nearest 91 = .ok (.invokestatic 65, 3) := by decide +kernel
theorem dX1_nearest_94 : decode cX1_nearest 94 = .ok (.return_, 1) := by decide +kernel
set_option maxRecDepth 20000 in
theorem ggX1_isSame_X1_checkSlot : GoodIn wsX1_isSame wsX1_checkSlot := goodIn_ca (goodIn_r _ [5, 6, 7] (by decide +kernel) (by decide +kernel)) (goodIn_sub (fun _ h => List.mem_cons_of_mem _ (List.mem_append_right _ h)) (by decide +kernel))
set_option maxRecDepth 20000 in
theorem gX1_isSame_X1_checkSlot : GoodIn wsX1_isSame (va_wsS RX1 34 yX1_checkSlot wsX1_checkSlot) := goodIn_app (goodIn_of _ (by decide +kernel)) ggX1_isSame_X1_checkSlot
theorem dX1_isSame_0 : decode cX1_isSame 0 = .ok (.iload_n 1, 1) := by decide +kernel
theorem dX1_isSame_1 : decode cX1_isSame 1 = .ok (.invokestatic 34, 3) := by decide +kernel
theorem dX1_isSame_4 : decode cX1_isSame 4 = .ok (.iload_n 2, 1) := by decide +kernel
theorem dX1_isSame_5 : decode cX1_isSame 5 = .ok (.invokestatic 34, 3) := by decide +kernel
theorem dX1_isSame_8 : decode cX1_isSame 8 = .ok (.iconst 0, 1) := by decide +kernel
theorem dX1_isSame_9 : decode cX1_isSame 9 = .ok (.istore_n 3, 1) := by decide +kernel
theorem dX1_isSame_10 : decode cX1_isSame 10 = .ok (.iload_n 3, 1) := by decide +kernel
theorem dX1_isSame_11 : decode cX1_isSame 11 = .ok (.bipush 16, 2) := by decide +kernel
theorem dX1_isSame_13 : decode cX1_isSame 13 = .ok (.if_icmp .ge 31, 3) := by decide +kernel
theorem dX1_isSame_16 : decode cX1_isSame 16 = .ok (.aload_n 0, 1) := by decide +kernel
theorem dX1_isSame_17 : decode cX1_isSame 17 = .ok (.getfield 11, 3) := by decide +kernel
theorem dX1_isSame_20 : decode cX1_isSame 20 = .ok (.iload_n 1, 1) := by decide +kernel
theorem dX1_isSame_21 : decode cX1_isSame 21 = .ok (.aaload, 1) := by decide +kernel
theorem dX1_isSame_22 : decode cX1_isSame 22 = .ok (.iload_n 3, 1) := by decide +kernel
theorem dX1_isSame_23 : decode cX1_isSame 23 = .ok (.laload, 1) := by decide +kernel
theorem dX1_isSame_24 : decode cX1_isSame 24 = .ok (.aload_n 0, 1) := by decide +kernel
theorem dX1_isSame_25 : decode cX1_isSame 25 = .ok (.getfield 11, 3) := by decide +kernel
theorem dX1_isSame_28 : decode cX1_isSame 28 = .ok (.iload_n 2, 1) := by decide +kernel
theorem dX1_isSame_29 : decode cX1_isSame 29 = .ok (.aaload, 1) := by decide +kernel
theorem dX1_isSame_30 : decode cX1_isSame 30 = .ok (.iload_n 3, 1) := by decide +kernel
theorem dX1_isSame_31 : decode cX1_isSame 31 = .ok (.laload, 1) := by decide +kernel
theorem dX1_isSame_32 : decode cX1_isSame 32 = .ok (.lcmp, 1) := by decide +kernel
theorem dX1_isSame_33 : decode cX1_isSame 33 = .ok (.ifCond .eq 5, 3) := by decide +kernel
theorem dX1_isSame_36 : decode cX1_isSame 36 = .ok (.iconst 0, 1) := by decide +kernel
theorem dX1_isSame_37 : decode cX1_isSame 37 = .ok (.ireturn, 1) := by decide +kernel
theorem dX1_isSame_38 : decode cX1_isSame 38 = .ok (.iinc 3 1, 3) := by decide +kernel
theorem dX1_isSame_41 : decode cX1_isSame 41 = .ok (.goto (-31), 3) := by decide +kernel
theorem dX1_isSame_44 : decode cX1_isSame 44 = .ok (.iconst 1, 1) := by decide +kernel
theorem dX1_isSame_45 : decode cX1_isSame 45 = .ok (.ireturn, 1) := by decide +kernel
set_option maxRecDepth 20000 in
theorem ggX1_truth_X1_checkSlot : GoodIn wsX1_truth wsX1_checkSlot := goodIn_ca (goodIn_r _ [5, 6, 7] (by decide +kernel) (by decide +kernel)) (goodIn_sub (fun _ h => List.mem_cons_of_mem _ (List.mem_append_left _ (List.mem_append_right _ h))) (by decide +kernel))
set_option maxRecDepth 20000 in
theorem gX1_truth_X1_checkSlot : GoodIn wsX1_truth (va_wsS RX1 34 yX1_checkSlot wsX1_checkSlot) := goodIn_app (goodIn_of _ (by decide +kernel)) ggX1_truth_X1_checkSlot
set_option maxRecDepth 20000 in
theorem ggX1_truth_X1_checkPoint : GoodIn wsX1_truth wsX1_checkPoint := goodIn_ca (goodIn_r _ [10, 11, 12] (by decide +kernel) (by decide +kernel)) (goodIn_sub (fun _ h => List.mem_cons_of_mem _ (List.mem_append_right _ h)) (by decide +kernel))
set_option maxRecDepth 20000 in
theorem gX1_truth_X1_checkPoint : GoodIn wsX1_truth (va_wsS RX1 92 yX1_checkPoint wsX1_checkPoint) := goodIn_app (goodIn_of _ (by decide +kernel)) ggX1_truth_X1_checkPoint
theorem dX1_truth_0 : decode cX1_truth 0 = .ok (.iload_n 1, 1) := by decide +kernel
theorem dX1_truth_1 : decode cX1_truth 1 = .ok (.invokestatic 34, 3) := by decide +kernel
theorem dX1_truth_4 : decode cX1_truth 4 = .ok (.iload_n 2, 1) := by decide +kernel
theorem dX1_truth_5 : decode cX1_truth 5 = .ok (.invokestatic 92, 3) := by decide +kernel
theorem dX1_truth_8 : decode cX1_truth 8 = .ok (.aload_n 0, 1) := by decide +kernel
theorem dX1_truth_9 : decode cX1_truth 9 = .ok (.getfield 11, 3) := by decide +kernel
theorem dX1_truth_12 : decode cX1_truth 12 = .ok (.iload_n 1, 1) := by decide +kernel
theorem dX1_truth_13 : decode cX1_truth 13 = .ok (.aaload, 1) := by decide +kernel
theorem dX1_truth_14 : decode cX1_truth 14 = .ok (.iload_n 2, 1) := by decide +kernel
theorem dX1_truth_15 : decode cX1_truth 15 = .ok (.bipush 64, 2) := by decide +kernel
theorem dX1_truth_17 : decode cX1_truth 17 = .ok (.idiv, 1) := by decide +kernel
theorem dX1_truth_18 : decode cX1_truth 18 = .ok (.laload, 1) := by decide +kernel
theorem dX1_truth_19 : decode cX1_truth 19 = .ok (.iload_n 2, 1) := by decide +kernel
theorem dX1_truth_20 : decode cX1_truth 20 = .ok (.bipush 64, 2) := by decide +kernel
theorem dX1_truth_22 : decode cX1_truth 22 = .ok (.irem, 1) := by decide +kernel
theorem dX1_truth_23 : decode cX1_truth 23 = .ok (.lushr, 1) := by decide +kernel
theorem dX1_truth_24 : decode cX1_truth 24 = .ok (.lconst 1, 1) := by decide +kernel
theorem dX1_truth_25 : decode cX1_truth 25 = .ok (.land, 1) := by decide +kernel
theorem dX1_truth_26 : decode cX1_truth 26 = .ok (.lconst 0, 1) := by decide +kernel
theorem dX1_truth_27 : decode cX1_truth 27 = .ok (.lcmp, 1) := by decide +kernel
theorem dX1_truth_28 : decode cX1_truth 28 = .ok (.ifCond .eq 7, 3) := by decide +kernel
theorem dX1_truth_31 : decode cX1_truth 31 = .ok (.iconst 1, 1) := by decide +kernel
theorem dX1_truth_32 : decode cX1_truth 32 = .ok (.goto 4, 3) := by decide +kernel
theorem dX1_truth_35 : decode cX1_truth 35 = .ok (.iconst 0, 1) := by decide +kernel
theorem dX1_truth_36 : decode cX1_truth 36 = .ok (.ireturn, 1) := by decide +kernel
set_option maxRecDepth 20000 in
theorem ggX1_count_X1_checkSlot : GoodIn wsX1_count wsX1_checkSlot := goodIn_ca (goodIn_r _ [5, 6, 7] (by decide +kernel) (by decide +kernel)) (goodIn_sub (fun _ h => List.mem_cons_of_mem _ (List.mem_append_right _ h)) (by decide +kernel))
set_option maxRecDepth 20000 in
theorem gX1_count_X1_checkSlot : GoodIn wsX1_count (va_wsS RX1 34 yX1_checkSlot wsX1_checkSlot) := goodIn_app (goodIn_of _ (by decide +kernel)) ggX1_count_X1_checkSlot
set_option maxRecDepth 20000 in
theorem ggX1_count_J13_bitCount_95d88 : GoodIn wsX1_count wsJ13_bitCount_95d88 := goodIn_r _ [11, 12, 13, 14] (by decide +kernel) (by decide +kernel)
set_option maxRecDepth 20000 in
theorem gX1_count_J13_bitCount_95d88 : GoodIn wsX1_count (va_wsS RX1 95 yJ13_bitCount_95d88 wsJ13_bitCount_95d88) := goodIn_app (goodIn_of _ (by decide +kernel)) ggX1_count_J13_bitCount_95d88
theorem dX1_count_0 : decode cX1_count 0 = .ok (.iload_n 1, 1) := by decide +kernel
theorem dX1_count_1 : decode cX1_count 1 = .ok (.invokestatic 34, 3) := by decide +kernel
theorem dX1_count_4 : decode cX1_count 4 = .ok (.iconst 0, 1) := by decide +kernel
theorem dX1_count_5 : decode cX1_count 5 = .ok (.istore_n 2, 1) := by decide +kernel
theorem dX1_count_6 : decode cX1_count 6 = .ok (.iconst 0, 1) := by decide +kernel
theorem dX1_count_7 : decode cX1_count 7 = .ok (.istore_n 3, 1) := by decide +kernel
theorem dX1_count_8 : decode cX1_count 8 = .ok (.iload_n 3, 1) := by decide +kernel
theorem dX1_count_9 : decode cX1_count 9 = .ok (.bipush 16, 2) := by decide +kernel
theorem dX1_count_11 : decode cX1_count 11 = .ok (.if_icmp .ge 23, 3) := by decide +kernel
theorem dX1_count_14 : decode cX1_count 14 = .ok (.iload_n 2, 1) := by decide +kernel
theorem dX1_count_15 : decode cX1_count 15 = .ok (.aload_n 0, 1) := by decide +kernel
theorem dX1_count_16 : decode cX1_count 16 = .ok (.getfield 11, 3) := by decide +kernel
theorem dX1_count_19 : decode cX1_count 19 = .ok (.iload_n 1, 1) := by decide +kernel
theorem dX1_count_20 : decode cX1_count 20 = .ok (.aaload, 1) := by decide +kernel
theorem dX1_count_21 : decode cX1_count 21 = .ok (.iload_n 3, 1) := by decide +kernel
theorem dX1_count_22 : decode cX1_count 22 = .ok (.laload, 1) := by decide +kernel
theorem dX1_count_23 : decode cX1_count 23 = .ok (.invokestatic 95, 3) := by decide +kernel
theorem dX1_count_26 : decode cX1_count 26 = .ok (.iadd, 1) := by decide +kernel
theorem dX1_count_27 : decode cX1_count 27 = .ok (.istore_n 2, 1) := by decide +kernel
theorem dX1_count_28 : decode cX1_count 28 = .ok (.iinc 3 1, 3) := by decide +kernel
theorem dX1_count_31 : decode cX1_count 31 = .ok (.goto (-23), 3) := by decide +kernel
theorem dX1_count_34 : decode cX1_count 34 = .ok (.iload_n 2, 1) := by decide +kernel
theorem dX1_count_35 : decode cX1_count 35 = .ok (.ireturn, 1) := by decide +kernel
set_option maxRecDepth 20000 in
theorem ggX1_next_X1_checkSlot : GoodIn wsX1_next wsX1_checkSlot := goodIn_ca (goodIn_r _ [6, 7, 8] (by decide +kernel) (by decide +kernel)) (goodIn_sub (fun _ h => List.mem_cons_of_mem _ (List.mem_append_left _ (List.mem_append_right _ h))) (by decide +kernel))
set_option maxRecDepth 20000 in
theorem gX1_next_X1_checkSlot : GoodIn wsX1_next (va_wsS RX1 34 yX1_checkSlot wsX1_checkSlot) := goodIn_app (goodIn_of _ (by decide +kernel)) ggX1_next_X1_checkSlot
set_option maxRecDepth 20000 in
theorem ggX1_next_X1_checkPoint : GoodIn wsX1_next wsX1_checkPoint := goodIn_ca (goodIn_r _ [11, 12, 13] (by decide +kernel) (by decide +kernel)) (goodIn_sub (fun _ h => List.mem_cons_of_mem _ (List.mem_append_right _ h)) (by decide +kernel))
set_option maxRecDepth 20000 in
theorem gX1_next_X1_checkPoint : GoodIn wsX1_next (va_wsS RX1 92 yX1_checkPoint wsX1_checkPoint) := goodIn_app (goodIn_of _ (by decide +kernel)) ggX1_next_X1_checkPoint
set_option maxRecDepth 20000 in
theorem ggX1_next_X1_lowestBit : GoodIn wsX1_next wsX1_lowestBit := goodIn_r _ [16, 1, 17, 18, 19, 20, 21, 22, 23] (by decide +kernel) (by decide +kernel)
set_option maxRecDepth 20000 in
theorem gX1_next_X1_lowestBit : GoodIn wsX1_next (va_wsS RX1 101 yX1_lowestBit wsX1_lowestBit) := goodIn_app (goodIn_of _ (by decide +kernel)) ggX1_next_X1_lowestBit
theorem dX1_next_0 : decode cX1_next 0 = .ok (.iload_n 1, 1) := by decide +kernel
theorem dX1_next_1 : decode cX1_next 1 = .ok (.invokestatic 34, 3) := by decide +kernel
theorem dX1_next_4 : decode cX1_next 4 = .ok (.iload_n 2, 1) := by decide +kernel
theorem dX1_next_5 : decode cX1_next 5 = .ok (.invokestatic 92, 3) := by decide +kernel
theorem dX1_next_8 : decode cX1_next 8 = .ok (.iload_n 2, 1) := by decide +kernel
theorem dX1_next_9 : decode cX1_next 9 = .ok (.bipush 64, 2) := by decide +kernel
theorem dX1_next_11 : decode cX1_next 11 = .ok (.idiv, 1) := by decide +kernel
theorem dX1_next_12 : decode cX1_next 12 = .ok (.istore_n 3, 1) := by decide +kernel
theorem dX1_next_13 : decode cX1_next 13 = .ok (.ldc2_w 38, 3) := by decide +kernel
theorem dX1_next_16 : decode cX1_next 16 = .ok (.iload_n 2, 1) := by decide +kernel
theorem dX1_next_17 : decode cX1_next 17 = .ok (.bipush 64, 2) := by decide +kernel
theorem dX1_next_19 : decode cX1_next 19 = .ok (.irem, 1) := by decide +kernel
theorem dX1_next_20 : decode cX1_next 20 = .ok (.lshl, 1) := by decide +kernel
theorem dX1_next_21 : decode cX1_next 21 = .ok (.lstore 4, 2) := by decide +kernel
theorem dX1_next_23 : decode cX1_next 23 = .ok (.iload_n 3, 1) := by decide +kernel
theorem dX1_next_24 : decode cX1_next 24 = .ok (.istore 6, 2) := by decide +kernel
theorem dX1_next_26 : decode cX1_next 26 = .ok (.iload 6, 2) := by decide +kernel
theorem dX1_next_28 : decode cX1_next 28 = .ok (.bipush 16, 2) := by decide +kernel
theorem dX1_next_30 : decode cX1_next 30 = .ok (.if_icmp .ge 47, 3) := by decide +kernel
theorem dX1_next_33 : decode cX1_next 33 = .ok (.aload_n 0, 1) := by decide +kernel
theorem dX1_next_34 : decode cX1_next 34 = .ok (.getfield 11, 3) := by decide +kernel
theorem dX1_next_37 : decode cX1_next 37 = .ok (.iload_n 1, 1) := by decide +kernel
theorem dX1_next_38 : decode cX1_next 38 = .ok (.aaload, 1) := by decide +kernel
theorem dX1_next_39 : decode cX1_next 39 = .ok (.iload 6, 2) := by decide +kernel
theorem dX1_next_41 : decode cX1_next 41 = .ok (.laload, 1) := by decide +kernel
theorem dX1_next_42 : decode cX1_next 42 = .ok (.lload 4, 2) := by decide +kernel
theorem dX1_next_44 : decode cX1_next 44 = .ok (.land, 1) := by decide +kernel
theorem dX1_next_45 : decode cX1_next 45 = .ok (.lstore 7, 2) := by decide +kernel
theorem dX1_next_47 : decode cX1_next 47 = .ok (.lload 7, 2) := by decide +kernel
theorem dX1_next_49 : decode cX1_next 49 = .ok (.lconst 0, 1) := by decide +kernel
theorem dX1_next_50 : decode cX1_next 50 = .ok (.lcmp, 1) := by decide +kernel
theorem dX1_next_51 : decode cX1_next 51 = .ok (.ifCond .eq 15, 3) := by decide +kernel
theorem dX1_next_54 : decode cX1_next 54 = .ok (.iload 6, 2) := by decide +kernel
theorem dX1_next_56 : decode cX1_next 56 = .ok (.bipush 64, 2) := by decide +kernel
theorem dX1_next_58 : decode cX1_next 58 = .ok (.imul, 1) := by decide +kernel
theorem dX1_next_59 : decode cX1_next 59 = .ok (.lload 7, 2) := by decide +kernel
theorem dX1_next_61 : decode cX1_next 61 = .ok (.invokestatic 101, 3) := by decide +kernel
theorem dX1_next_64 : decode cX1_next 64 = .ok (.iadd, 1) := by decide +kernel
theorem dX1_next_65 : decode cX1_next 65 = .ok (.ireturn, 1) := by decide +kernel
theorem dX1_next_66 : decode cX1_next 66 = .ok (.ldc2_w 38, 3) := by decide +kernel
theorem dX1_next_69 : decode cX1_next 69 = .ok (.lstore 4, 2) := by decide +kernel
theorem dX1_next_71 : decode cX1_next 71 = .ok (.iinc 6 1, 3) := by decide +kernel
theorem dX1_next_74 : decode cX1_next 74 = .ok (.goto (-48), 3) := by decide +kernel
theorem dX1_next_77 : decode cX1_next 77 = .ok (.iconst (-1), 1) := by decide +kernel
theorem dX1_next_78 : decode cX1_next 78 = .ok (.ireturn, 1) := by decide +kernel
set_option maxRecDepth 20000 in
theorem ggX1_depends_X1_checkSlot : GoodIn wsX1_depends wsX1_checkSlot := goodIn_ca (goodIn_r _ [5, 6, 7] (by decide +kernel) (by decide +kernel)) (goodIn_sub (fun _ h => List.mem_cons_of_mem _ (List.mem_append_right _ h)) (by decide +kernel))
set_option maxRecDepth 20000 in
theorem gX1_depends_X1_checkSlot : GoodIn wsX1_depends (va_wsS RX1 34 yX1_checkSlot wsX1_checkSlot) := goodIn_app (goodIn_of _ (by decide +kernel)) ggX1_depends_X1_checkSlot
set_option maxRecDepth 20000 in
theorem ggX1_depends_X1_changesWith : GoodIn wsX1_depends wsX1_changesWith := goodIn_r _ [10, 11, 12, 4, 13, 14, 15, 16, 17] (by decide +kernel) (by decide +kernel)
set_option maxRecDepth 20000 in
theorem gX1_depends_X1_changesWith : GoodIn wsX1_depends (va_wsS RX1 104 yX1_changesWith wsX1_changesWith) := goodIn_app (goodIn_of _ (by decide +kernel)) ggX1_depends_X1_changesWith
set_option maxRecDepth 20000 in
theorem ggX1_depends_X1_bitOf : GoodIn wsX1_depends wsX1_bitOf := goodIn_r _ [17] (by decide +kernel) (by decide +kernel)
set_option maxRecDepth 20000 in
theorem gX1_depends_X1_bitOf : GoodIn wsX1_depends (va_wsS RX1 71 yX1_bitOf wsX1_bitOf) := goodIn_app (goodIn_of _ (by decide +kernel)) ggX1_depends_X1_bitOf
theorem dX1_depends_0 : decode cX1_depends 0 = .ok (.iload_n 1, 1) := by decide +kernel
theorem dX1_depends_1 : decode cX1_depends 1 = .ok (.invokestatic 34, 3) := by decide +kernel
theorem dX1_depends_4 : decode cX1_depends 4 = .ok (.iconst 0, 1) := by decide +kernel
theorem dX1_depends_5 : decode cX1_depends 5 = .ok (.istore_n 2, 1) := by decide +kernel
theorem dX1_depends_6 : decode cX1_depends 6 = .ok (.iconst 0, 1) := by decide +kernel
theorem dX1_depends_7 : decode cX1_depends 7 = .ok (.istore_n 3, 1) := by decide +kernel
theorem dX1_depends_8 : decode cX1_depends 8 = .ok (.iload_n 3, 1) := by decide +kernel
theorem dX1_depends_9 : decode cX1_depends 9 = .ok (.bipush 10, 2) := by decide +kernel
theorem dX1_depends_11 : decode cX1_depends 11 = .ok (.if_icmp .ge 29, 3) := by decide +kernel
theorem dX1_depends_14 : decode cX1_depends 14 = .ok (.aload_n 0, 1) := by decide +kernel
theorem dX1_depends_15 : decode cX1_depends 15 = .ok (.getfield 11, 3) := by decide +kernel
theorem dX1_depends_18 : decode cX1_depends 18 = .ok (.iload_n 1, 1) := by decide +kernel
theorem dX1_depends_19 : decode cX1_depends 19 = .ok (.aaload, 1) := by decide +kernel
theorem dX1_depends_20 : decode cX1_depends 20 = .ok (.iload_n 3, 1) := by decide +kernel
theorem dX1_depends_21 : decode cX1_depends 21 = .ok (.invokestatic 104, 3) := by decide +kernel
theorem dX1_depends_24 : decode cX1_depends 24 = .ok (.ifCond .eq 10, 3) := by decide +kernel
theorem dX1_depends_27 : decode cX1_depends 27 = .ok (.iload_n 2, 1) := by decide +kernel
theorem dX1_depends_28 : decode cX1_depends 28 = .ok (.iload_n 3, 1) := by decide +kernel
theorem dX1_depends_29 : decode cX1_depends 29 = .ok (.invokestatic 71, 3) := by decide +kernel
theorem dX1_depends_32 : decode cX1_depends 32 = .ok (.ior, 1) := by decide +kernel
theorem dX1_depends_33 : decode cX1_depends 33 = .ok (.istore_n 2, 1) := by decide +kernel
theorem dX1_depends_34 : decode cX1_depends 34 = .ok (.iinc 3 1, 3) := by decide +kernel
theorem dX1_depends_37 : decode cX1_depends 37 = .ok (.goto (-29), 3) := by decide +kernel
theorem dX1_depends_40 : decode cX1_depends 40 = .ok (.iload_n 2, 1) := by decide +kernel
theorem dX1_depends_41 : decode cX1_depends 41 = .ok (.ireturn, 1) := by decide +kernel
set_option maxRecDepth 20000 in
theorem ggX1_size_X1_checkSlot : GoodIn wsX1_size wsX1_checkSlot := goodIn_ca (goodIn_r _ [6, 7, 8] (by decide +kernel) (by decide +kernel)) (goodIn_sub (fun _ h => List.mem_cons_of_mem _ (List.mem_append_right _ h)) (by decide +kernel))
set_option maxRecDepth 20000 in
theorem gX1_size_X1_checkSlot : GoodIn wsX1_size (va_wsS RX1 34 yX1_checkSlot wsX1_checkSlot) := goodIn_app (goodIn_of _ (by decide +kernel)) ggX1_size_X1_checkSlot
set_option maxRecDepth 20000 in
theorem ggX1_size_X0_nodesOf : GoodIn wsX1_size wsX0_nodesOf := goodIn_r _ [13, 14, 15, 16, 17, 18, 12, 19, 20, 21, 22, 23, 24, 25, 26, 27, 28, 29, 30, 31, 32, 33, 34, 35, 36, 37, 38, 39, 40, 41, 42, 43, 44, 45, 46, 47, 48, 55, 56, 57, 58, 59] (by decide +kernel) (by decide +kernel)
set_option maxRecDepth 20000 in
theorem gX1_size_X0_nodesOf : GoodIn wsX1_size (wsV RX1 108 RX0 yX0_nodesOf wsX0_nodesOf) := goodIn_app (goodIn_of _ (by decide +kernel)) ggX1_size_X0_nodesOf
theorem dX1_size_0 : decode cX1_size 0 = .ok (.iload_n 1, 1) := by decide +kernel
theorem dX1_size_1 : decode cX1_size 1 = .ok (.invokestatic 34, 3) := by decide +kernel
theorem dX1_size_4 : decode cX1_size 4 = .ok (.aload_n 0, 1) := by decide +kernel
theorem dX1_size_5 : decode cX1_size 5 = .ok (.getfield 30, 3) := by decide +kernel
theorem dX1_size_8 : decode cX1_size 8 = .ok (.aload_n 0, 1) := by decide +kernel
theorem dX1_size_9 : decode cX1_size 9 = .ok (.getfield 11, 3) := by decide +kernel
theorem dX1_size_12 : decode cX1_size 12 = .ok (.iload_n 1, 1) := by decide +kernel
theorem dX1_size_13 : decode cX1_size 13 = .ok (.iload_n 1, 1) := by decide +kernel
theorem dX1_size_14 : decode cX1_size 14 = .ok (.iconst 0, 1) := by decide +kernel
theorem dX1_size_15 : decode cX1_size 15 = .ok (.bipush 9, 2) := by decide +kernel
theorem dX1_size_17 : decode cX1_size 17 = .ok (.invokevirtual 108, 3) := by decide +kernel
theorem dX1_size_20 : decode cX1_size 20 = .ok (.ireturn, 1) := by decide +kernel
set_option maxRecDepth 20000 in
theorem ggX1_sizes_X1_checkSlot : GoodIn wsX1_sizes wsX1_checkSlot := goodIn_ca (goodIn_r _ [8, 9, 10] (by decide +kernel) (by decide +kernel)) (goodIn_sub (fun _ h => List.mem_cons_of_mem _ (List.mem_append_right _ h)) (by decide +kernel))
set_option maxRecDepth 20000 in
theorem gX1_sizes_X1_checkSlot : GoodIn wsX1_sizes (va_wsS RX1 34 yX1_checkSlot wsX1_checkSlot) := goodIn_app (goodIn_of _ (by decide +kernel)) ggX1_sizes_X1_checkSlot
set_option maxRecDepth 20000 in
theorem ggX1_sizes_X0_nodesOf : GoodIn wsX1_sizes wsX0_nodesOf := goodIn_r _ [15, 16, 17, 18, 19, 20, 14, 21, 22, 23, 24, 25, 26, 27, 28, 29, 30, 31, 32, 33, 34, 35, 36, 37, 38, 39, 40, 41, 42, 43, 44, 45, 46, 47, 48, 49, 50, 57, 58, 59, 60, 61] (by decide +kernel) (by decide +kernel)
set_option maxRecDepth 20000 in
theorem gX1_sizes_X0_nodesOf : GoodIn wsX1_sizes (wsV RX1 108 RX0 yX0_nodesOf wsX0_nodesOf) := goodIn_app (goodIn_of _ (by decide +kernel)) ggX1_sizes_X0_nodesOf
theorem dX1_sizes_0 : decode cX1_sizes 0 = .ok (.iload_n 1, 1) := by decide +kernel
theorem dX1_sizes_1 : decode cX1_sizes 1 = .ok (.invokestatic 34, 3) := by decide +kernel
theorem dX1_sizes_4 : decode cX1_sizes 4 = .ok (.iload_n 2, 1) := by decide +kernel
theorem dX1_sizes_5 : decode cX1_sizes 5 = .ok (.invokestatic 34, 3) := by decide +kernel
theorem dX1_sizes_8 : decode cX1_sizes 8 = .ok (.iload_n 1, 1) := by decide +kernel
theorem dX1_sizes_9 : decode cX1_sizes 9 = .ok (.iload_n 2, 1) := by decide +kernel
theorem dX1_sizes_10 : decode cX1_sizes 10 = .ok (.if_icmp .le 13, 3) := by decide +kernel
theorem dX1_sizes_13 : decode cX1_sizes 13 = .ok (.new 47, 3) := by decide +kernel
theorem dX1_sizes_16 : decode cX1_sizes 16 = .ok (.dup, 1) := by decide +kernel
theorem dX1_sizes_17 : decode cX1_sizes 17 = .ok (.ldc 112, 2) := by decide +kernel
theorem dX1_sizes_19 : decode cX1_sizes 19 = .ok (.invokespecial 51, 3) := by decide +kernel
theorem dX1_sizes_22 : decode cX1_sizes 22 = .ok (.athrow, 1) := by decide +kernel
theorem dX1_sizes_23 : decode cX1_sizes 23 = .ok (.aload_n 0, 1) := by decide +kernel
theorem dX1_sizes_24 : decode cX1_sizes 24 = .ok (.getfield 30, 3) := by decide +kernel
theorem dX1_sizes_27 : decode cX1_sizes 27 = .ok (.aload_n 0, 1) := by decide +kernel
theorem dX1_sizes_28 : decode cX1_sizes 28 = .ok (.getfield 11, 3) := by decide +kernel
theorem dX1_sizes_31 : decode cX1_sizes 31 = .ok (.iload_n 1, 1) := by decide +kernel
theorem dX1_sizes_32 : decode cX1_sizes 32 = .ok (.iload_n 2, 1) := by decide +kernel
theorem dX1_sizes_33 : decode cX1_sizes 33 = .ok (.iconst 0, 1) := by decide +kernel
theorem dX1_sizes_34 : decode cX1_sizes 34 = .ok (.bipush 9, 2) := by decide +kernel
theorem dX1_sizes_36 : decode cX1_sizes 36 = .ok (.invokevirtual 108, 3) := by decide +kernel
theorem dX1_sizes_39 : decode cX1_sizes 39 = .ok (.ireturn, 1) := by decide +kernel
set_option maxRecDepth 20000 in
theorem ggX1_level_X1_checkSlot : GoodIn wsX1_level wsX1_checkSlot := goodIn_ca (goodIn_r _ [6, 7, 8] (by decide +kernel) (by decide +kernel)) (goodIn_sub (fun _ h => List.mem_cons_of_mem _ (List.mem_append_left _ (List.mem_append_right _ h))) (by decide +kernel))
set_option maxRecDepth 20000 in
theorem gX1_level_X1_checkSlot : GoodIn wsX1_level (va_wsS RX1 34 yX1_checkSlot wsX1_checkSlot) := goodIn_app (goodIn_of _ (by decide +kernel)) ggX1_level_X1_checkSlot
set_option maxRecDepth 20000 in
theorem ggX1_level_X1_checkVariable : GoodIn wsX1_level wsX1_checkVariable := goodIn_ca (goodIn_r _ [11, 12, 13] (by decide +kernel) (by decide +kernel)) (goodIn_sub (fun _ h => List.mem_cons_of_mem _ (List.mem_append_right _ h)) (by decide +kernel))
set_option maxRecDepth 20000 in
theorem gX1_level_X1_checkVariable : GoodIn wsX1_level (va_wsS RX1 40 yX1_checkVariable wsX1_checkVariable) := goodIn_app (goodIn_of _ (by decide +kernel)) ggX1_level_X1_checkVariable
set_option maxRecDepth 20000 in
theorem ggX1_level_X0_nodesOf : GoodIn wsX1_level wsX0_nodesOf := goodIn_r _ [18, 19, 20, 21, 22, 23, 17, 24, 25, 26, 27, 28, 29, 30, 31, 32, 33, 34, 35, 36, 37, 38, 39, 40, 41, 42, 43, 44, 45, 46, 47, 48, 49, 50, 51, 52, 53, 60, 61, 62, 63, 64] (by decide +kernel) (by decide +kernel)
set_option maxRecDepth 20000 in
theorem gX1_level_X0_nodesOf : GoodIn wsX1_level (wsV RX1 108 RX0 yX0_nodesOf wsX0_nodesOf) := goodIn_app (goodIn_of _ (by decide +kernel)) ggX1_level_X0_nodesOf
theorem dX1_level_0 : decode cX1_level 0 = .ok (.iload_n 1, 1) := by decide +kernel
theorem dX1_level_1 : decode cX1_level 1 = .ok (.invokestatic 34, 3) := by decide +kernel
theorem dX1_level_4 : decode cX1_level 4 = .ok (.iload_n 2, 1) := by decide +kernel
theorem dX1_level_5 : decode cX1_level 5 = .ok (.invokestatic 40, 3) := by decide +kernel
theorem dX1_level_8 : decode cX1_level 8 = .ok (.aload_n 0, 1) := by decide +kernel
theorem dX1_level_9 : decode cX1_level 9 = .ok (.getfield 30, 3) := by decide +kernel
theorem dX1_level_12 : decode cX1_level 12 = .ok (.aload_n 0, 1) := by decide +kernel
theorem dX1_level_13 : decode cX1_level 13 = .ok (.getfield 11, 3) := by decide +kernel
theorem dX1_level_16 : decode cX1_level 16 = .ok (.iload_n 1, 1) := by decide +kernel
theorem dX1_level_17 : decode cX1_level 17 = .ok (.iload_n 1, 1) := by decide +kernel
theorem dX1_level_18 : decode cX1_level 18 = .ok (.iload_n 2, 1) := by decide +kernel
theorem dX1_level_19 : decode cX1_level 19 = .ok (.iload_n 2, 1) := by decide +kernel
theorem dX1_level_20 : decode cX1_level 20 = .ok (.invokevirtual 108, 3) := by decide +kernel
theorem dX1_level_23 : decode cX1_level 23 = .ok (.ireturn, 1) := by decide +kernel
theorem dX1_checkSlot_0 : decode cX1_checkSlot 0 = .ok (.iload_n 0, 1) := by decide +kernel
theorem dX1_checkSlot_1 : decode cX1_checkSlot 1 = .ok (.ifCond .lt 9, 3) := by decide +kernel
theorem dX1_checkSlot_4 : decode cX1_checkSlot 4 = .ok (.iload_n 0, 1) := by decide +kernel
theorem dX1_checkSlot_5 : decode cX1_checkSlot 5 = .ok (.bipush 48, 2) := by decide +kernel
theorem dX1_checkSlot_7 : decode cX1_checkSlot 7 = .ok (.if_icmp .lt 13, 3) := by decide +kernel
theorem dX1_checkSlot_10 : decode cX1_checkSlot 10 = .ok (.new 114, 3) := by decide +kernel
theorem dX1_checkSlot_13 : decode cX1_checkSlot 13 = .ok (.dup, 1) := by decide +kernel
theorem dX1_checkSlot_14 : decode cX1_checkSlot 14 = .ok (.ldc 116, 2) := by decide +kernel
theorem dX1_checkSlot_16 : decode cX1_checkSlot 16 = .ok (.invokespecial 118, 3) := by decide +kernel
theorem dX1_checkSlot_19 : decode cX1_checkSlot 19 = .ok (.athrow, 1) := by decide +kernel
theorem dX1_checkSlot_20 : decode cX1_checkSlot 20 = .ok (.return_, 1) := by decide +kernel
theorem dX1_checkVariable_0 : decode cX1_checkVariable 0 = .ok (.iload_n 0, 1) := by decide +kernel
theorem dX1_checkVariable_1 : decode cX1_checkVariable 1 = .ok (.ifCond .lt 9, 3) := by decide +kernel
theorem dX1_checkVariable_4 : decode cX1_checkVariable 4 = .ok (.iload_n 0, 1) := by decide +kernel
theorem dX1_checkVariable_5 : decode cX1_checkVariable 5 = .ok (.bipush 10, 2) := by decide +kernel
theorem dX1_checkVariable_7 : decode cX1_checkVariable 7 = .ok (.if_icmp .lt 13, 3) := by decide +kernel
theorem dX1_checkVariable_10 : decode cX1_checkVariable 10 = .ok (.new 47, 3) := by decide +kernel
theorem dX1_checkVariable_13 : decode cX1_checkVariable 13 = .ok (.dup, 1) := by decide +kernel
theorem dX1_checkVariable_14 : decode cX1_checkVariable 14 = .ok (.ldc 119, 2) := by decide +kernel
theorem dX1_checkVariable_16 : decode cX1_checkVariable 16 = .ok (.invokespecial 51, 3) := by decide +kernel
theorem dX1_checkVariable_19 : decode cX1_checkVariable 19 = .ok (.athrow, 1) := by decide +kernel
theorem dX1_checkVariable_20 : decode cX1_checkVariable 20 = .ok (.return_, 1) := by decide +kernel
theorem dX1_checkPoint_0 : decode cX1_checkPoint 0 = .ok (.iload_n 0, 1) := by decide +kernel
theorem dX1_checkPoint_1 : decode cX1_checkPoint 1 = .ok (.ifCond .lt 10, 3) := by decide +kernel
theorem dX1_checkPoint_4 : decode cX1_checkPoint 4 = .ok (.iload_n 0, 1) := by decide +kernel
theorem dX1_checkPoint_5 : decode cX1_checkPoint 5 = .ok (.sipush 1024, 3) := by decide +kernel
theorem dX1_checkPoint_8 : decode cX1_checkPoint 8 = .ok (.if_icmp .lt 13, 3) := by decide +kernel
theorem dX1_checkPoint_11 : decode cX1_checkPoint 11 = .ok (.new 47, 3) := by decide +kernel
theorem dX1_checkPoint_14 : decode cX1_checkPoint 14 = .ok (.dup, 1) := by decide +kernel
theorem dX1_checkPoint_15 : decode cX1_checkPoint 15 = .ok (.ldc 121, 2) := by decide +kernel
theorem dX1_checkPoint_17 : decode cX1_checkPoint 17 = .ok (.invokespecial 51, 3) := by decide +kernel
theorem dX1_checkPoint_20 : decode cX1_checkPoint 20 = .ok (.athrow, 1) := by decide +kernel
theorem dX1_checkPoint_21 : decode cX1_checkPoint 21 = .ok (.return_, 1) := by decide +kernel
theorem dX1_bitOf_0 : decode cX1_bitOf 0 = .ok (.iconst 1, 1) := by decide +kernel
theorem dX1_bitOf_1 : decode cX1_bitOf 1 = .ok (.bipush 9, 2) := by decide +kernel
theorem dX1_bitOf_3 : decode cX1_bitOf 3 = .ok (.iload_n 0, 1) := by decide +kernel
theorem dX1_bitOf_4 : decode cX1_bitOf 4 = .ok (.isub, 1) := by decide +kernel
theorem dX1_bitOf_5 : decode cX1_bitOf 5 = .ok (.ishl, 1) := by decide +kernel
theorem dX1_bitOf_6 : decode cX1_bitOf 6 = .ok (.ireturn, 1) := by decide +kernel
theorem dX1_spreadBit_0 : decode cX1_spreadBit 0 = .ok (.iload_n 0, 1) := by decide +kernel
theorem dX1_spreadBit_1 : decode cX1_spreadBit 1 = .ok (.iload_n 1, 1) := by decide +kernel
theorem dX1_spreadBit_2 : decode cX1_spreadBit 2 = .ok (.iushr, 1) := by decide +kernel
theorem dX1_spreadBit_3 : decode cX1_spreadBit 3 = .ok (.i2l, 1) := by decide +kernel
theorem dX1_spreadBit_4 : decode cX1_spreadBit 4 = .ok (.lconst 1, 1) := by decide +kernel
theorem dX1_spreadBit_5 : decode cX1_spreadBit 5 = .ok (.land, 1) := by decide +kernel
theorem dX1_spreadBit_6 : decode cX1_spreadBit 6 = .ok (.lneg, 1) := by decide +kernel
theorem dX1_spreadBit_7 : decode cX1_spreadBit 7 = .ok (.lreturn, 1) := by decide +kernel
set_option maxRecDepth 20000 in
theorem ggX1_lowestBit_J13_bitCount_95d88 : GoodIn wsX1_lowestBit wsJ13_bitCount_95d88 := goodIn_r _ [5, 6, 7, 8] (by decide +kernel) (by decide +kernel)
set_option maxRecDepth 20000 in
theorem gX1_lowestBit_J13_bitCount_95d88 : GoodIn wsX1_lowestBit (va_wsS RX1 95 yJ13_bitCount_95d88 wsJ13_bitCount_95d88) := goodIn_app (goodIn_of _ (by decide +kernel)) ggX1_lowestBit_J13_bitCount_95d88
theorem dX1_lowestBit_0 : decode cX1_lowestBit 0 = .ok (.lload_n 0, 1) := by decide +kernel
theorem dX1_lowestBit_1 : decode cX1_lowestBit 1 = .ok (.ldc2_w 38, 3) := by decide +kernel
theorem dX1_lowestBit_4 : decode cX1_lowestBit 4 = .ok (.lxor, 1) := by decide +kernel
theorem dX1_lowestBit_5 : decode cX1_lowestBit 5 = .ok (.lload_n 0, 1) := by decide +kernel
theorem dX1_lowestBit_6 : decode cX1_lowestBit 6 = .ok (.lconst 1, 1) := by decide +kernel
theorem dX1_lowestBit_7 : decode cX1_lowestBit 7 = .ok (.lsub, 1) := by decide +kernel
theorem dX1_lowestBit_8 : decode cX1_lowestBit 8 = .ok (.land, 1) := by decide +kernel
theorem dX1_lowestBit_9 : decode cX1_lowestBit 9 = .ok (.invokestatic 95, 3) := by decide +kernel
theorem dX1_lowestBit_12 : decode cX1_lowestBit 12 = .ok (.ireturn, 1) := by decide +kernel
theorem dX1_pick_0 : decode cX1_pick 0 = .ok (.lload_n 0, 1) := by decide +kernel
theorem dX1_pick_1 : decode cX1_pick 1 = .ok (.lload_n 2, 1) := by decide +kernel
theorem dX1_pick_2 : decode cX1_pick 2 = .ok (.land, 1) := by decide +kernel
theorem dX1_pick_3 : decode cX1_pick 3 = .ok (.lload_n 0, 1) := by decide +kernel
theorem dX1_pick_4 : decode cX1_pick 4 = .ok (.ldc2_w 38, 3) := by decide +kernel
theorem dX1_pick_7 : decode cX1_pick 7 = .ok (.lxor, 1) := by decide +kernel
theorem dX1_pick_8 : decode cX1_pick 8 = .ok (.lload 4, 2) := by decide +kernel
theorem dX1_pick_10 : decode cX1_pick 10 = .ok (.land, 1) := by decide +kernel
theorem dX1_pick_11 : decode cX1_pick 11 = .ok (.lor, 1) := by decide +kernel
theorem dX1_pick_12 : decode cX1_pick 12 = .ok (.lreturn, 1) := by decide +kernel
theorem dX1_copyRow_0 : decode cX1_copyRow 0 = .ok (.aload_n 0, 1) := by decide +kernel
theorem dX1_copyRow_1 : decode cX1_copyRow 1 = .ok (.iconst 0, 1) := by decide +kernel
theorem dX1_copyRow_2 : decode cX1_copyRow 2 = .ok (.aload_n 1, 1) := by decide +kernel
theorem dX1_copyRow_3 : decode cX1_copyRow 3 = .ok (.iconst 0, 1) := by decide +kernel
theorem dX1_copyRow_4 : decode cX1_copyRow 4 = .ok (.bipush 16, 2) := by decide +kernel
theorem dX1_copyRow_6 : decode cX1_copyRow 6 = .ok (.invokestatic 123, 3) := by decide +kernel
theorem dX1_copyRow_9 : decode cX1_copyRow 9 = .ok (.return_, 1) := by decide +kernel
theorem dX1_isFalse_0 : decode cX1_isFalse 0 = .ok (.iconst 0, 1) := by decide +kernel
theorem dX1_isFalse_1 : decode cX1_isFalse 1 = .ok (.istore_n 1, 1) := by decide +kernel
theorem dX1_isFalse_2 : decode cX1_isFalse 2 = .ok (.iload_n 1, 1) := by decide +kernel
theorem dX1_isFalse_3 : decode cX1_isFalse 3 = .ok (.bipush 16, 2) := by decide +kernel
theorem dX1_isFalse_5 : decode cX1_isFalse 5 = .ok (.if_icmp .ge 19, 3) := by decide +kernel
theorem dX1_isFalse_8 : decode cX1_isFalse 8 = .ok (.aload_n 0, 1) := by decide +kernel
theorem dX1_isFalse_9 : decode cX1_isFalse 9 = .ok (.iload_n 1, 1) := by decide +kernel
theorem dX1_isFalse_10 : decode cX1_isFalse 10 = .ok (.laload, 1) := by decide +kernel
theorem dX1_isFalse_11 : decode cX1_isFalse 11 = .ok (.lconst 0, 1) := by decide +kernel
theorem dX1_isFalse_12 : decode cX1_isFalse 12 = .ok (.lcmp, 1) := by decide +kernel
theorem dX1_isFalse_13 : decode cX1_isFalse 13 = .ok (.ifCond .eq 5, 3) := by decide +kernel
theorem dX1_isFalse_16 : decode cX1_isFalse 16 = .ok (.iconst 0, 1) := by decide +kernel
theorem dX1_isFalse_17 : decode cX1_isFalse 17 = .ok (.ireturn, 1) := by decide +kernel
theorem dX1_isFalse_18 : decode cX1_isFalse 18 = .ok (.iinc 1 1, 3) := by decide +kernel
theorem dX1_isFalse_21 : decode cX1_isFalse 21 = .ok (.goto (-19), 3) := by decide +kernel
theorem dX1_isFalse_24 : decode cX1_isFalse 24 = .ok (.iconst 1, 1) := by decide +kernel
theorem dX1_isFalse_25 : decode cX1_isFalse 25 = .ok (.ireturn, 1) := by decide +kernel
set_option maxRecDepth 20000 in
theorem ggX1_variableWord_X1_spreadBit : GoodIn wsX1_variableWord wsX1_spreadBit := goodIn_r _ [5] (by decide +kernel) (by decide +kernel)
set_option maxRecDepth 20000 in
theorem gX1_variableWord_X1_spreadBit : GoodIn wsX1_variableWord (va_wsS RX1 54 yX1_spreadBit wsX1_spreadBit) := goodIn_app (goodIn_of _ (by decide +kernel)) ggX1_variableWord_X1_spreadBit
theorem dX1_variableWord_0 : decode cX1_variableWord 0 = .ok (.iload_n 0, 1) := by decide +kernel
theorem dX1_variableWord_1 : decode cX1_variableWord 1 = .ok (.iconst 4, 1) := by decide +kernel
theorem dX1_variableWord_2 : decode cX1_variableWord 2 = .ok (.if_icmp .ge 11, 3) := by decide +kernel
theorem dX1_variableWord_5 : decode cX1_variableWord 5 = .ok (.iload_n 1, 1) := by decide +kernel
theorem dX1_variableWord_6 : decode cX1_variableWord 6 = .ok (.iconst 3, 1) := by decide +kernel
theorem dX1_variableWord_7 : decode cX1_variableWord 7 = .ok (.iload_n 0, 1) := by decide +kernel
theorem dX1_variableWord_8 : decode cX1_variableWord 8 = .ok (.isub, 1) := by decide +kernel
theorem dX1_variableWord_9 : decode cX1_variableWord 9 = .ok (.invokestatic 54, 3) := by decide +kernel
theorem dX1_variableWord_12 : decode cX1_variableWord 12 = .ok (.lreturn, 1) := by decide +kernel
theorem dX1_variableWord_13 : decode cX1_variableWord 13 = .ok (.getstatic 129, 3) := by decide +kernel
theorem dX1_variableWord_16 : decode cX1_variableWord 16 = .ok (.iload_n 0, 1) := by decide +kernel
theorem dX1_variableWord_17 : decode cX1_variableWord 17 = .ok (.iconst 4, 1) := by decide +kernel
theorem dX1_variableWord_18 : decode cX1_variableWord 18 = .ok (.isub, 1) := by decide +kernel
theorem dX1_variableWord_19 : decode cX1_variableWord 19 = .ok (.laload, 1) := by decide +kernel
theorem dX1_variableWord_20 : decode cX1_variableWord 20 = .ok (.lreturn, 1) := by decide +kernel
set_option maxRecDepth 20000 in
theorem ggX1_turnedWord_X1_bitOf : GoodIn wsX1_turnedWord wsX1_bitOf := goodIn_r _ [5] (by decide +kernel) (by decide +kernel)
set_option maxRecDepth 20000 in
theorem gX1_turnedWord_X1_bitOf : GoodIn wsX1_turnedWord (va_wsS RX1 71 yX1_bitOf wsX1_bitOf) := goodIn_app (goodIn_of _ (by decide +kernel)) ggX1_turnedWord_X1_bitOf
theorem dX1_turnedWord_0 : decode cX1_turnedWord 0 = .ok (.iload_n 2, 1) := by decide +kernel
theorem dX1_turnedWord_1 : decode cX1_turnedWord 1 = .ok (.iconst 4, 1) := by decide +kernel
theorem dX1_turnedWord_2 : decode cX1_turnedWord 2 = .ok (.if_icmp .ge 13, 3) := by decide +kernel
theorem dX1_turnedWord_5 : decode cX1_turnedWord 5 = .ok (.aload_n 0, 1) := by decide +kernel
theorem dX1_turnedWord_6 : decode cX1_turnedWord 6 = .ok (.iload_n 1, 1) := by decide +kernel
theorem dX1_turnedWord_7 : decode cX1_turnedWord 7 = .ok (.iconst 1, 1) := by decide +kernel
theorem dX1_turnedWord_8 : decode cX1_turnedWord 8 = .ok (.iconst 3, 1) := by decide +kernel
theorem dX1_turnedWord_9 : decode cX1_turnedWord 9 = .ok (.iload_n 2, 1) := by decide +kernel
theorem dX1_turnedWord_10 : decode cX1_turnedWord 10 = .ok (.isub, 1) := by decide +kernel
theorem dX1_turnedWord_11 : decode cX1_turnedWord 11 = .ok (.ishl, 1) := by decide +kernel
theorem dX1_turnedWord_12 : decode cX1_turnedWord 12 = .ok (.ixor, 1) := by decide +kernel
theorem dX1_turnedWord_13 : decode cX1_turnedWord 13 = .ok (.laload, 1) := by decide +kernel
theorem dX1_turnedWord_14 : decode cX1_turnedWord 14 = .ok (.lreturn, 1) := by decide +kernel
theorem dX1_turnedWord_15 : decode cX1_turnedWord 15 = .ok (.getstatic 129, 3) := by decide +kernel
theorem dX1_turnedWord_18 : decode cX1_turnedWord 18 = .ok (.iload_n 2, 1) := by decide +kernel
theorem dX1_turnedWord_19 : decode cX1_turnedWord 19 = .ok (.iconst 4, 1) := by decide +kernel
theorem dX1_turnedWord_20 : decode cX1_turnedWord 20 = .ok (.isub, 1) := by decide +kernel
theorem dX1_turnedWord_21 : decode cX1_turnedWord 21 = .ok (.laload, 1) := by decide +kernel
theorem dX1_turnedWord_22 : decode cX1_turnedWord 22 = .ok (.lstore_n 3, 1) := by decide +kernel
theorem dX1_turnedWord_23 : decode cX1_turnedWord 23 = .ok (.iload_n 2, 1) := by decide +kernel
theorem dX1_turnedWord_24 : decode cX1_turnedWord 24 = .ok (.invokestatic 71, 3) := by decide +kernel
theorem dX1_turnedWord_27 : decode cX1_turnedWord 27 = .ok (.istore 5, 2) := by decide +kernel
theorem dX1_turnedWord_29 : decode cX1_turnedWord 29 = .ok (.aload_n 0, 1) := by decide +kernel
theorem dX1_turnedWord_30 : decode cX1_turnedWord 30 = .ok (.iload_n 1, 1) := by decide +kernel
theorem dX1_turnedWord_31 : decode cX1_turnedWord 31 = .ok (.laload, 1) := by decide +kernel
theorem dX1_turnedWord_32 : decode cX1_turnedWord 32 = .ok (.lload_n 3, 1) := by decide +kernel
theorem dX1_turnedWord_33 : decode cX1_turnedWord 33 = .ok (.land, 1) := by decide +kernel
theorem dX1_turnedWord_34 : decode cX1_turnedWord 34 = .ok (.iload 5, 2) := by decide +kernel
theorem dX1_turnedWord_36 : decode cX1_turnedWord 36 = .ok (.lushr, 1) := by decide +kernel
theorem dX1_turnedWord_37 : decode cX1_turnedWord 37 = .ok (.aload_n 0, 1) := by decide +kernel
theorem dX1_turnedWord_38 : decode cX1_turnedWord 38 = .ok (.iload_n 1, 1) := by decide +kernel
theorem dX1_turnedWord_39 : decode cX1_turnedWord 39 = .ok (.laload, 1) := by decide +kernel
theorem dX1_turnedWord_40 : decode cX1_turnedWord 40 = .ok (.iload 5, 2) := by decide +kernel
theorem dX1_turnedWord_42 : decode cX1_turnedWord 42 = .ok (.lshl, 1) := by decide +kernel
theorem dX1_turnedWord_43 : decode cX1_turnedWord 43 = .ok (.lload_n 3, 1) := by decide +kernel
theorem dX1_turnedWord_44 : decode cX1_turnedWord 44 = .ok (.land, 1) := by decide +kernel
theorem dX1_turnedWord_45 : decode cX1_turnedWord 45 = .ok (.lor, 1) := by decide +kernel
theorem dX1_turnedWord_46 : decode cX1_turnedWord 46 = .ok (.lreturn, 1) := by decide +kernel
set_option maxRecDepth 20000 in
theorem ggX1_wordWith_X1_variableWord : GoodIn wsX1_wordWith wsX1_variableWord := goodIn_r _ [4, 5, 6, 7, 3, 8] (by decide +kernel) (by decide +kernel)
set_option maxRecDepth 20000 in
theorem gX1_wordWith_X1_variableWord : GoodIn wsX1_wordWith (va_wsS RX1 43 yX1_variableWord wsX1_variableWord) := goodIn_app (goodIn_of _ (by decide +kernel)) ggX1_wordWith_X1_variableWord
set_option maxRecDepth 20000 in
theorem ggX1_wordWith_X1_turnedWord : GoodIn wsX1_wordWith wsX1_turnedWord := goodIn_r _ [11, 5, 12, 13, 3, 14] (by decide +kernel) (by decide +kernel)
set_option maxRecDepth 20000 in
theorem gX1_wordWith_X1_turnedWord : GoodIn wsX1_wordWith (va_wsS RX1 79 yX1_turnedWord wsX1_turnedWord) := goodIn_app (goodIn_of _ (by decide +kernel)) ggX1_wordWith_X1_turnedWord
set_option maxRecDepth 20000 in
theorem ggX1_wordWith_X1_pick : GoodIn wsX1_wordWith wsX1_pick := goodIn_r _ [17, 18] (by decide +kernel) (by decide +kernel)
set_option maxRecDepth 20000 in
theorem gX1_wordWith_X1_pick : GoodIn wsX1_wordWith (va_wsS RX1 57 yX1_pick wsX1_pick) := goodIn_app (goodIn_of _ (by decide +kernel)) ggX1_wordWith_X1_pick
theorem dX1_wordWith_0 : decode cX1_wordWith 0 = .ok (.lload_n 3, 1) := by decide +kernel
theorem dX1_wordWith_1 : decode cX1_wordWith 1 = .ok (.iload_n 2, 1) := by decide +kernel
theorem dX1_wordWith_2 : decode cX1_wordWith 2 = .ok (.iload_n 1, 1) := by decide +kernel
theorem dX1_wordWith_3 : decode cX1_wordWith 3 = .ok (.invokestatic 43, 3) := by decide +kernel
theorem dX1_wordWith_6 : decode cX1_wordWith 6 = .ok (.lxor, 1) := by decide +kernel
theorem dX1_wordWith_7 : decode cX1_wordWith 7 = .ok (.lstore 5, 2) := by decide +kernel
theorem dX1_wordWith_9 : decode cX1_wordWith 9 = .ok (.lload 5, 2) := by decide +kernel
theorem dX1_wordWith_11 : decode cX1_wordWith 11 = .ok (.aload_n 0, 1) := by decide +kernel
theorem dX1_wordWith_12 : decode cX1_wordWith 12 = .ok (.iload_n 1, 1) := by decide +kernel
theorem dX1_wordWith_13 : decode cX1_wordWith 13 = .ok (.iload_n 2, 1) := by decide +kernel
theorem dX1_wordWith_14 : decode cX1_wordWith 14 = .ok (.invokestatic 79, 3) := by decide +kernel
theorem dX1_wordWith_17 : decode cX1_wordWith 17 = .ok (.aload_n 0, 1) := by decide +kernel
theorem dX1_wordWith_18 : decode cX1_wordWith 18 = .ok (.iload_n 1, 1) := by decide +kernel
theorem dX1_wordWith_19 : decode cX1_wordWith 19 = .ok (.laload, 1) := by decide +kernel
theorem dX1_wordWith_20 : decode cX1_wordWith 20 = .ok (.invokestatic 57, 3) := by decide +kernel
theorem dX1_wordWith_23 : decode cX1_wordWith 23 = .ok (.lreturn, 1) := by decide +kernel
set_option maxRecDepth 20000 in
theorem ggX1_changesWith_X1_turnedWord : GoodIn wsX1_changesWith wsX1_turnedWord := goodIn_r _ [4, 5, 6, 7, 3, 8] (by decide +kernel) (by decide +kernel)
set_option maxRecDepth 20000 in
theorem gX1_changesWith_X1_turnedWord : GoodIn wsX1_changesWith (va_wsS RX1 79 yX1_turnedWord wsX1_turnedWord) := goodIn_app (goodIn_of _ (by decide +kernel)) ggX1_changesWith_X1_turnedWord
theorem dX1_changesWith_0 : decode cX1_changesWith 0 = .ok (.iconst 0, 1) := by decide +kernel
theorem dX1_changesWith_1 : decode cX1_changesWith 1 = .ok (.istore_n 2, 1) := by decide +kernel
theorem dX1_changesWith_2 : decode cX1_changesWith 2 = .ok (.iload_n 2, 1) := by decide +kernel
theorem dX1_changesWith_3 : decode cX1_changesWith 3 = .ok (.bipush 16, 2) := by decide +kernel
theorem dX1_changesWith_5 : decode cX1_changesWith 5 = .ok (.if_icmp .ge 24, 3) := by decide +kernel
theorem dX1_changesWith_8 : decode cX1_changesWith 8 = .ok (.aload_n 0, 1) := by decide +kernel
theorem dX1_changesWith_9 : decode cX1_changesWith 9 = .ok (.iload_n 2, 1) := by decide +kernel
theorem dX1_changesWith_10 : decode cX1_changesWith 10 = .ok (.laload, 1) := by decide +kernel
theorem dX1_changesWith_11 : decode cX1_changesWith 11 = .ok (.aload_n 0, 1) := by decide +kernel
theorem dX1_changesWith_12 : decode cX1_changesWith 12 = .ok (.iload_n 2, 1) := by decide +kernel
theorem dX1_changesWith_13 : decode cX1_changesWith 13 = .ok (.iload_n 1, 1) := by decide +kernel
theorem dX1_changesWith_14 : decode cX1_changesWith 14 = .ok (.invokestatic 79, 3) := by decide +kernel
theorem dX1_changesWith_17 : decode cX1_changesWith 17 = .ok (.lcmp, 1) := by decide +kernel
theorem dX1_changesWith_18 : decode cX1_changesWith 18 = .ok (.ifCond .eq 5, 3) := by decide +kernel
theorem dX1_changesWith_21 : decode cX1_changesWith 21 = .ok (.iconst 1, 1) := by decide +kernel
theorem dX1_changesWith_22 : decode cX1_changesWith 22 = .ok (.ireturn, 1) := by decide +kernel
theorem dX1_changesWith_23 : decode cX1_changesWith 23 = .ok (.iinc 2 1, 3) := by decide +kernel
theorem dX1_changesWith_26 : decode cX1_changesWith 26 = .ok (.goto (-24), 3) := by decide +kernel
theorem dX1_changesWith_29 : decode cX1_changesWith 29 = .ok (.iconst 0, 1) := by decide +kernel
theorem dX1_changesWith_30 : decode cX1_changesWith 30 = .ok (.ireturn, 1) := by decide +kernel
set_option maxRecDepth 20000 in
theorem ggX1_quantifyMade_X1_turnedWord : GoodIn wsX1_quantifyMade wsX1_turnedWord := goodIn_r _ [6, 7, 8, 9, 5, 10] (by decide +kernel) (by decide +kernel)
set_option maxRecDepth 20000 in
theorem gX1_quantifyMade_X1_turnedWord : GoodIn wsX1_quantifyMade (va_wsS RX1 79 yX1_turnedWord wsX1_turnedWord) := goodIn_app (goodIn_of _ (by decide +kernel)) ggX1_quantifyMade_X1_turnedWord
set_option maxRecDepth 20000 in
theorem ggX1_quantifyMade_X1_copyRow : GoodIn wsX1_quantifyMade wsX1_copyRow := goodIn_r _ [13, 14, 15, 16, 17] (by decide +kernel) (by decide +kernel)
set_option maxRecDepth 20000 in
theorem gX1_quantifyMade_X1_copyRow : GoodIn wsX1_quantifyMade (va_wsS RX1 65 yX1_copyRow wsX1_copyRow) := goodIn_app (goodIn_of _ (by decide +kernel)) ggX1_quantifyMade_X1_copyRow
theorem dX1_quantifyMade_0 : decode cX1_quantifyMade 0 = .ok (.iconst 0, 1) := by decide +kernel
theorem dX1_quantifyMade_1 : decode cX1_quantifyMade 1 = .ok (.istore_n 3, 1) := by decide +kernel
theorem dX1_quantifyMade_2 : decode cX1_quantifyMade 2 = .ok (.iload_n 3, 1) := by decide +kernel
theorem dX1_quantifyMade_3 : decode cX1_quantifyMade 3 = .ok (.bipush 16, 2) := by decide +kernel
theorem dX1_quantifyMade_5 : decode cX1_quantifyMade 5 = .ok (.if_icmp .ge 51, 3) := by decide +kernel
theorem dX1_quantifyMade_8 : decode cX1_quantifyMade 8 = .ok (.aload_n 0, 1) := by decide +kernel
theorem dX1_quantifyMade_9 : decode cX1_quantifyMade 9 = .ok (.getfield 14, 3) := by decide +kernel
theorem dX1_quantifyMade_12 : decode cX1_quantifyMade 12 = .ok (.iload_n 3, 1) := by decide +kernel
theorem dX1_quantifyMade_13 : decode cX1_quantifyMade 13 = .ok (.iload_n 1, 1) := by decide +kernel
theorem dX1_quantifyMade_14 : decode cX1_quantifyMade 14 = .ok (.invokestatic 79, 3) := by decide +kernel
theorem dX1_quantifyMade_17 : decode cX1_quantifyMade 17 = .ok (.lstore 4, 2) := by decide +kernel
theorem dX1_quantifyMade_19 : decode cX1_quantifyMade 19 = .ok (.aload_n 0, 1) := by decide +kernel
theorem dX1_quantifyMade_20 : decode cX1_quantifyMade 20 = .ok (.getfield 18, 3) := by decide +kernel
theorem dX1_quantifyMade_23 : decode cX1_quantifyMade 23 = .ok (.iload_n 3, 1) := by decide +kernel
theorem dX1_quantifyMade_24 : decode cX1_quantifyMade 24 = .ok (.iload_n 2, 1) := by decide +kernel
theorem dX1_quantifyMade_25 : decode cX1_quantifyMade 25 = .ok (.ifCond .eq 15, 3) := by decide +kernel
theorem dX1_quantifyMade_28 : decode cX1_quantifyMade 28 = .ok (.aload_n 0, 1) := by decide +kernel
theorem dX1_quantifyMade_29 : decode cX1_quantifyMade 29 = .ok (.getfield 14, 3) := by decide +kernel
theorem dX1_quantifyMade_32 : decode cX1_quantifyMade 32 = .ok (.iload_n 3, 1) := by decide +kernel
theorem dX1_quantifyMade_33 : decode cX1_quantifyMade 33 = .ok (.laload, 1) := by decide +kernel
theorem dX1_quantifyMade_34 : decode cX1_quantifyMade 34 = .ok (.lload 4, 2) := by decide +kernel
theorem dX1_quantifyMade_36 : decode cX1_quantifyMade 36 = .ok (.land, 1) := by decide +kernel
theorem dX1_quantifyMade_37 : decode cX1_quantifyMade 37 = .ok (.goto 12, 3) := by decide +kernel
theorem dX1_quantifyMade_40 : decode cX1_quantifyMade 40 = .ok (.aload_n 0, 1) := by decide +kernel
theorem dX1_quantifyMade_41 : decode cX1_quantifyMade 41 = .ok (.getfield 14, 3) := by decide +kernel
theorem dX1_quantifyMade_44 : decode cX1_quantifyMade 44 = .ok (.iload_n 3, 1) := by decide +kernel
theorem dX1_quantifyMade_45 : decode cX1_quantifyMade 45 = .ok (.laload, 1) := by decide +kernel
theorem dX1_quantifyMade_46 : decode cX1_quantifyMade 46 = .ok (.lload 4, 2) := by decide +kernel
theorem dX1_quantifyMade_48 : decode cX1_quantifyMade 48 = .ok (.lor, 1) := by decide +kernel
theorem dX1_quantifyMade_49 : decode cX1_quantifyMade 49 = .ok (.lastore, 1) := by decide +kernel
theorem dX1_quantifyMade_50 : decode cX1_quantifyMade 50 = .ok (.iinc 3 1, 3) := by decide +kernel
theorem dX1_quantifyMade_53 : decode cX1_quantifyMade 53 = .ok (.goto (-51), 3) := by decide +kernel
theorem dX1_quantifyMade_56 : decode cX1_quantifyMade 56 = .ok (.aload_n 0, 1) := by decide +kernel
theorem dX1_quantifyMade_57 : decode cX1_quantifyMade 57 = .ok (.getfield 18, 3) := by decide +kernel
theorem dX1_quantifyMade_60 : decode cX1_quantifyMade 60 = .ok (.aload_n 0, 1) := by decide +kernel
theorem dX1_quantifyMade_61 : decode cX1_quantifyMade 61 = .ok (.getfield 14, 3) := by decide +kernel
theorem dX1_quantifyMade_64 : decode cX1_quantifyMade 64 = .ok (.invokestatic 65, 3) := by decide +kernel
theorem dX1_quantifyMade_67 : decode cX1_quantifyMade 67 = .ok (.return_, 1) := by decide +kernel
set_option maxRecDepth 20000 in
theorem ggX1_widenSearch_X1_turnedWord : GoodIn wsX1_widenSearch wsX1_turnedWord := goodIn_r _ [8, 9, 10, 11, 7, 12] (by decide +kernel) (by decide +kernel)
set_option maxRecDepth 20000 in
theorem gX1_widenSearch_X1_turnedWord : GoodIn wsX1_widenSearch (va_wsS RX1 79 yX1_turnedWord wsX1_turnedWord) := goodIn_app (goodIn_of _ (by decide +kernel)) ggX1_widenSearch_X1_turnedWord
set_option maxRecDepth 20000 in
theorem ggX1_widenSearch_X1_pick : GoodIn wsX1_widenSearch wsX1_pick := goodIn_r _ [15, 16] (by decide +kernel) (by decide +kernel)
set_option maxRecDepth 20000 in
theorem gX1_widenSearch_X1_pick : GoodIn wsX1_widenSearch (va_wsS RX1 57 yX1_pick wsX1_pick) := goodIn_app (goodIn_of _ (by decide +kernel)) ggX1_widenSearch_X1_pick
set_option maxRecDepth 20000 in
theorem ggX1_widenSearch_X1_copyRow : GoodIn wsX1_widenSearch wsX1_copyRow := goodIn_r _ [19, 20, 21, 22, 23] (by decide +kernel) (by decide +kernel)
set_option maxRecDepth 20000 in
theorem gX1_widenSearch_X1_copyRow : GoodIn wsX1_widenSearch (va_wsS RX1 65 yX1_copyRow wsX1_copyRow) := goodIn_app (goodIn_of _ (by decide +kernel)) ggX1_widenSearch_X1_copyRow
theorem dX1_widenSearch_0 : decode cX1_widenSearch 0 = .ok (.iconst 0, 1) := by decide +kernel
theorem dX1_widenSearch_1 : decode cX1_widenSearch 1 = .ok (.istore_n 2, 1) := by decide +kernel
theorem dX1_widenSearch_2 : decode cX1_widenSearch 2 = .ok (.iload_n 2, 1) := by decide +kernel
theorem dX1_widenSearch_3 : decode cX1_widenSearch 3 = .ok (.bipush 16, 2) := by decide +kernel
theorem dX1_widenSearch_5 : decode cX1_widenSearch 5 = .ok (.if_icmp .ge 61, 3) := by decide +kernel
theorem dX1_widenSearch_8 : decode cX1_widenSearch 8 = .ok (.aload_n 0, 1) := by decide +kernel
theorem dX1_widenSearch_9 : decode cX1_widenSearch 9 = .ok (.getfield 18, 3) := by decide +kernel
theorem dX1_widenSearch_12 : decode cX1_widenSearch 12 = .ok (.iload_n 2, 1) := by decide +kernel
theorem dX1_widenSearch_13 : decode cX1_widenSearch 13 = .ok (.aload_n 0, 1) := by decide +kernel
theorem dX1_widenSearch_14 : decode cX1_widenSearch 14 = .ok (.getfield 21, 3) := by decide +kernel
theorem dX1_widenSearch_17 : decode cX1_widenSearch 17 = .ok (.iload_n 2, 1) := by decide +kernel
theorem dX1_widenSearch_18 : decode cX1_widenSearch 18 = .ok (.laload, 1) := by decide +kernel
theorem dX1_widenSearch_19 : decode cX1_widenSearch 19 = .ok (.aload_n 0, 1) := by decide +kernel
theorem dX1_widenSearch_20 : decode cX1_widenSearch 20 = .ok (.getfield 14, 3) := by decide +kernel
theorem dX1_widenSearch_23 : decode cX1_widenSearch 23 = .ok (.iload_n 2, 1) := by decide +kernel
theorem dX1_widenSearch_24 : decode cX1_widenSearch 24 = .ok (.laload, 1) := by decide +kernel
theorem dX1_widenSearch_25 : decode cX1_widenSearch 25 = .ok (.aload_n 0, 1) := by decide +kernel
theorem dX1_widenSearch_26 : decode cX1_widenSearch 26 = .ok (.getfield 14, 3) := by decide +kernel
theorem dX1_widenSearch_29 : decode cX1_widenSearch 29 = .ok (.iload_n 2, 1) := by decide +kernel
theorem dX1_widenSearch_30 : decode cX1_widenSearch 30 = .ok (.iload_n 1, 1) := by decide +kernel
theorem dX1_widenSearch_31 : decode cX1_widenSearch 31 = .ok (.invokestatic 79, 3) := by decide +kernel
theorem dX1_widenSearch_34 : decode cX1_widenSearch 34 = .ok (.invokestatic 57, 3) := by decide +kernel
theorem dX1_widenSearch_37 : decode cX1_widenSearch 37 = .ok (.lastore, 1) := by decide +kernel
theorem dX1_widenSearch_38 : decode cX1_widenSearch 38 = .ok (.aload_n 0, 1) := by decide +kernel
theorem dX1_widenSearch_39 : decode cX1_widenSearch 39 = .ok (.getfield 24, 3) := by decide +kernel
theorem dX1_widenSearch_42 : decode cX1_widenSearch 42 = .ok (.iload_n 2, 1) := by decide +kernel
theorem dX1_widenSearch_43 : decode cX1_widenSearch 43 = .ok (.aload_n 0, 1) := by decide +kernel
theorem dX1_widenSearch_44 : decode cX1_widenSearch 44 = .ok (.getfield 21, 3) := by decide +kernel
theorem dX1_widenSearch_47 : decode cX1_widenSearch 47 = .ok (.iload_n 2, 1) := by decide +kernel
theorem dX1_widenSearch_48 : decode cX1_widenSearch 48 = .ok (.laload, 1) := by decide +kernel
theorem dX1_widenSearch_49 : decode cX1_widenSearch 49 = .ok (.aload_n 0, 1) := by decide +kernel
theorem dX1_widenSearch_50 : decode cX1_widenSearch 50 = .ok (.getfield 21, 3) := by decide +kernel
theorem dX1_widenSearch_53 : decode cX1_widenSearch 53 = .ok (.iload_n 2, 1) := by decide +kernel
theorem dX1_widenSearch_54 : decode cX1_widenSearch 54 = .ok (.iload_n 1, 1) := by decide +kernel
theorem dX1_widenSearch_55 : decode cX1_widenSearch 55 = .ok (.invokestatic 79, 3) := by decide +kernel
theorem dX1_widenSearch_58 : decode cX1_widenSearch 58 = .ok (.lor, 1) := by decide +kernel
theorem dX1_widenSearch_59 : decode cX1_widenSearch 59 = .ok (.lastore, 1) := by decide +kernel
theorem dX1_widenSearch_60 : decode cX1_widenSearch 60 = .ok (.iinc 2 1, 3) := by decide +kernel
theorem dX1_widenSearch_63 : decode cX1_widenSearch 63 = .ok (.goto (-61), 3) := by decide +kernel
theorem dX1_widenSearch_66 : decode cX1_widenSearch 66 = .ok (.aload_n 0, 1) := by decide +kernel
theorem dX1_widenSearch_67 : decode cX1_widenSearch 67 = .ok (.getfield 18, 3) := by decide +kernel
theorem dX1_widenSearch_70 : decode cX1_widenSearch 70 = .ok (.aload_n 0, 1) := by decide +kernel
theorem dX1_widenSearch_71 : decode cX1_widenSearch 71 = .ok (.getfield 14, 3) := by decide +kernel
theorem dX1_widenSearch_74 : decode cX1_widenSearch 74 = .ok (.invokestatic 65, 3) := by decide +kernel
theorem dX1_widenSearch_77 : decode cX1_widenSearch 77 = .ok (.aload_n 0, 1) := by decide +kernel
theorem dX1_widenSearch_78 : decode cX1_widenSearch 78 = .ok (.getfield 24, 3) := by decide +kernel
theorem dX1_widenSearch_81 : decode cX1_widenSearch 81 = .ok (.aload_n 0, 1) := by decide +kernel
theorem dX1_widenSearch_82 : decode cX1_widenSearch 82 = .ok (.getfield 21, 3) := by decide +kernel
theorem dX1_widenSearch_85 : decode cX1_widenSearch 85 = .ok (.invokestatic 65, 3) := by decide +kernel
theorem dX1_widenSearch_88 : decode cX1_widenSearch 88 = .ok (.return_, 1) := by decide +kernel
