theorem dX2_init_0 : decode cX2_init 0 = .ok (.aload_n 0, 1) := by decide +kernel
theorem dX2_init_1 : decode cX2_init 1 = .ok (.invokespecial 1, 3) := by decide +kernel
theorem dX2_init_4 : decode cX2_init 4 = .ok (.aload_n 0, 1) := by decide +kernel
theorem dX2_init_5 : decode cX2_init 5 = .ok (.ldc 7, 2) := by decide +kernel
theorem dX2_init_7 : decode cX2_init 7 = .ok (.newarray .boolean, 2) := by decide +kernel
theorem dX2_init_9 : decode cX2_init 9 = .ok (.putfield 8, 3) := by decide +kernel
theorem dX2_init_12 : decode cX2_init 12 = .ok (.aload_n 0, 1) := by decide +kernel
theorem dX2_init_13 : decode cX2_init 13 = .ok (.sipush 1024, 3) := by decide +kernel
theorem dX2_init_16 : decode cX2_init 16 = .ok (.newarray .boolean, 2) := by decide +kernel
theorem dX2_init_18 : decode cX2_init 18 = .ok (.putfield 14, 3) := by decide +kernel
theorem dX2_init_21 : decode cX2_init 21 = .ok (.aload_n 0, 1) := by decide +kernel
theorem dX2_init_22 : decode cX2_init 22 = .ok (.sipush 24576, 3) := by decide +kernel
theorem dX2_init_25 : decode cX2_init 25 = .ok (.newarray .int, 2) := by decide +kernel
theorem dX2_init_27 : decode cX2_init 27 = .ok (.putfield 17, 3) := by decide +kernel
theorem dX2_init_30 : decode cX2_init 30 = .ok (.return_, 1) := by decide +kernel
theorem dX2_thrown_0 : decode cX2_thrown 0 = .ok (.aload_n 0, 1) := by decide +kernel
theorem dX2_thrown_1 : decode cX2_thrown 1 = .ok (.getfield 21, 3) := by decide +kernel
theorem dX2_thrown_4 : decode cX2_thrown 4 = .ok (.ireturn, 1) := by decide +kernel
theorem dX2_in_0 : decode cX2_in 0 = .ok (.iload_n 0, 1) := by decide +kernel
theorem dX2_in_1 : decode cX2_in 1 = .ok (.ifCond .lt 12, 3) := by decide +kernel
theorem dX2_in_4 : decode cX2_in 4 = .ok (.iload_n 0, 1) := by decide +kernel
theorem dX2_in_5 : decode cX2_in 5 = .ok (.iload_n 1, 1) := by decide +kernel
theorem dX2_in_6 : decode cX2_in 6 = .ok (.if_icmp .ge 7, 3) := by decide +kernel
theorem dX2_in_9 : decode cX2_in 9 = .ok (.iconst 1, 1) := by decide +kernel
theorem dX2_in_10 : decode cX2_in 10 = .ok (.goto 4, 3) := by decide +kernel
theorem dX2_in_13 : decode cX2_in 13 = .ok (.iconst 0, 1) := by decide +kernel
theorem dX2_in_14 : decode cX2_in 14 = .ok (.ireturn, 1) := by decide +kernel
theorem dX2_fails_0 : decode cX2_fails 0 = .ok (.aload_n 0, 1) := by decide +kernel
theorem dX2_fails_1 : decode cX2_fails 1 = .ok (.iload_n 1, 1) := by decide +kernel
theorem dX2_fails_2 : decode cX2_fails 2 = .ok (.ifCond .ne 7, 3) := by decide +kernel
theorem dX2_fails_5 : decode cX2_fails 5 = .ok (.iconst 1, 1) := by decide +kernel
theorem dX2_fails_6 : decode cX2_fails 6 = .ok (.goto 12, 3) := by decide +kernel
theorem dX2_fails_9 : decode cX2_fails 9 = .ok (.iload_n 2, 1) := by decide +kernel
theorem dX2_fails_10 : decode cX2_fails 10 = .ok (.ifCond .ne 7, 3) := by decide +kernel
theorem dX2_fails_13 : decode cX2_fails 13 = .ok (.iconst 2, 1) := by decide +kernel
theorem dX2_fails_14 : decode cX2_fails 14 = .ok (.goto 4, 3) := by decide +kernel
theorem dX2_fails_17 : decode cX2_fails 17 = .ok (.iconst 0, 1) := by decide +kernel
theorem dX2_fails_18 : decode cX2_fails 18 = .ok (.putfield 21, 3) := by decide +kernel
theorem dX2_fails_21 : decode cX2_fails 21 = .ok (.aload_n 0, 1) := by decide +kernel
theorem dX2_fails_22 : decode cX2_fails 22 = .ok (.getfield 21, 3) := by decide +kernel
theorem dX2_fails_25 : decode cX2_fails 25 = .ok (.ifCond .le 7, 3) := by decide +kernel
theorem dX2_fails_28 : decode cX2_fails 28 = .ok (.iconst 1, 1) := by decide +kernel
theorem dX2_fails_29 : decode cX2_fails 29 = .ok (.goto 4, 3) := by decide +kernel
theorem dX2_fails_32 : decode cX2_fails 32 = .ok (.iconst 0, 1) := by decide +kernel
theorem dX2_fails_33 : decode cX2_fails 33 = .ok (.ireturn, 1) := by decide +kernel
theorem dX2_of_0 : decode cX2_of 0 = .ok (.aload_n 0, 1) := by decide +kernel
theorem dX2_of_1 : decode cX2_of 1 = .ok (.getfield 8, 3) := by decide +kernel
theorem dX2_of_4 : decode cX2_of 4 = .ok (.sipush 1024, 3) := by decide +kernel
theorem dX2_of_7 : decode cX2_of 7 = .ok (.iload_n 1, 1) := by decide +kernel
theorem dX2_of_8 : decode cX2_of 8 = .ok (.imul, 1) := by decide +kernel
theorem dX2_of_9 : decode cX2_of 9 = .ok (.iload_n 2, 1) := by decide +kernel
theorem dX2_of_10 : decode cX2_of 10 = .ok (.iadd, 1) := by decide +kernel
theorem dX2_of_11 : decode cX2_of 11 = .ok (.baload, 1) := by decide +kernel
theorem dX2_of_12 : decode cX2_of 12 = .ok (.ireturn, 1) := by decide +kernel
theorem dX2_bit_0 : decode cX2_bit 0 = .ok (.iconst 1, 1) := by decide +kernel
theorem dX2_bit_1 : decode cX2_bit 1 = .ok (.bipush 9, 2) := by decide +kernel
theorem dX2_bit_3 : decode cX2_bit 3 = .ok (.iload_n 0, 1) := by decide +kernel
theorem dX2_bit_4 : decode cX2_bit 4 = .ok (.isub, 1) := by decide +kernel
theorem dX2_bit_5 : decode cX2_bit 5 = .ok (.ishl, 1) := by decide +kernel
theorem dX2_bit_6 : decode cX2_bit 6 = .ok (.ireturn, 1) := by decide +kernel
theorem dX2_keep_0 : decode cX2_keep 0 = .ok (.iconst 0, 1) := by decide +kernel
theorem dX2_keep_1 : decode cX2_keep 1 = .ok (.istore_n 2, 1) := by decide +kernel
theorem dX2_keep_2 : decode cX2_keep 2 = .ok (.iload_n 2, 1) := by decide +kernel
theorem dX2_keep_3 : decode cX2_keep 3 = .ok (.sipush 1024, 3) := by decide +kernel
theorem dX2_keep_6 : decode cX2_keep 6 = .ok (.if_icmp .ge 27, 3) := by decide +kernel
theorem dX2_keep_9 : decode cX2_keep 9 = .ok (.aload_n 0, 1) := by decide +kernel
theorem dX2_keep_10 : decode cX2_keep 10 = .ok (.getfield 8, 3) := by decide +kernel
theorem dX2_keep_13 : decode cX2_keep 13 = .ok (.sipush 1024, 3) := by decide +kernel
theorem dX2_keep_16 : decode cX2_keep 16 = .ok (.iload_n 1, 1) := by decide +kernel
theorem dX2_keep_17 : decode cX2_keep 17 = .ok (.imul, 1) := by decide +kernel
theorem dX2_keep_18 : decode cX2_keep 18 = .ok (.iload_n 2, 1) := by decide +kernel
theorem dX2_keep_19 : decode cX2_keep 19 = .ok (.iadd, 1) := by decide +kernel
theorem dX2_keep_20 : decode cX2_keep 20 = .ok (.aload_n 0, 1) := by decide +kernel
theorem dX2_keep_21 : decode cX2_keep 21 = .ok (.getfield 14, 3) := by decide +kernel
theorem dX2_keep_24 : decode cX2_keep 24 = .ok (.iload_n 2, 1) := by decide +kernel
theorem dX2_keep_25 : decode cX2_keep 25 = .ok (.baload, 1) := by decide +kernel
theorem dX2_keep_26 : decode cX2_keep 26 = .ok (.bastore, 1) := by decide +kernel
theorem dX2_keep_27 : decode cX2_keep 27 = .ok (.iinc 2 1, 3) := by decide +kernel
theorem dX2_keep_30 : decode cX2_keep 30 = .ok (.goto (-28), 3) := by decide +kernel
theorem dX2_keep_33 : decode cX2_keep 33 = .ok (.return_, 1) := by decide +kernel
set_option maxRecDepth 20000 in
theorem ggX2_constant_X2_in : GoodIn wsX2_constant wsX2_in := goodIn_r _ [5] (by decide +kernel) (by decide +kernel)
set_option maxRecDepth 20000 in
theorem gX2_constant_X2_in : GoodIn wsX2_constant (va_wsS RX2 25 yX2_in wsX2_in) := goodIn_app (goodIn_of _ (by decide +kernel)) ggX2_constant_X2_in
set_option maxRecDepth 20000 in
theorem ggX2_constant_X2_fails : GoodIn wsX2_constant wsX2_fails := goodIn_r _ [9, 10, 16, 17, 18, 19] (by decide +kernel) (by decide +kernel)
set_option maxRecDepth 20000 in
theorem gX2_constant_X2_fails : GoodIn wsX2_constant (wsV RX2 29 RX2 yX2_fails wsX2_fails) := goodIn_app (goodIn_of _ (by decide +kernel)) ggX2_constant_X2_fails
set_option maxRecDepth 20000 in
theorem ggX2_constant_X2_keep : GoodIn wsX2_constant wsX2_keep := goodIn_r _ [14, 15, 1, 16, 17, 18, 19] (by decide +kernel) (by decide +kernel)
set_option maxRecDepth 20000 in
theorem gX2_constant_X2_keep : GoodIn wsX2_constant (wsV RX2 33 RX2 yX2_keep wsX2_keep) := goodIn_app (goodIn_of _ (by decide +kernel)) ggX2_constant_X2_keep
theorem dX2_constant_0 : decode cX2_constant 0 = .ok (.aload_n 0, 1) := by decide +kernel
theorem dX2_constant_1 : decode cX2_constant 1 = .ok (.iload_n 1, 1) := by decide +kernel
theorem dX2_constant_2 : decode cX2_constant 2 = .ok (.bipush 48, 2) := by decide +kernel
theorem dX2_constant_4 : decode cX2_constant 4 = .ok (.invokestatic 25, 3) := by decide +kernel
theorem dX2_constant_7 : decode cX2_constant 7 = .ok (.iconst 1, 1) := by decide +kernel
theorem dX2_constant_8 : decode cX2_constant 8 = .ok (.invokevirtual 29, 3) := by decide +kernel
theorem dX2_constant_11 : decode cX2_constant 11 = .ok (.ifCond .eq 4, 3) := by decide +kernel
theorem dX2_constant_14 : decode cX2_constant 14 = .ok (.return_, 1) := by decide +kernel
theorem dX2_constant_15 : decode cX2_constant 15 = .ok (.iconst 0, 1) := by decide +kernel
theorem dX2_constant_16 : decode cX2_constant 16 = .ok (.istore_n 3, 1) := by decide +kernel
theorem dX2_constant_17 : decode cX2_constant 17 = .ok (.iload_n 3, 1) := by decide +kernel
theorem dX2_constant_18 : decode cX2_constant 18 = .ok (.sipush 1024, 3) := by decide +kernel
theorem dX2_constant_21 : decode cX2_constant 21 = .ok (.if_icmp .ge 16, 3) := by decide +kernel
theorem dX2_constant_24 : decode cX2_constant 24 = .ok (.aload_n 0, 1) := by decide +kernel
theorem dX2_constant_25 : decode cX2_constant 25 = .ok (.getfield 14, 3) := by decide +kernel
theorem dX2_constant_28 : decode cX2_constant 28 = .ok (.iload_n 3, 1) := by decide +kernel
theorem dX2_constant_29 : decode cX2_constant 29 = .ok (.iload_n 2, 1) := by decide +kernel
theorem dX2_constant_30 : decode cX2_constant 30 = .ok (.bastore, 1) := by decide +kernel
theorem dX2_constant_31 : decode cX2_constant 31 = .ok (.iinc 3 1, 3) := by decide +kernel
theorem dX2_constant_34 : decode cX2_constant 34 = .ok (.goto (-17), 3) := by decide +kernel
theorem dX2_constant_37 : decode cX2_constant 37 = .ok (.aload_n 0, 1) := by decide +kernel
theorem dX2_constant_38 : decode cX2_constant 38 = .ok (.iload_n 1, 1) := by decide +kernel
theorem dX2_constant_39 : decode cX2_constant 39 = .ok (.invokevirtual 33, 3) := by decide +kernel
theorem dX2_constant_42 : decode cX2_constant 42 = .ok (.return_, 1) := by decide +kernel
set_option maxRecDepth 20000 in
theorem ggX2_variable_X2_in : GoodIn wsX2_variable wsX2_in := goodIn_r _ [5] (by decide +kernel) (by decide +kernel)
set_option maxRecDepth 20000 in
theorem gX2_variable_X2_in : GoodIn wsX2_variable (va_wsS RX2 25 yX2_in wsX2_in) := goodIn_app (goodIn_of _ (by decide +kernel)) ggX2_variable_X2_in
set_option maxRecDepth 20000 in
theorem ggX2_variable_X2_fails : GoodIn wsX2_variable wsX2_fails := goodIn_r _ [9, 10, 19, 20, 21, 22] (by decide +kernel) (by decide +kernel)
set_option maxRecDepth 20000 in
theorem gX2_variable_X2_fails : GoodIn wsX2_variable (wsV RX2 29 RX2 yX2_fails wsX2_fails) := goodIn_app (goodIn_of _ (by decide +kernel)) ggX2_variable_X2_fails
set_option maxRecDepth 20000 in
theorem ggX2_variable_X2_bit : GoodIn wsX2_variable wsX2_bit := goodIn_r _ [13] (by decide +kernel) (by decide +kernel)
set_option maxRecDepth 20000 in
theorem gX2_variable_X2_bit : GoodIn wsX2_variable (va_wsS RX2 37 yX2_bit wsX2_bit) := goodIn_app (goodIn_of _ (by decide +kernel)) ggX2_variable_X2_bit
set_option maxRecDepth 20000 in
theorem ggX2_variable_X2_keep : GoodIn wsX2_variable wsX2_keep := goodIn_r _ [17, 18, 1, 19, 20, 21, 22] (by decide +kernel) (by decide +kernel)
set_option maxRecDepth 20000 in
theorem gX2_variable_X2_keep : GoodIn wsX2_variable (wsV RX2 33 RX2 yX2_keep wsX2_keep) := goodIn_app (goodIn_of _ (by decide +kernel)) ggX2_variable_X2_keep
theorem dX2_variable_0 : decode cX2_variable 0 = .ok (.aload_n 0, 1) := by decide +kernel
theorem dX2_variable_1 : decode cX2_variable 1 = .ok (.iload_n 1, 1) := by decide +kernel
theorem dX2_variable_2 : decode cX2_variable 2 = .ok (.bipush 48, 2) := by decide +kernel
theorem dX2_variable_4 : decode cX2_variable 4 = .ok (.invokestatic 25, 3) := by decide +kernel
theorem dX2_variable_7 : decode cX2_variable 7 = .ok (.iload_n 2, 1) := by decide +kernel
theorem dX2_variable_8 : decode cX2_variable 8 = .ok (.bipush 10, 2) := by decide +kernel
theorem dX2_variable_10 : decode cX2_variable 10 = .ok (.invokestatic 25, 3) := by decide +kernel
theorem dX2_variable_13 : decode cX2_variable 13 = .ok (.invokevirtual 29, 3) := by decide +kernel
theorem dX2_variable_16 : decode cX2_variable 16 = .ok (.ifCond .eq 4, 3) := by decide +kernel
theorem dX2_variable_19 : decode cX2_variable 19 = .ok (.return_, 1) := by decide +kernel
theorem dX2_variable_20 : decode cX2_variable 20 = .ok (.iconst 0, 1) := by decide +kernel
theorem dX2_variable_21 : decode cX2_variable 21 = .ok (.istore_n 3, 1) := by decide +kernel
theorem dX2_variable_22 : decode cX2_variable 22 = .ok (.iload_n 3, 1) := by decide +kernel
theorem dX2_variable_23 : decode cX2_variable 23 = .ok (.sipush 1024, 3) := by decide +kernel
theorem dX2_variable_26 : decode cX2_variable 26 = .ok (.if_icmp .ge 29, 3) := by decide +kernel
theorem dX2_variable_29 : decode cX2_variable 29 = .ok (.aload_n 0, 1) := by decide +kernel
theorem dX2_variable_30 : decode cX2_variable 30 = .ok (.getfield 14, 3) := by decide +kernel
theorem dX2_variable_33 : decode cX2_variable 33 = .ok (.iload_n 3, 1) := by decide +kernel
theorem dX2_variable_34 : decode cX2_variable 34 = .ok (.iload_n 3, 1) := by decide +kernel
theorem dX2_variable_35 : decode cX2_variable 35 = .ok (.iload_n 2, 1) := by decide +kernel
theorem dX2_variable_36 : decode cX2_variable 36 = .ok (.invokestatic 37, 3) := by decide +kernel
theorem dX2_variable_39 : decode cX2_variable 39 = .ok (.iand, 1) := by decide +kernel
theorem dX2_variable_40 : decode cX2_variable 40 = .ok (.ifCond .le 7, 3) := by decide +kernel
theorem dX2_variable_43 : decode cX2_variable 43 = .ok (.iconst 1, 1) := by decide +kernel
theorem dX2_variable_44 : decode cX2_variable 44 = .ok (.goto 4, 3) := by decide +kernel
theorem dX2_variable_47 : decode cX2_variable 47 = .ok (.iconst 0, 1) := by decide +kernel
theorem dX2_variable_48 : decode cX2_variable 48 = .ok (.bastore, 1) := by decide +kernel
theorem dX2_variable_49 : decode cX2_variable 49 = .ok (.iinc 3 1, 3) := by decide +kernel
theorem dX2_variable_52 : decode cX2_variable 52 = .ok (.goto (-30), 3) := by decide +kernel
theorem dX2_variable_55 : decode cX2_variable 55 = .ok (.aload_n 0, 1) := by decide +kernel
theorem dX2_variable_56 : decode cX2_variable 56 = .ok (.iload_n 1, 1) := by decide +kernel
theorem dX2_variable_57 : decode cX2_variable 57 = .ok (.invokevirtual 33, 3) := by decide +kernel
theorem dX2_variable_60 : decode cX2_variable 60 = .ok (.return_, 1) := by decide +kernel
set_option maxRecDepth 20000 in
theorem ggX2_join_X2_in : GoodIn wsX2_join wsX2_in := goodIn_r _ [5] (by decide +kernel) (by decide +kernel)
set_option maxRecDepth 20000 in
theorem gX2_join_X2_in : GoodIn wsX2_join (va_wsS RX2 25 yX2_in wsX2_in) := goodIn_app (goodIn_of _ (by decide +kernel)) ggX2_join_X2_in
set_option maxRecDepth 20000 in
theorem ggX2_join_X2_fails : GoodIn wsX2_join wsX2_fails := goodIn_r _ [9, 10, 20, 21, 22, 23] (by decide +kernel) (by decide +kernel)
set_option maxRecDepth 20000 in
theorem gX2_join_X2_fails : GoodIn wsX2_join (wsV RX2 29 RX2 yX2_fails wsX2_fails) := goodIn_app (goodIn_of _ (by decide +kernel)) ggX2_join_X2_fails
set_option maxRecDepth 20000 in
theorem ggX2_join_X2_of : GoodIn wsX2_join wsX2_of := goodIn_r _ [14, 15, 20, 21, 22, 23] (by decide +kernel) (by decide +kernel)
set_option maxRecDepth 20000 in
theorem gX2_join_X2_of : GoodIn wsX2_join (wsV RX2 41 RX2 yX2_of wsX2_of) := goodIn_app (goodIn_of _ (by decide +kernel)) ggX2_join_X2_of
set_option maxRecDepth 20000 in
theorem ggX2_join_X2_keep : GoodIn wsX2_join wsX2_keep := goodIn_r _ [19, 15, 1, 20, 21, 22, 23] (by decide +kernel) (by decide +kernel)
set_option maxRecDepth 20000 in
theorem gX2_join_X2_keep : GoodIn wsX2_join (wsV RX2 33 RX2 yX2_keep wsX2_keep) := goodIn_app (goodIn_of _ (by decide +kernel)) ggX2_join_X2_keep
theorem dX2_join_0 : decode cX2_join 0 = .ok (.aload_n 0, 1) := by decide +kernel
theorem dX2_join_1 : decode cX2_join 1 = .ok (.iload_n 1, 1) := by decide +kernel
theorem dX2_join_2 : decode cX2_join 2 = .ok (.bipush 48, 2) := by decide +kernel
theorem dX2_join_4 : decode cX2_join 4 = .ok (.invokestatic 25, 3) := by decide +kernel
theorem dX2_join_7 : decode cX2_join 7 = .ok (.ifCond .eq 25, 3) := by decide +kernel
theorem dX2_join_10 : decode cX2_join 10 = .ok (.iload_n 2, 1) := by decide +kernel
theorem dX2_join_11 : decode cX2_join 11 = .ok (.bipush 48, 2) := by decide +kernel
theorem dX2_join_13 : decode cX2_join 13 = .ok (.invokestatic 25, 3) := by decide +kernel
theorem dX2_join_16 : decode cX2_join 16 = .ok (.ifCond .eq 16, 3) := by decide +kernel
theorem dX2_join_19 : decode cX2_join 19 = .ok (.iload_n 3, 1) := by decide +kernel
theorem dX2_join_20 : decode cX2_join 20 = .ok (.bipush 48, 2) := by decide +kernel
theorem dX2_join_22 : decode cX2_join 22 = .ok (.invokestatic 25, 3) := by decide +kernel
theorem dX2_join_25 : decode cX2_join 25 = .ok (.ifCond .eq 7, 3) := by decide +kernel
theorem dX2_join_28 : decode cX2_join 28 = .ok (.iconst 1, 1) := by decide +kernel
theorem dX2_join_29 : decode cX2_join 29 = .ok (.goto 4, 3) := by decide +kernel
theorem dX2_join_32 : decode cX2_join 32 = .ok (.iconst 0, 1) := by decide +kernel
theorem dX2_join_33 : decode cX2_join 33 = .ok (.iload 4, 2) := by decide +kernel
theorem dX2_join_35 : decode cX2_join 35 = .ok (.bipush 16, 2) := by decide +kernel
theorem dX2_join_37 : decode cX2_join 37 = .ok (.invokestatic 25, 3) := by decide +kernel
theorem dX2_join_40 : decode cX2_join 40 = .ok (.invokevirtual 29, 3) := by decide +kernel
theorem dX2_join_43 : decode cX2_join 43 = .ok (.ifCond .eq 4, 3) := by decide +kernel
theorem dX2_join_46 : decode cX2_join 46 = .ok (.return_, 1) := by decide +kernel
theorem dX2_join_47 : decode cX2_join 47 = .ok (.iconst 0, 1) := by decide +kernel
theorem dX2_join_48 : decode cX2_join 48 = .ok (.istore 5, 2) := by decide +kernel
theorem dX2_join_50 : decode cX2_join 50 = .ok (.iload 5, 2) := by decide +kernel
theorem dX2_join_52 : decode cX2_join 52 = .ok (.sipush 1024, 3) := by decide +kernel
theorem dX2_join_55 : decode cX2_join 55 = .ok (.if_icmp .ge 65, 3) := by decide +kernel
theorem dX2_join_58 : decode cX2_join 58 = .ok (.aload_n 0, 1) := by decide +kernel
theorem dX2_join_59 : decode cX2_join 59 = .ok (.iload_n 2, 1) := by decide +kernel
theorem dX2_join_60 : decode cX2_join 60 = .ok (.iload 5, 2) := by decide +kernel
theorem dX2_join_62 : decode cX2_join 62 = .ok (.invokevirtual 41, 3) := by decide +kernel
theorem dX2_join_65 : decode cX2_join 65 = .ok (.ifCond .eq 7, 3) := by decide +kernel
theorem dX2_join_68 : decode cX2_join 68 = .ok (.iconst 2, 1) := by decide +kernel
theorem dX2_join_69 : decode cX2_join 69 = .ok (.goto 4, 3) := by decide +kernel
theorem dX2_join_72 : decode cX2_join 72 = .ok (.iconst 0, 1) := by decide +kernel
theorem dX2_join_73 : decode cX2_join 73 = .ok (.aload_n 0, 1) := by decide +kernel
theorem dX2_join_74 : decode cX2_join 74 = .ok (.iload_n 3, 1) := by decide +kernel
theorem dX2_join_75 : decode cX2_join 75 = .ok (.iload 5, 2) := by decide +kernel
theorem dX2_join_77 : decode cX2_join 77 = .ok (.invokevirtual 41, 3) := by decide +kernel
theorem dX2_join_80 : decode cX2_join 80 = .ok (.ifCond .eq 7, 3) := by decide +kernel
theorem dX2_join_83 : decode cX2_join 83 = .ok (.iconst 1, 1) := by decide +kernel
theorem dX2_join_84 : decode cX2_join 84 = .ok (.goto 4, 3) := by decide +kernel
theorem dX2_join_87 : decode cX2_join 87 = .ok (.iconst 0, 1) := by decide +kernel
theorem dX2_join_88 : decode cX2_join 88 = .ok (.iadd, 1) := by decide +kernel
theorem dX2_join_89 : decode cX2_join 89 = .ok (.istore 6, 2) := by decide +kernel
theorem dX2_join_91 : decode cX2_join 91 = .ok (.aload_n 0, 1) := by decide +kernel
theorem dX2_join_92 : decode cX2_join 92 = .ok (.getfield 14, 3) := by decide +kernel
theorem dX2_join_95 : decode cX2_join 95 = .ok (.iload 5, 2) := by decide +kernel
theorem dX2_join_97 : decode cX2_join 97 = .ok (.iload 4, 2) := by decide +kernel
theorem dX2_join_99 : decode cX2_join 99 = .ok (.iload 6, 2) := by decide +kernel
theorem dX2_join_101 : decode cX2_join 101 = .ok (.ishr, 1) := by decide +kernel
theorem dX2_join_102 : decode cX2_join 102 = .ok (.iconst 1, 1) := by decide +kernel
theorem dX2_join_103 : decode cX2_join 103 = .ok (.iand, 1) := by decide +kernel
theorem dX2_join_104 : decode cX2_join 104 = .ok (.iconst 1, 1) := by decide +kernel
theorem dX2_join_105 : decode cX2_join 105 = .ok (.if_icmp .ne 7, 3) := by decide +kernel
theorem dX2_join_108 : decode cX2_join 108 = .ok (.iconst 1, 1) := by decide +kernel
theorem dX2_join_109 : decode cX2_join 109 = .ok (.goto 4, 3) := by decide +kernel
theorem dX2_join_112 : decode cX2_join 112 = .ok (.iconst 0, 1) := by decide +kernel
theorem dX2_join_113 : decode cX2_join 113 = .ok (.bastore, 1) := by decide +kernel
theorem dX2_join_114 : decode cX2_join 114 = .ok (.iinc 5 1, 3) := by decide +kernel
theorem dX2_join_117 : decode cX2_join 117 = .ok (.goto (-67), 3) := by decide +kernel
theorem dX2_join_120 : decode cX2_join 120 = .ok (.aload_n 0, 1) := by decide +kernel
theorem dX2_join_121 : decode cX2_join 121 = .ok (.iload_n 1, 1) := by decide +kernel
theorem dX2_join_122 : decode cX2_join 122 = .ok (.invokevirtual 33, 3) := by decide +kernel
theorem dX2_join_125 : decode cX2_join 125 = .ok (.return_, 1) := by decide +kernel
set_option maxRecDepth 20000 in
theorem ggX2_choose_X2_in : GoodIn wsX2_choose wsX2_in := goodIn_r _ [5] (by decide +kernel) (by decide +kernel)
set_option maxRecDepth 20000 in
theorem gX2_choose_X2_in : GoodIn wsX2_choose (va_wsS RX2 25 yX2_in wsX2_in) := goodIn_app (goodIn_of _ (by decide +kernel)) ggX2_choose_X2_in
set_option maxRecDepth 20000 in
theorem ggX2_choose_X2_fails : GoodIn wsX2_choose wsX2_fails := goodIn_r _ [9, 10, 20, 21, 22, 23] (by decide +kernel) (by decide +kernel)
set_option maxRecDepth 20000 in
theorem gX2_choose_X2_fails : GoodIn wsX2_choose (wsV RX2 29 RX2 yX2_fails wsX2_fails) := goodIn_app (goodIn_of _ (by decide +kernel)) ggX2_choose_X2_fails
set_option maxRecDepth 20000 in
theorem ggX2_choose_X2_of : GoodIn wsX2_choose wsX2_of := goodIn_r _ [14, 15, 20, 21, 22, 23] (by decide +kernel) (by decide +kernel)
set_option maxRecDepth 20000 in
theorem gX2_choose_X2_of : GoodIn wsX2_choose (wsV RX2 41 RX2 yX2_of wsX2_of) := goodIn_app (goodIn_of _ (by decide +kernel)) ggX2_choose_X2_of
set_option maxRecDepth 20000 in
theorem ggX2_choose_X2_keep : GoodIn wsX2_choose wsX2_keep := goodIn_r _ [19, 15, 1, 20, 21, 22, 23] (by decide +kernel) (by decide +kernel)
set_option maxRecDepth 20000 in
theorem gX2_choose_X2_keep : GoodIn wsX2_choose (wsV RX2 33 RX2 yX2_keep wsX2_keep) := goodIn_app (goodIn_of _ (by decide +kernel)) ggX2_choose_X2_keep
theorem dX2_choose_0 : decode cX2_choose 0 = .ok (.aload_n 0, 1) := by decide +kernel
theorem dX2_choose_1 : decode cX2_choose 1 = .ok (.iload_n 1, 1) := by decide +kernel
theorem dX2_choose_2 : decode cX2_choose 2 = .ok (.bipush 48, 2) := by decide +kernel
theorem dX2_choose_4 : decode cX2_choose 4 = .ok (.invokestatic 25, 3) := by decide +kernel
theorem dX2_choose_7 : decode cX2_choose 7 = .ok (.ifCond .eq 35, 3) := by decide +kernel
theorem dX2_choose_10 : decode cX2_choose 10 = .ok (.iload_n 2, 1) := by decide +kernel
theorem dX2_choose_11 : decode cX2_choose 11 = .ok (.bipush 48, 2) := by decide +kernel
theorem dX2_choose_13 : decode cX2_choose 13 = .ok (.invokestatic 25, 3) := by decide +kernel
theorem dX2_choose_16 : decode cX2_choose 16 = .ok (.ifCond .eq 26, 3) := by decide +kernel
theorem dX2_choose_19 : decode cX2_choose 19 = .ok (.iload_n 3, 1) := by decide +kernel
theorem dX2_choose_20 : decode cX2_choose 20 = .ok (.bipush 48, 2) := by decide +kernel
theorem dX2_choose_22 : decode cX2_choose 22 = .ok (.invokestatic 25, 3) := by decide +kernel
theorem dX2_choose_25 : decode cX2_choose 25 = .ok (.ifCond .eq 17, 3) := by decide +kernel
theorem dX2_choose_28 : decode cX2_choose 28 = .ok (.iload 4, 2) := by decide +kernel
theorem dX2_choose_30 : decode cX2_choose 30 = .ok (.bipush 48, 2) := by decide +kernel
theorem dX2_choose_32 : decode cX2_choose 32 = .ok (.invokestatic 25, 3) := by decide +kernel
theorem dX2_choose_35 : decode cX2_choose 35 = .ok (.ifCond .eq 7, 3) := by decide +kernel
theorem dX2_choose_38 : decode cX2_choose 38 = .ok (.iconst 1, 1) := by decide +kernel
theorem dX2_choose_39 : decode cX2_choose 39 = .ok (.goto 4, 3) := by decide +kernel
theorem dX2_choose_42 : decode cX2_choose 42 = .ok (.iconst 0, 1) := by decide +kernel
theorem dX2_choose_43 : decode cX2_choose 43 = .ok (.iconst 1, 1) := by decide +kernel
theorem dX2_choose_44 : decode cX2_choose 44 = .ok (.invokevirtual 29, 3) := by decide +kernel
theorem dX2_choose_47 : decode cX2_choose 47 = .ok (.ifCond .eq 4, 3) := by decide +kernel
theorem dX2_choose_50 : decode cX2_choose 50 = .ok (.return_, 1) := by decide +kernel
theorem dX2_choose_51 : decode cX2_choose 51 = .ok (.iconst 0, 1) := by decide +kernel
theorem dX2_choose_52 : decode cX2_choose 52 = .ok (.istore 5, 2) := by decide +kernel
theorem dX2_choose_54 : decode cX2_choose 54 = .ok (.iload 5, 2) := by decide +kernel
theorem dX2_choose_56 : decode cX2_choose 56 = .ok (.sipush 1024, 3) := by decide +kernel
theorem dX2_choose_59 : decode cX2_choose 59 = .ok (.if_icmp .ge 44, 3) := by decide +kernel
theorem dX2_choose_62 : decode cX2_choose 62 = .ok (.aload_n 0, 1) := by decide +kernel
theorem dX2_choose_63 : decode cX2_choose 63 = .ok (.getfield 14, 3) := by decide +kernel
theorem dX2_choose_66 : decode cX2_choose 66 = .ok (.iload 5, 2) := by decide +kernel
theorem dX2_choose_68 : decode cX2_choose 68 = .ok (.aload_n 0, 1) := by decide +kernel
theorem dX2_choose_69 : decode cX2_choose 69 = .ok (.iload_n 2, 1) := by decide +kernel
theorem dX2_choose_70 : decode cX2_choose 70 = .ok (.iload 5, 2) := by decide +kernel
theorem dX2_choose_72 : decode cX2_choose 72 = .ok (.invokevirtual 41, 3) := by decide +kernel
theorem dX2_choose_75 : decode cX2_choose 75 = .ok (.ifCond .eq 13, 3) := by decide +kernel
theorem dX2_choose_78 : decode cX2_choose 78 = .ok (.aload_n 0, 1) := by decide +kernel
theorem dX2_choose_79 : decode cX2_choose 79 = .ok (.iload_n 3, 1) := by decide +kernel
theorem dX2_choose_80 : decode cX2_choose 80 = .ok (.iload 5, 2) := by decide +kernel
theorem dX2_choose_82 : decode cX2_choose 82 = .ok (.invokevirtual 41, 3) := by decide +kernel
theorem dX2_choose_85 : decode cX2_choose 85 = .ok (.goto 11, 3) := by decide +kernel
theorem dX2_choose_88 : decode cX2_choose 88 = .ok (.aload_n 0, 1) := by decide +kernel
theorem dX2_choose_89 : decode cX2_choose 89 = .ok (.iload 4, 2) := by decide +kernel
theorem dX2_choose_91 : decode cX2_choose 91 = .ok (.iload 5, 2) := by decide +kernel
theorem dX2_choose_93 : decode cX2_choose 93 = .ok (.invokevirtual 41, 3) := by decide +kernel
theorem dX2_choose_96 : decode cX2_choose 96 = .ok (.bastore, 1) := by decide +kernel
theorem dX2_choose_97 : decode cX2_choose 97 = .ok (.iinc 5 1, 3) := by decide +kernel
theorem dX2_choose_100 : decode cX2_choose 100 = .ok (.goto (-46), 3) := by decide +kernel
theorem dX2_choose_103 : decode cX2_choose 103 = .ok (.aload_n 0, 1) := by decide +kernel
theorem dX2_choose_104 : decode cX2_choose 104 = .ok (.iload_n 1, 1) := by decide +kernel
theorem dX2_choose_105 : decode cX2_choose 105 = .ok (.invokevirtual 33, 3) := by decide +kernel
theorem dX2_choose_108 : decode cX2_choose 108 = .ok (.return_, 1) := by decide +kernel
set_option maxRecDepth 20000 in
theorem ggX2_with_X2_bit : GoodIn wsX2_with wsX2_bit := goodIn_r _ [4] (by decide +kernel) (by decide +kernel)
set_option maxRecDepth 20000 in
theorem gX2_with_X2_bit : GoodIn wsX2_with (va_wsS RX2 37 yX2_bit wsX2_bit) := goodIn_app (goodIn_of _ (by decide +kernel)) ggX2_with_X2_bit
theorem dX2_with_0 : decode cX2_with 0 = .ok (.iload_n 2, 1) := by decide +kernel
theorem dX2_with_1 : decode cX2_with 1 = .ok (.ifCond .eq 12, 3) := by decide +kernel
theorem dX2_with_4 : decode cX2_with 4 = .ok (.iload_n 0, 1) := by decide +kernel
theorem dX2_with_5 : decode cX2_with 5 = .ok (.iload_n 1, 1) := by decide +kernel
theorem dX2_with_6 : decode cX2_with 6 = .ok (.invokestatic 37, 3) := by decide +kernel
theorem dX2_with_9 : decode cX2_with 9 = .ok (.ior, 1) := by decide +kernel
theorem dX2_with_10 : decode cX2_with 10 = .ok (.goto 11, 3) := by decide +kernel
theorem dX2_with_13 : decode cX2_with 13 = .ok (.iload_n 0, 1) := by decide +kernel
theorem dX2_with_14 : decode cX2_with 14 = .ok (.iload_n 1, 1) := by decide +kernel
theorem dX2_with_15 : decode cX2_with 15 = .ok (.invokestatic 37, 3) := by decide +kernel
theorem dX2_with_18 : decode cX2_with 18 = .ok (.iconst (-1), 1) := by decide +kernel
theorem dX2_with_19 : decode cX2_with 19 = .ok (.ixor, 1) := by decide +kernel
theorem dX2_with_20 : decode cX2_with 20 = .ok (.iand, 1) := by decide +kernel
theorem dX2_with_21 : decode cX2_with 21 = .ok (.ireturn, 1) := by decide +kernel
set_option maxRecDepth 20000 in
theorem ggX2_fix_X2_in : GoodIn wsX2_fix wsX2_in := goodIn_r _ [5] (by decide +kernel) (by decide +kernel)
set_option maxRecDepth 20000 in
theorem gX2_fix_X2_in : GoodIn wsX2_fix (va_wsS RX2 25 yX2_in wsX2_in) := goodIn_app (goodIn_of _ (by decide +kernel)) ggX2_fix_X2_in
set_option maxRecDepth 20000 in
theorem ggX2_fix_X2_fails : GoodIn wsX2_fix wsX2_fails := goodIn_r _ [9, 10, 26, 27, 28, 29] (by decide +kernel) (by decide +kernel)
set_option maxRecDepth 20000 in
theorem gX2_fix_X2_fails : GoodIn wsX2_fix (wsV RX2 29 RX2 yX2_fails wsX2_fails) := goodIn_app (goodIn_of _ (by decide +kernel)) ggX2_fix_X2_fails
set_option maxRecDepth 20000 in
theorem ggX2_fix_X2_with : GoodIn wsX2_fix wsX2_with := goodIn_r _ [13, 14, 15, 4, 16] (by decide +kernel) (by decide +kernel)
set_option maxRecDepth 20000 in
theorem gX2_fix_X2_with : GoodIn wsX2_fix (va_wsS RX2 44 yX2_with wsX2_with) := goodIn_app (goodIn_of _ (by decide +kernel)) ggX2_fix_X2_with
set_option maxRecDepth 20000 in
theorem ggX2_fix_X2_of : GoodIn wsX2_fix wsX2_of := goodIn_r _ [20, 21, 26, 27, 28, 29] (by decide +kernel) (by decide +kernel)
set_option maxRecDepth 20000 in
theorem gX2_fix_X2_of : GoodIn wsX2_fix (wsV RX2 41 RX2 yX2_of wsX2_of) := goodIn_app (goodIn_of _ (by decide +kernel)) ggX2_fix_X2_of
set_option maxRecDepth 20000 in
theorem ggX2_fix_X2_keep : GoodIn wsX2_fix wsX2_keep := goodIn_r _ [25, 21, 1, 26, 27, 28, 29] (by decide +kernel) (by decide +kernel)
set_option maxRecDepth 20000 in
theorem gX2_fix_X2_keep : GoodIn wsX2_fix (wsV RX2 33 RX2 yX2_keep wsX2_keep) := goodIn_app (goodIn_of _ (by decide +kernel)) ggX2_fix_X2_keep
theorem dX2_fix_0 : decode cX2_fix 0 = .ok (.aload_n 0, 1) := by decide +kernel
theorem dX2_fix_1 : decode cX2_fix 1 = .ok (.iload_n 1, 1) := by decide +kernel
theorem dX2_fix_2 : decode cX2_fix 2 = .ok (.bipush 48, 2) := by decide +kernel
theorem dX2_fix_4 : decode cX2_fix 4 = .ok (.invokestatic 25, 3) := by decide +kernel
theorem dX2_fix_7 : decode cX2_fix 7 = .ok (.ifCond .eq 16, 3) := by decide +kernel
theorem dX2_fix_10 : decode cX2_fix 10 = .ok (.iload_n 2, 1) := by decide +kernel
theorem dX2_fix_11 : decode cX2_fix 11 = .ok (.bipush 48, 2) := by decide +kernel
theorem dX2_fix_13 : decode cX2_fix 13 = .ok (.invokestatic 25, 3) := by decide +kernel
theorem dX2_fix_16 : decode cX2_fix 16 = .ok (.ifCond .eq 7, 3) := by decide +kernel
theorem dX2_fix_19 : decode cX2_fix 19 = .ok (.iconst 1, 1) := by decide +kernel
theorem dX2_fix_20 : decode cX2_fix 20 = .ok (.goto 4, 3) := by decide +kernel
theorem dX2_fix_23 : decode cX2_fix 23 = .ok (.iconst 0, 1) := by decide +kernel
theorem dX2_fix_24 : decode cX2_fix 24 = .ok (.iload_n 3, 1) := by decide +kernel
theorem dX2_fix_25 : decode cX2_fix 25 = .ok (.bipush 10, 2) := by decide +kernel
theorem dX2_fix_27 : decode cX2_fix 27 = .ok (.invokestatic 25, 3) := by decide +kernel
theorem dX2_fix_30 : decode cX2_fix 30 = .ok (.invokevirtual 29, 3) := by decide +kernel
theorem dX2_fix_33 : decode cX2_fix 33 = .ok (.ifCond .eq 4, 3) := by decide +kernel
theorem dX2_fix_36 : decode cX2_fix 36 = .ok (.return_, 1) := by decide +kernel
theorem dX2_fix_37 : decode cX2_fix 37 = .ok (.iconst 0, 1) := by decide +kernel
theorem dX2_fix_38 : decode cX2_fix 38 = .ok (.istore 5, 2) := by decide +kernel
theorem dX2_fix_40 : decode cX2_fix 40 = .ok (.iload 5, 2) := by decide +kernel
theorem dX2_fix_42 : decode cX2_fix 42 = .ok (.sipush 1024, 3) := by decide +kernel
theorem dX2_fix_45 : decode cX2_fix 45 = .ok (.if_icmp .ge 29, 3) := by decide +kernel
theorem dX2_fix_48 : decode cX2_fix 48 = .ok (.aload_n 0, 1) := by decide +kernel
theorem dX2_fix_49 : decode cX2_fix 49 = .ok (.getfield 14, 3) := by decide +kernel
theorem dX2_fix_52 : decode cX2_fix 52 = .ok (.iload 5, 2) := by decide +kernel
theorem dX2_fix_54 : decode cX2_fix 54 = .ok (.aload_n 0, 1) := by decide +kernel
theorem dX2_fix_55 : decode cX2_fix 55 = .ok (.iload_n 2, 1) := by decide +kernel
theorem dX2_fix_56 : decode cX2_fix 56 = .ok (.iload 5, 2) := by decide +kernel
theorem dX2_fix_58 : decode cX2_fix 58 = .ok (.iload_n 3, 1) := by decide +kernel
theorem dX2_fix_59 : decode cX2_fix 59 = .ok (.iload 4, 2) := by decide +kernel
theorem dX2_fix_61 : decode cX2_fix 61 = .ok (.invokestatic 44, 3) := by decide +kernel
theorem dX2_fix_64 : decode cX2_fix 64 = .ok (.invokevirtual 41, 3) := by decide +kernel
theorem dX2_fix_67 : decode cX2_fix 67 = .ok (.bastore, 1) := by decide +kernel
theorem dX2_fix_68 : decode cX2_fix 68 = .ok (.iinc 5 1, 3) := by decide +kernel
theorem dX2_fix_71 : decode cX2_fix 71 = .ok (.goto (-31), 3) := by decide +kernel
theorem dX2_fix_74 : decode cX2_fix 74 = .ok (.aload_n 0, 1) := by decide +kernel
theorem dX2_fix_75 : decode cX2_fix 75 = .ok (.iload_n 1, 1) := by decide +kernel
theorem dX2_fix_76 : decode cX2_fix 76 = .ok (.invokevirtual 33, 3) := by decide +kernel
theorem dX2_fix_79 : decode cX2_fix 79 = .ok (.return_, 1) := by decide +kernel
set_option maxRecDepth 20000 in
theorem ggX2_some_X2_in : GoodIn wsX2_some wsX2_in := goodIn_r _ [5] (by decide +kernel) (by decide +kernel)
set_option maxRecDepth 20000 in
theorem gX2_some_X2_in : GoodIn wsX2_some (va_wsS RX2 25 yX2_in wsX2_in) := goodIn_app (goodIn_of _ (by decide +kernel)) ggX2_some_X2_in
set_option maxRecDepth 20000 in
theorem ggX2_some_X2_fails : GoodIn wsX2_some wsX2_fails := goodIn_r _ [9, 10, 20, 21, 22, 23] (by decide +kernel) (by decide +kernel)
set_option maxRecDepth 20000 in
theorem gX2_some_X2_fails : GoodIn wsX2_some (wsV RX2 29 RX2 yX2_fails wsX2_fails) := goodIn_app (goodIn_of _ (by decide +kernel)) ggX2_some_X2_fails
set_option maxRecDepth 20000 in
theorem ggX2_some_X2_of : GoodIn wsX2_some wsX2_of := goodIn_r _ [14, 15, 20, 21, 22, 23] (by decide +kernel) (by decide +kernel)
set_option maxRecDepth 20000 in
theorem gX2_some_X2_of : GoodIn wsX2_some (wsV RX2 41 RX2 yX2_of wsX2_of) := goodIn_app (goodIn_of _ (by decide +kernel)) ggX2_some_X2_of
set_option maxRecDepth 20000 in
theorem ggX2_some_X2_keep : GoodIn wsX2_some wsX2_keep := goodIn_r _ [19, 15, 1, 20, 21, 22, 23] (by decide +kernel) (by decide +kernel)
set_option maxRecDepth 20000 in
theorem gX2_some_X2_keep : GoodIn wsX2_some (wsV RX2 33 RX2 yX2_keep wsX2_keep) := goodIn_app (goodIn_of _ (by decide +kernel)) ggX2_some_X2_keep
theorem dX2_some_0 : decode cX2_some 0 = .ok (.aload_n 0, 1) := by decide +kernel
theorem dX2_some_1 : decode cX2_some 1 = .ok (.iload_n 1, 1) := by decide +kernel
theorem dX2_some_2 : decode cX2_some 2 = .ok (.bipush 48, 2) := by decide +kernel
theorem dX2_some_4 : decode cX2_some 4 = .ok (.invokestatic 25, 3) := by decide +kernel
theorem dX2_some_7 : decode cX2_some 7 = .ok (.ifCond .eq 16, 3) := by decide +kernel
theorem dX2_some_10 : decode cX2_some 10 = .ok (.iload_n 2, 1) := by decide +kernel
theorem dX2_some_11 : decode cX2_some 11 = .ok (.bipush 48, 2) := by decide +kernel
theorem dX2_some_13 : decode cX2_some 13 = .ok (.invokestatic 25, 3) := by decide +kernel
theorem dX2_some_16 : decode cX2_some 16 = .ok (.ifCond .eq 7, 3) := by decide +kernel
theorem dX2_some_19 : decode cX2_some 19 = .ok (.iconst 1, 1) := by decide +kernel
theorem dX2_some_20 : decode cX2_some 20 = .ok (.goto 4, 3) := by decide +kernel
theorem dX2_some_23 : decode cX2_some 23 = .ok (.iconst 0, 1) := by decide +kernel
theorem dX2_some_24 : decode cX2_some 24 = .ok (.iload_n 3, 1) := by decide +kernel
theorem dX2_some_25 : decode cX2_some 25 = .ok (.sipush 1024, 3) := by decide +kernel
theorem dX2_some_28 : decode cX2_some 28 = .ok (.invokestatic 25, 3) := by decide +kernel
theorem dX2_some_31 : decode cX2_some 31 = .ok (.invokevirtual 29, 3) := by decide +kernel
theorem dX2_some_34 : decode cX2_some 34 = .ok (.ifCond .eq 4, 3) := by decide +kernel
theorem dX2_some_37 : decode cX2_some 37 = .ok (.return_, 1) := by decide +kernel
theorem dX2_some_38 : decode cX2_some 38 = .ok (.iconst 0, 1) := by decide +kernel
theorem dX2_some_39 : decode cX2_some 39 = .ok (.istore 5, 2) := by decide +kernel
theorem dX2_some_41 : decode cX2_some 41 = .ok (.iload 5, 2) := by decide +kernel
theorem dX2_some_43 : decode cX2_some 43 = .ok (.sipush 1024, 3) := by decide +kernel
theorem dX2_some_46 : decode cX2_some 46 = .ok (.if_icmp .ge 104, 3) := by decide +kernel
theorem dX2_some_49 : decode cX2_some 49 = .ok (.iload 4, 2) := by decide +kernel
theorem dX2_some_51 : decode cX2_some 51 = .ok (.istore 6, 2) := by decide +kernel
theorem dX2_some_53 : decode cX2_some 53 = .ok (.iconst 0, 1) := by decide +kernel
theorem dX2_some_54 : decode cX2_some 54 = .ok (.istore 7, 2) := by decide +kernel
theorem dX2_some_56 : decode cX2_some 56 = .ok (.iload 7, 2) := by decide +kernel
theorem dX2_some_58 : decode cX2_some 58 = .ok (.sipush 1024, 3) := by decide +kernel
theorem dX2_some_61 : decode cX2_some 61 = .ok (.if_icmp .ge 74, 3) := by decide +kernel
theorem dX2_some_64 : decode cX2_some 64 = .ok (.iload 7, 2) := by decide +kernel
theorem dX2_some_66 : decode cX2_some 66 = .ok (.iload_n 3, 1) := by decide +kernel
theorem dX2_some_67 : decode cX2_some 67 = .ok (.iconst (-1), 1) := by decide +kernel
theorem dX2_some_68 : decode cX2_some 68 = .ok (.ixor, 1) := by decide +kernel
theorem dX2_some_69 : decode cX2_some 69 = .ok (.iand, 1) := by decide +kernel
theorem dX2_some_70 : decode cX2_some 70 = .ok (.iload 5, 2) := by decide +kernel
theorem dX2_some_72 : decode cX2_some 72 = .ok (.iload_n 3, 1) := by decide +kernel
theorem dX2_some_73 : decode cX2_some 73 = .ok (.iconst (-1), 1) := by decide +kernel
theorem dX2_some_74 : decode cX2_some 74 = .ok (.ixor, 1) := by decide +kernel
theorem dX2_some_75 : decode cX2_some 75 = .ok (.iand, 1) := by decide +kernel
theorem dX2_some_76 : decode cX2_some 76 = .ok (.if_icmp .ne 53, 3) := by decide +kernel
theorem dX2_some_79 : decode cX2_some 79 = .ok (.iload 4, 2) := by decide +kernel
theorem dX2_some_81 : decode cX2_some 81 = .ok (.ifCond .eq 26, 3) := by decide +kernel
theorem dX2_some_84 : decode cX2_some 84 = .ok (.iload 6, 2) := by decide +kernel
theorem dX2_some_86 : decode cX2_some 86 = .ok (.ifCond .eq 17, 3) := by decide +kernel
theorem dX2_some_89 : decode cX2_some 89 = .ok (.aload_n 0, 1) := by decide +kernel
theorem dX2_some_90 : decode cX2_some 90 = .ok (.iload_n 2, 1) := by decide +kernel
theorem dX2_some_91 : decode cX2_some 91 = .ok (.iload 7, 2) := by decide +kernel
theorem dX2_some_93 : decode cX2_some 93 = .ok (.invokevirtual 41, 3) := by decide +kernel
theorem dX2_some_96 : decode cX2_some 96 = .ok (.ifCond .eq 7, 3) := by decide +kernel
theorem dX2_some_99 : decode cX2_some 99 = .ok (.iconst 1, 1) := by decide +kernel
theorem dX2_some_100 : decode cX2_some 100 = .ok (.goto 27, 3) := by decide +kernel
theorem dX2_some_103 : decode cX2_some 103 = .ok (.iconst 0, 1) := by decide +kernel
theorem dX2_some_104 : decode cX2_some 104 = .ok (.goto 23, 3) := by decide +kernel
theorem dX2_some_107 : decode cX2_some 107 = .ok (.iload 6, 2) := by decide +kernel
theorem dX2_some_109 : decode cX2_some 109 = .ok (.ifCond .ne 13, 3) := by decide +kernel
theorem dX2_some_112 : decode cX2_some 112 = .ok (.aload_n 0, 1) := by decide +kernel
theorem dX2_some_113 : decode cX2_some 113 = .ok (.iload_n 2, 1) := by decide +kernel
theorem dX2_some_114 : decode cX2_some 114 = .ok (.iload 7, 2) := by decide +kernel
theorem dX2_some_116 : decode cX2_some 116 = .ok (.invokevirtual 41, 3) := by decide +kernel
theorem dX2_some_119 : decode cX2_some 119 = .ok (.ifCond .eq 7, 3) := by decide +kernel
theorem dX2_some_122 : decode cX2_some 122 = .ok (.iconst 1, 1) := by decide +kernel
theorem dX2_some_123 : decode cX2_some 123 = .ok (.goto 4, 3) := by decide +kernel
theorem dX2_some_126 : decode cX2_some 126 = .ok (.iconst 0, 1) := by decide +kernel
theorem dX2_some_127 : decode cX2_some 127 = .ok (.istore 6, 2) := by decide +kernel
theorem dX2_some_129 : decode cX2_some 129 = .ok (.iinc 7 1, 3) := by decide +kernel
theorem dX2_some_132 : decode cX2_some 132 = .ok (.goto (-76), 3) := by decide +kernel
theorem dX2_some_135 : decode cX2_some 135 = .ok (.aload_n 0, 1) := by decide +kernel
theorem dX2_some_136 : decode cX2_some 136 = .ok (.getfield 14, 3) := by decide +kernel
theorem dX2_some_139 : decode cX2_some 139 = .ok (.iload 5, 2) := by decide +kernel
theorem dX2_some_141 : decode cX2_some 141 = .ok (.iload 6, 2) := by decide +kernel
theorem dX2_some_143 : decode cX2_some 143 = .ok (.bastore, 1) := by decide +kernel
theorem dX2_some_144 : decode cX2_some 144 = .ok (.iinc 5 1, 3) := by decide +kernel
theorem dX2_some_147 : decode cX2_some 147 = .ok (.goto (-106), 3) := by decide +kernel
theorem dX2_some_150 : decode cX2_some 150 = .ok (.aload_n 0, 1) := by decide +kernel
theorem dX2_some_151 : decode cX2_some 151 = .ok (.iload_n 1, 1) := by decide +kernel
theorem dX2_some_152 : decode cX2_some 152 = .ok (.invokevirtual 33, 3) := by decide +kernel
theorem dX2_some_155 : decode cX2_some 155 = .ok (.return_, 1) := by decide +kernel
set_option maxRecDepth 20000 in
theorem ggX2_put_X2_in : GoodIn wsX2_put wsX2_in := goodIn_r _ [5] (by decide +kernel) (by decide +kernel)
set_option maxRecDepth 20000 in
theorem gX2_put_X2_in : GoodIn wsX2_put (va_wsS RX2 25 yX2_in wsX2_in) := goodIn_app (goodIn_of _ (by decide +kernel)) ggX2_put_X2_in
set_option maxRecDepth 20000 in
theorem ggX2_put_X2_fails : GoodIn wsX2_put wsX2_fails := goodIn_r _ [9, 10, 26, 27, 28, 29] (by decide +kernel) (by decide +kernel)
set_option maxRecDepth 20000 in
theorem gX2_put_X2_fails : GoodIn wsX2_put (wsV RX2 29 RX2 yX2_fails wsX2_fails) := goodIn_app (goodIn_of _ (by decide +kernel)) ggX2_put_X2_fails
set_option maxRecDepth 20000 in
theorem ggX2_put_X2_of : GoodIn wsX2_put wsX2_of := goodIn_r _ [14, 15, 26, 27, 28, 29] (by decide +kernel) (by decide +kernel)
set_option maxRecDepth 20000 in
theorem gX2_put_X2_of : GoodIn wsX2_put (wsV RX2 41 RX2 yX2_of wsX2_of) := goodIn_app (goodIn_of _ (by decide +kernel)) ggX2_put_X2_of
set_option maxRecDepth 20000 in
theorem ggX2_put_X2_with : GoodIn wsX2_put wsX2_with := goodIn_r _ [18, 19, 20, 4, 21] (by decide +kernel) (by decide +kernel)
set_option maxRecDepth 20000 in
theorem gX2_put_X2_with : GoodIn wsX2_put (va_wsS RX2 44 yX2_with wsX2_with) := goodIn_app (goodIn_of _ (by decide +kernel)) ggX2_put_X2_with
set_option maxRecDepth 20000 in
theorem ggX2_put_X2_keep : GoodIn wsX2_put wsX2_keep := goodIn_r _ [25, 15, 1, 26, 27, 28, 29] (by decide +kernel) (by decide +kernel)
set_option maxRecDepth 20000 in
theorem gX2_put_X2_keep : GoodIn wsX2_put (wsV RX2 33 RX2 yX2_keep wsX2_keep) := goodIn_app (goodIn_of _ (by decide +kernel)) ggX2_put_X2_keep
theorem dX2_put_0 : decode cX2_put 0 = .ok (.aload_n 0, 1) := by decide +kernel
theorem dX2_put_1 : decode cX2_put 1 = .ok (.iload_n 1, 1) := by decide +kernel
theorem dX2_put_2 : decode cX2_put 2 = .ok (.bipush 48, 2) := by decide +kernel
theorem dX2_put_4 : decode cX2_put 4 = .ok (.invokestatic 25, 3) := by decide +kernel
theorem dX2_put_7 : decode cX2_put 7 = .ok (.ifCond .eq 26, 3) := by decide +kernel
theorem dX2_put_10 : decode cX2_put 10 = .ok (.iload_n 2, 1) := by decide +kernel
theorem dX2_put_11 : decode cX2_put 11 = .ok (.bipush 48, 2) := by decide +kernel
theorem dX2_put_13 : decode cX2_put 13 = .ok (.invokestatic 25, 3) := by decide +kernel
theorem dX2_put_16 : decode cX2_put 16 = .ok (.ifCond .eq 17, 3) := by decide +kernel
theorem dX2_put_19 : decode cX2_put 19 = .ok (.iload 4, 2) := by decide +kernel
theorem dX2_put_21 : decode cX2_put 21 = .ok (.bipush 48, 2) := by decide +kernel
theorem dX2_put_23 : decode cX2_put 23 = .ok (.invokestatic 25, 3) := by decide +kernel
theorem dX2_put_26 : decode cX2_put 26 = .ok (.ifCond .eq 7, 3) := by decide +kernel
theorem dX2_put_29 : decode cX2_put 29 = .ok (.iconst 1, 1) := by decide +kernel
theorem dX2_put_30 : decode cX2_put 30 = .ok (.goto 4, 3) := by decide +kernel
theorem dX2_put_33 : decode cX2_put 33 = .ok (.iconst 0, 1) := by decide +kernel
theorem dX2_put_34 : decode cX2_put 34 = .ok (.iload_n 3, 1) := by decide +kernel
theorem dX2_put_35 : decode cX2_put 35 = .ok (.bipush 10, 2) := by decide +kernel
theorem dX2_put_37 : decode cX2_put 37 = .ok (.invokestatic 25, 3) := by decide +kernel
theorem dX2_put_40 : decode cX2_put 40 = .ok (.invokevirtual 29, 3) := by decide +kernel
theorem dX2_put_43 : decode cX2_put 43 = .ok (.ifCond .eq 4, 3) := by decide +kernel
theorem dX2_put_46 : decode cX2_put 46 = .ok (.return_, 1) := by decide +kernel
theorem dX2_put_47 : decode cX2_put 47 = .ok (.iconst 0, 1) := by decide +kernel
theorem dX2_put_48 : decode cX2_put 48 = .ok (.istore 5, 2) := by decide +kernel
theorem dX2_put_50 : decode cX2_put 50 = .ok (.iload 5, 2) := by decide +kernel
theorem dX2_put_52 : decode cX2_put 52 = .ok (.sipush 1024, 3) := by decide +kernel
theorem dX2_put_55 : decode cX2_put 55 = .ok (.if_icmp .ge 35, 3) := by decide +kernel
theorem dX2_put_58 : decode cX2_put 58 = .ok (.aload_n 0, 1) := by decide +kernel
theorem dX2_put_59 : decode cX2_put 59 = .ok (.getfield 14, 3) := by decide +kernel
theorem dX2_put_62 : decode cX2_put 62 = .ok (.iload 5, 2) := by decide +kernel
theorem dX2_put_64 : decode cX2_put 64 = .ok (.aload_n 0, 1) := by decide +kernel
theorem dX2_put_65 : decode cX2_put 65 = .ok (.iload_n 2, 1) := by decide +kernel
theorem dX2_put_66 : decode cX2_put 66 = .ok (.iload 5, 2) := by decide +kernel
theorem dX2_put_68 : decode cX2_put 68 = .ok (.iload_n 3, 1) := by decide +kernel
theorem dX2_put_69 : decode cX2_put 69 = .ok (.aload_n 0, 1) := by decide +kernel
theorem dX2_put_70 : decode cX2_put 70 = .ok (.iload 4, 2) := by decide +kernel
theorem dX2_put_72 : decode cX2_put 72 = .ok (.iload 5, 2) := by decide +kernel
theorem dX2_put_74 : decode cX2_put 74 = .ok (.invokevirtual 41, 3) := by decide +kernel
theorem dX2_put_77 : decode cX2_put 77 = .ok (.invokestatic 44, 3) := by decide +kernel
theorem dX2_put_80 : decode cX2_put 80 = .ok (.invokevirtual 41, 3) := by decide +kernel
theorem dX2_put_83 : decode cX2_put 83 = .ok (.bastore, 1) := by decide +kernel
theorem dX2_put_84 : decode cX2_put 84 = .ok (.iinc 5 1, 3) := by decide +kernel
theorem dX2_put_87 : decode cX2_put 87 = .ok (.goto (-37), 3) := by decide +kernel
theorem dX2_put_90 : decode cX2_put 90 = .ok (.aload_n 0, 1) := by decide +kernel
theorem dX2_put_91 : decode cX2_put 91 = .ok (.iload_n 1, 1) := by decide +kernel
theorem dX2_put_92 : decode cX2_put 92 = .ok (.invokevirtual 33, 3) := by decide +kernel
theorem dX2_put_95 : decode cX2_put 95 = .ok (.return_, 1) := by decide +kernel
set_option maxRecDepth 20000 in
theorem ggX2_swap_X2_in : GoodIn wsX2_swap wsX2_in := goodIn_r _ [5] (by decide +kernel) (by decide +kernel)
set_option maxRecDepth 20000 in
theorem gX2_swap_X2_in : GoodIn wsX2_swap (va_wsS RX2 25 yX2_in wsX2_in) := goodIn_app (goodIn_of _ (by decide +kernel)) ggX2_swap_X2_in
set_option maxRecDepth 20000 in
theorem ggX2_swap_X2_fails : GoodIn wsX2_swap wsX2_fails := goodIn_r _ [9, 10, 26, 27, 28, 29] (by decide +kernel) (by decide +kernel)
set_option maxRecDepth 20000 in
theorem gX2_swap_X2_fails : GoodIn wsX2_swap (wsV RX2 29 RX2 yX2_fails wsX2_fails) := goodIn_app (goodIn_of _ (by decide +kernel)) ggX2_swap_X2_fails
set_option maxRecDepth 20000 in
theorem ggX2_swap_X2_bit : GoodIn wsX2_swap wsX2_bit := goodIn_r _ [13] (by decide +kernel) (by decide +kernel)
set_option maxRecDepth 20000 in
theorem gX2_swap_X2_bit : GoodIn wsX2_swap (va_wsS RX2 37 yX2_bit wsX2_bit) := goodIn_app (goodIn_of _ (by decide +kernel)) ggX2_swap_X2_bit
set_option maxRecDepth 20000 in
theorem ggX2_swap_X2_with : GoodIn wsX2_swap wsX2_with := goodIn_r _ [16, 11, 12, 4, 13] (by decide +kernel) (by decide +kernel)
set_option maxRecDepth 20000 in
theorem gX2_swap_X2_with : GoodIn wsX2_swap (va_wsS RX2 44 yX2_with wsX2_with) := goodIn_app (goodIn_of _ (by decide +kernel)) ggX2_swap_X2_with
set_option maxRecDepth 20000 in
theorem ggX2_swap_X2_of : GoodIn wsX2_swap wsX2_of := goodIn_r _ [20, 21, 26, 27, 28, 29] (by decide +kernel) (by decide +kernel)
set_option maxRecDepth 20000 in
theorem gX2_swap_X2_of : GoodIn wsX2_swap (wsV RX2 41 RX2 yX2_of wsX2_of) := goodIn_app (goodIn_of _ (by decide +kernel)) ggX2_swap_X2_of
set_option maxRecDepth 20000 in
theorem ggX2_swap_X2_keep : GoodIn wsX2_swap wsX2_keep := goodIn_r _ [25, 21, 1, 26, 27, 28, 29] (by decide +kernel) (by decide +kernel)
set_option maxRecDepth 20000 in
theorem gX2_swap_X2_keep : GoodIn wsX2_swap (wsV RX2 33 RX2 yX2_keep wsX2_keep) := goodIn_app (goodIn_of _ (by decide +kernel)) ggX2_swap_X2_keep
theorem dX2_swap_0 : decode cX2_swap 0 = .ok (.aload_n 0, 1) := by decide +kernel
theorem dX2_swap_1 : decode cX2_swap 1 = .ok (.iload_n 1, 1) := by decide +kernel
theorem dX2_swap_2 : decode cX2_swap 2 = .ok (.bipush 48, 2) := by decide +kernel
theorem dX2_swap_4 : decode cX2_swap 4 = .ok (.invokestatic 25, 3) := by decide +kernel
theorem dX2_swap_7 : decode cX2_swap 7 = .ok (.ifCond .eq 16, 3) := by decide +kernel
theorem dX2_swap_10 : decode cX2_swap 10 = .ok (.iload_n 2, 1) := by decide +kernel
theorem dX2_swap_11 : decode cX2_swap 11 = .ok (.bipush 48, 2) := by decide +kernel
theorem dX2_swap_13 : decode cX2_swap 13 = .ok (.invokestatic 25, 3) := by decide +kernel
theorem dX2_swap_16 : decode cX2_swap 16 = .ok (.ifCond .eq 7, 3) := by decide +kernel
theorem dX2_swap_19 : decode cX2_swap 19 = .ok (.iconst 1, 1) := by decide +kernel
theorem dX2_swap_20 : decode cX2_swap 20 = .ok (.goto 4, 3) := by decide +kernel
theorem dX2_swap_23 : decode cX2_swap 23 = .ok (.iconst 0, 1) := by decide +kernel
theorem dX2_swap_24 : decode cX2_swap 24 = .ok (.iload_n 3, 1) := by decide +kernel
theorem dX2_swap_25 : decode cX2_swap 25 = .ok (.bipush 10, 2) := by decide +kernel
theorem dX2_swap_27 : decode cX2_swap 27 = .ok (.invokestatic 25, 3) := by decide +kernel
theorem dX2_swap_30 : decode cX2_swap 30 = .ok (.ifCond .eq 17, 3) := by decide +kernel
theorem dX2_swap_33 : decode cX2_swap 33 = .ok (.iload 4, 2) := by decide +kernel
theorem dX2_swap_35 : decode cX2_swap 35 = .ok (.bipush 10, 2) := by decide +kernel
theorem dX2_swap_37 : decode cX2_swap 37 = .ok (.invokestatic 25, 3) := by decide +kernel
theorem dX2_swap_40 : decode cX2_swap 40 = .ok (.ifCond .eq 7, 3) := by decide +kernel
theorem dX2_swap_43 : decode cX2_swap 43 = .ok (.iconst 1, 1) := by decide +kernel
theorem dX2_swap_44 : decode cX2_swap 44 = .ok (.goto 4, 3) := by decide +kernel
theorem dX2_swap_47 : decode cX2_swap 47 = .ok (.iconst 0, 1) := by decide +kernel
theorem dX2_swap_48 : decode cX2_swap 48 = .ok (.invokevirtual 29, 3) := by decide +kernel
theorem dX2_swap_51 : decode cX2_swap 51 = .ok (.ifCond .eq 4, 3) := by decide +kernel
theorem dX2_swap_54 : decode cX2_swap 54 = .ok (.return_, 1) := by decide +kernel
theorem dX2_swap_55 : decode cX2_swap 55 = .ok (.iconst 0, 1) := by decide +kernel
theorem dX2_swap_56 : decode cX2_swap 56 = .ok (.istore 5, 2) := by decide +kernel
theorem dX2_swap_58 : decode cX2_swap 58 = .ok (.iload 5, 2) := by decide +kernel
theorem dX2_swap_60 : decode cX2_swap 60 = .ok (.sipush 1024, 3) := by decide +kernel
theorem dX2_swap_63 : decode cX2_swap 63 = .ok (.if_icmp .ge 71, 3) := by decide +kernel
theorem dX2_swap_66 : decode cX2_swap 66 = .ok (.iload 5, 2) := by decide +kernel
theorem dX2_swap_68 : decode cX2_swap 68 = .ok (.iload_n 3, 1) := by decide +kernel
theorem dX2_swap_69 : decode cX2_swap 69 = .ok (.invokestatic 37, 3) := by decide +kernel
theorem dX2_swap_72 : decode cX2_swap 72 = .ok (.iand, 1) := by decide +kernel
theorem dX2_swap_73 : decode cX2_swap 73 = .ok (.ifCond .le 7, 3) := by decide +kernel
theorem dX2_swap_76 : decode cX2_swap 76 = .ok (.iconst 1, 1) := by decide +kernel
theorem dX2_swap_77 : decode cX2_swap 77 = .ok (.goto 4, 3) := by decide +kernel
theorem dX2_swap_80 : decode cX2_swap 80 = .ok (.iconst 0, 1) := by decide +kernel
theorem dX2_swap_81 : decode cX2_swap 81 = .ok (.istore 6, 2) := by decide +kernel
theorem dX2_swap_83 : decode cX2_swap 83 = .ok (.iload 5, 2) := by decide +kernel
theorem dX2_swap_85 : decode cX2_swap 85 = .ok (.iload 4, 2) := by decide +kernel
theorem dX2_swap_87 : decode cX2_swap 87 = .ok (.invokestatic 37, 3) := by decide +kernel
theorem dX2_swap_90 : decode cX2_swap 90 = .ok (.iand, 1) := by decide +kernel
theorem dX2_swap_91 : decode cX2_swap 91 = .ok (.ifCond .le 7, 3) := by decide +kernel
theorem dX2_swap_94 : decode cX2_swap 94 = .ok (.iconst 1, 1) := by decide +kernel
theorem dX2_swap_95 : decode cX2_swap 95 = .ok (.goto 4, 3) := by decide +kernel
theorem dX2_swap_98 : decode cX2_swap 98 = .ok (.iconst 0, 1) := by decide +kernel
theorem dX2_swap_99 : decode cX2_swap 99 = .ok (.istore 7, 2) := by decide +kernel
theorem dX2_swap_101 : decode cX2_swap 101 = .ok (.aload_n 0, 1) := by decide +kernel
theorem dX2_swap_102 : decode cX2_swap 102 = .ok (.getfield 14, 3) := by decide +kernel
theorem dX2_swap_105 : decode cX2_swap 105 = .ok (.iload 5, 2) := by decide +kernel
theorem dX2_swap_107 : decode cX2_swap 107 = .ok (.aload_n 0, 1) := by decide +kernel
theorem dX2_swap_108 : decode cX2_swap 108 = .ok (.iload_n 2, 1) := by decide +kernel
theorem dX2_swap_109 : decode cX2_swap 109 = .ok (.iload 5, 2) := by decide +kernel
theorem dX2_swap_111 : decode cX2_swap 111 = .ok (.iload_n 3, 1) := by decide +kernel
theorem dX2_swap_112 : decode cX2_swap 112 = .ok (.iload 7, 2) := by decide +kernel
theorem dX2_swap_114 : decode cX2_swap 114 = .ok (.invokestatic 44, 3) := by decide +kernel
theorem dX2_swap_117 : decode cX2_swap 117 = .ok (.iload 4, 2) := by decide +kernel
theorem dX2_swap_119 : decode cX2_swap 119 = .ok (.iload 6, 2) := by decide +kernel
theorem dX2_swap_121 : decode cX2_swap 121 = .ok (.invokestatic 44, 3) := by decide +kernel
theorem dX2_swap_124 : decode cX2_swap 124 = .ok (.invokevirtual 41, 3) := by decide +kernel
theorem dX2_swap_127 : decode cX2_swap 127 = .ok (.bastore, 1) := by decide +kernel
theorem dX2_swap_128 : decode cX2_swap 128 = .ok (.iinc 5 1, 3) := by decide +kernel
theorem dX2_swap_131 : decode cX2_swap 131 = .ok (.goto (-73), 3) := by decide +kernel
theorem dX2_swap_134 : decode cX2_swap 134 = .ok (.aload_n 0, 1) := by decide +kernel
theorem dX2_swap_135 : decode cX2_swap 135 = .ok (.iload_n 1, 1) := by decide +kernel
theorem dX2_swap_136 : decode cX2_swap 136 = .ok (.invokevirtual 33, 3) := by decide +kernel
theorem dX2_swap_139 : decode cX2_swap 139 = .ok (.return_, 1) := by decide +kernel
set_option maxRecDepth 20000 in
theorem ggX2_nearest_X2_in : GoodIn wsX2_nearest wsX2_in := goodIn_r _ [5] (by decide +kernel) (by decide +kernel)
set_option maxRecDepth 20000 in
theorem gX2_nearest_X2_in : GoodIn wsX2_nearest (va_wsS RX2 25 yX2_in wsX2_in) := goodIn_app (goodIn_of _ (by decide +kernel)) ggX2_nearest_X2_in
set_option maxRecDepth 20000 in
theorem ggX2_nearest_X2_many : GoodIn wsX2_nearest wsX2_many := goodIn_r _ [9, 10, 11, 12, 4, 13, 14, 24, 25, 26, 27] (by decide +kernel) (by decide +kernel)
set_option maxRecDepth 20000 in
theorem gX2_nearest_X2_many : GoodIn wsX2_nearest (wsV RX2 48 RX2 yX2_many wsX2_many) := goodIn_app (goodIn_of _ (by decide +kernel)) ggX2_nearest_X2_many
set_option maxRecDepth 20000 in
theorem ggX2_nearest_X2_fails : GoodIn wsX2_nearest wsX2_fails := goodIn_r _ [18, 19, 24, 25, 26, 27] (by decide +kernel) (by decide +kernel)
set_option maxRecDepth 20000 in
theorem gX2_nearest_X2_fails : GoodIn wsX2_nearest (wsV RX2 29 RX2 yX2_fails wsX2_fails) := goodIn_app (goodIn_of _ (by decide +kernel)) ggX2_nearest_X2_fails
set_option maxRecDepth 20000 in
theorem ggX2_nearest_X2_of : GoodIn wsX2_nearest wsX2_of := goodIn_r _ [13, 14, 24, 25, 26, 27] (by decide +kernel) (by decide +kernel)
set_option maxRecDepth 20000 in
theorem gX2_nearest_X2_of : GoodIn wsX2_nearest (wsV RX2 41 RX2 yX2_of wsX2_of) := goodIn_app (goodIn_of _ (by decide +kernel)) ggX2_nearest_X2_of
set_option maxRecDepth 20000 in
theorem ggX2_nearest_X2_keep : GoodIn wsX2_nearest wsX2_keep := goodIn_r _ [23, 14, 1, 24, 25, 26, 27] (by decide +kernel) (by decide +kernel)
set_option maxRecDepth 20000 in
theorem gX2_nearest_X2_keep : GoodIn wsX2_nearest (wsV RX2 33 RX2 yX2_keep wsX2_keep) := goodIn_app (goodIn_of _ (by decide +kernel)) ggX2_nearest_X2_keep
theorem dX2_nearest_0 : decode cX2_nearest 0 = .ok (.iload_n 1, 1) := by decide +kernel
theorem dX2_nearest_1 : decode cX2_nearest 1 = .ok (.bipush 48, 2) := by decide +kernel
theorem dX2_nearest_3 : decode cX2_nearest 3 = .ok (.invokestatic 25, 3) := by decide +kernel
theorem dX2_nearest_6 : decode cX2_nearest 6 = .ok (.ifCond .eq 25, 3) := by decide +kernel
theorem dX2_nearest_9 : decode cX2_nearest 9 = .ok (.iload_n 2, 1) := by decide +kernel
theorem dX2_nearest_10 : decode cX2_nearest 10 = .ok (.bipush 48, 2) := by decide +kernel
theorem dX2_nearest_12 : decode cX2_nearest 12 = .ok (.invokestatic 25, 3) := by decide +kernel
theorem dX2_nearest_15 : decode cX2_nearest 15 = .ok (.ifCond .eq 16, 3) := by decide +kernel
theorem dX2_nearest_18 : decode cX2_nearest 18 = .ok (.iload_n 3, 1) := by decide +kernel
theorem dX2_nearest_19 : decode cX2_nearest 19 = .ok (.bipush 48, 2) := by decide +kernel
theorem dX2_nearest_21 : decode cX2_nearest 21 = .ok (.invokestatic 25, 3) := by decide +kernel
theorem dX2_nearest_24 : decode cX2_nearest 24 = .ok (.ifCond .eq 7, 3) := by decide +kernel
theorem dX2_nearest_27 : decode cX2_nearest 27 = .ok (.iconst 1, 1) := by decide +kernel
theorem dX2_nearest_28 : decode cX2_nearest 28 = .ok (.goto 4, 3) := by decide +kernel
theorem dX2_nearest_31 : decode cX2_nearest 31 = .ok (.iconst 0, 1) := by decide +kernel
theorem dX2_nearest_32 : decode cX2_nearest 32 = .ok (.istore 4, 2) := by decide +kernel
theorem dX2_nearest_34 : decode cX2_nearest 34 = .ok (.aload_n 0, 1) := by decide +kernel
theorem dX2_nearest_35 : decode cX2_nearest 35 = .ok (.iload 4, 2) := by decide +kernel
theorem dX2_nearest_37 : decode cX2_nearest 37 = .ok (.iload 4, 2) := by decide +kernel
theorem dX2_nearest_39 : decode cX2_nearest 39 = .ok (.ifCond .eq 15, 3) := by decide +kernel
theorem dX2_nearest_42 : decode cX2_nearest 42 = .ok (.aload_n 0, 1) := by decide +kernel
theorem dX2_nearest_43 : decode cX2_nearest 43 = .ok (.iload_n 3, 1) := by decide +kernel
theorem dX2_nearest_44 : decode cX2_nearest 44 = .ok (.invokevirtual 48, 3) := by decide +kernel
theorem dX2_nearest_47 : decode cX2_nearest 47 = .ok (.ifCond .le 7, 3) := by decide +kernel
theorem dX2_nearest_50 : decode cX2_nearest 50 = .ok (.iconst 1, 1) := by decide +kernel
theorem dX2_nearest_51 : decode cX2_nearest 51 = .ok (.goto 4, 3) := by decide +kernel
theorem dX2_nearest_54 : decode cX2_nearest 54 = .ok (.iconst 0, 1) := by decide +kernel
theorem dX2_nearest_55 : decode cX2_nearest 55 = .ok (.invokevirtual 29, 3) := by decide +kernel
theorem dX2_nearest_58 : decode cX2_nearest 58 = .ok (.ifCond .eq 4, 3) := by decide +kernel
theorem dX2_nearest_61 : decode cX2_nearest 61 = .ok (.return_, 1) := by decide +kernel
theorem dX2_nearest_62 : decode cX2_nearest 62 = .ok (.iconst 0, 1) := by decide +kernel
theorem dX2_nearest_63 : decode cX2_nearest 63 = .ok (.istore 5, 2) := by decide +kernel
theorem dX2_nearest_65 : decode cX2_nearest 65 = .ok (.iload 5, 2) := by decide +kernel
theorem dX2_nearest_67 : decode cX2_nearest 67 = .ok (.sipush 1024, 3) := by decide +kernel
theorem dX2_nearest_70 : decode cX2_nearest 70 = .ok (.if_icmp .ge 48, 3) := by decide +kernel
theorem dX2_nearest_73 : decode cX2_nearest 73 = .ok (.iconst 0, 1) := by decide +kernel
theorem dX2_nearest_74 : decode cX2_nearest 74 = .ok (.istore 6, 2) := by decide +kernel
theorem dX2_nearest_76 : decode cX2_nearest 76 = .ok (.aload_n 0, 1) := by decide +kernel
theorem dX2_nearest_77 : decode cX2_nearest 77 = .ok (.iload_n 3, 1) := by decide +kernel
theorem dX2_nearest_78 : decode cX2_nearest 78 = .ok (.iload 5, 2) := by decide +kernel
theorem dX2_nearest_80 : decode cX2_nearest 80 = .ok (.iload 6, 2) := by decide +kernel
theorem dX2_nearest_82 : decode cX2_nearest 82 = .ok (.ixor, 1) := by decide +kernel
theorem dX2_nearest_83 : decode cX2_nearest 83 = .ok (.invokevirtual 41, 3) := by decide +kernel
theorem dX2_nearest_86 : decode cX2_nearest 86 = .ok (.ifCond .ne 9, 3) := by decide +kernel
theorem dX2_nearest_89 : decode cX2_nearest 89 = .ok (.iinc 6 1, 3) := by decide +kernel
theorem dX2_nearest_92 : decode cX2_nearest 92 = .ok (.goto (-16), 3) := by decide +kernel
theorem dX2_nearest_95 : decode cX2_nearest 95 = .ok (.aload_n 0, 1) := by decide +kernel
theorem dX2_nearest_96 : decode cX2_nearest 96 = .ok (.getfield 14, 3) := by decide +kernel
theorem dX2_nearest_99 : decode cX2_nearest 99 = .ok (.iload 5, 2) := by decide +kernel
theorem dX2_nearest_101 : decode cX2_nearest 101 = .ok (.aload_n 0, 1) := by decide +kernel
theorem dX2_nearest_102 : decode cX2_nearest 102 = .ok (.iload_n 2, 1) := by decide +kernel
theorem dX2_nearest_103 : decode cX2_nearest 103 = .ok (.iload 5, 2) := by decide +kernel
theorem dX2_nearest_105 : decode cX2_nearest 105 = .ok (.iload 6, 2) := by decide +kernel
theorem dX2_nearest_107 : decode cX2_nearest 107 = .ok (.ixor, 1) := by decide +kernel
theorem dX2_nearest_108 : decode cX2_nearest 108 = .ok (.invokevirtual 41, 3) := by decide +kernel
theorem dX2_nearest_111 : decode cX2_nearest 111 = .ok (.bastore, 1) := by decide +kernel
theorem dX2_nearest_112 : decode cX2_nearest 112 = .ok (.iinc 5 1, 3) := by decide +kernel
theorem dX2_nearest_115 : decode cX2_nearest 115 = .ok (.goto (-50), 3) := by decide +kernel
theorem dX2_nearest_118 : decode cX2_nearest 118 = .ok (.aload_n 0, 1) := by decide +kernel
theorem dX2_nearest_119 : decode cX2_nearest 119 = .ok (.iload_n 1, 1) := by decide +kernel
theorem dX2_nearest_120 : decode cX2_nearest 120 = .ok (.invokevirtual 33, 3) := by decide +kernel
theorem dX2_nearest_123 : decode cX2_nearest 123 = .ok (.return_, 1) := by decide +kernel
set_option maxRecDepth 20000 in
theorem ggX2_isSame_X2_in : GoodIn wsX2_isSame wsX2_in := goodIn_r _ [4] (by decide +kernel) (by decide +kernel)
set_option maxRecDepth 20000 in
theorem gX2_isSame_X2_in : GoodIn wsX2_isSame (va_wsS RX2 25 yX2_in wsX2_in) := goodIn_app (goodIn_of _ (by decide +kernel)) ggX2_isSame_X2_in
set_option maxRecDepth 20000 in
theorem ggX2_isSame_X2_fails : GoodIn wsX2_isSame wsX2_fails := goodIn_r _ [8, 9, 15, 16, 17, 18] (by decide +kernel) (by decide +kernel)
set_option maxRecDepth 20000 in
theorem gX2_isSame_X2_fails : GoodIn wsX2_isSame (wsV RX2 29 RX2 yX2_fails wsX2_fails) := goodIn_app (goodIn_of _ (by decide +kernel)) ggX2_isSame_X2_fails
set_option maxRecDepth 20000 in
theorem ggX2_isSame_X2_of : GoodIn wsX2_isSame wsX2_of := goodIn_r _ [13, 14, 15, 16, 17, 18] (by decide +kernel) (by decide +kernel)
set_option maxRecDepth 20000 in
theorem gX2_isSame_X2_of : GoodIn wsX2_isSame (wsV RX2 41 RX2 yX2_of wsX2_of) := goodIn_app (goodIn_of _ (by decide +kernel)) ggX2_isSame_X2_of
theorem dX2_isSame_0 : decode cX2_isSame 0 = .ok (.aload_n 0, 1) := by decide +kernel
theorem dX2_isSame_1 : decode cX2_isSame 1 = .ok (.iload_n 1, 1) := by decide +kernel
theorem dX2_isSame_2 : decode cX2_isSame 2 = .ok (.bipush 48, 2) := by decide +kernel
theorem dX2_isSame_4 : decode cX2_isSame 4 = .ok (.invokestatic 25, 3) := by decide +kernel
theorem dX2_isSame_7 : decode cX2_isSame 7 = .ok (.ifCond .eq 16, 3) := by decide +kernel
theorem dX2_isSame_10 : decode cX2_isSame 10 = .ok (.iload_n 2, 1) := by decide +kernel
theorem dX2_isSame_11 : decode cX2_isSame 11 = .ok (.bipush 48, 2) := by decide +kernel
theorem dX2_isSame_13 : decode cX2_isSame 13 = .ok (.invokestatic 25, 3) := by decide +kernel
theorem dX2_isSame_16 : decode cX2_isSame 16 = .ok (.ifCond .eq 7, 3) := by decide +kernel
theorem dX2_isSame_19 : decode cX2_isSame 19 = .ok (.iconst 1, 1) := by decide +kernel
theorem dX2_isSame_20 : decode cX2_isSame 20 = .ok (.goto 4, 3) := by decide +kernel
theorem dX2_isSame_23 : decode cX2_isSame 23 = .ok (.iconst 0, 1) := by decide +kernel
theorem dX2_isSame_24 : decode cX2_isSame 24 = .ok (.iconst 1, 1) := by decide +kernel
theorem dX2_isSame_25 : decode cX2_isSame 25 = .ok (.invokevirtual 29, 3) := by decide +kernel
theorem dX2_isSame_28 : decode cX2_isSame 28 = .ok (.ifCond .eq 5, 3) := by decide +kernel
theorem dX2_isSame_31 : decode cX2_isSame 31 = .ok (.iconst 0, 1) := by decide +kernel
theorem dX2_isSame_32 : decode cX2_isSame 32 = .ok (.ireturn, 1) := by decide +kernel
theorem dX2_isSame_33 : decode cX2_isSame 33 = .ok (.iconst 1, 1) := by decide +kernel
theorem dX2_isSame_34 : decode cX2_isSame 34 = .ok (.istore_n 3, 1) := by decide +kernel
theorem dX2_isSame_35 : decode cX2_isSame 35 = .ok (.iconst 0, 1) := by decide +kernel
theorem dX2_isSame_36 : decode cX2_isSame 36 = .ok (.istore 4, 2) := by decide +kernel
theorem dX2_isSame_38 : decode cX2_isSame 38 = .ok (.iload 4, 2) := by decide +kernel
theorem dX2_isSame_40 : decode cX2_isSame 40 = .ok (.sipush 1024, 3) := by decide +kernel
theorem dX2_isSame_43 : decode cX2_isSame 43 = .ok (.if_icmp .ge 36, 3) := by decide +kernel
theorem dX2_isSame_46 : decode cX2_isSame 46 = .ok (.iload_n 3, 1) := by decide +kernel
theorem dX2_isSame_47 : decode cX2_isSame 47 = .ok (.ifCond .eq 24, 3) := by decide +kernel
theorem dX2_isSame_50 : decode cX2_isSame 50 = .ok (.aload_n 0, 1) := by decide +kernel
theorem dX2_isSame_51 : decode cX2_isSame 51 = .ok (.iload_n 1, 1) := by decide +kernel
theorem dX2_isSame_52 : decode cX2_isSame 52 = .ok (.iload 4, 2) := by decide +kernel
theorem dX2_isSame_54 : decode cX2_isSame 54 = .ok (.invokevirtual 41, 3) := by decide +kernel
theorem dX2_isSame_57 : decode cX2_isSame 57 = .ok (.aload_n 0, 1) := by decide +kernel
theorem dX2_isSame_58 : decode cX2_isSame 58 = .ok (.iload_n 2, 1) := by decide +kernel
theorem dX2_isSame_59 : decode cX2_isSame 59 = .ok (.iload 4, 2) := by decide +kernel
theorem dX2_isSame_61 : decode cX2_isSame 61 = .ok (.invokevirtual 41, 3) := by decide +kernel
theorem dX2_isSame_64 : decode cX2_isSame 64 = .ok (.if_icmp .ne 7, 3) := by decide +kernel
theorem dX2_isSame_67 : decode cX2_isSame 67 = .ok (.iconst 1, 1) := by decide +kernel
theorem dX2_isSame_68 : decode cX2_isSame 68 = .ok (.goto 4, 3) := by decide +kernel
theorem dX2_isSame_71 : decode cX2_isSame 71 = .ok (.iconst 0, 1) := by decide +kernel
theorem dX2_isSame_72 : decode cX2_isSame 72 = .ok (.istore_n 3, 1) := by decide +kernel
theorem dX2_isSame_73 : decode cX2_isSame 73 = .ok (.iinc 4 1, 3) := by decide +kernel
theorem dX2_isSame_76 : decode cX2_isSame 76 = .ok (.goto (-38), 3) := by decide +kernel
theorem dX2_isSame_79 : decode cX2_isSame 79 = .ok (.iload_n 3, 1) := by decide +kernel
theorem dX2_isSame_80 : decode cX2_isSame 80 = .ok (.ireturn, 1) := by decide +kernel
set_option maxRecDepth 20000 in
theorem ggX2_truth_X2_in : GoodIn wsX2_truth wsX2_in := goodIn_r _ [4] (by decide +kernel) (by decide +kernel)
set_option maxRecDepth 20000 in
theorem gX2_truth_X2_in : GoodIn wsX2_truth (va_wsS RX2 25 yX2_in wsX2_in) := goodIn_app (goodIn_of _ (by decide +kernel)) ggX2_truth_X2_in
set_option maxRecDepth 20000 in
theorem ggX2_truth_X2_fails : GoodIn wsX2_truth wsX2_fails := goodIn_r _ [8, 9, 15, 16, 17, 18] (by decide +kernel) (by decide +kernel)
set_option maxRecDepth 20000 in
theorem gX2_truth_X2_fails : GoodIn wsX2_truth (wsV RX2 29 RX2 yX2_fails wsX2_fails) := goodIn_app (goodIn_of _ (by decide +kernel)) ggX2_truth_X2_fails
set_option maxRecDepth 20000 in
theorem ggX2_truth_X2_of : GoodIn wsX2_truth wsX2_of := goodIn_r _ [13, 14, 15, 16, 17, 18] (by decide +kernel) (by decide +kernel)
set_option maxRecDepth 20000 in
theorem gX2_truth_X2_of : GoodIn wsX2_truth (wsV RX2 41 RX2 yX2_of wsX2_of) := goodIn_app (goodIn_of _ (by decide +kernel)) ggX2_truth_X2_of
theorem dX2_truth_0 : decode cX2_truth 0 = .ok (.aload_n 0, 1) := by decide +kernel
theorem dX2_truth_1 : decode cX2_truth 1 = .ok (.iload_n 1, 1) := by decide +kernel
theorem dX2_truth_2 : decode cX2_truth 2 = .ok (.bipush 48, 2) := by decide +kernel
theorem dX2_truth_4 : decode cX2_truth 4 = .ok (.invokestatic 25, 3) := by decide +kernel
theorem dX2_truth_7 : decode cX2_truth 7 = .ok (.iload_n 2, 1) := by decide +kernel
theorem dX2_truth_8 : decode cX2_truth 8 = .ok (.sipush 1024, 3) := by decide +kernel
theorem dX2_truth_11 : decode cX2_truth 11 = .ok (.invokestatic 25, 3) := by decide +kernel
theorem dX2_truth_14 : decode cX2_truth 14 = .ok (.invokevirtual 29, 3) := by decide +kernel
theorem dX2_truth_17 : decode cX2_truth 17 = .ok (.ifCond .ne 16, 3) := by decide +kernel
theorem dX2_truth_20 : decode cX2_truth 20 = .ok (.aload_n 0, 1) := by decide +kernel
theorem dX2_truth_21 : decode cX2_truth 21 = .ok (.iload_n 1, 1) := by decide +kernel
theorem dX2_truth_22 : decode cX2_truth 22 = .ok (.iload_n 2, 1) := by decide +kernel
theorem dX2_truth_23 : decode cX2_truth 23 = .ok (.invokevirtual 41, 3) := by decide +kernel
theorem dX2_truth_26 : decode cX2_truth 26 = .ok (.ifCond .eq 7, 3) := by decide +kernel
theorem dX2_truth_29 : decode cX2_truth 29 = .ok (.iconst 1, 1) := by decide +kernel
theorem dX2_truth_30 : decode cX2_truth 30 = .ok (.goto 4, 3) := by decide +kernel
theorem dX2_truth_33 : decode cX2_truth 33 = .ok (.iconst 0, 1) := by decide +kernel
theorem dX2_truth_34 : decode cX2_truth 34 = .ok (.ireturn, 1) := by decide +kernel
set_option maxRecDepth 20000 in
theorem ggX2_many_X2_of : GoodIn wsX2_many wsX2_of := goodIn_r _ [5, 6, 7, 8, 9, 10] (by decide +kernel) (by decide +kernel)
set_option maxRecDepth 20000 in
theorem gX2_many_X2_of : GoodIn wsX2_many (wsV RX2 41 RX2 yX2_of wsX2_of) := goodIn_app (goodIn_of _ (by decide +kernel)) ggX2_many_X2_of
theorem dX2_many_0 : decode cX2_many 0 = .ok (.iconst 0, 1) := by decide +kernel
theorem dX2_many_1 : decode cX2_many 1 = .ok (.istore_n 2, 1) := by decide +kernel
theorem dX2_many_2 : decode cX2_many 2 = .ok (.iconst 0, 1) := by decide +kernel
theorem dX2_many_3 : decode cX2_many 3 = .ok (.istore_n 3, 1) := by decide +kernel
theorem dX2_many_4 : decode cX2_many 4 = .ok (.iload_n 3, 1) := by decide +kernel
theorem dX2_many_5 : decode cX2_many 5 = .ok (.sipush 1024, 3) := by decide +kernel
theorem dX2_many_8 : decode cX2_many 8 = .ok (.if_icmp .ge 26, 3) := by decide +kernel
theorem dX2_many_11 : decode cX2_many 11 = .ok (.aload_n 0, 1) := by decide +kernel
theorem dX2_many_12 : decode cX2_many 12 = .ok (.iload_n 1, 1) := by decide +kernel
theorem dX2_many_13 : decode cX2_many 13 = .ok (.iload_n 3, 1) := by decide +kernel
theorem dX2_many_14 : decode cX2_many 14 = .ok (.invokevirtual 41, 3) := by decide +kernel
theorem dX2_many_17 : decode cX2_many 17 = .ok (.ifCond .eq 9, 3) := by decide +kernel
theorem dX2_many_20 : decode cX2_many 20 = .ok (.iload_n 2, 1) := by decide +kernel
theorem dX2_many_21 : decode cX2_many 21 = .ok (.iconst 1, 1) := by decide +kernel
theorem dX2_many_22 : decode cX2_many 22 = .ok (.iadd, 1) := by decide +kernel
theorem dX2_many_23 : decode cX2_many 23 = .ok (.goto 4, 3) := by decide +kernel
theorem dX2_many_26 : decode cX2_many 26 = .ok (.iload_n 2, 1) := by decide +kernel
theorem dX2_many_27 : decode cX2_many 27 = .ok (.istore_n 2, 1) := by decide +kernel
theorem dX2_many_28 : decode cX2_many 28 = .ok (.iinc 3 1, 3) := by decide +kernel
theorem dX2_many_31 : decode cX2_many 31 = .ok (.goto (-27), 3) := by decide +kernel
theorem dX2_many_34 : decode cX2_many 34 = .ok (.iload_n 2, 1) := by decide +kernel
theorem dX2_many_35 : decode cX2_many 35 = .ok (.ireturn, 1) := by decide +kernel
set_option maxRecDepth 20000 in
theorem ggX2_count_X2_in : GoodIn wsX2_count wsX2_in := goodIn_r _ [4] (by decide +kernel) (by decide +kernel)
set_option maxRecDepth 20000 in
theorem gX2_count_X2_in : GoodIn wsX2_count (va_wsS RX2 25 yX2_in wsX2_in) := goodIn_app (goodIn_of _ (by decide +kernel)) ggX2_count_X2_in
set_option maxRecDepth 20000 in
theorem ggX2_count_X2_fails : GoodIn wsX2_count wsX2_fails := goodIn_r _ [8, 9, 19, 20, 21, 22] (by decide +kernel) (by decide +kernel)
set_option maxRecDepth 20000 in
theorem gX2_count_X2_fails : GoodIn wsX2_count (wsV RX2 29 RX2 yX2_fails wsX2_fails) := goodIn_app (goodIn_of _ (by decide +kernel)) ggX2_count_X2_fails
set_option maxRecDepth 20000 in
theorem ggX2_count_X2_many : GoodIn wsX2_count wsX2_many := goodIn_r _ [13, 14, 15, 16, 3, 17, 18, 19, 20, 21, 22] (by decide +kernel) (by decide +kernel)
set_option maxRecDepth 20000 in
theorem gX2_count_X2_many : GoodIn wsX2_count (wsV RX2 48 RX2 yX2_many wsX2_many) := goodIn_app (goodIn_of _ (by decide +kernel)) ggX2_count_X2_many
theorem dX2_count_0 : decode cX2_count 0 = .ok (.aload_n 0, 1) := by decide +kernel
theorem dX2_count_1 : decode cX2_count 1 = .ok (.iload_n 1, 1) := by decide +kernel
theorem dX2_count_2 : decode cX2_count 2 = .ok (.bipush 48, 2) := by decide +kernel
theorem dX2_count_4 : decode cX2_count 4 = .ok (.invokestatic 25, 3) := by decide +kernel
theorem dX2_count_7 : decode cX2_count 7 = .ok (.iconst 1, 1) := by decide +kernel
theorem dX2_count_8 : decode cX2_count 8 = .ok (.invokevirtual 29, 3) := by decide +kernel
theorem dX2_count_11 : decode cX2_count 11 = .ok (.ifCond .eq 7, 3) := by decide +kernel
theorem dX2_count_14 : decode cX2_count 14 = .ok (.iconst 0, 1) := by decide +kernel
theorem dX2_count_15 : decode cX2_count 15 = .ok (.goto 8, 3) := by decide +kernel
theorem dX2_count_18 : decode cX2_count 18 = .ok (.aload_n 0, 1) := by decide +kernel
theorem dX2_count_19 : decode cX2_count 19 = .ok (.iload_n 1, 1) := by decide +kernel
theorem dX2_count_20 : decode cX2_count 20 = .ok (.invokevirtual 48, 3) := by decide +kernel
theorem dX2_count_23 : decode cX2_count 23 = .ok (.ireturn, 1) := by decide +kernel
set_option maxRecDepth 20000 in
theorem ggX2_next_X2_in : GoodIn wsX2_next wsX2_in := goodIn_r _ [4] (by decide +kernel) (by decide +kernel)
set_option maxRecDepth 20000 in
theorem gX2_next_X2_in : GoodIn wsX2_next (va_wsS RX2 25 yX2_in wsX2_in) := goodIn_app (goodIn_of _ (by decide +kernel)) ggX2_next_X2_in
set_option maxRecDepth 20000 in
theorem ggX2_next_X2_fails : GoodIn wsX2_next wsX2_fails := goodIn_r _ [8, 9, 15, 16, 17, 18] (by decide +kernel) (by decide +kernel)
set_option maxRecDepth 20000 in
theorem gX2_next_X2_fails : GoodIn wsX2_next (wsV RX2 29 RX2 yX2_fails wsX2_fails) := goodIn_app (goodIn_of _ (by decide +kernel)) ggX2_next_X2_fails
set_option maxRecDepth 20000 in
theorem ggX2_next_X2_of : GoodIn wsX2_next wsX2_of := goodIn_r _ [13, 14, 15, 16, 17, 18] (by decide +kernel) (by decide +kernel)
set_option maxRecDepth 20000 in
theorem gX2_next_X2_of : GoodIn wsX2_next (wsV RX2 41 RX2 yX2_of wsX2_of) := goodIn_app (goodIn_of _ (by decide +kernel)) ggX2_next_X2_of
theorem dX2_next_0 : decode cX2_next 0 = .ok (.aload_n 0, 1) := by decide +kernel
theorem dX2_next_1 : decode cX2_next 1 = .ok (.iload_n 1, 1) := by decide +kernel
theorem dX2_next_2 : decode cX2_next 2 = .ok (.bipush 48, 2) := by decide +kernel
theorem dX2_next_4 : decode cX2_next 4 = .ok (.invokestatic 25, 3) := by decide +kernel
theorem dX2_next_7 : decode cX2_next 7 = .ok (.iload_n 2, 1) := by decide +kernel
theorem dX2_next_8 : decode cX2_next 8 = .ok (.sipush 1024, 3) := by decide +kernel
theorem dX2_next_11 : decode cX2_next 11 = .ok (.invokestatic 25, 3) := by decide +kernel
theorem dX2_next_14 : decode cX2_next 14 = .ok (.invokevirtual 29, 3) := by decide +kernel
theorem dX2_next_17 : decode cX2_next 17 = .ok (.ifCond .eq 5, 3) := by decide +kernel
theorem dX2_next_20 : decode cX2_next 20 = .ok (.iconst 0, 1) := by decide +kernel
theorem dX2_next_21 : decode cX2_next 21 = .ok (.ireturn, 1) := by decide +kernel
theorem dX2_next_22 : decode cX2_next 22 = .ok (.iload_n 2, 1) := by decide +kernel
theorem dX2_next_23 : decode cX2_next 23 = .ok (.istore_n 3, 1) := by decide +kernel
theorem dX2_next_24 : decode cX2_next 24 = .ok (.iload_n 3, 1) := by decide +kernel
theorem dX2_next_25 : decode cX2_next 25 = .ok (.sipush 1024, 3) := by decide +kernel
theorem dX2_next_28 : decode cX2_next 28 = .ok (.if_icmp .ge 18, 3) := by decide +kernel
theorem dX2_next_31 : decode cX2_next 31 = .ok (.aload_n 0, 1) := by decide +kernel
theorem dX2_next_32 : decode cX2_next 32 = .ok (.iload_n 1, 1) := by decide +kernel
theorem dX2_next_33 : decode cX2_next 33 = .ok (.iload_n 3, 1) := by decide +kernel
theorem dX2_next_34 : decode cX2_next 34 = .ok (.invokevirtual 41, 3) := by decide +kernel
theorem dX2_next_37 : decode cX2_next 37 = .ok (.ifCond .ne 9, 3) := by decide +kernel
theorem dX2_next_40 : decode cX2_next 40 = .ok (.iinc 3 1, 3) := by decide +kernel
theorem dX2_next_43 : decode cX2_next 43 = .ok (.goto (-19), 3) := by decide +kernel
theorem dX2_next_46 : decode cX2_next 46 = .ok (.iload_n 3, 1) := by decide +kernel
theorem dX2_next_47 : decode cX2_next 47 = .ok (.sipush 1024, 3) := by decide +kernel
theorem dX2_next_50 : decode cX2_next 50 = .ok (.if_icmp .ge 7, 3) := by decide +kernel
theorem dX2_next_53 : decode cX2_next 53 = .ok (.iload_n 3, 1) := by decide +kernel
theorem dX2_next_54 : decode cX2_next 54 = .ok (.goto 4, 3) := by decide +kernel
theorem dX2_next_57 : decode cX2_next 57 = .ok (.iconst (-1), 1) := by decide +kernel
theorem dX2_next_58 : decode cX2_next 58 = .ok (.ireturn, 1) := by decide +kernel
set_option maxRecDepth 20000 in
theorem ggX2_depends_X2_in : GoodIn wsX2_depends wsX2_in := goodIn_r _ [4] (by decide +kernel) (by decide +kernel)
set_option maxRecDepth 20000 in
theorem gX2_depends_X2_in : GoodIn wsX2_depends (va_wsS RX2 25 yX2_in wsX2_in) := goodIn_app (goodIn_of _ (by decide +kernel)) ggX2_depends_X2_in
set_option maxRecDepth 20000 in
theorem ggX2_depends_X2_fails : GoodIn wsX2_depends wsX2_fails := goodIn_r _ [8, 9, 18, 19, 20, 21] (by decide +kernel) (by decide +kernel)
set_option maxRecDepth 20000 in
theorem gX2_depends_X2_fails : GoodIn wsX2_depends (wsV RX2 29 RX2 yX2_fails wsX2_fails) := goodIn_app (goodIn_of _ (by decide +kernel)) ggX2_depends_X2_fails
set_option maxRecDepth 20000 in
theorem ggX2_depends_X2_of : GoodIn wsX2_depends wsX2_of := goodIn_r _ [13, 14, 18, 19, 20, 21] (by decide +kernel) (by decide +kernel)
set_option maxRecDepth 20000 in
theorem gX2_depends_X2_of : GoodIn wsX2_depends (wsV RX2 41 RX2 yX2_of wsX2_of) := goodIn_app (goodIn_of _ (by decide +kernel)) ggX2_depends_X2_of
set_option maxRecDepth 20000 in
theorem ggX2_depends_X2_bit : GoodIn wsX2_depends wsX2_bit := goodIn_r _ [17] (by decide +kernel) (by decide +kernel)
set_option maxRecDepth 20000 in
theorem gX2_depends_X2_bit : GoodIn wsX2_depends (va_wsS RX2 37 yX2_bit wsX2_bit) := goodIn_app (goodIn_of _ (by decide +kernel)) ggX2_depends_X2_bit
theorem dX2_depends_0 : decode cX2_depends 0 = .ok (.aload_n 0, 1) := by decide +kernel
theorem dX2_depends_1 : decode cX2_depends 1 = .ok (.iload_n 1, 1) := by decide +kernel
theorem dX2_depends_2 : decode cX2_depends 2 = .ok (.bipush 48, 2) := by decide +kernel
theorem dX2_depends_4 : decode cX2_depends 4 = .ok (.invokestatic 25, 3) := by decide +kernel
theorem dX2_depends_7 : decode cX2_depends 7 = .ok (.iconst 1, 1) := by decide +kernel
theorem dX2_depends_8 : decode cX2_depends 8 = .ok (.invokevirtual 29, 3) := by decide +kernel
theorem dX2_depends_11 : decode cX2_depends 11 = .ok (.ifCond .eq 5, 3) := by decide +kernel
theorem dX2_depends_14 : decode cX2_depends 14 = .ok (.iconst 0, 1) := by decide +kernel
theorem dX2_depends_15 : decode cX2_depends 15 = .ok (.ireturn, 1) := by decide +kernel
theorem dX2_depends_16 : decode cX2_depends 16 = .ok (.iconst 0, 1) := by decide +kernel
theorem dX2_depends_17 : decode cX2_depends 17 = .ok (.istore_n 2, 1) := by decide +kernel
theorem dX2_depends_18 : decode cX2_depends 18 = .ok (.iconst 0, 1) := by decide +kernel
theorem dX2_depends_19 : decode cX2_depends 19 = .ok (.istore_n 3, 1) := by decide +kernel
theorem dX2_depends_20 : decode cX2_depends 20 = .ok (.iload_n 3, 1) := by decide +kernel
theorem dX2_depends_21 : decode cX2_depends 21 = .ok (.bipush 10, 2) := by decide +kernel
theorem dX2_depends_23 : decode cX2_depends 23 = .ok (.if_icmp .ge 79, 3) := by decide +kernel
theorem dX2_depends_26 : decode cX2_depends 26 = .ok (.iconst 0, 1) := by decide +kernel
theorem dX2_depends_27 : decode cX2_depends 27 = .ok (.istore 4, 2) := by decide +kernel
theorem dX2_depends_29 : decode cX2_depends 29 = .ok (.iconst 0, 1) := by decide +kernel
theorem dX2_depends_30 : decode cX2_depends 30 = .ok (.istore 5, 2) := by decide +kernel
theorem dX2_depends_32 : decode cX2_depends 32 = .ok (.iload 5, 2) := by decide +kernel
theorem dX2_depends_34 : decode cX2_depends 34 = .ok (.sipush 1024, 3) := by decide +kernel
theorem dX2_depends_37 : decode cX2_depends 37 = .ok (.if_icmp .ge 43, 3) := by decide +kernel
theorem dX2_depends_40 : decode cX2_depends 40 = .ok (.iload 4, 2) := by decide +kernel
theorem dX2_depends_42 : decode cX2_depends 42 = .ok (.ifCond .ne 25, 3) := by decide +kernel
theorem dX2_depends_45 : decode cX2_depends 45 = .ok (.aload_n 0, 1) := by decide +kernel
theorem dX2_depends_46 : decode cX2_depends 46 = .ok (.iload_n 1, 1) := by decide +kernel
theorem dX2_depends_47 : decode cX2_depends 47 = .ok (.iload 5, 2) := by decide +kernel
theorem dX2_depends_49 : decode cX2_depends 49 = .ok (.invokevirtual 41, 3) := by decide +kernel
theorem dX2_depends_52 : decode cX2_depends 52 = .ok (.aload_n 0, 1) := by decide +kernel
theorem dX2_depends_53 : decode cX2_depends 53 = .ok (.iload_n 1, 1) := by decide +kernel
theorem dX2_depends_54 : decode cX2_depends 54 = .ok (.iload 5, 2) := by decide +kernel
theorem dX2_depends_56 : decode cX2_depends 56 = .ok (.iload_n 3, 1) := by decide +kernel
theorem dX2_depends_57 : decode cX2_depends 57 = .ok (.invokestatic 37, 3) := by decide +kernel
theorem dX2_depends_60 : decode cX2_depends 60 = .ok (.ixor, 1) := by decide +kernel
theorem dX2_depends_61 : decode cX2_depends 61 = .ok (.invokevirtual 41, 3) := by decide +kernel
theorem dX2_depends_64 : decode cX2_depends 64 = .ok (.if_icmp .eq 7, 3) := by decide +kernel
theorem dX2_depends_67 : decode cX2_depends 67 = .ok (.iconst 1, 1) := by decide +kernel
theorem dX2_depends_68 : decode cX2_depends 68 = .ok (.goto 4, 3) := by decide +kernel
theorem dX2_depends_71 : decode cX2_depends 71 = .ok (.iconst 0, 1) := by decide +kernel
theorem dX2_depends_72 : decode cX2_depends 72 = .ok (.istore 4, 2) := by decide +kernel
theorem dX2_depends_74 : decode cX2_depends 74 = .ok (.iinc 5 1, 3) := by decide +kernel
theorem dX2_depends_77 : decode cX2_depends 77 = .ok (.goto (-45), 3) := by decide +kernel
theorem dX2_depends_80 : decode cX2_depends 80 = .ok (.iload 4, 2) := by decide +kernel
theorem dX2_depends_82 : decode cX2_depends 82 = .ok (.ifCond .eq 12, 3) := by decide +kernel
theorem dX2_depends_85 : decode cX2_depends 85 = .ok (.iload_n 2, 1) := by decide +kernel
theorem dX2_depends_86 : decode cX2_depends 86 = .ok (.iload_n 3, 1) := by decide +kernel
theorem dX2_depends_87 : decode cX2_depends 87 = .ok (.invokestatic 37, 3) := by decide +kernel
theorem dX2_depends_90 : decode cX2_depends 90 = .ok (.ior, 1) := by decide +kernel
theorem dX2_depends_91 : decode cX2_depends 91 = .ok (.goto 4, 3) := by decide +kernel
theorem dX2_depends_94 : decode cX2_depends 94 = .ok (.iload_n 2, 1) := by decide +kernel
theorem dX2_depends_95 : decode cX2_depends 95 = .ok (.istore_n 2, 1) := by decide +kernel
theorem dX2_depends_96 : decode cX2_depends 96 = .ok (.iinc 3 1, 3) := by decide +kernel
theorem dX2_depends_99 : decode cX2_depends 99 = .ok (.goto (-79), 3) := by decide +kernel
theorem dX2_depends_102 : decode cX2_depends 102 = .ok (.iload_n 2, 1) := by decide +kernel
theorem dX2_depends_103 : decode cX2_depends 103 = .ok (.ireturn, 1) := by decide +kernel
theorem dX2_isEqual_0 : decode cX2_isEqual 0 = .ok (.iconst 0, 1) := by decide +kernel
theorem dX2_isEqual_1 : decode cX2_isEqual 1 = .ok (.istore 4, 2) := by decide +kernel
theorem dX2_isEqual_3 : decode cX2_isEqual 3 = .ok (.iload 4, 2) := by decide +kernel
theorem dX2_isEqual_5 : decode cX2_isEqual 5 = .ok (.iload_n 3, 1) := by decide +kernel
theorem dX2_isEqual_6 : decode cX2_isEqual 6 = .ok (.if_icmp .ge 30, 3) := by decide +kernel
theorem dX2_isEqual_9 : decode cX2_isEqual 9 = .ok (.aload_n 0, 1) := by decide +kernel
theorem dX2_isEqual_10 : decode cX2_isEqual 10 = .ok (.getfield 8, 3) := by decide +kernel
theorem dX2_isEqual_13 : decode cX2_isEqual 13 = .ok (.iload_n 1, 1) := by decide +kernel
theorem dX2_isEqual_14 : decode cX2_isEqual 14 = .ok (.iload 4, 2) := by decide +kernel
theorem dX2_isEqual_16 : decode cX2_isEqual 16 = .ok (.iadd, 1) := by decide +kernel
theorem dX2_isEqual_17 : decode cX2_isEqual 17 = .ok (.baload, 1) := by decide +kernel
theorem dX2_isEqual_18 : decode cX2_isEqual 18 = .ok (.aload_n 0, 1) := by decide +kernel
theorem dX2_isEqual_19 : decode cX2_isEqual 19 = .ok (.getfield 8, 3) := by decide +kernel
theorem dX2_isEqual_22 : decode cX2_isEqual 22 = .ok (.iload_n 2, 1) := by decide +kernel
theorem dX2_isEqual_23 : decode cX2_isEqual 23 = .ok (.iload 4, 2) := by decide +kernel
theorem dX2_isEqual_25 : decode cX2_isEqual 25 = .ok (.iadd, 1) := by decide +kernel
theorem dX2_isEqual_26 : decode cX2_isEqual 26 = .ok (.baload, 1) := by decide +kernel
theorem dX2_isEqual_27 : decode cX2_isEqual 27 = .ok (.if_icmp .ne 9, 3) := by decide +kernel
theorem dX2_isEqual_30 : decode cX2_isEqual 30 = .ok (.iinc 4 1, 3) := by decide +kernel
theorem dX2_isEqual_33 : decode cX2_isEqual 33 = .ok (.goto (-30), 3) := by decide +kernel
theorem dX2_isEqual_36 : decode cX2_isEqual 36 = .ok (.iload 4, 2) := by decide +kernel
theorem dX2_isEqual_38 : decode cX2_isEqual 38 = .ok (.iload_n 3, 1) := by decide +kernel
theorem dX2_isEqual_39 : decode cX2_isEqual 39 = .ok (.if_icmp .ne 7, 3) := by decide +kernel
theorem dX2_isEqual_42 : decode cX2_isEqual 42 = .ok (.iconst 1, 1) := by decide +kernel
theorem dX2_isEqual_43 : decode cX2_isEqual 43 = .ok (.goto 4, 3) := by decide +kernel
theorem dX2_isEqual_46 : decode cX2_isEqual 46 = .ok (.iconst 0, 1) := by decide +kernel
theorem dX2_isEqual_47 : decode cX2_isEqual 47 = .ok (.ireturn, 1) := by decide +kernel
set_option maxRecDepth 20000 in
theorem ggX2_nodes_X2_isEqual : GoodIn wsX2_nodes wsX2_isEqual := goodIn_r _ [6, 7, 8, 9, 10, 11] (by decide +kernel) (by decide +kernel)
set_option maxRecDepth 20000 in
theorem gX2_nodes_X2_isEqual : GoodIn wsX2_nodes (wsV RX2 51 RX2 yX2_isEqual wsX2_isEqual) := goodIn_app (goodIn_of _ (by decide +kernel)) ggX2_nodes_X2_isEqual
theorem dX2_nodes_0 : decode cX2_nodes 0 = .ok (.sipush 1024, 3) := by decide +kernel
theorem dX2_nodes_3 : decode cX2_nodes 3 = .ok (.iload_n 3, 1) := by decide +kernel
theorem dX2_nodes_4 : decode cX2_nodes 4 = .ok (.ishr, 1) := by decide +kernel
theorem dX2_nodes_5 : decode cX2_nodes 5 = .ok (.istore 4, 2) := by decide +kernel
theorem dX2_nodes_7 : decode cX2_nodes 7 = .ok (.iconst 0, 1) := by decide +kernel
theorem dX2_nodes_8 : decode cX2_nodes 8 = .ok (.istore 5, 2) := by decide +kernel
theorem dX2_nodes_10 : decode cX2_nodes 10 = .ok (.sipush 1024, 3) := by decide +kernel
theorem dX2_nodes_13 : decode cX2_nodes 13 = .ok (.iload_n 1, 1) := by decide +kernel
theorem dX2_nodes_14 : decode cX2_nodes 14 = .ok (.imul, 1) := by decide +kernel
theorem dX2_nodes_15 : decode cX2_nodes 15 = .ok (.istore 6, 2) := by decide +kernel
theorem dX2_nodes_17 : decode cX2_nodes 17 = .ok (.iload 6, 2) := by decide +kernel
theorem dX2_nodes_19 : decode cX2_nodes 19 = .ok (.sipush 1024, 3) := by decide +kernel
theorem dX2_nodes_22 : decode cX2_nodes 22 = .ok (.iload_n 2, 1) := by decide +kernel
theorem dX2_nodes_23 : decode cX2_nodes 23 = .ok (.iconst 1, 1) := by decide +kernel
theorem dX2_nodes_24 : decode cX2_nodes 24 = .ok (.iadd, 1) := by decide +kernel
theorem dX2_nodes_25 : decode cX2_nodes 25 = .ok (.imul, 1) := by decide +kernel
theorem dX2_nodes_26 : decode cX2_nodes 26 = .ok (.if_icmp .ge 97, 3) := by decide +kernel
theorem dX2_nodes_29 : decode cX2_nodes 29 = .ok (.aload_n 0, 1) := by decide +kernel
theorem dX2_nodes_30 : decode cX2_nodes 30 = .ok (.iload 6, 2) := by decide +kernel
theorem dX2_nodes_32 : decode cX2_nodes 32 = .ok (.iload 6, 2) := by decide +kernel
theorem dX2_nodes_34 : decode cX2_nodes 34 = .ok (.iload 4, 2) := by decide +kernel
theorem dX2_nodes_36 : decode cX2_nodes 36 = .ok (.iconst 2, 1) := by decide +kernel
theorem dX2_nodes_37 : decode cX2_nodes 37 = .ok (.idiv, 1) := by decide +kernel
theorem dX2_nodes_38 : decode cX2_nodes 38 = .ok (.iadd, 1) := by decide +kernel
theorem dX2_nodes_39 : decode cX2_nodes 39 = .ok (.iload 4, 2) := by decide +kernel
theorem dX2_nodes_41 : decode cX2_nodes 41 = .ok (.iconst 2, 1) := by decide +kernel
theorem dX2_nodes_42 : decode cX2_nodes 42 = .ok (.idiv, 1) := by decide +kernel
theorem dX2_nodes_43 : decode cX2_nodes 43 = .ok (.invokevirtual 51, 3) := by decide +kernel
theorem dX2_nodes_46 : decode cX2_nodes 46 = .ok (.ifCond .eq 6, 3) := by decide +kernel
theorem dX2_nodes_49 : decode cX2_nodes 49 = .ok (.goto 64, 3) := by decide +kernel
theorem dX2_nodes_52 : decode cX2_nodes 52 = .ok (.iconst 0, 1) := by decide +kernel
theorem dX2_nodes_53 : decode cX2_nodes 53 = .ok (.istore 7, 2) := by decide +kernel
theorem dX2_nodes_55 : decode cX2_nodes 55 = .ok (.iload 7, 2) := by decide +kernel
theorem dX2_nodes_57 : decode cX2_nodes 57 = .ok (.iload 5, 2) := by decide +kernel
theorem dX2_nodes_59 : decode cX2_nodes 59 = .ok (.if_icmp .ge 27, 3) := by decide +kernel
theorem dX2_nodes_62 : decode cX2_nodes 62 = .ok (.aload_n 0, 1) := by decide +kernel
theorem dX2_nodes_63 : decode cX2_nodes 63 = .ok (.aload_n 0, 1) := by decide +kernel
theorem dX2_nodes_64 : decode cX2_nodes 64 = .ok (.getfield 17, 3) := by decide +kernel
theorem dX2_nodes_67 : decode cX2_nodes 67 = .ok (.iload 7, 2) := by decide +kernel
theorem dX2_nodes_69 : decode cX2_nodes 69 = .ok (.iaload, 1) := by decide +kernel
theorem dX2_nodes_70 : decode cX2_nodes 70 = .ok (.iload 6, 2) := by decide +kernel
theorem dX2_nodes_72 : decode cX2_nodes 72 = .ok (.iload 4, 2) := by decide +kernel
theorem dX2_nodes_74 : decode cX2_nodes 74 = .ok (.invokevirtual 51, 3) := by decide +kernel
theorem dX2_nodes_77 : decode cX2_nodes 77 = .ok (.ifCond .ne 9, 3) := by decide +kernel
theorem dX2_nodes_80 : decode cX2_nodes 80 = .ok (.iinc 7 1, 3) := by decide +kernel
theorem dX2_nodes_83 : decode cX2_nodes 83 = .ok (.goto (-28), 3) := by decide +kernel
theorem dX2_nodes_86 : decode cX2_nodes 86 = .ok (.aload_n 0, 1) := by decide +kernel
theorem dX2_nodes_87 : decode cX2_nodes 87 = .ok (.getfield 17, 3) := by decide +kernel
theorem dX2_nodes_90 : decode cX2_nodes 90 = .ok (.iload 5, 2) := by decide +kernel
theorem dX2_nodes_92 : decode cX2_nodes 92 = .ok (.iload 6, 2) := by decide +kernel
theorem dX2_nodes_94 : decode cX2_nodes 94 = .ok (.iastore, 1) := by decide +kernel
theorem dX2_nodes_95 : decode cX2_nodes 95 = .ok (.iload 7, 2) := by decide +kernel
theorem dX2_nodes_97 : decode cX2_nodes 97 = .ok (.iload 5, 2) := by decide +kernel
theorem dX2_nodes_99 : decode cX2_nodes 99 = .ok (.if_icmp .ne 10, 3) := by decide +kernel
theorem dX2_nodes_102 : decode cX2_nodes 102 = .ok (.iload 5, 2) := by decide +kernel
theorem dX2_nodes_104 : decode cX2_nodes 104 = .ok (.iconst 1, 1) := by decide +kernel
theorem dX2_nodes_105 : decode cX2_nodes 105 = .ok (.iadd, 1) := by decide +kernel
theorem dX2_nodes_106 : decode cX2_nodes 106 = .ok (.goto 5, 3) := by decide +kernel
theorem dX2_nodes_109 : decode cX2_nodes 109 = .ok (.iload 5, 2) := by decide +kernel
theorem dX2_nodes_111 : decode cX2_nodes 111 = .ok (.istore 5, 2) := by decide +kernel
theorem dX2_nodes_113 : decode cX2_nodes 113 = .ok (.iload 6, 2) := by decide +kernel
theorem dX2_nodes_115 : decode cX2_nodes 115 = .ok (.iload 4, 2) := by decide +kernel
theorem dX2_nodes_117 : decode cX2_nodes 117 = .ok (.iadd, 1) := by decide +kernel
theorem dX2_nodes_118 : decode cX2_nodes 118 = .ok (.istore 6, 2) := by decide +kernel
theorem dX2_nodes_120 : decode cX2_nodes 120 = .ok (.goto (-103), 3) := by decide +kernel
theorem dX2_nodes_123 : decode cX2_nodes 123 = .ok (.iload 5, 2) := by decide +kernel
theorem dX2_nodes_125 : decode cX2_nodes 125 = .ok (.ireturn, 1) := by decide +kernel
set_option maxRecDepth 20000 in
theorem ggX2_all_X2_nodes : GoodIn wsX2_all wsX2_nodes := goodIn_r _ [5, 6, 7, 8, 9, 4, 10, 11, 12, 13, 14, 15] (by decide +kernel) (by decide +kernel)
set_option maxRecDepth 20000 in
theorem gX2_all_X2_nodes : GoodIn wsX2_all (wsV RX2 55 RX2 yX2_nodes wsX2_nodes) := goodIn_app (goodIn_of _ (by decide +kernel)) ggX2_all_X2_nodes
theorem dX2_all_0 : decode cX2_all 0 = .ok (.iconst 0, 1) := by decide +kernel
theorem dX2_all_1 : decode cX2_all 1 = .ok (.istore_n 3, 1) := by decide +kernel
theorem dX2_all_2 : decode cX2_all 2 = .ok (.iconst 0, 1) := by decide +kernel
theorem dX2_all_3 : decode cX2_all 3 = .ok (.istore 4, 2) := by decide +kernel
theorem dX2_all_5 : decode cX2_all 5 = .ok (.iload 4, 2) := by decide +kernel
theorem dX2_all_7 : decode cX2_all 7 = .ok (.bipush 10, 2) := by decide +kernel
theorem dX2_all_9 : decode cX2_all 9 = .ok (.if_icmp .ge 20, 3) := by decide +kernel
theorem dX2_all_12 : decode cX2_all 12 = .ok (.iload_n 3, 1) := by decide +kernel
theorem dX2_all_13 : decode cX2_all 13 = .ok (.aload_n 0, 1) := by decide +kernel
theorem dX2_all_14 : decode cX2_all 14 = .ok (.iload_n 1, 1) := by decide +kernel
theorem dX2_all_15 : decode cX2_all 15 = .ok (.iload_n 2, 1) := by decide +kernel
theorem dX2_all_16 : decode cX2_all 16 = .ok (.iload 4, 2) := by decide +kernel
theorem dX2_all_18 : decode cX2_all 18 = .ok (.invokevirtual 55, 3) := by decide +kernel
theorem dX2_all_21 : decode cX2_all 21 = .ok (.iadd, 1) := by decide +kernel
theorem dX2_all_22 : decode cX2_all 22 = .ok (.istore_n 3, 1) := by decide +kernel
theorem dX2_all_23 : decode cX2_all 23 = .ok (.iinc 4 1, 3) := by decide +kernel
theorem dX2_all_26 : decode cX2_all 26 = .ok (.goto (-21), 3) := by decide +kernel
theorem dX2_all_29 : decode cX2_all 29 = .ok (.iload_n 3, 1) := by decide +kernel
theorem dX2_all_30 : decode cX2_all 30 = .ok (.ireturn, 1) := by decide +kernel
set_option maxRecDepth 20000 in
theorem ggX2_size_X2_in : GoodIn wsX2_size wsX2_in := goodIn_r _ [4] (by decide +kernel) (by decide +kernel)
set_option maxRecDepth 20000 in
theorem gX2_size_X2_in : GoodIn wsX2_size (va_wsS RX2 25 yX2_in wsX2_in) := goodIn_app (goodIn_of _ (by decide +kernel)) ggX2_size_X2_in
set_option maxRecDepth 20000 in
theorem ggX2_size_X2_fails : GoodIn wsX2_size wsX2_fails := goodIn_r _ [8, 9, 24, 25, 26, 27] (by decide +kernel) (by decide +kernel)
set_option maxRecDepth 20000 in
theorem gX2_size_X2_fails : GoodIn wsX2_size (wsV RX2 29 RX2 yX2_fails wsX2_fails) := goodIn_app (goodIn_of _ (by decide +kernel)) ggX2_size_X2_fails
set_option maxRecDepth 20000 in
theorem ggX2_size_X2_all : GoodIn wsX2_size wsX2_all := goodIn_r _ [13, 14, 15, 16, 3, 17, 18, 19, 20, 21, 22, 23, 24, 25, 26, 27] (by decide +kernel) (by decide +kernel)
set_option maxRecDepth 20000 in
theorem gX2_size_X2_all : GoodIn wsX2_size (wsV RX2 59 RX2 yX2_all wsX2_all) := goodIn_app (goodIn_of _ (by decide +kernel)) ggX2_size_X2_all
theorem dX2_size_0 : decode cX2_size 0 = .ok (.aload_n 0, 1) := by decide +kernel
theorem dX2_size_1 : decode cX2_size 1 = .ok (.iload_n 1, 1) := by decide +kernel
theorem dX2_size_2 : decode cX2_size 2 = .ok (.bipush 48, 2) := by decide +kernel
theorem dX2_size_4 : decode cX2_size 4 = .ok (.invokestatic 25, 3) := by decide +kernel
theorem dX2_size_7 : decode cX2_size 7 = .ok (.iconst 1, 1) := by decide +kernel
theorem dX2_size_8 : decode cX2_size 8 = .ok (.invokevirtual 29, 3) := by decide +kernel
theorem dX2_size_11 : decode cX2_size 11 = .ok (.ifCond .eq 7, 3) := by decide +kernel
theorem dX2_size_14 : decode cX2_size 14 = .ok (.iconst 0, 1) := by decide +kernel
theorem dX2_size_15 : decode cX2_size 15 = .ok (.goto 9, 3) := by decide +kernel
theorem dX2_size_18 : decode cX2_size 18 = .ok (.aload_n 0, 1) := by decide +kernel
theorem dX2_size_19 : decode cX2_size 19 = .ok (.iload_n 1, 1) := by decide +kernel
theorem dX2_size_20 : decode cX2_size 20 = .ok (.iload_n 1, 1) := by decide +kernel
theorem dX2_size_21 : decode cX2_size 21 = .ok (.invokevirtual 59, 3) := by decide +kernel
theorem dX2_size_24 : decode cX2_size 24 = .ok (.ireturn, 1) := by decide +kernel
set_option maxRecDepth 20000 in
theorem ggX2_sizes_X2_in : GoodIn wsX2_sizes wsX2_in := goodIn_r _ [4] (by decide +kernel) (by decide +kernel)
set_option maxRecDepth 20000 in
theorem gX2_sizes_X2_in : GoodIn wsX2_sizes (va_wsS RX2 25 yX2_in wsX2_in) := goodIn_app (goodIn_of _ (by decide +kernel)) ggX2_sizes_X2_in
set_option maxRecDepth 20000 in
theorem ggX2_sizes_X2_fails : GoodIn wsX2_sizes wsX2_fails := goodIn_r _ [8, 9, 24, 25, 26, 27] (by decide +kernel) (by decide +kernel)
set_option maxRecDepth 20000 in
theorem gX2_sizes_X2_fails : GoodIn wsX2_sizes (wsV RX2 29 RX2 yX2_fails wsX2_fails) := goodIn_app (goodIn_of _ (by decide +kernel)) ggX2_sizes_X2_fails
set_option maxRecDepth 20000 in
theorem ggX2_sizes_X2_all : GoodIn wsX2_sizes wsX2_all := goodIn_r _ [13, 14, 15, 16, 3, 17, 18, 19, 20, 21, 22, 23, 24, 25, 26, 27] (by decide +kernel) (by decide +kernel)
set_option maxRecDepth 20000 in
theorem gX2_sizes_X2_all : GoodIn wsX2_sizes (wsV RX2 59 RX2 yX2_all wsX2_all) := goodIn_app (goodIn_of _ (by decide +kernel)) ggX2_sizes_X2_all
theorem dX2_sizes_0 : decode cX2_sizes 0 = .ok (.aload_n 0, 1) := by decide +kernel
theorem dX2_sizes_1 : decode cX2_sizes 1 = .ok (.iload_n 1, 1) := by decide +kernel
theorem dX2_sizes_2 : decode cX2_sizes 2 = .ok (.bipush 48, 2) := by decide +kernel
theorem dX2_sizes_4 : decode cX2_sizes 4 = .ok (.invokestatic 25, 3) := by decide +kernel
theorem dX2_sizes_7 : decode cX2_sizes 7 = .ok (.ifCond .eq 16, 3) := by decide +kernel
theorem dX2_sizes_10 : decode cX2_sizes 10 = .ok (.iload_n 2, 1) := by decide +kernel
theorem dX2_sizes_11 : decode cX2_sizes 11 = .ok (.bipush 48, 2) := by decide +kernel
theorem dX2_sizes_13 : decode cX2_sizes 13 = .ok (.invokestatic 25, 3) := by decide +kernel
theorem dX2_sizes_16 : decode cX2_sizes 16 = .ok (.ifCond .eq 7, 3) := by decide +kernel
theorem dX2_sizes_19 : decode cX2_sizes 19 = .ok (.iconst 1, 1) := by decide +kernel
theorem dX2_sizes_20 : decode cX2_sizes 20 = .ok (.goto 4, 3) := by decide +kernel
theorem dX2_sizes_23 : decode cX2_sizes 23 = .ok (.iconst 0, 1) := by decide +kernel
theorem dX2_sizes_24 : decode cX2_sizes 24 = .ok (.iload_n 1, 1) := by decide +kernel
theorem dX2_sizes_25 : decode cX2_sizes 25 = .ok (.iload_n 2, 1) := by decide +kernel
theorem dX2_sizes_26 : decode cX2_sizes 26 = .ok (.if_icmp .gt 7, 3) := by decide +kernel
theorem dX2_sizes_29 : decode cX2_sizes 29 = .ok (.iconst 1, 1) := by decide +kernel
theorem dX2_sizes_30 : decode cX2_sizes 30 = .ok (.goto 4, 3) := by decide +kernel
theorem dX2_sizes_33 : decode cX2_sizes 33 = .ok (.iconst 0, 1) := by decide +kernel
theorem dX2_sizes_34 : decode cX2_sizes 34 = .ok (.invokevirtual 29, 3) := by decide +kernel
theorem dX2_sizes_37 : decode cX2_sizes 37 = .ok (.ifCond .eq 7, 3) := by decide +kernel
theorem dX2_sizes_40 : decode cX2_sizes 40 = .ok (.iconst 0, 1) := by decide +kernel
theorem dX2_sizes_41 : decode cX2_sizes 41 = .ok (.goto 9, 3) := by decide +kernel
theorem dX2_sizes_44 : decode cX2_sizes 44 = .ok (.aload_n 0, 1) := by decide +kernel
theorem dX2_sizes_45 : decode cX2_sizes 45 = .ok (.iload_n 1, 1) := by decide +kernel
theorem dX2_sizes_46 : decode cX2_sizes 46 = .ok (.iload_n 2, 1) := by decide +kernel
theorem dX2_sizes_47 : decode cX2_sizes 47 = .ok (.invokevirtual 59, 3) := by decide +kernel
theorem dX2_sizes_50 : decode cX2_sizes 50 = .ok (.ireturn, 1) := by decide +kernel
set_option maxRecDepth 20000 in
theorem ggX2_level_X2_in : GoodIn wsX2_level wsX2_in := goodIn_r _ [4] (by decide +kernel) (by decide +kernel)
set_option maxRecDepth 20000 in
theorem gX2_level_X2_in : GoodIn wsX2_level (va_wsS RX2 25 yX2_in wsX2_in) := goodIn_app (goodIn_of _ (by decide +kernel)) ggX2_level_X2_in
set_option maxRecDepth 20000 in
theorem ggX2_level_X2_fails : GoodIn wsX2_level wsX2_fails := goodIn_r _ [8, 9, 20, 21, 22, 23] (by decide +kernel) (by decide +kernel)
set_option maxRecDepth 20000 in
theorem gX2_level_X2_fails : GoodIn wsX2_level (wsV RX2 29 RX2 yX2_fails wsX2_fails) := goodIn_app (goodIn_of _ (by decide +kernel)) ggX2_level_X2_fails
set_option maxRecDepth 20000 in
theorem ggX2_level_X2_nodes : GoodIn wsX2_level wsX2_nodes := goodIn_r _ [13, 14, 15, 16, 17, 3, 18, 19, 20, 21, 22, 23] (by decide +kernel) (by decide +kernel)
set_option maxRecDepth 20000 in
theorem gX2_level_X2_nodes : GoodIn wsX2_level (wsV RX2 55 RX2 yX2_nodes wsX2_nodes) := goodIn_app (goodIn_of _ (by decide +kernel)) ggX2_level_X2_nodes
theorem dX2_level_0 : decode cX2_level 0 = .ok (.aload_n 0, 1) := by decide +kernel
theorem dX2_level_1 : decode cX2_level 1 = .ok (.iload_n 1, 1) := by decide +kernel
theorem dX2_level_2 : decode cX2_level 2 = .ok (.bipush 48, 2) := by decide +kernel
theorem dX2_level_4 : decode cX2_level 4 = .ok (.invokestatic 25, 3) := by decide +kernel
theorem dX2_level_7 : decode cX2_level 7 = .ok (.iload_n 2, 1) := by decide +kernel
theorem dX2_level_8 : decode cX2_level 8 = .ok (.bipush 10, 2) := by decide +kernel
theorem dX2_level_10 : decode cX2_level 10 = .ok (.invokestatic 25, 3) := by decide +kernel
theorem dX2_level_13 : decode cX2_level 13 = .ok (.invokevirtual 29, 3) := by decide +kernel
theorem dX2_level_16 : decode cX2_level 16 = .ok (.ifCond .eq 7, 3) := by decide +kernel
theorem dX2_level_19 : decode cX2_level 19 = .ok (.iconst 0, 1) := by decide +kernel
theorem dX2_level_20 : decode cX2_level 20 = .ok (.goto 10, 3) := by decide +kernel
theorem dX2_level_23 : decode cX2_level 23 = .ok (.aload_n 0, 1) := by decide +kernel
theorem dX2_level_24 : decode cX2_level 24 = .ok (.iload_n 1, 1) := by decide +kernel
theorem dX2_level_25 : decode cX2_level 25 = .ok (.iload_n 1, 1) := by decide +kernel
theorem dX2_level_26 : decode cX2_level 26 = .ok (.iload_n 2, 1) := by decide +kernel
theorem dX2_level_27 : decode cX2_level 27 = .ok (.invokevirtual 55, 3) := by decide +kernel
theorem dX2_level_30 : decode cX2_level 30 = .ok (.ireturn, 1) := by decide +kernel
theorem dJ13_bitCount_95d88_0 : decode cJ13_bitCount_95d88 0 = .ok (.lload_n 0, 1) := by decide +kernel
theorem dJ13_bitCount_95d88_1 : decode cJ13_bitCount_95d88 1 = .ok (.lload_n 0, 1) := by decide +kernel
theorem dJ13_bitCount_95d88_2 : decode cJ13_bitCount_95d88 2 = .ok (.iconst 1, 1) := by decide +kernel
theorem dJ13_bitCount_95d88_3 : decode cJ13_bitCount_95d88 3 = .ok (.lushr, 1) := by decide +kernel
theorem dJ13_bitCount_95d88_4 : decode cJ13_bitCount_95d88 4 = .ok (.ldc2_w 314, 3) := by decide +kernel
theorem dJ13_bitCount_95d88_7 : decode cJ13_bitCount_95d88 7 = .ok (.land, 1) := by decide +kernel
theorem dJ13_bitCount_95d88_8 : decode cJ13_bitCount_95d88 8 = .ok (.lsub, 1) := by decide +kernel
theorem dJ13_bitCount_95d88_9 : decode cJ13_bitCount_95d88 9 = .ok (.lstore_n 0, 1) := by decide +kernel
theorem dJ13_bitCount_95d88_10 : decode cJ13_bitCount_95d88 10 = .ok (.lload_n 0, 1) := by decide +kernel
theorem dJ13_bitCount_95d88_11 : decode cJ13_bitCount_95d88 11 = .ok (.ldc2_w 316, 3) := by decide +kernel
theorem dJ13_bitCount_95d88_14 : decode cJ13_bitCount_95d88 14 = .ok (.land, 1) := by decide +kernel
theorem dJ13_bitCount_95d88_15 : decode cJ13_bitCount_95d88 15 = .ok (.lload_n 0, 1) := by decide +kernel
theorem dJ13_bitCount_95d88_16 : decode cJ13_bitCount_95d88 16 = .ok (.iconst 2, 1) := by decide +kernel
theorem dJ13_bitCount_95d88_17 : decode cJ13_bitCount_95d88 17 = .ok (.lushr, 1) := by decide +kernel
theorem dJ13_bitCount_95d88_18 : decode cJ13_bitCount_95d88 18 = .ok (.ldc2_w 316, 3) := by decide +kernel
theorem dJ13_bitCount_95d88_21 : decode cJ13_bitCount_95d88 21 = .ok (.land, 1) := by decide +kernel
theorem dJ13_bitCount_95d88_22 : decode cJ13_bitCount_95d88 22 = .ok (.ladd, 1) := by decide +kernel
theorem dJ13_bitCount_95d88_23 : decode cJ13_bitCount_95d88 23 = .ok (.lstore_n 0, 1) := by decide +kernel
theorem dJ13_bitCount_95d88_24 : decode cJ13_bitCount_95d88 24 = .ok (.lload_n 0, 1) := by decide +kernel
theorem dJ13_bitCount_95d88_25 : decode cJ13_bitCount_95d88 25 = .ok (.lload_n 0, 1) := by decide +kernel
theorem dJ13_bitCount_95d88_26 : decode cJ13_bitCount_95d88 26 = .ok (.iconst 4, 1) := by decide +kernel
theorem dJ13_bitCount_95d88_27 : decode cJ13_bitCount_95d88 27 = .ok (.lushr, 1) := by decide +kernel
theorem dJ13_bitCount_95d88_28 : decode cJ13_bitCount_95d88 28 = .ok (.ladd, 1) := by decide +kernel
theorem dJ13_bitCount_95d88_29 : decode cJ13_bitCount_95d88 29 = .ok (.ldc2_w 318, 3) := by decide +kernel
theorem dJ13_bitCount_95d88_32 : decode cJ13_bitCount_95d88 32 = .ok (.land, 1) := by decide +kernel
theorem dJ13_bitCount_95d88_33 : decode cJ13_bitCount_95d88 33 = .ok (.lstore_n 0, 1) := by decide +kernel
theorem dJ13_bitCount_95d88_34 : decode cJ13_bitCount_95d88 34 = .ok (.lload_n 0, 1) := by decide +kernel
theorem dJ13_bitCount_95d88_35 : decode cJ13_bitCount_95d88 35 = .ok (.lload_n 0, 1) := by decide +kernel
theorem dJ13_bitCount_95d88_36 : decode cJ13_bitCount_95d88 36 = .ok (.bipush 8, 2) := by decide +kernel
theorem dJ13_bitCount_95d88_38 : decode cJ13_bitCount_95d88 38 = .ok (.lushr, 1) := by decide +kernel
theorem dJ13_bitCount_95d88_39 : decode cJ13_bitCount_95d88 39 = .ok (.ladd, 1) := by decide +kernel
theorem dJ13_bitCount_95d88_40 : decode cJ13_bitCount_95d88 40 = .ok (.lstore_n 0, 1) := by decide +kernel
theorem dJ13_bitCount_95d88_41 : decode cJ13_bitCount_95d88 41 = .ok (.lload_n 0, 1) := by decide +kernel
theorem dJ13_bitCount_95d88_42 : decode cJ13_bitCount_95d88 42 = .ok (.lload_n 0, 1) := by decide +kernel
theorem dJ13_bitCount_95d88_43 : decode cJ13_bitCount_95d88 43 = .ok (.bipush 16, 2) := by decide +kernel
theorem dJ13_bitCount_95d88_45 : decode cJ13_bitCount_95d88 45 = .ok (.lushr, 1) := by decide +kernel
theorem dJ13_bitCount_95d88_46 : decode cJ13_bitCount_95d88 46 = .ok (.ladd, 1) := by decide +kernel
theorem dJ13_bitCount_95d88_47 : decode cJ13_bitCount_95d88 47 = .ok (.lstore_n 0, 1) := by decide +kernel
theorem dJ13_bitCount_95d88_48 : decode cJ13_bitCount_95d88 48 = .ok (.lload_n 0, 1) := by decide +kernel
theorem dJ13_bitCount_95d88_49 : decode cJ13_bitCount_95d88 49 = .ok (.lload_n 0, 1) := by decide +kernel
theorem dJ13_bitCount_95d88_50 : decode cJ13_bitCount_95d88 50 = .ok (.bipush 32, 2) := by decide +kernel
theorem dJ13_bitCount_95d88_52 : decode cJ13_bitCount_95d88 52 = .ok (.lushr, 1) := by decide +kernel
theorem dJ13_bitCount_95d88_53 : decode cJ13_bitCount_95d88 53 = .ok (.ladd, 1) := by decide +kernel
theorem dJ13_bitCount_95d88_54 : decode cJ13_bitCount_95d88 54 = .ok (.lstore_n 0, 1) := by decide +kernel
theorem dJ13_bitCount_95d88_55 : decode cJ13_bitCount_95d88 55 = .ok (.lload_n 0, 1) := by decide +kernel
theorem dJ13_bitCount_95d88_56 : decode cJ13_bitCount_95d88 56 = .ok (.l2i, 1) := by decide +kernel
theorem dJ13_bitCount_95d88_57 : decode cJ13_bitCount_95d88 57 = .ok (.bipush 127, 2) := by decide +kernel
theorem dJ13_bitCount_95d88_59 : decode cJ13_bitCount_95d88 59 = .ok (.iand, 1) := by decide +kernel
theorem dJ13_bitCount_95d88_60 : decode cJ13_bitCount_95d88 60 = .ok (.ireturn, 1) := by decide +kernel
set_option maxRecDepth 20000 in
theorem ggL_constant_X1_constant : GoodIn wsL_constant wsX1_constant := goodIn_ca (goodIn_r _ [6, 7, 8, 9, 10, 5, 11, 12, 13, 14, 15, 16, 17, 18, 19] (by decide +kernel) (by decide +kernel)) (goodIn_sub (fun _ h => List.mem_cons_of_mem _ (List.mem_append_right _ h)) (by decide +kernel))
set_option maxRecDepth 20000 in
theorem gL_constant_X1_constant : GoodIn wsL_constant (wsV RL 7 RX1 yX1_constant wsX1_constant) := goodIn_app (goodIn_of _ (by decide +kernel)) ggL_constant_X1_constant
theorem dL_constant_0 : decode cL_constant 0 = .ok (.aload_n 0, 1) := by decide +kernel
theorem dL_constant_1 : decode cL_constant 1 = .ok (.iload_n 1, 1) := by decide +kernel
theorem dL_constant_2 : decode cL_constant 2 = .ok (.iload_n 2, 1) := by decide +kernel
theorem dL_constant_3 : decode cL_constant 3 = .ok (.invokevirtual 7, 3) := by decide +kernel
theorem dL_constant_6 : decode cL_constant 6 = .ok (.goto 6, 3) := by decide +kernel
theorem dL_constant_9 : decode cL_constant 9 = .ok (.astore_n 3, 1) := by decide +kernel
theorem dL_constant_10 : decode cL_constant 10 = .ok (.iconst 1, 1) := by decide +kernel
theorem dL_constant_11 : decode cL_constant 11 = .ok (.ireturn, 1) := by decide +kernel
theorem dL_constant_12 : decode cL_constant 12 = .ok (.iconst 0, 1) := by decide +kernel
theorem dL_constant_13 : decode cL_constant 13 = .ok (.ireturn, 1) := by decide +kernel
set_option maxRecDepth 20000 in
theorem ggL_variable_X1_variable : GoodIn wsL_variable wsX1_variable := goodIn_ca (goodIn_ca (goodIn_r _ [7, 8, 9, 10, 6, 11, 12, 13, 14, 15, 16, 17, 18, 19, 20, 21, 22, 23, 24, 25, 26, 27, 28, 29, 30, 31] (by decide +kernel) (by decide +kernel)) (goodIn_sub (fun _ h => List.mem_cons_of_mem _ (List.mem_append_left _ (List.mem_append_right _ h))) (by decide +kernel))) (goodIn_sub (fun _ h => List.mem_cons_of_mem _ (List.mem_append_right _ h)) (by decide +kernel))
set_option maxRecDepth 20000 in
theorem gL_variable_X1_variable : GoodIn wsL_variable (wsV RL 15 RX1 yX1_variable wsX1_variable) := goodIn_app (goodIn_of _ (by decide +kernel)) ggL_variable_X1_variable
theorem dL_variable_0 : decode cL_variable 0 = .ok (.aload_n 0, 1) := by decide +kernel
theorem dL_variable_1 : decode cL_variable 1 = .ok (.iload_n 1, 1) := by decide +kernel
theorem dL_variable_2 : decode cL_variable 2 = .ok (.iload_n 2, 1) := by decide +kernel
theorem dL_variable_3 : decode cL_variable 3 = .ok (.invokevirtual 15, 3) := by decide +kernel
theorem dL_variable_6 : decode cL_variable 6 = .ok (.goto 9, 3) := by decide +kernel
theorem dL_variable_9 : decode cL_variable 9 = .ok (.astore_n 3, 1) := by decide +kernel
theorem dL_variable_10 : decode cL_variable 10 = .ok (.iconst 1, 1) := by decide +kernel
theorem dL_variable_11 : decode cL_variable 11 = .ok (.ireturn, 1) := by decide +kernel
theorem dL_variable_12 : decode cL_variable 12 = .ok (.astore_n 3, 1) := by decide +kernel
theorem dL_variable_13 : decode cL_variable 13 = .ok (.iconst 2, 1) := by decide +kernel
theorem dL_variable_14 : decode cL_variable 14 = .ok (.ireturn, 1) := by decide +kernel
theorem dL_variable_15 : decode cL_variable 15 = .ok (.iconst 0, 1) := by decide +kernel
theorem dL_variable_16 : decode cL_variable 16 = .ok (.ireturn, 1) := by decide +kernel
set_option maxRecDepth 20000 in
theorem ggL_join_X1_join : GoodIn wsL_join wsX1_join := goodIn_ca (goodIn_ca (goodIn_r _ [7, 8, 9, 10, 11, 12, 13, 6, 14, 15, 16, 17, 18, 19, 20, 21, 22, 23, 24, 25] (by decide +kernel) (by decide +kernel)) (goodIn_sub (fun _ h => List.mem_cons_of_mem _ (List.mem_append_left _ (List.mem_append_right _ h))) (by decide +kernel))) (goodIn_sub (fun _ h => List.mem_cons_of_mem _ (List.mem_append_right _ h)) (by decide +kernel))
set_option maxRecDepth 20000 in
theorem gL_join_X1_join : GoodIn wsL_join (wsV RL 21 RX1 yX1_join wsX1_join) := goodIn_app (goodIn_of _ (by decide +kernel)) ggL_join_X1_join
theorem dL_join_0 : decode cL_join 0 = .ok (.aload_n 0, 1) := by decide +kernel
theorem dL_join_1 : decode cL_join 1 = .ok (.iload_n 1, 1) := by decide +kernel
theorem dL_join_2 : decode cL_join 2 = .ok (.iload_n 2, 1) := by decide +kernel
theorem dL_join_3 : decode cL_join 3 = .ok (.iload_n 3, 1) := by decide +kernel
theorem dL_join_4 : decode cL_join 4 = .ok (.iload 4, 2) := by decide +kernel
theorem dL_join_6 : decode cL_join 6 = .ok (.invokevirtual 21, 3) := by decide +kernel
theorem dL_join_9 : decode cL_join 9 = .ok (.goto 11, 3) := by decide +kernel
theorem dL_join_12 : decode cL_join 12 = .ok (.astore 5, 2) := by decide +kernel
theorem dL_join_14 : decode cL_join 14 = .ok (.iconst 1, 1) := by decide +kernel
theorem dL_join_15 : decode cL_join 15 = .ok (.ireturn, 1) := by decide +kernel
theorem dL_join_16 : decode cL_join 16 = .ok (.astore 5, 2) := by decide +kernel
theorem dL_join_18 : decode cL_join 18 = .ok (.iconst 2, 1) := by decide +kernel
theorem dL_join_19 : decode cL_join 19 = .ok (.ireturn, 1) := by decide +kernel
theorem dL_join_20 : decode cL_join 20 = .ok (.iconst 0, 1) := by decide +kernel
theorem dL_join_21 : decode cL_join 21 = .ok (.ireturn, 1) := by decide +kernel
set_option maxRecDepth 20000 in
theorem ggL_choose_X1_choose : GoodIn wsL_choose wsX1_choose := goodIn_ca (goodIn_r _ [6, 7, 8, 9, 5, 10, 11, 12, 13, 14, 15, 16, 17, 18, 19, 20, 21, 22] (by decide +kernel) (by decide +kernel)) (goodIn_sub (fun _ h => List.mem_cons_of_mem _ (List.mem_append_right _ h)) (by decide +kernel))
set_option maxRecDepth 20000 in
theorem gL_choose_X1_choose : GoodIn wsL_choose (wsV RL 25 RX1 yX1_choose wsX1_choose) := goodIn_app (goodIn_of _ (by decide +kernel)) ggL_choose_X1_choose
theorem dL_choose_0 : decode cL_choose 0 = .ok (.aload_n 0, 1) := by decide +kernel
theorem dL_choose_1 : decode cL_choose 1 = .ok (.iload_n 1, 1) := by decide +kernel
theorem dL_choose_2 : decode cL_choose 2 = .ok (.iload_n 2, 1) := by decide +kernel
theorem dL_choose_3 : decode cL_choose 3 = .ok (.iload_n 3, 1) := by decide +kernel
theorem dL_choose_4 : decode cL_choose 4 = .ok (.iload 4, 2) := by decide +kernel
theorem dL_choose_6 : decode cL_choose 6 = .ok (.invokevirtual 25, 3) := by decide +kernel
theorem dL_choose_9 : decode cL_choose 9 = .ok (.goto 7, 3) := by decide +kernel
theorem dL_choose_12 : decode cL_choose 12 = .ok (.astore 5, 2) := by decide +kernel
theorem dL_choose_14 : decode cL_choose 14 = .ok (.iconst 1, 1) := by decide +kernel
theorem dL_choose_15 : decode cL_choose 15 = .ok (.ireturn, 1) := by decide +kernel
theorem dL_choose_16 : decode cL_choose 16 = .ok (.iconst 0, 1) := by decide +kernel
theorem dL_choose_17 : decode cL_choose 17 = .ok (.ireturn, 1) := by decide +kernel
set_option maxRecDepth 20000 in
theorem ggL_fix_X1_fix : GoodIn wsL_fix wsX1_fix := goodIn_ca (goodIn_ca (goodIn_r _ [7, 8, 9, 10, 11, 12, 6, 13, 14, 15, 16, 17, 18, 19, 20, 21, 22, 23, 24, 25, 26, 27, 28, 29, 30, 31, 32, 33, 34, 35, 36, 37, 38, 39, 40, 41, 42, 43, 44, 45, 46, 47, 48, 49, 50, 51, 52] (by decide +kernel) (by decide +kernel)) (goodIn_sub (fun _ h => List.mem_cons_of_mem _ (List.mem_append_left _ (List.mem_append_right _ h))) (by decide +kernel))) (goodIn_sub (fun _ h => List.mem_cons_of_mem _ (List.mem_append_right _ h)) (by decide +kernel))
set_option maxRecDepth 20000 in
theorem gL_fix_X1_fix : GoodIn wsL_fix (wsV RL 28 RX1 yX1_fix wsX1_fix) := goodIn_app (goodIn_of _ (by decide +kernel)) ggL_fix_X1_fix
theorem dL_fix_0 : decode cL_fix 0 = .ok (.aload_n 0, 1) := by decide +kernel
theorem dL_fix_1 : decode cL_fix 1 = .ok (.iload_n 1, 1) := by decide +kernel
theorem dL_fix_2 : decode cL_fix 2 = .ok (.iload_n 2, 1) := by decide +kernel
theorem dL_fix_3 : decode cL_fix 3 = .ok (.iload_n 3, 1) := by decide +kernel
theorem dL_fix_4 : decode cL_fix 4 = .ok (.iload 4, 2) := by decide +kernel
theorem dL_fix_6 : decode cL_fix 6 = .ok (.invokevirtual 28, 3) := by decide +kernel
theorem dL_fix_9 : decode cL_fix 9 = .ok (.goto 11, 3) := by decide +kernel
theorem dL_fix_12 : decode cL_fix 12 = .ok (.astore 5, 2) := by decide +kernel
theorem dL_fix_14 : decode cL_fix 14 = .ok (.iconst 1, 1) := by decide +kernel
theorem dL_fix_15 : decode cL_fix 15 = .ok (.ireturn, 1) := by decide +kernel
theorem dL_fix_16 : decode cL_fix 16 = .ok (.astore 5, 2) := by decide +kernel
theorem dL_fix_18 : decode cL_fix 18 = .ok (.iconst 2, 1) := by decide +kernel
theorem dL_fix_19 : decode cL_fix 19 = .ok (.ireturn, 1) := by decide +kernel
theorem dL_fix_20 : decode cL_fix 20 = .ok (.iconst 0, 1) := by decide +kernel
theorem dL_fix_21 : decode cL_fix 21 = .ok (.ireturn, 1) := by decide +kernel
set_option maxRecDepth 20000 in
theorem ggL_some_X1_some : GoodIn wsL_some wsX1_some := goodIn_ca (goodIn_ca (goodIn_r _ [7, 8, 9, 10, 11, 12, 13, 6, 14, 15, 16, 17, 18, 19, 20, 21, 22, 23, 24, 25, 26, 27, 28, 29, 30, 31, 32, 33, 34, 35, 36, 37, 38, 39, 40, 41] (by decide +kernel) (by decide +kernel)) (goodIn_sub (fun _ h => List.mem_cons_of_mem _ (List.mem_append_left _ (List.mem_append_right _ h))) (by decide +kernel))) (goodIn_sub (fun _ h => List.mem_cons_of_mem _ (List.mem_append_right _ h)) (by decide +kernel))
set_option maxRecDepth 20000 in
theorem gL_some_X1_some : GoodIn wsL_some (wsV RL 32 RX1 yX1_some wsX1_some) := goodIn_app (goodIn_of _ (by decide +kernel)) ggL_some_X1_some
theorem dL_some_0 : decode cL_some 0 = .ok (.aload_n 0, 1) := by decide +kernel
theorem dL_some_1 : decode cL_some 1 = .ok (.iload_n 1, 1) := by decide +kernel
theorem dL_some_2 : decode cL_some 2 = .ok (.iload_n 2, 1) := by decide +kernel
theorem dL_some_3 : decode cL_some 3 = .ok (.iload_n 3, 1) := by decide +kernel
theorem dL_some_4 : decode cL_some 4 = .ok (.iload 4, 2) := by decide +kernel
theorem dL_some_6 : decode cL_some 6 = .ok (.invokevirtual 32, 3) := by decide +kernel
theorem dL_some_9 : decode cL_some 9 = .ok (.goto 11, 3) := by decide +kernel
theorem dL_some_12 : decode cL_some 12 = .ok (.astore 5, 2) := by decide +kernel
theorem dL_some_14 : decode cL_some 14 = .ok (.iconst 1, 1) := by decide +kernel
theorem dL_some_15 : decode cL_some 15 = .ok (.ireturn, 1) := by decide +kernel
theorem dL_some_16 : decode cL_some 16 = .ok (.astore 5, 2) := by decide +kernel
theorem dL_some_18 : decode cL_some 18 = .ok (.iconst 2, 1) := by decide +kernel
theorem dL_some_19 : decode cL_some 19 = .ok (.ireturn, 1) := by decide +kernel
theorem dL_some_20 : decode cL_some 20 = .ok (.iconst 0, 1) := by decide +kernel
theorem dL_some_21 : decode cL_some 21 = .ok (.ireturn, 1) := by decide +kernel
set_option maxRecDepth 20000 in
theorem ggL_put_X1_put : GoodIn wsL_put wsX1_put := goodIn_ca (goodIn_ca (goodIn_r _ [7, 8, 9, 10, 11, 6, 12, 13, 14, 15, 16, 17, 18, 19, 20, 21, 22, 23, 24, 25, 26, 27, 28, 29, 30, 31, 32, 33, 34, 35, 36, 37, 38, 39, 40, 41, 42, 43, 44, 45, 46, 47, 48, 49, 50, 51, 52] (by decide +kernel) (by decide +kernel)) (goodIn_sub (fun _ h => List.mem_cons_of_mem _ (List.mem_append_left _ (List.mem_append_right _ h))) (by decide +kernel))) (goodIn_sub (fun _ h => List.mem_cons_of_mem _ (List.mem_append_right _ h)) (by decide +kernel))
set_option maxRecDepth 20000 in
theorem gL_put_X1_put : GoodIn wsL_put (wsV RL 35 RX1 yX1_put wsX1_put) := goodIn_app (goodIn_of _ (by decide +kernel)) ggL_put_X1_put
theorem dL_put_0 : decode cL_put 0 = .ok (.aload_n 0, 1) := by decide +kernel
theorem dL_put_1 : decode cL_put 1 = .ok (.iload_n 1, 1) := by decide +kernel
theorem dL_put_2 : decode cL_put 2 = .ok (.iload_n 2, 1) := by decide +kernel
theorem dL_put_3 : decode cL_put 3 = .ok (.iload_n 3, 1) := by decide +kernel
theorem dL_put_4 : decode cL_put 4 = .ok (.iload 4, 2) := by decide +kernel
theorem dL_put_6 : decode cL_put 6 = .ok (.invokevirtual 35, 3) := by decide +kernel
theorem dL_put_9 : decode cL_put 9 = .ok (.goto 11, 3) := by decide +kernel
theorem dL_put_12 : decode cL_put 12 = .ok (.astore 5, 2) := by decide +kernel
theorem dL_put_14 : decode cL_put 14 = .ok (.iconst 1, 1) := by decide +kernel
theorem dL_put_15 : decode cL_put 15 = .ok (.ireturn, 1) := by decide +kernel
theorem dL_put_16 : decode cL_put 16 = .ok (.astore 5, 2) := by decide +kernel
theorem dL_put_18 : decode cL_put 18 = .ok (.iconst 2, 1) := by decide +kernel
theorem dL_put_19 : decode cL_put 19 = .ok (.ireturn, 1) := by decide +kernel
theorem dL_put_20 : decode cL_put 20 = .ok (.iconst 0, 1) := by decide +kernel
theorem dL_put_21 : decode cL_put 21 = .ok (.ireturn, 1) := by decide +kernel
set_option maxRecDepth 20000 in
theorem ggL_swap_X1_swap : GoodIn wsL_swap wsX1_swap := goodIn_ca (goodIn_ca (goodIn_r _ [7, 8, 9, 10, 11, 12, 6, 13, 14, 15, 16, 17, 18, 19, 20, 21, 22, 23, 24, 25, 26, 27, 28, 29, 30, 31, 32, 33, 34, 35, 36, 37, 38, 39, 40, 41, 42, 43, 44, 45, 46, 47, 48, 49, 50] (by decide +kernel) (by decide +kernel)) (goodIn_sub (fun _ h => List.mem_cons_of_mem _ (List.mem_append_left _ (List.mem_append_right _ h))) (by decide +kernel))) (goodIn_sub (fun _ h => List.mem_cons_of_mem _ (List.mem_append_right _ h)) (by decide +kernel))
set_option maxRecDepth 20000 in
theorem gL_swap_X1_swap : GoodIn wsL_swap (wsV RL 38 RX1 yX1_swap wsX1_swap) := goodIn_app (goodIn_of _ (by decide +kernel)) ggL_swap_X1_swap
theorem dL_swap_0 : decode cL_swap 0 = .ok (.aload_n 0, 1) := by decide +kernel
theorem dL_swap_1 : decode cL_swap 1 = .ok (.iload_n 1, 1) := by decide +kernel
theorem dL_swap_2 : decode cL_swap 2 = .ok (.iload_n 2, 1) := by decide +kernel
theorem dL_swap_3 : decode cL_swap 3 = .ok (.iload_n 3, 1) := by decide +kernel
theorem dL_swap_4 : decode cL_swap 4 = .ok (.iload 4, 2) := by decide +kernel
theorem dL_swap_6 : decode cL_swap 6 = .ok (.invokevirtual 38, 3) := by decide +kernel
theorem dL_swap_9 : decode cL_swap 9 = .ok (.goto 11, 3) := by decide +kernel
theorem dL_swap_12 : decode cL_swap 12 = .ok (.astore 5, 2) := by decide +kernel
theorem dL_swap_14 : decode cL_swap 14 = .ok (.iconst 1, 1) := by decide +kernel
theorem dL_swap_15 : decode cL_swap 15 = .ok (.ireturn, 1) := by decide +kernel
theorem dL_swap_16 : decode cL_swap 16 = .ok (.astore 5, 2) := by decide +kernel
theorem dL_swap_18 : decode cL_swap 18 = .ok (.iconst 2, 1) := by decide +kernel
theorem dL_swap_19 : decode cL_swap 19 = .ok (.ireturn, 1) := by decide +kernel
theorem dL_swap_20 : decode cL_swap 20 = .ok (.iconst 0, 1) := by decide +kernel
theorem dL_swap_21 : decode cL_swap 21 = .ok (.ireturn, 1) := by decide +kernel
set_option maxRecDepth 20000 in
theorem ggL_nearest_X1_nearest : GoodIn wsL_nearest wsX1_nearest := goodIn_ca (goodIn_ca (goodIn_r _ [7, 8, 9, 10, 11, 12, 13, 14, 6, 15, 16, 17, 18, 19, 20, 21, 22, 23, 24, 25, 26, 27, 28, 29, 30, 31, 32, 33, 34, 35, 36, 37, 38, 39, 40, 41, 42, 43, 44, 45, 46, 47, 48, 49, 50] (by decide +kernel) (by decide +kernel)) (goodIn_sub (fun _ h => List.mem_cons_of_mem _ (List.mem_append_left _ (List.mem_append_right _ h))) (by decide +kernel))) (goodIn_sub (fun _ h => List.mem_cons_of_mem _ (List.mem_append_right _ h)) (by decide +kernel))
set_option maxRecDepth 20000 in
theorem gL_nearest_X1_nearest : GoodIn wsL_nearest (wsV RL 41 RX1 yX1_nearest wsX1_nearest) := goodIn_app (goodIn_of _ (by decide +kernel)) ggL_nearest_X1_nearest
theorem dL_nearest_0 : decode cL_nearest 0 = .ok (.aload_n 0, 1) := by decide +kernel
theorem dL_nearest_1 : decode cL_nearest 1 = .ok (.iload_n 1, 1) := by decide +kernel
theorem dL_nearest_2 : decode cL_nearest 2 = .ok (.iload_n 2, 1) := by decide +kernel
theorem dL_nearest_3 : decode cL_nearest 3 = .ok (.iload_n 3, 1) := by decide +kernel
theorem dL_nearest_4 : decode cL_nearest 4 = .ok (.invokevirtual 41, 3) := by decide +kernel
theorem dL_nearest_7 : decode cL_nearest 7 = .ok (.goto 11, 3) := by decide +kernel
theorem dL_nearest_10 : decode cL_nearest 10 = .ok (.astore 4, 2) := by decide +kernel
theorem dL_nearest_12 : decode cL_nearest 12 = .ok (.iconst 1, 1) := by decide +kernel
theorem dL_nearest_13 : decode cL_nearest 13 = .ok (.ireturn, 1) := by decide +kernel
theorem dL_nearest_14 : decode cL_nearest 14 = .ok (.astore 4, 2) := by decide +kernel
theorem dL_nearest_16 : decode cL_nearest 16 = .ok (.iconst 2, 1) := by decide +kernel
theorem dL_nearest_17 : decode cL_nearest 17 = .ok (.ireturn, 1) := by decide +kernel
theorem dL_nearest_18 : decode cL_nearest 18 = .ok (.iconst 0, 1) := by decide +kernel
theorem dL_nearest_19 : decode cL_nearest 19 = .ok (.ireturn, 1) := by decide +kernel
set_option maxRecDepth 20000 in
theorem ggL_isSame_X1_isSame : GoodIn wsL_isSame wsX1_isSame := goodIn_ca (goodIn_r _ [6, 7, 8, 9, 5, 10, 11, 12, 13, 14, 15, 16, 17, 18] (by decide +kernel) (by decide +kernel)) (goodIn_sub (fun _ h => List.mem_cons_of_mem _ (List.mem_append_right _ h)) (by decide +kernel))
set_option maxRecDepth 20000 in
theorem gL_isSame_X1_isSame : GoodIn wsL_isSame (wsV RL 45 RX1 yX1_isSame wsX1_isSame) := goodIn_app (goodIn_of _ (by decide +kernel)) ggL_isSame_X1_isSame
theorem dL_isSame_0 : decode cL_isSame 0 = .ok (.aload_n 3, 1) := by decide +kernel
theorem dL_isSame_1 : decode cL_isSame 1 = .ok (.iconst 0, 1) := by decide +kernel
theorem dL_isSame_2 : decode cL_isSame 2 = .ok (.aload_n 0, 1) := by decide +kernel
theorem dL_isSame_3 : decode cL_isSame 3 = .ok (.iload_n 1, 1) := by decide +kernel
theorem dL_isSame_4 : decode cL_isSame 4 = .ok (.iload_n 2, 1) := by decide +kernel
theorem dL_isSame_5 : decode cL_isSame 5 = .ok (.invokevirtual 45, 3) := by decide +kernel
theorem dL_isSame_8 : decode cL_isSame 8 = .ok (.ifCond .eq 7, 3) := by decide +kernel
theorem dL_isSame_11 : decode cL_isSame 11 = .ok (.lconst 1, 1) := by decide +kernel
theorem dL_isSame_12 : decode cL_isSame 12 = .ok (.goto 4, 3) := by decide +kernel
theorem dL_isSame_15 : decode cL_isSame 15 = .ok (.lconst 0, 1) := by decide +kernel
theorem dL_isSame_16 : decode cL_isSame 16 = .ok (.lastore, 1) := by decide +kernel
theorem dL_isSame_17 : decode cL_isSame 17 = .ok (.goto 7, 3) := by decide +kernel
theorem dL_isSame_20 : decode cL_isSame 20 = .ok (.astore 4, 2) := by decide +kernel
theorem dL_isSame_22 : decode cL_isSame 22 = .ok (.iconst 1, 1) := by decide +kernel
theorem dL_isSame_23 : decode cL_isSame 23 = .ok (.ireturn, 1) := by decide +kernel
theorem dL_isSame_24 : decode cL_isSame 24 = .ok (.iconst 0, 1) := by decide +kernel
theorem dL_isSame_25 : decode cL_isSame 25 = .ok (.ireturn, 1) := by decide +kernel
set_option maxRecDepth 20000 in
theorem ggL_truth_X1_truth : GoodIn wsL_truth wsX1_truth := goodIn_ca (goodIn_ca (goodIn_r _ [7, 8, 9, 10, 6, 11, 12, 13, 14, 15, 16, 17, 18, 19, 20, 21, 22, 23, 24] (by decide +kernel) (by decide +kernel)) (goodIn_sub (fun _ h => List.mem_cons_of_mem _ (List.mem_append_left _ (List.mem_append_right _ h))) (by decide +kernel))) (goodIn_sub (fun _ h => List.mem_cons_of_mem _ (List.mem_append_right _ h)) (by decide +kernel))
set_option maxRecDepth 20000 in
theorem gL_truth_X1_truth : GoodIn wsL_truth (wsV RL 49 RX1 yX1_truth wsX1_truth) := goodIn_app (goodIn_of _ (by decide +kernel)) ggL_truth_X1_truth
theorem dL_truth_0 : decode cL_truth 0 = .ok (.aload_n 3, 1) := by decide +kernel
theorem dL_truth_1 : decode cL_truth 1 = .ok (.iconst 0, 1) := by decide +kernel
theorem dL_truth_2 : decode cL_truth 2 = .ok (.aload_n 0, 1) := by decide +kernel
theorem dL_truth_3 : decode cL_truth 3 = .ok (.iload_n 1, 1) := by decide +kernel
theorem dL_truth_4 : decode cL_truth 4 = .ok (.iload_n 2, 1) := by decide +kernel
theorem dL_truth_5 : decode cL_truth 5 = .ok (.invokevirtual 49, 3) := by decide +kernel
theorem dL_truth_8 : decode cL_truth 8 = .ok (.ifCond .eq 7, 3) := by decide +kernel
theorem dL_truth_11 : decode cL_truth 11 = .ok (.lconst 1, 1) := by decide +kernel
theorem dL_truth_12 : decode cL_truth 12 = .ok (.goto 4, 3) := by decide +kernel
theorem dL_truth_15 : decode cL_truth 15 = .ok (.lconst 0, 1) := by decide +kernel
theorem dL_truth_16 : decode cL_truth 16 = .ok (.lastore, 1) := by decide +kernel
theorem dL_truth_17 : decode cL_truth 17 = .ok (.goto 11, 3) := by decide +kernel
theorem dL_truth_20 : decode cL_truth 20 = .ok (.astore 4, 2) := by decide +kernel
theorem dL_truth_22 : decode cL_truth 22 = .ok (.iconst 1, 1) := by decide +kernel
theorem dL_truth_23 : decode cL_truth 23 = .ok (.ireturn, 1) := by decide +kernel
theorem dL_truth_24 : decode cL_truth 24 = .ok (.astore 4, 2) := by decide +kernel
theorem dL_truth_26 : decode cL_truth 26 = .ok (.iconst 2, 1) := by decide +kernel
theorem dL_truth_27 : decode cL_truth 27 = .ok (.ireturn, 1) := by decide +kernel
theorem dL_truth_28 : decode cL_truth 28 = .ok (.iconst 0, 1) := by decide +kernel
theorem dL_truth_29 : decode cL_truth 29 = .ok (.ireturn, 1) := by decide +kernel
set_option maxRecDepth 20000 in
theorem ggL_count_X1_count : GoodIn wsL_count wsX1_count := goodIn_ca (goodIn_r _ [6, 7, 8, 9, 5, 10, 11, 12, 13, 14, 15, 16, 17, 18, 19, 20, 21, 22, 23, 24, 25] (by decide +kernel) (by decide +kernel)) (goodIn_sub (fun _ h => List.mem_cons_of_mem _ (List.mem_append_right _ h)) (by decide +kernel))
set_option maxRecDepth 20000 in
theorem gL_count_X1_count : GoodIn wsL_count (wsV RL 52 RX1 yX1_count wsX1_count) := goodIn_app (goodIn_of _ (by decide +kernel)) ggL_count_X1_count
theorem dL_count_0 : decode cL_count 0 = .ok (.aload_n 2, 1) := by decide +kernel
theorem dL_count_1 : decode cL_count 1 = .ok (.iconst 0, 1) := by decide +kernel
theorem dL_count_2 : decode cL_count 2 = .ok (.aload_n 0, 1) := by decide +kernel
theorem dL_count_3 : decode cL_count 3 = .ok (.iload_n 1, 1) := by decide +kernel
theorem dL_count_4 : decode cL_count 4 = .ok (.invokevirtual 52, 3) := by decide +kernel
theorem dL_count_7 : decode cL_count 7 = .ok (.i2l, 1) := by decide +kernel
theorem dL_count_8 : decode cL_count 8 = .ok (.lastore, 1) := by decide +kernel
theorem dL_count_9 : decode cL_count 9 = .ok (.goto 6, 3) := by decide +kernel
theorem dL_count_12 : decode cL_count 12 = .ok (.astore_n 3, 1) := by decide +kernel
theorem dL_count_13 : decode cL_count 13 = .ok (.iconst 1, 1) := by decide +kernel
theorem dL_count_14 : decode cL_count 14 = .ok (.ireturn, 1) := by decide +kernel
theorem dL_count_15 : decode cL_count 15 = .ok (.iconst 0, 1) := by decide +kernel
theorem dL_count_16 : decode cL_count 16 = .ok (.ireturn, 1) := by decide +kernel
set_option maxRecDepth 20000 in
theorem ggL_next_X1_next : GoodIn wsL_next wsX1_next := goodIn_ca (goodIn_ca (goodIn_r _ [7, 8, 9, 10, 11, 6, 12, 13, 14, 15, 16, 17, 18, 19, 20, 21, 22, 23, 24, 25, 26, 27, 28, 29, 30, 31, 32, 33, 34, 35] (by decide +kernel) (by decide +kernel)) (goodIn_sub (fun _ h => List.mem_cons_of_mem _ (List.mem_append_left _ (List.mem_append_right _ h))) (by decide +kernel))) (goodIn_sub (fun _ h => List.mem_cons_of_mem _ (List.mem_append_right _ h)) (by decide +kernel))
set_option maxRecDepth 20000 in
theorem gL_next_X1_next : GoodIn wsL_next (wsV RL 56 RX1 yX1_next wsX1_next) := goodIn_app (goodIn_of _ (by decide +kernel)) ggL_next_X1_next
theorem dL_next_0 : decode cL_next 0 = .ok (.aload_n 3, 1) := by decide +kernel
theorem dL_next_1 : decode cL_next 1 = .ok (.iconst 0, 1) := by decide +kernel
theorem dL_next_2 : decode cL_next 2 = .ok (.aload_n 0, 1) := by decide +kernel
theorem dL_next_3 : decode cL_next 3 = .ok (.iload_n 1, 1) := by decide +kernel
theorem dL_next_4 : decode cL_next 4 = .ok (.iload_n 2, 1) := by decide +kernel
theorem dL_next_5 : decode cL_next 5 = .ok (.invokevirtual 56, 3) := by decide +kernel
theorem dL_next_8 : decode cL_next 8 = .ok (.i2l, 1) := by decide +kernel
theorem dL_next_9 : decode cL_next 9 = .ok (.lastore, 1) := by decide +kernel
theorem dL_next_10 : decode cL_next 10 = .ok (.goto 11, 3) := by decide +kernel
theorem dL_next_13 : decode cL_next 13 = .ok (.astore 4, 2) := by decide +kernel
theorem dL_next_15 : decode cL_next 15 = .ok (.iconst 1, 1) := by decide +kernel
theorem dL_next_16 : decode cL_next 16 = .ok (.ireturn, 1) := by decide +kernel
theorem dL_next_17 : decode cL_next 17 = .ok (.astore 4, 2) := by decide +kernel
theorem dL_next_19 : decode cL_next 19 = .ok (.iconst 2, 1) := by decide +kernel
theorem dL_next_20 : decode cL_next 20 = .ok (.ireturn, 1) := by decide +kernel
theorem dL_next_21 : decode cL_next 21 = .ok (.iconst 0, 1) := by decide +kernel
theorem dL_next_22 : decode cL_next 22 = .ok (.ireturn, 1) := by decide +kernel
set_option maxRecDepth 20000 in
theorem ggL_depends_X1_depends : GoodIn wsL_depends wsX1_depends := goodIn_ca (goodIn_r _ [6, 7, 8, 9, 5, 10, 11, 12, 13, 14, 15, 16, 17, 18, 19, 20, 21, 22, 23, 24, 25, 26, 27, 28] (by decide +kernel) (by decide +kernel)) (goodIn_sub (fun _ h => List.mem_cons_of_mem _ (List.mem_append_right _ h)) (by decide +kernel))
set_option maxRecDepth 20000 in
theorem gL_depends_X1_depends : GoodIn wsL_depends (wsV RL 60 RX1 yX1_depends wsX1_depends) := goodIn_app (goodIn_of _ (by decide +kernel)) ggL_depends_X1_depends
theorem dL_depends_0 : decode cL_depends 0 = .ok (.aload_n 2, 1) := by decide +kernel
theorem dL_depends_1 : decode cL_depends 1 = .ok (.iconst 0, 1) := by decide +kernel
theorem dL_depends_2 : decode cL_depends 2 = .ok (.aload_n 0, 1) := by decide +kernel
theorem dL_depends_3 : decode cL_depends 3 = .ok (.iload_n 1, 1) := by decide +kernel
theorem dL_depends_4 : decode cL_depends 4 = .ok (.invokevirtual 60, 3) := by decide +kernel
theorem dL_depends_7 : decode cL_depends 7 = .ok (.i2l, 1) := by decide +kernel
theorem dL_depends_8 : decode cL_depends 8 = .ok (.lastore, 1) := by decide +kernel
theorem dL_depends_9 : decode cL_depends 9 = .ok (.goto 6, 3) := by decide +kernel
theorem dL_depends_12 : decode cL_depends 12 = .ok (.astore_n 3, 1) := by decide +kernel
theorem dL_depends_13 : decode cL_depends 13 = .ok (.iconst 1, 1) := by decide +kernel
theorem dL_depends_14 : decode cL_depends 14 = .ok (.ireturn, 1) := by decide +kernel
theorem dL_depends_15 : decode cL_depends 15 = .ok (.iconst 0, 1) := by decide +kernel
theorem dL_depends_16 : decode cL_depends 16 = .ok (.ireturn, 1) := by decide +kernel
set_option maxRecDepth 20000 in
theorem ggL_size_X1_size : GoodIn wsL_size wsX1_size := goodIn_ca (goodIn_r _ [6, 7, 8, 9, 10, 5, 11, 12, 13, 14, 15, 16, 17, 18, 19, 20, 21, 22, 23, 24, 25, 26, 27, 28, 29, 30, 31, 32, 33, 34, 35, 36, 37, 38, 39, 40, 41, 42, 43, 44, 45, 46, 47, 48, 49, 50, 51, 52, 53, 54, 55, 56, 57, 58, 59, 60, 61, 62, 63, 64] (by decide +kernel) (by decide +kernel)) (goodIn_sub (fun _ h => List.mem_cons_of_mem _ (List.mem_append_right _ h)) (by decide +kernel))
set_option maxRecDepth 20000 in
theorem gL_size_X1_size : GoodIn wsL_size (wsV RL 63 RX1 yX1_size wsX1_size) := goodIn_app (goodIn_of _ (by decide +kernel)) ggL_size_X1_size
theorem dL_size_0 : decode cL_size 0 = .ok (.aload_n 2, 1) := by decide +kernel
theorem dL_size_1 : decode cL_size 1 = .ok (.iconst 0, 1) := by decide +kernel
theorem dL_size_2 : decode cL_size 2 = .ok (.aload_n 0, 1) := by decide +kernel
theorem dL_size_3 : decode cL_size 3 = .ok (.iload_n 1, 1) := by decide +kernel
theorem dL_size_4 : decode cL_size 4 = .ok (.invokevirtual 63, 3) := by decide +kernel
theorem dL_size_7 : decode cL_size 7 = .ok (.i2l, 1) := by decide +kernel
theorem dL_size_8 : decode cL_size 8 = .ok (.lastore, 1) := by decide +kernel
theorem dL_size_9 : decode cL_size 9 = .ok (.goto 6, 3) := by decide +kernel
theorem dL_size_12 : decode cL_size 12 = .ok (.astore_n 3, 1) := by decide +kernel
theorem dL_size_13 : decode cL_size 13 = .ok (.iconst 1, 1) := by decide +kernel
theorem dL_size_14 : decode cL_size 14 = .ok (.ireturn, 1) := by decide +kernel
theorem dL_size_15 : decode cL_size 15 = .ok (.iconst 0, 1) := by decide +kernel
theorem dL_size_16 : decode cL_size 16 = .ok (.ireturn, 1) := by decide +kernel
set_option maxRecDepth 20000 in
theorem ggL_sizes_X1_sizes : GoodIn wsL_sizes wsX1_sizes := goodIn_ca (goodIn_ca (goodIn_r _ [7, 8, 9, 10, 11, 12, 13, 6, 14, 15, 16, 17, 18, 19, 20, 21, 22, 23, 24, 25, 26, 27, 28, 29, 30, 31, 32, 33, 34, 35, 36, 37, 38, 39, 40, 41, 42, 43, 44, 45, 46, 47, 48, 49, 50, 51, 52, 53, 54, 55, 56, 57, 58, 59, 60, 61, 62, 63, 64, 65, 66, 67] (by decide +kernel) (by decide +kernel)) (goodIn_sub (fun _ h => List.mem_cons_of_mem _ (List.mem_append_left _ (List.mem_append_right _ h))) (by decide +kernel))) (goodIn_sub (fun _ h => List.mem_cons_of_mem _ (List.mem_append_right _ h)) (by decide +kernel))
set_option maxRecDepth 20000 in
theorem gL_sizes_X1_sizes : GoodIn wsL_sizes (wsV RL 66 RX1 yX1_sizes wsX1_sizes) := goodIn_app (goodIn_of _ (by decide +kernel)) ggL_sizes_X1_sizes
theorem dL_sizes_0 : decode cL_sizes 0 = .ok (.aload_n 3, 1) := by decide +kernel
theorem dL_sizes_1 : decode cL_sizes 1 = .ok (.iconst 0, 1) := by decide +kernel
theorem dL_sizes_2 : decode cL_sizes 2 = .ok (.aload_n 0, 1) := by decide +kernel
theorem dL_sizes_3 : decode cL_sizes 3 = .ok (.iload_n 1, 1) := by decide +kernel
theorem dL_sizes_4 : decode cL_sizes 4 = .ok (.iload_n 2, 1) := by decide +kernel
theorem dL_sizes_5 : decode cL_sizes 5 = .ok (.invokevirtual 66, 3) := by decide +kernel
theorem dL_sizes_8 : decode cL_sizes 8 = .ok (.i2l, 1) := by decide +kernel
theorem dL_sizes_9 : decode cL_sizes 9 = .ok (.lastore, 1) := by decide +kernel
theorem dL_sizes_10 : decode cL_sizes 10 = .ok (.goto 11, 3) := by decide +kernel
theorem dL_sizes_13 : decode cL_sizes 13 = .ok (.astore 4, 2) := by decide +kernel
theorem dL_sizes_15 : decode cL_sizes 15 = .ok (.iconst 1, 1) := by decide +kernel
theorem dL_sizes_16 : decode cL_sizes 16 = .ok (.ireturn, 1) := by decide +kernel
theorem dL_sizes_17 : decode cL_sizes 17 = .ok (.astore 4, 2) := by decide +kernel
theorem dL_sizes_19 : decode cL_sizes 19 = .ok (.iconst 2, 1) := by decide +kernel
theorem dL_sizes_20 : decode cL_sizes 20 = .ok (.ireturn, 1) := by decide +kernel
theorem dL_sizes_21 : decode cL_sizes 21 = .ok (.iconst 0, 1) := by decide +kernel
theorem dL_sizes_22 : decode cL_sizes 22 = .ok (.ireturn, 1) := by decide +kernel
set_option maxRecDepth 20000 in
theorem ggL_level_X1_level : GoodIn wsL_level wsX1_level := goodIn_ca (goodIn_ca (goodIn_r _ [7, 8, 9, 10, 11, 6, 12, 13, 14, 15, 16, 17, 18, 19, 20, 21, 22, 23, 24, 25, 26, 27, 28, 29, 30, 31, 32, 33, 34, 35, 36, 37, 38, 39, 40, 41, 42, 43, 44, 45, 46, 47, 48, 49, 50, 51, 52, 53, 54, 55, 56, 57, 58, 59, 60, 61, 62, 63, 64, 65, 66, 67, 68, 69, 70] (by decide +kernel) (by decide +kernel)) (goodIn_sub (fun _ h => List.mem_cons_of_mem _ (List.mem_append_left _ (List.mem_append_right _ h))) (by decide +kernel))) (goodIn_sub (fun _ h => List.mem_cons_of_mem _ (List.mem_append_right _ h)) (by decide +kernel))
set_option maxRecDepth 20000 in
theorem gL_level_X1_level : GoodIn wsL_level (wsV RL 69 RX1 yX1_level wsX1_level) := goodIn_app (goodIn_of _ (by decide +kernel)) ggL_level_X1_level
theorem dL_level_0 : decode cL_level 0 = .ok (.aload_n 3, 1) := by decide +kernel
theorem dL_level_1 : decode cL_level 1 = .ok (.iconst 0, 1) := by decide +kernel
theorem dL_level_2 : decode cL_level 2 = .ok (.aload_n 0, 1) := by decide +kernel
theorem dL_level_3 : decode cL_level 3 = .ok (.iload_n 1, 1) := by decide +kernel
theorem dL_level_4 : decode cL_level 4 = .ok (.iload_n 2, 1) := by decide +kernel
theorem dL_level_5 : decode cL_level 5 = .ok (.invokevirtual 69, 3) := by decide +kernel
theorem dL_level_8 : decode cL_level 8 = .ok (.i2l, 1) := by decide +kernel
theorem dL_level_9 : decode cL_level 9 = .ok (.lastore, 1) := by decide +kernel
theorem dL_level_10 : decode cL_level 10 = .ok (.goto 11, 3) := by decide +kernel
theorem dL_level_13 : decode cL_level 13 = .ok (.astore 4, 2) := by decide +kernel
theorem dL_level_15 : decode cL_level 15 = .ok (.iconst 1, 1) := by decide +kernel
theorem dL_level_16 : decode cL_level 16 = .ok (.ireturn, 1) := by decide +kernel
theorem dL_level_17 : decode cL_level 17 = .ok (.astore 4, 2) := by decide +kernel
theorem dL_level_19 : decode cL_level 19 = .ok (.iconst 2, 1) := by decide +kernel
theorem dL_level_20 : decode cL_level 20 = .ok (.ireturn, 1) := by decide +kernel
theorem dL_level_21 : decode cL_level 21 = .ok (.iconst 0, 1) := by decide +kernel
theorem dL_level_22 : decode cL_level 22 = .ok (.ireturn, 1) := by decide +kernel
set_option maxRecDepth 20000 in
theorem ggL_law_X1_init : GoodIn wsL_law wsX1_init := goodIn_r _ [9, 10, 11, 12, 13, 6, 14, 15, 16, 17, 18, 19, 20, 21, 22, 23, 24, 25, 26, 27, 28, 29, 30, 31, 32, 372, 373, 374, 375, 376, 377, 382, 383, 384, 385, 386] (by decide +kernel) (by decide +kernel)
set_option maxRecDepth 20000 in
theorem gL_law_X1_init : GoodIn wsL_law (wsX1_init) := ggL_law_X1_init
set_option maxRecDepth 20000 in
theorem ggL_law_X2_init : GoodIn wsL_law wsX2_init := goodIn_r _ [35, 36, 11, 12, 37, 38, 39, 40, 27, 41, 378, 379, 380, 381] (by decide +kernel) (by decide +kernel)
set_option maxRecDepth 20000 in
theorem gL_law_X2_init : GoodIn wsL_law (wsX2_init) := ggL_law_X2_init
set_option maxRecDepth 20000 in
theorem ggL_law_L_constant : GoodIn wsL_law wsL_constant := goodIn_ca (goodIn_r _ [45, 46, 47, 48, 49, 2, 50, 14, 51, 52, 53, 54, 55, 56, 372, 373, 374, 375, 376, 377] (by decide +kernel) (by decide +kernel)) (goodIn_sub (fun _ h => List.mem_append_left _ (List.mem_append_right _ h)) (by decide +kernel))
set_option maxRecDepth 20000 in
theorem gL_law_L_constant : GoodIn wsL_law (va_wsS RL 76 yL_constant wsL_constant) := goodIn_app (goodIn_of _ (by decide +kernel)) ggL_law_L_constant
set_option maxRecDepth 20000 in
theorem ggL_law_X2_constant : GoodIn wsL_law wsX2_constant := goodIn_r _ [60, 40, 61, 62, 5, 63, 64, 65, 66, 67, 68, 69, 70, 71, 72, 39, 378, 379, 380, 381] (by decide +kernel) (by decide +kernel)
set_option maxRecDepth 20000 in
theorem gL_law_X2_constant : GoodIn wsL_law (wsV RL 81 RX2 yX2_constant wsX2_constant) := goodIn_app (goodIn_of _ (by decide +kernel)) ggL_law_X2_constant
set_option maxRecDepth 20000 in
theorem ggL_law_X2_thrown : GoodIn wsL_law wsX2_thrown := goodIn_r _ [76, 68, 378, 379, 380, 381] (by decide +kernel) (by decide +kernel)
set_option maxRecDepth 20000 in
theorem gL_law_X2_thrown : GoodIn wsL_law (wsV RL 82 RX2 yX2_thrown wsX2_thrown) := goodIn_app (goodIn_of _ (by decide +kernel)) ggL_law_X2_thrown
set_option maxRecDepth 20000 in
theorem ggL_law_L_variable : GoodIn wsL_law wsL_variable := goodIn_ca (goodIn_ca (goodIn_r _ [79, 46, 80, 81, 82, 83, 2, 84, 14, 52, 53, 54, 55, 56, 85, 86, 87, 88, 89, 90, 91, 92, 93, 94, 95, 96, 372, 373, 374, 375, 376, 377] (by decide +kernel) (by decide +kernel)) (goodIn_sub (fun _ h => List.mem_append_left _ (List.mem_append_right _ h)) (by decide +kernel))) (goodIn_sub (fun _ h => List.mem_append_right _ h) (by decide +kernel))
set_option maxRecDepth 20000 in
theorem gL_law_L_variable : GoodIn wsL_law (va_wsS RL 86 yL_variable wsL_variable) := goodIn_app (goodIn_of _ (by decide +kernel)) ggL_law_L_variable
set_option maxRecDepth 20000 in
theorem ggL_law_X2_variable : GoodIn wsL_law wsX2_variable := goodIn_r _ [100, 40, 61, 62, 5, 63, 64, 65, 66, 67, 68, 101, 102, 103, 69, 70, 71, 72, 39, 378, 379, 380, 381] (by decide +kernel) (by decide +kernel)
set_option maxRecDepth 20000 in
theorem gL_law_X2_variable : GoodIn wsL_law (wsV RL 89 RX2 yX2_variable wsX2_variable) := goodIn_app (goodIn_of _ (by decide +kernel)) ggL_law_X2_variable
set_option maxRecDepth 20000 in
theorem ggL_law_L_join : GoodIn wsL_law wsL_join := goodIn_ca (goodIn_ca (goodIn_r _ [106, 46, 80, 107, 108, 109, 2, 110, 88, 89, 14, 51, 52, 53, 54, 55, 56, 94, 95, 96, 372, 373, 374, 375, 376, 377] (by decide +kernel) (by decide +kernel)) (goodIn_sub (fun _ h => List.mem_append_right _ h) (by decide +kernel))) (goodIn_sub (fun _ h => List.mem_append_left _ (List.mem_append_right _ h)) (by decide +kernel))
set_option maxRecDepth 20000 in
theorem gL_law_L_join : GoodIn wsL_law (va_wsS RL 90 yL_join wsL_join) := goodIn_app (goodIn_of _ (by decide +kernel)) ggL_law_L_join
set_option maxRecDepth 20000 in
theorem ggL_law_X2_join : GoodIn wsL_law wsX2_join := goodIn_r _ [114, 40, 61, 62, 5, 63, 64, 65, 66, 67, 68, 115, 116, 117, 118, 39, 69, 70, 71, 72, 378, 379, 380, 381] (by decide +kernel) (by decide +kernel)
set_option maxRecDepth 20000 in
theorem gL_law_X2_join : GoodIn wsL_law (wsV RL 93 RX2 yX2_join wsX2_join) := goodIn_app (goodIn_of _ (by decide +kernel)) ggL_law_X2_join
set_option maxRecDepth 20000 in
theorem ggL_law_L_choose : GoodIn wsL_law wsL_choose := goodIn_ca (goodIn_r _ [121, 46, 122, 123, 124, 2, 125, 14, 52, 53, 54, 55, 56, 126, 127, 128, 51, 372, 373, 374, 375, 376, 377] (by decide +kernel) (by decide +kernel)) (goodIn_sub (fun _ h => List.mem_append_left _ (List.mem_append_right _ h)) (by decide +kernel))
set_option maxRecDepth 20000 in
theorem gL_law_L_choose : GoodIn wsL_law (va_wsS RL 94 yL_choose wsL_choose) := goodIn_app (goodIn_of _ (by decide +kernel)) ggL_law_L_choose
set_option maxRecDepth 20000 in
theorem ggL_law_X2_choose : GoodIn wsL_law wsX2_choose := goodIn_r _ [132, 40, 61, 62, 5, 63, 64, 65, 66, 67, 68, 115, 116, 117, 118, 39, 69, 70, 71, 72, 378, 379, 380, 381] (by decide +kernel) (by decide +kernel)
set_option maxRecDepth 20000 in
theorem gL_law_X2_choose : GoodIn wsL_law (wsV RL 96 RX2 yX2_choose wsX2_choose) := goodIn_app (goodIn_of _ (by decide +kernel)) ggL_law_X2_choose
set_option maxRecDepth 20000 in
theorem ggL_law_L_fix : GoodIn wsL_law wsL_fix := goodIn_ca (goodIn_ca (goodIn_r _ [135, 46, 80, 136, 137, 138, 2, 139, 15, 14, 51, 52, 53, 54, 55, 56, 85, 86, 87, 88, 89, 140, 141, 142, 90, 91, 92, 93, 94, 95, 96, 143, 144, 145, 146, 147, 148, 126, 127, 128, 149, 150, 151, 152, 153, 154, 155, 372, 373, 374, 375, 376, 377] (by decide +kernel) (by decide +kernel)) (goodIn_sub (fun _ h => List.mem_append_left _ (List.mem_append_right _ h)) (by decide +kernel))) (goodIn_sub (fun _ h => List.mem_append_right _ h) (by decide +kernel))
set_option maxRecDepth 20000 in
theorem gL_law_L_fix : GoodIn wsL_law (va_wsS RL 97 yL_fix wsL_fix) := goodIn_app (goodIn_of _ (by decide +kernel)) ggL_law_L_fix
set_option maxRecDepth 20000 in
theorem ggL_law_X2_fix : GoodIn wsL_law wsX2_fix := goodIn_r _ [159, 40, 61, 62, 5, 63, 64, 65, 66, 67, 68, 160, 161, 162, 101, 102, 103, 115, 116, 117, 118, 39, 69, 70, 71, 72, 378, 379, 380, 381] (by decide +kernel) (by decide +kernel)
set_option maxRecDepth 20000 in
theorem gL_law_X2_fix : GoodIn wsL_law (wsV RL 100 RX2 yX2_fix wsX2_fix) := goodIn_app (goodIn_of _ (by decide +kernel)) ggL_law_X2_fix
set_option maxRecDepth 20000 in
theorem ggL_law_L_some : GoodIn wsL_law wsL_some := goodIn_ca (goodIn_ca (goodIn_r _ [165, 46, 80, 166, 167, 168, 2, 169, 88, 89, 14, 15, 52, 53, 54, 55, 56, 149, 150, 151, 152, 153, 154, 155, 146, 147, 148, 170, 171, 172, 173, 16, 143, 144, 145, 93, 372, 373, 374, 375, 376, 377] (by decide +kernel) (by decide +kernel)) (goodIn_sub (fun _ h => List.mem_append_right _ h) (by decide +kernel))) (goodIn_sub (fun _ h => List.mem_append_left _ (List.mem_append_right _ h)) (by decide +kernel))
set_option maxRecDepth 20000 in
theorem gL_law_L_some : GoodIn wsL_law (va_wsS RL 101 yL_some wsL_some) := goodIn_app (goodIn_of _ (by decide +kernel)) ggL_law_L_some
set_option maxRecDepth 20000 in
theorem ggL_law_X2_some : GoodIn wsL_law wsX2_some := goodIn_r _ [177, 40, 61, 62, 5, 63, 64, 65, 66, 67, 68, 115, 116, 117, 118, 39, 69, 70, 71, 72, 378, 379, 380, 381] (by decide +kernel) (by decide +kernel)
set_option maxRecDepth 20000 in
theorem gL_law_X2_some : GoodIn wsL_law (wsV RL 103 RX2 yX2_some wsX2_some) := goodIn_app (goodIn_of _ (by decide +kernel)) ggL_law_X2_some
set_option maxRecDepth 20000 in
theorem ggL_law_L_put : GoodIn wsL_law wsL_put := goodIn_ca (goodIn_ca (goodIn_r _ [180, 46, 80, 181, 182, 183, 2, 184, 15, 14, 52, 53, 54, 55, 56, 85, 86, 87, 88, 89, 140, 141, 142, 90, 91, 92, 93, 94, 95, 96, 143, 144, 145, 146, 147, 148, 126, 127, 128, 51, 149, 150, 151, 152, 153, 154, 155, 372, 373, 374, 375, 376, 377] (by decide +kernel) (by decide +kernel)) (goodIn_sub (fun _ h => List.mem_append_left _ (List.mem_append_right _ h)) (by decide +kernel))) (goodIn_sub (fun _ h => List.mem_append_right _ h) (by decide +kernel))
set_option maxRecDepth 20000 in
theorem gL_law_L_put : GoodIn wsL_law (va_wsS RL 104 yL_put wsL_put) := goodIn_app (goodIn_of _ (by decide +kernel)) ggL_law_L_put
set_option maxRecDepth 20000 in
theorem ggL_law_X2_put : GoodIn wsL_law wsX2_put := goodIn_r _ [188, 40, 61, 62, 5, 63, 64, 65, 66, 67, 68, 115, 116, 117, 118, 39, 160, 161, 162, 101, 102, 103, 69, 70, 71, 72, 378, 379, 380, 381] (by decide +kernel) (by decide +kernel)
set_option maxRecDepth 20000 in
theorem gL_law_X2_put : GoodIn wsL_law (wsV RL 106 RX2 yX2_put wsX2_put) := goodIn_app (goodIn_of _ (by decide +kernel)) ggL_law_X2_put
set_option maxRecDepth 20000 in
theorem ggL_law_L_swap : GoodIn wsL_law wsL_swap := goodIn_ca (goodIn_ca (goodIn_r _ [191, 46, 80, 192, 193, 194, 2, 195, 15, 14, 16, 52, 53, 54, 55, 56, 85, 86, 87, 88, 89, 143, 144, 145, 93, 146, 147, 148, 90, 91, 92, 94, 95, 96, 126, 127, 128, 51, 149, 150, 151, 152, 153, 154, 155, 372, 373, 374, 375, 376, 377] (by decide +kernel) (by decide +kernel)) (goodIn_sub (fun _ h => List.mem_append_left _ (List.mem_append_right _ h)) (by decide +kernel))) (goodIn_sub (fun _ h => List.mem_append_right _ h) (by decide +kernel))
set_option maxRecDepth 20000 in
theorem gL_law_L_swap : GoodIn wsL_law (va_wsS RL 107 yL_swap wsL_swap) := goodIn_app (goodIn_of _ (by decide +kernel)) ggL_law_L_swap
set_option maxRecDepth 20000 in
theorem ggL_law_X2_swap : GoodIn wsL_law wsX2_swap := goodIn_r _ [199, 40, 61, 62, 5, 63, 64, 65, 66, 67, 68, 101, 102, 103, 160, 161, 162, 115, 116, 117, 118, 39, 69, 70, 71, 72, 378, 379, 380, 381] (by decide +kernel) (by decide +kernel)
set_option maxRecDepth 20000 in
theorem gL_law_X2_swap : GoodIn wsL_law (wsV RL 109 RX2 yX2_swap wsX2_swap) := goodIn_app (goodIn_of _ (by decide +kernel)) ggL_law_X2_swap
set_option maxRecDepth 20000 in
theorem ggL_law_L_nearest : GoodIn wsL_law wsL_nearest := goodIn_ca (goodIn_ca (goodIn_r _ [202, 46, 80, 203, 204, 205, 2, 206, 88, 89, 14, 15, 17, 52, 53, 54, 55, 56, 207, 208, 209, 149, 150, 151, 152, 153, 154, 155, 210, 211, 212, 213, 16, 18, 143, 144, 145, 93, 146, 147, 148, 126, 127, 128, 51, 372, 373, 374, 375, 376, 377] (by decide +kernel) (by decide +kernel)) (goodIn_sub (fun _ h => List.mem_append_right _ h) (by decide +kernel))) (goodIn_sub (fun _ h => List.mem_append_left _ (List.mem_append_right _ h)) (by decide +kernel))
set_option maxRecDepth 20000 in
theorem gL_law_L_nearest : GoodIn wsL_law (va_wsS RL 110 yL_nearest wsL_nearest) := goodIn_app (goodIn_of _ (by decide +kernel)) ggL_law_L_nearest
set_option maxRecDepth 20000 in
theorem ggL_law_X2_nearest : GoodIn wsL_law wsX2_nearest := goodIn_r _ [217, 40, 61, 62, 5, 63, 218, 219, 220, 221, 115, 116, 117, 118, 39, 64, 65, 66, 67, 68, 69, 70, 71, 72, 378, 379, 380, 381] (by decide +kernel) (by decide +kernel)
set_option maxRecDepth 20000 in
theorem gL_law_X2_nearest : GoodIn wsL_law (wsV RL 113 RX2 yX2_nearest wsX2_nearest) := goodIn_app (goodIn_of _ (by decide +kernel)) ggL_law_X2_nearest
set_option maxRecDepth 20000 in
theorem ggL_law_L_isSame : GoodIn wsL_law wsL_isSame := goodIn_ca (goodIn_r _ [224, 46, 225, 226, 227, 2, 228, 14, 52, 53, 54, 55, 56, 372, 373, 374, 375, 376, 377] (by decide +kernel) (by decide +kernel)) (goodIn_sub (fun _ h => List.mem_append_left _ (List.mem_append_right _ h)) (by decide +kernel))
set_option maxRecDepth 20000 in
theorem gL_law_L_isSame : GoodIn wsL_law (va_wsS RL 114 yL_isSame wsL_isSame) := goodIn_app (goodIn_of _ (by decide +kernel)) ggL_law_L_isSame
set_option maxRecDepth 20000 in
theorem ggL_law_X2_isSame : GoodIn wsL_law wsX2_isSame := goodIn_r _ [232, 61, 62, 5, 63, 64, 65, 66, 67, 68, 115, 116, 117, 118, 39, 378, 379, 380, 381] (by decide +kernel) (by decide +kernel)
set_option maxRecDepth 20000 in
theorem gL_law_X2_isSame : GoodIn wsL_law (wsV RL 117 RX2 yX2_isSame wsX2_isSame) := goodIn_app (goodIn_of _ (by decide +kernel)) ggL_law_X2_isSame
set_option maxRecDepth 20000 in
theorem ggL_law_L_truth : GoodIn wsL_law wsL_truth := goodIn_ca (goodIn_ca (goodIn_r _ [235, 46, 80, 236, 237, 238, 2, 239, 14, 52, 53, 54, 55, 56, 240, 241, 242, 88, 89, 372, 373, 374, 375, 376, 377] (by decide +kernel) (by decide +kernel)) (goodIn_sub (fun _ h => List.mem_append_left _ (List.mem_append_right _ h)) (by decide +kernel))) (goodIn_sub (fun _ h => List.mem_append_right _ h) (by decide +kernel))
set_option maxRecDepth 20000 in
theorem gL_law_L_truth : GoodIn wsL_law (va_wsS RL 118 yL_truth wsL_truth) := goodIn_app (goodIn_of _ (by decide +kernel)) ggL_law_L_truth
set_option maxRecDepth 20000 in
theorem ggL_law_X2_truth : GoodIn wsL_law wsX2_truth := goodIn_r _ [246, 61, 62, 5, 63, 64, 65, 66, 67, 68, 115, 116, 117, 118, 39, 378, 379, 380, 381] (by decide +kernel) (by decide +kernel)
set_option maxRecDepth 20000 in
theorem gL_law_X2_truth : GoodIn wsL_law (wsV RL 120 RX2 yX2_truth wsX2_truth) := goodIn_app (goodIn_of _ (by decide +kernel)) ggL_law_X2_truth
set_option maxRecDepth 20000 in
theorem ggL_law_L_count : GoodIn wsL_law wsL_count := goodIn_ca (goodIn_r _ [249, 46, 250, 251, 252, 2, 253, 14, 52, 53, 54, 55, 56, 254, 255, 256, 257, 258, 259, 260, 372, 373, 374, 375, 376, 377] (by decide +kernel) (by decide +kernel)) (goodIn_sub (fun _ h => List.mem_append_left _ (List.mem_append_right _ h)) (by decide +kernel))
set_option maxRecDepth 20000 in
theorem gL_law_L_count : GoodIn wsL_law (va_wsS RL 121 yL_count wsL_count) := goodIn_app (goodIn_of _ (by decide +kernel)) ggL_law_L_count
set_option maxRecDepth 20000 in
theorem ggL_law_X2_count : GoodIn wsL_law wsX2_count := goodIn_r _ [264, 61, 62, 5, 63, 64, 65, 66, 67, 68, 218, 219, 220, 221, 115, 116, 117, 118, 39, 378, 379, 380, 381] (by decide +kernel) (by decide +kernel)
set_option maxRecDepth 20000 in
theorem gL_law_X2_count : GoodIn wsL_law (wsV RL 124 RX2 yX2_count wsX2_count) := goodIn_app (goodIn_of _ (by decide +kernel)) ggL_law_X2_count
set_option maxRecDepth 20000 in
theorem ggL_law_L_next : GoodIn wsL_law wsL_next := goodIn_ca (goodIn_ca (goodIn_r _ [267, 46, 80, 268, 269, 270, 2, 271, 51, 14, 52, 53, 54, 55, 56, 240, 241, 242, 88, 89, 272, 273, 274, 254, 255, 256, 257, 258, 259, 260, 372, 373, 374, 375, 376, 377] (by decide +kernel) (by decide +kernel)) (goodIn_sub (fun _ h => List.mem_append_left _ (List.mem_append_right _ h)) (by decide +kernel))) (goodIn_sub (fun _ h => List.mem_append_right _ h) (by decide +kernel))
set_option maxRecDepth 20000 in
theorem gL_law_L_next : GoodIn wsL_law (va_wsS RL 125 yL_next wsL_next) := goodIn_app (goodIn_of _ (by decide +kernel)) ggL_law_L_next
set_option maxRecDepth 20000 in
theorem ggL_law_X2_next : GoodIn wsL_law wsX2_next := goodIn_r _ [278, 61, 62, 5, 63, 64, 65, 66, 67, 68, 115, 116, 117, 118, 39, 378, 379, 380, 381] (by decide +kernel) (by decide +kernel)
set_option maxRecDepth 20000 in
theorem gL_law_X2_next : GoodIn wsL_law (wsV RL 127 RX2 yX2_next wsX2_next) := goodIn_app (goodIn_of _ (by decide +kernel)) ggL_law_X2_next
set_option maxRecDepth 20000 in
theorem ggL_law_L_depends : GoodIn wsL_law wsL_depends := goodIn_ca (goodIn_r _ [281, 46, 282, 283, 284, 2, 285, 14, 52, 53, 54, 55, 56, 286, 287, 288, 143, 144, 145, 93, 146, 147, 148, 372, 373, 374, 375, 376, 377] (by decide +kernel) (by decide +kernel)) (goodIn_sub (fun _ h => List.mem_append_left _ (List.mem_append_right _ h)) (by decide +kernel))
set_option maxRecDepth 20000 in
theorem gL_law_L_depends : GoodIn wsL_law (va_wsS RL 128 yL_depends wsL_depends) := goodIn_app (goodIn_of _ (by decide +kernel)) ggL_law_L_depends
set_option maxRecDepth 20000 in
theorem ggL_law_X2_depends : GoodIn wsL_law wsX2_depends := goodIn_r _ [292, 61, 62, 5, 63, 64, 65, 66, 67, 68, 115, 116, 117, 118, 39, 101, 102, 103, 378, 379, 380, 381] (by decide +kernel) (by decide +kernel)
set_option maxRecDepth 20000 in
theorem gL_law_X2_depends : GoodIn wsL_law (wsV RL 130 RX2 yX2_depends wsX2_depends) := goodIn_app (goodIn_of _ (by decide +kernel)) ggL_law_X2_depends
set_option maxRecDepth 20000 in
theorem ggL_law_L_size : GoodIn wsL_law wsL_size := goodIn_ca (goodIn_r _ [295, 46, 296, 297, 298, 2, 299, 22, 14, 52, 53, 54, 55, 56, 300, 301, 302, 21, 303, 30, 31, 304, 305, 306, 307, 32, 29, 308, 309, 310, 311, 28, 312, 313, 314, 315, 316, 317, 318, 319, 320, 321, 322, 323, 324, 325, 326, 327, 328, 329, 330, 331, 332, 333, 372, 373, 374, 375, 376, 377, 382, 383, 384, 385, 386] (by decide +kernel) (by decide +kernel)) (goodIn_sub (fun _ h => List.mem_append_left _ (List.mem_append_right _ h)) (by decide +kernel))
set_option maxRecDepth 20000 in
theorem gL_law_L_size : GoodIn wsL_law (va_wsS RL 131 yL_size wsL_size) := goodIn_app (goodIn_of _ (by decide +kernel)) ggL_law_L_size
set_option maxRecDepth 20000 in
theorem ggL_law_X2_size : GoodIn wsL_law wsX2_size := goodIn_r _ [337, 61, 62, 5, 63, 64, 65, 66, 67, 68, 338, 339, 340, 341, 342, 343, 344, 345, 41, 346, 347, 348, 349, 39, 378, 379, 380, 381] (by decide +kernel) (by decide +kernel)
set_option maxRecDepth 20000 in
theorem gL_law_X2_size : GoodIn wsL_law (wsV RL 133 RX2 yX2_size wsX2_size) := goodIn_app (goodIn_of _ (by decide +kernel)) ggL_law_X2_size
set_option maxRecDepth 20000 in
theorem ggL_law_L_sizes : GoodIn wsL_law wsL_sizes := goodIn_ca (goodIn_ca (goodIn_r _ [352, 46, 80, 353, 354, 355, 2, 356, 88, 89, 22, 14, 52, 53, 54, 55, 56, 300, 301, 302, 21, 303, 30, 31, 304, 305, 306, 307, 32, 29, 308, 309, 310, 311, 28, 312, 313, 314, 315, 316, 317, 318, 319, 320, 321, 322, 323, 324, 325, 326, 327, 328, 329, 330, 331, 332, 333, 372, 373, 374, 375, 376, 377, 382, 383, 384, 385, 386] (by decide +kernel) (by decide +kernel)) (goodIn_sub (fun _ h => List.mem_append_right _ h) (by decide +kernel))) (goodIn_sub (fun _ h => List.mem_append_left _ (List.mem_append_right _ h)) (by decide +kernel))
set_option maxRecDepth 20000 in
theorem gL_law_L_sizes : GoodIn wsL_law (va_wsS RL 134 yL_sizes wsL_sizes) := goodIn_app (goodIn_of _ (by decide +kernel)) ggL_law_L_sizes
set_option maxRecDepth 20000 in
theorem ggL_law_X2_sizes : GoodIn wsL_law wsX2_sizes := goodIn_r _ [360, 61, 62, 5, 63, 64, 65, 66, 67, 68, 338, 339, 340, 341, 342, 343, 344, 345, 41, 346, 347, 348, 349, 39, 378, 379, 380, 381] (by decide +kernel) (by decide +kernel)
set_option maxRecDepth 20000 in
theorem gL_law_X2_sizes : GoodIn wsL_law (wsV RL 136 RX2 yX2_sizes wsX2_sizes) := goodIn_app (goodIn_of _ (by decide +kernel)) ggL_law_X2_sizes
set_option maxRecDepth 20000 in
theorem ggL_law_L_level : GoodIn wsL_law wsL_level := goodIn_ca (goodIn_ca (goodIn_r _ [363, 46, 80, 364, 365, 366, 2, 367, 22, 14, 52, 53, 54, 55, 56, 85, 86, 87, 88, 89, 300, 301, 302, 21, 303, 30, 31, 304, 305, 306, 307, 32, 29, 308, 309, 310, 311, 28, 312, 313, 314, 315, 316, 317, 318, 319, 320, 321, 322, 323, 324, 325, 326, 327, 328, 329, 330, 331, 332, 333, 372, 373, 374, 375, 376, 377, 382, 383, 384, 385, 386] (by decide +kernel) (by decide +kernel)) (goodIn_sub (fun _ h => List.mem_append_left _ (List.mem_append_right _ h)) (by decide +kernel))) (goodIn_sub (fun _ h => List.mem_append_right _ h) (by decide +kernel))
set_option maxRecDepth 20000 in
theorem gL_law_L_level : GoodIn wsL_law (va_wsS RL 137 yL_level wsL_level) := goodIn_app (goodIn_of _ (by decide +kernel)) ggL_law_L_level
set_option maxRecDepth 20000 in
theorem ggL_law_X2_level : GoodIn wsL_law wsX2_level := goodIn_r _ [371, 61, 62, 5, 63, 64, 65, 66, 67, 68, 342, 343, 344, 345, 41, 346, 347, 348, 349, 39, 378, 379, 380, 381] (by decide +kernel) (by decide +kernel)
set_option maxRecDepth 20000 in
theorem gL_law_X2_level : GoodIn wsL_law (wsV RL 139 RX2 yX2_level wsX2_level) := goodIn_app (goodIn_of _ (by decide +kernel)) ggL_law_X2_level
