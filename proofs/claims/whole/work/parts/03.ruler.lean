theorem dX0_init_0 : decode cX0_init 0 = .ok (.aload_n 0, 1) := by decide +kernel
theorem dX0_init_1 : decode cX0_init 1 = .ok (.invokespecial 3, 3) := by decide +kernel
theorem dX0_init_4 : decode cX0_init 4 = .ok (.aload_n 0, 1) := by decide +kernel
theorem dX0_init_5 : decode cX0_init 5 = .ok (.sipush 4096, 3) := by decide +kernel
theorem dX0_init_8 : decode cX0_init 8 = .ok (.newarray .int, 2) := by decide +kernel
theorem dX0_init_10 : decode cX0_init 10 = .ok (.putfield 11, 3) := by decide +kernel
theorem dX0_init_13 : decode cX0_init 13 = .ok (.aload_n 0, 1) := by decide +kernel
theorem dX0_init_14 : decode cX0_init 14 = .ok (.sipush 4096, 3) := by decide +kernel
theorem dX0_init_17 : decode cX0_init 17 = .ok (.newarray .int, 2) := by decide +kernel
theorem dX0_init_19 : decode cX0_init 19 = .ok (.putfield 15, 3) := by decide +kernel
theorem dX0_init_22 : decode cX0_init 22 = .ok (.aload_n 0, 1) := by decide +kernel
theorem dX0_init_23 : decode cX0_init 23 = .ok (.iconst 0, 1) := by decide +kernel
theorem dX0_init_24 : decode cX0_init 24 = .ok (.putfield 18, 3) := by decide +kernel
theorem dX0_init_27 : decode cX0_init 27 = .ok (.aload_n 0, 1) := by decide +kernel
theorem dX0_init_28 : decode cX0_init 28 = .ok (.iconst 0, 1) := by decide +kernel
theorem dX0_init_29 : decode cX0_init 29 = .ok (.putfield 22, 3) := by decide +kernel
theorem dX0_init_32 : decode cX0_init 32 = .ok (.aload_n 0, 1) := by decide +kernel
theorem dX0_init_33 : decode cX0_init 33 = .ok (.iconst 1, 1) := by decide +kernel
theorem dX0_init_34 : decode cX0_init 34 = .ok (.putfield 25, 3) := by decide +kernel
theorem dX0_init_37 : decode cX0_init 37 = .ok (.return_, 1) := by decide +kernel
set_option maxRecDepth 20000 in
theorem ggX0_nodesOf_X0_clearSeats : GoodIn wsX0_nodesOf wsX0_clearSeats := goodIn_r _ [7, 8, 9, 37, 38, 39, 40, 41] (by decide +kernel) (by decide +kernel)
set_option maxRecDepth 20000 in
theorem gX0_nodesOf_X0_clearSeats : GoodIn wsX0_nodesOf (wsV RX0 28 RX0 yX0_clearSeats wsX0_clearSeats) := goodIn_app (goodIn_of _ (by decide +kernel)) ggX0_nodesOf_X0_clearSeats
set_option maxRecDepth 20000 in
theorem ggX0_nodesOf_X0_enter : GoodIn wsX0_nodesOf wsX0_enter := goodIn_r _ [13, 8, 9, 14, 1, 2, 15, 16, 17, 6, 18, 19, 20, 21, 22, 23, 24, 25, 26, 27, 28, 37, 38, 39, 40, 41] (by decide +kernel) (by decide +kernel)
set_option maxRecDepth 20000 in
theorem gX0_nodesOf_X0_enter : GoodIn wsX0_nodesOf (wsV RX0 32 RX0 yX0_enter wsX0_enter) := goodIn_app (goodIn_of _ (by decide +kernel)) ggX0_nodesOf_X0_enter
set_option maxRecDepth 20000 in
theorem ggX0_nodesOf_X0_halveAll : GoodIn wsX0_nodesOf wsX0_halveAll := goodIn_r _ [32, 2, 3, 4, 5, 6, 7, 8, 9, 33, 34, 35, 36, 14, 1, 10, 11, 12, 13, 15, 16, 17, 18, 19, 20, 21, 22, 23, 24, 25, 26, 27, 28, 37, 38, 39, 40, 41] (by decide +kernel) (by decide +kernel)
set_option maxRecDepth 20000 in
theorem gX0_nodesOf_X0_halveAll : GoodIn wsX0_nodesOf (wsV RX0 36 RX0 yX0_halveAll wsX0_halveAll) := goodIn_app (goodIn_of _ (by decide +kernel)) ggX0_nodesOf_X0_halveAll
theorem dX0_nodesOf_0 : decode cX0_nodesOf 0 = .ok (.aload_n 0, 1) := by decide +kernel
theorem dX0_nodesOf_1 : decode cX0_nodesOf 1 = .ok (.iconst 0, 1) := by decide +kernel
theorem dX0_nodesOf_2 : decode cX0_nodesOf 2 = .ok (.putfield 18, 3) := by decide +kernel
theorem dX0_nodesOf_5 : decode cX0_nodesOf 5 = .ok (.aload_n 0, 1) := by decide +kernel
theorem dX0_nodesOf_6 : decode cX0_nodesOf 6 = .ok (.iconst 0, 1) := by decide +kernel
theorem dX0_nodesOf_7 : decode cX0_nodesOf 7 = .ok (.putfield 22, 3) := by decide +kernel
theorem dX0_nodesOf_10 : decode cX0_nodesOf 10 = .ok (.aload_n 0, 1) := by decide +kernel
theorem dX0_nodesOf_11 : decode cX0_nodesOf 11 = .ok (.iload_n 3, 1) := by decide +kernel
theorem dX0_nodesOf_12 : decode cX0_nodesOf 12 = .ok (.iload_n 2, 1) := by decide +kernel
theorem dX0_nodesOf_13 : decode cX0_nodesOf 13 = .ok (.isub, 1) := by decide +kernel
theorem dX0_nodesOf_14 : decode cX0_nodesOf 14 = .ok (.iconst 1, 1) := by decide +kernel
theorem dX0_nodesOf_15 : decode cX0_nodesOf 15 = .ok (.iadd, 1) := by decide +kernel
theorem dX0_nodesOf_16 : decode cX0_nodesOf 16 = .ok (.invokevirtual 28, 3) := by decide +kernel
theorem dX0_nodesOf_19 : decode cX0_nodesOf 19 = .ok (.iload_n 2, 1) := by decide +kernel
theorem dX0_nodesOf_20 : decode cX0_nodesOf 20 = .ok (.istore 6, 2) := by decide +kernel
theorem dX0_nodesOf_22 : decode cX0_nodesOf 22 = .ok (.iload 6, 2) := by decide +kernel
theorem dX0_nodesOf_24 : decode cX0_nodesOf 24 = .ok (.iload_n 3, 1) := by decide +kernel
theorem dX0_nodesOf_25 : decode cX0_nodesOf 25 = .ok (.if_icmp .gt 17, 3) := by decide +kernel
theorem dX0_nodesOf_28 : decode cX0_nodesOf 28 = .ok (.aload_n 0, 1) := by decide +kernel
theorem dX0_nodesOf_29 : decode cX0_nodesOf 29 = .ok (.aload_n 1, 1) := by decide +kernel
theorem dX0_nodesOf_30 : decode cX0_nodesOf 30 = .ok (.iconst 0, 1) := by decide +kernel
theorem dX0_nodesOf_31 : decode cX0_nodesOf 31 = .ok (.iload 6, 2) := by decide +kernel
theorem dX0_nodesOf_33 : decode cX0_nodesOf 33 = .ok (.invokevirtual 32, 3) := by decide +kernel
theorem dX0_nodesOf_36 : decode cX0_nodesOf 36 = .ok (.iinc 6 1, 3) := by decide +kernel
theorem dX0_nodesOf_39 : decode cX0_nodesOf 39 = .ok (.goto (-17), 3) := by decide +kernel
theorem dX0_nodesOf_42 : decode cX0_nodesOf 42 = .ok (.iconst 0, 1) := by decide +kernel
theorem dX0_nodesOf_43 : decode cX0_nodesOf 43 = .ok (.istore 6, 2) := by decide +kernel
theorem dX0_nodesOf_45 : decode cX0_nodesOf 45 = .ok (.iconst 0, 1) := by decide +kernel
theorem dX0_nodesOf_46 : decode cX0_nodesOf 46 = .ok (.istore 7, 2) := by decide +kernel
theorem dX0_nodesOf_48 : decode cX0_nodesOf 48 = .ok (.iload 7, 2) := by decide +kernel
theorem dX0_nodesOf_50 : decode cX0_nodesOf 50 = .ok (.iload 5, 2) := by decide +kernel
theorem dX0_nodesOf_52 : decode cX0_nodesOf 52 = .ok (.if_icmp .gt 32, 3) := by decide +kernel
theorem dX0_nodesOf_55 : decode cX0_nodesOf 55 = .ok (.aload_n 0, 1) := by decide +kernel
theorem dX0_nodesOf_56 : decode cX0_nodesOf 56 = .ok (.aload_n 1, 1) := by decide +kernel
theorem dX0_nodesOf_57 : decode cX0_nodesOf 57 = .ok (.iload 7, 2) := by decide +kernel
theorem dX0_nodesOf_59 : decode cX0_nodesOf 59 = .ok (.invokevirtual 36, 3) := by decide +kernel
theorem dX0_nodesOf_62 : decode cX0_nodesOf 62 = .ok (.istore 8, 2) := by decide +kernel
theorem dX0_nodesOf_64 : decode cX0_nodesOf 64 = .ok (.iload 7, 2) := by decide +kernel
theorem dX0_nodesOf_66 : decode cX0_nodesOf 66 = .ok (.iload 4, 2) := by decide +kernel
theorem dX0_nodesOf_68 : decode cX0_nodesOf 68 = .ok (.if_icmp .lt 10, 3) := by decide +kernel
theorem dX0_nodesOf_71 : decode cX0_nodesOf 71 = .ok (.iload 6, 2) := by decide +kernel
theorem dX0_nodesOf_73 : decode cX0_nodesOf 73 = .ok (.iload 8, 2) := by decide +kernel
theorem dX0_nodesOf_75 : decode cX0_nodesOf 75 = .ok (.iadd, 1) := by decide +kernel
theorem dX0_nodesOf_76 : decode cX0_nodesOf 76 = .ok (.istore 6, 2) := by decide +kernel
theorem dX0_nodesOf_78 : decode cX0_nodesOf 78 = .ok (.iinc 7 1, 3) := by decide +kernel
theorem dX0_nodesOf_81 : decode cX0_nodesOf 81 = .ok (.goto (-33), 3) := by decide +kernel
theorem dX0_nodesOf_84 : decode cX0_nodesOf 84 = .ok (.iload 6, 2) := by decide +kernel
theorem dX0_nodesOf_86 : decode cX0_nodesOf 86 = .ok (.ireturn, 1) := by decide +kernel
set_option maxRecDepth 20000 in
theorem ggX0_halveAll_X0_clearSeats : GoodIn wsX0_halveAll wsX0_clearSeats := goodIn_r _ [6, 7, 8, 33, 34, 35, 36, 37] (by decide +kernel) (by decide +kernel)
set_option maxRecDepth 20000 in
theorem gX0_halveAll_X0_clearSeats : GoodIn wsX0_halveAll (wsV RX0 28 RX0 yX0_clearSeats wsX0_clearSeats) := goodIn_app (goodIn_of _ (by decide +kernel)) ggX0_halveAll_X0_clearSeats
set_option maxRecDepth 20000 in
theorem ggX0_halveAll_X0_takeFirst : GoodIn wsX0_halveAll wsX0_takeFirst := goodIn_r _ [12, 13, 14, 1, 33, 34, 35, 36, 37] (by decide +kernel) (by decide +kernel)
set_option maxRecDepth 20000 in
theorem gX0_halveAll_X0_takeFirst : GoodIn wsX0_halveAll (wsV RX0 40 RX0 yX0_takeFirst wsX0_takeFirst) := goodIn_app (goodIn_of _ (by decide +kernel)) ggX0_halveAll_X0_takeFirst
set_option maxRecDepth 20000 in
theorem ggX0_halveAll_X0_enter : GoodIn wsX0_halveAll wsX0_enter := goodIn_r _ [18, 7, 8, 13, 14, 1, 19, 20, 21, 5, 22, 23, 24, 25, 26, 27, 28, 29, 30, 31, 32, 33, 34, 35, 36, 37] (by decide +kernel) (by decide +kernel)
set_option maxRecDepth 20000 in
theorem gX0_halveAll_X0_enter : GoodIn wsX0_halveAll (wsV RX0 32 RX0 yX0_enter wsX0_enter) := goodIn_app (goodIn_of _ (by decide +kernel)) ggX0_halveAll_X0_enter
set_option maxRecDepth 20000 in
theorem ggX0_halveAll_X0_samePart : GoodIn wsX0_halveAll wsX0_samePart := goodIn_r _ [32, 24, 25, 5, 26, 27, 28, 29] (by decide +kernel) (by decide +kernel)
set_option maxRecDepth 20000 in
theorem gX0_halveAll_X0_samePart : GoodIn wsX0_halveAll (va_wsS RX0 44 yX0_samePart wsX0_samePart) := goodIn_app (goodIn_of _ (by decide +kernel)) ggX0_halveAll_X0_samePart
theorem dX0_halveAll_0 : decode cX0_halveAll 0 = .ok (.aload_n 0, 1) := by decide +kernel
theorem dX0_halveAll_1 : decode cX0_halveAll 1 = .ok (.getfield 22, 3) := by decide +kernel
theorem dX0_halveAll_4 : decode cX0_halveAll 4 = .ok (.istore_n 3, 1) := by decide +kernel
theorem dX0_halveAll_5 : decode cX0_halveAll 5 = .ok (.iconst 0, 1) := by decide +kernel
theorem dX0_halveAll_6 : decode cX0_halveAll 6 = .ok (.istore 4, 2) := by decide +kernel
theorem dX0_halveAll_8 : decode cX0_halveAll 8 = .ok (.aload_n 0, 1) := by decide +kernel
theorem dX0_halveAll_9 : decode cX0_halveAll 9 = .ok (.iconst 2, 1) := by decide +kernel
theorem dX0_halveAll_10 : decode cX0_halveAll 10 = .ok (.iload_n 3, 1) := by decide +kernel
theorem dX0_halveAll_11 : decode cX0_halveAll 11 = .ok (.imul, 1) := by decide +kernel
theorem dX0_halveAll_12 : decode cX0_halveAll 12 = .ok (.invokevirtual 28, 3) := by decide +kernel
theorem dX0_halveAll_15 : decode cX0_halveAll 15 = .ok (.iconst 0, 1) := by decide +kernel
theorem dX0_halveAll_16 : decode cX0_halveAll 16 = .ok (.istore 5, 2) := by decide +kernel
theorem dX0_halveAll_18 : decode cX0_halveAll 18 = .ok (.iload 5, 2) := by decide +kernel
theorem dX0_halveAll_20 : decode cX0_halveAll 20 = .ok (.iload_n 3, 1) := by decide +kernel
theorem dX0_halveAll_21 : decode cX0_halveAll 21 = .ok (.if_icmp .ge 58, 3) := by decide +kernel
theorem dX0_halveAll_24 : decode cX0_halveAll 24 = .ok (.iconst 2, 1) := by decide +kernel
theorem dX0_halveAll_25 : decode cX0_halveAll 25 = .ok (.aload_n 0, 1) := by decide +kernel
theorem dX0_halveAll_26 : decode cX0_halveAll 26 = .ok (.invokevirtual 40, 3) := by decide +kernel
theorem dX0_halveAll_29 : decode cX0_halveAll 29 = .ok (.imul, 1) := by decide +kernel
theorem dX0_halveAll_30 : decode cX0_halveAll 30 = .ok (.istore 6, 2) := by decide +kernel
theorem dX0_halveAll_32 : decode cX0_halveAll 32 = .ok (.aload_n 0, 1) := by decide +kernel
theorem dX0_halveAll_33 : decode cX0_halveAll 33 = .ok (.aload_n 1, 1) := by decide +kernel
theorem dX0_halveAll_34 : decode cX0_halveAll 34 = .ok (.iload_n 2, 1) := by decide +kernel
theorem dX0_halveAll_35 : decode cX0_halveAll 35 = .ok (.iconst 1, 1) := by decide +kernel
theorem dX0_halveAll_36 : decode cX0_halveAll 36 = .ok (.iadd, 1) := by decide +kernel
theorem dX0_halveAll_37 : decode cX0_halveAll 37 = .ok (.iload 6, 2) := by decide +kernel
theorem dX0_halveAll_39 : decode cX0_halveAll 39 = .ok (.invokevirtual 32, 3) := by decide +kernel
theorem dX0_halveAll_42 : decode cX0_halveAll 42 = .ok (.aload_n 1, 1) := by decide +kernel
theorem dX0_halveAll_43 : decode cX0_halveAll 43 = .ok (.iload_n 2, 1) := by decide +kernel
theorem dX0_halveAll_44 : decode cX0_halveAll 44 = .ok (.iconst 1, 1) := by decide +kernel
theorem dX0_halveAll_45 : decode cX0_halveAll 45 = .ok (.iadd, 1) := by decide +kernel
theorem dX0_halveAll_46 : decode cX0_halveAll 46 = .ok (.iload 6, 2) := by decide +kernel
theorem dX0_halveAll_48 : decode cX0_halveAll 48 = .ok (.iload 6, 2) := by decide +kernel
theorem dX0_halveAll_50 : decode cX0_halveAll 50 = .ok (.iconst 1, 1) := by decide +kernel
theorem dX0_halveAll_51 : decode cX0_halveAll 51 = .ok (.iadd, 1) := by decide +kernel
theorem dX0_halveAll_52 : decode cX0_halveAll 52 = .ok (.invokestatic 44, 3) := by decide +kernel
theorem dX0_halveAll_55 : decode cX0_halveAll 55 = .ok (.ifCond .ne 18, 3) := by decide +kernel
theorem dX0_halveAll_58 : decode cX0_halveAll 58 = .ok (.iinc 4 1, 3) := by decide +kernel
theorem dX0_halveAll_61 : decode cX0_halveAll 61 = .ok (.aload_n 0, 1) := by decide +kernel
theorem dX0_halveAll_62 : decode cX0_halveAll 62 = .ok (.aload_n 1, 1) := by decide +kernel
theorem dX0_halveAll_63 : decode cX0_halveAll 63 = .ok (.iload_n 2, 1) := by decide +kernel
theorem dX0_halveAll_64 : decode cX0_halveAll 64 = .ok (.iconst 1, 1) := by decide +kernel
theorem dX0_halveAll_65 : decode cX0_halveAll 65 = .ok (.iadd, 1) := by decide +kernel
theorem dX0_halveAll_66 : decode cX0_halveAll 66 = .ok (.iload 6, 2) := by decide +kernel
theorem dX0_halveAll_68 : decode cX0_halveAll 68 = .ok (.iconst 1, 1) := by decide +kernel
theorem dX0_halveAll_69 : decode cX0_halveAll 69 = .ok (.iadd, 1) := by decide +kernel
theorem dX0_halveAll_70 : decode cX0_halveAll 70 = .ok (.invokevirtual 32, 3) := by decide +kernel
theorem dX0_halveAll_73 : decode cX0_halveAll 73 = .ok (.iinc 5 1, 3) := by decide +kernel
theorem dX0_halveAll_76 : decode cX0_halveAll 76 = .ok (.goto (-58), 3) := by decide +kernel
theorem dX0_halveAll_79 : decode cX0_halveAll 79 = .ok (.iload 4, 2) := by decide +kernel
theorem dX0_halveAll_81 : decode cX0_halveAll 81 = .ok (.ireturn, 1) := by decide +kernel
theorem dX0_clearSeats_0 : decode cX0_clearSeats 0 = .ok (.aload_n 0, 1) := by decide +kernel
theorem dX0_clearSeats_1 : decode cX0_clearSeats 1 = .ok (.iconst 1, 1) := by decide +kernel
theorem dX0_clearSeats_2 : decode cX0_clearSeats 2 = .ok (.putfield 25, 3) := by decide +kernel
theorem dX0_clearSeats_5 : decode cX0_clearSeats 5 = .ok (.aload_n 0, 1) := by decide +kernel
theorem dX0_clearSeats_6 : decode cX0_clearSeats 6 = .ok (.getfield 25, 3) := by decide +kernel
theorem dX0_clearSeats_9 : decode cX0_clearSeats 9 = .ok (.iconst 2, 1) := by decide +kernel
theorem dX0_clearSeats_10 : decode cX0_clearSeats 10 = .ok (.iload_n 1, 1) := by decide +kernel
theorem dX0_clearSeats_11 : decode cX0_clearSeats 11 = .ok (.imul, 1) := by decide +kernel
theorem dX0_clearSeats_12 : decode cX0_clearSeats 12 = .ok (.if_icmp .ge 26, 3) := by decide +kernel
theorem dX0_clearSeats_15 : decode cX0_clearSeats 15 = .ok (.aload_n 0, 1) := by decide +kernel
theorem dX0_clearSeats_16 : decode cX0_clearSeats 16 = .ok (.getfield 25, 3) := by decide +kernel
theorem dX0_clearSeats_19 : decode cX0_clearSeats 19 = .ok (.sipush 4096, 3) := by decide +kernel
theorem dX0_clearSeats_22 : decode cX0_clearSeats 22 = .ok (.if_icmp .ge 16, 3) := by decide +kernel
theorem dX0_clearSeats_25 : decode cX0_clearSeats 25 = .ok (.aload_n 0, 1) := by decide +kernel
theorem dX0_clearSeats_26 : decode cX0_clearSeats 26 = .ok (.dup, 1) := by decide +kernel
theorem dX0_clearSeats_27 : decode cX0_clearSeats 27 = .ok (.getfield 25, 3) := by decide +kernel
theorem dX0_clearSeats_30 : decode cX0_clearSeats 30 = .ok (.iconst 2, 1) := by decide +kernel
theorem dX0_clearSeats_31 : decode cX0_clearSeats 31 = .ok (.imul, 1) := by decide +kernel
theorem dX0_clearSeats_32 : decode cX0_clearSeats 32 = .ok (.putfield 25, 3) := by decide +kernel
theorem dX0_clearSeats_35 : decode cX0_clearSeats 35 = .ok (.goto (-30), 3) := by decide +kernel
theorem dX0_clearSeats_38 : decode cX0_clearSeats 38 = .ok (.iconst 0, 1) := by decide +kernel
theorem dX0_clearSeats_39 : decode cX0_clearSeats 39 = .ok (.istore_n 2, 1) := by decide +kernel
theorem dX0_clearSeats_40 : decode cX0_clearSeats 40 = .ok (.iload_n 2, 1) := by decide +kernel
theorem dX0_clearSeats_41 : decode cX0_clearSeats 41 = .ok (.aload_n 0, 1) := by decide +kernel
theorem dX0_clearSeats_42 : decode cX0_clearSeats 42 = .ok (.getfield 25, 3) := by decide +kernel
theorem dX0_clearSeats_45 : decode cX0_clearSeats 45 = .ok (.if_icmp .ge 16, 3) := by decide +kernel
theorem dX0_clearSeats_48 : decode cX0_clearSeats 48 = .ok (.aload_n 0, 1) := by decide +kernel
theorem dX0_clearSeats_49 : decode cX0_clearSeats 49 = .ok (.getfield 15, 3) := by decide +kernel
theorem dX0_clearSeats_52 : decode cX0_clearSeats 52 = .ok (.iload_n 2, 1) := by decide +kernel
theorem dX0_clearSeats_53 : decode cX0_clearSeats 53 = .ok (.iconst 0, 1) := by decide +kernel
theorem dX0_clearSeats_54 : decode cX0_clearSeats 54 = .ok (.iastore, 1) := by decide +kernel
theorem dX0_clearSeats_55 : decode cX0_clearSeats 55 = .ok (.iinc 2 1, 3) := by decide +kernel
theorem dX0_clearSeats_58 : decode cX0_clearSeats 58 = .ok (.goto (-18), 3) := by decide +kernel
theorem dX0_clearSeats_61 : decode cX0_clearSeats 61 = .ok (.return_, 1) := by decide +kernel
theorem dX0_takeFirst_0 : decode cX0_takeFirst 0 = .ok (.aload_n 0, 1) := by decide +kernel
theorem dX0_takeFirst_1 : decode cX0_takeFirst 1 = .ok (.getfield 11, 3) := by decide +kernel
theorem dX0_takeFirst_4 : decode cX0_takeFirst 4 = .ok (.aload_n 0, 1) := by decide +kernel
theorem dX0_takeFirst_5 : decode cX0_takeFirst 5 = .ok (.getfield 18, 3) := by decide +kernel
theorem dX0_takeFirst_8 : decode cX0_takeFirst 8 = .ok (.iaload, 1) := by decide +kernel
theorem dX0_takeFirst_9 : decode cX0_takeFirst 9 = .ok (.istore_n 1, 1) := by decide +kernel
theorem dX0_takeFirst_10 : decode cX0_takeFirst 10 = .ok (.aload_n 0, 1) := by decide +kernel
theorem dX0_takeFirst_11 : decode cX0_takeFirst 11 = .ok (.aload_n 0, 1) := by decide +kernel
theorem dX0_takeFirst_12 : decode cX0_takeFirst 12 = .ok (.getfield 18, 3) := by decide +kernel
theorem dX0_takeFirst_15 : decode cX0_takeFirst 15 = .ok (.iconst 1, 1) := by decide +kernel
theorem dX0_takeFirst_16 : decode cX0_takeFirst 16 = .ok (.iadd, 1) := by decide +kernel
theorem dX0_takeFirst_17 : decode cX0_takeFirst 17 = .ok (.sipush 4095, 3) := by decide +kernel
theorem dX0_takeFirst_20 : decode cX0_takeFirst 20 = .ok (.iand, 1) := by decide +kernel
theorem dX0_takeFirst_21 : decode cX0_takeFirst 21 = .ok (.putfield 18, 3) := by decide +kernel
theorem dX0_takeFirst_24 : decode cX0_takeFirst 24 = .ok (.aload_n 0, 1) := by decide +kernel
theorem dX0_takeFirst_25 : decode cX0_takeFirst 25 = .ok (.dup, 1) := by decide +kernel
theorem dX0_takeFirst_26 : decode cX0_takeFirst 26 = .ok (.getfield 22, 3) := by decide +kernel
theorem dX0_takeFirst_29 : decode cX0_takeFirst 29 = .ok (.iconst 1, 1) := by decide +kernel
theorem dX0_takeFirst_30 : decode cX0_takeFirst 30 = .ok (.isub, 1) := by decide +kernel
theorem dX0_takeFirst_31 : decode cX0_takeFirst 31 = .ok (.putfield 22, 3) := by decide +kernel
theorem dX0_takeFirst_34 : decode cX0_takeFirst 34 = .ok (.iload_n 1, 1) := by decide +kernel
theorem dX0_takeFirst_35 : decode cX0_takeFirst 35 = .ok (.ireturn, 1) := by decide +kernel
set_option maxRecDepth 20000 in
theorem ggX0_enter_X0_seatOf : GoodIn wsX0_enter wsX0_seatOf := goodIn_r _ [10, 11, 1, 12, 13, 9, 14, 15, 16, 17, 21, 22, 23, 24, 25] (by decide +kernel) (by decide +kernel)
set_option maxRecDepth 20000 in
theorem gX0_enter_X0_seatOf : GoodIn wsX0_enter (wsV RX0 48 RX0 yX0_seatOf wsX0_seatOf) := goodIn_app (goodIn_of _ (by decide +kernel)) ggX0_enter_X0_seatOf
set_option maxRecDepth 20000 in
theorem ggX0_enter_X0_samePart : GoodIn wsX0_enter wsX0_samePart := goodIn_r _ [20, 12, 13, 9, 14, 15, 16, 17] (by decide +kernel) (by decide +kernel)
set_option maxRecDepth 20000 in
theorem gX0_enter_X0_samePart : GoodIn wsX0_enter (va_wsS RX0 44 yX0_samePart wsX0_samePart) := goodIn_app (goodIn_of _ (by decide +kernel)) ggX0_enter_X0_samePart
theorem dX0_enter_0 : decode cX0_enter 0 = .ok (.aload_n 0, 1) := by decide +kernel
theorem dX0_enter_1 : decode cX0_enter 1 = .ok (.aload_n 1, 1) := by decide +kernel
theorem dX0_enter_2 : decode cX0_enter 2 = .ok (.iload_n 2, 1) := by decide +kernel
theorem dX0_enter_3 : decode cX0_enter 3 = .ok (.iload_n 3, 1) := by decide +kernel
theorem dX0_enter_4 : decode cX0_enter 4 = .ok (.invokevirtual 48, 3) := by decide +kernel
theorem dX0_enter_7 : decode cX0_enter 7 = .ok (.istore 4, 2) := by decide +kernel
theorem dX0_enter_9 : decode cX0_enter 9 = .ok (.iconst 0, 1) := by decide +kernel
theorem dX0_enter_10 : decode cX0_enter 10 = .ok (.istore 5, 2) := by decide +kernel
theorem dX0_enter_12 : decode cX0_enter 12 = .ok (.iload 5, 2) := by decide +kernel
theorem dX0_enter_14 : decode cX0_enter 14 = .ok (.aload_n 0, 1) := by decide +kernel
theorem dX0_enter_15 : decode cX0_enter 15 = .ok (.getfield 25, 3) := by decide +kernel
theorem dX0_enter_18 : decode cX0_enter 18 = .ok (.if_icmp .ge 91, 3) := by decide +kernel
theorem dX0_enter_21 : decode cX0_enter 21 = .ok (.aload_n 0, 1) := by decide +kernel
theorem dX0_enter_22 : decode cX0_enter 22 = .ok (.getfield 15, 3) := by decide +kernel
theorem dX0_enter_25 : decode cX0_enter 25 = .ok (.iload 4, 2) := by decide +kernel
theorem dX0_enter_27 : decode cX0_enter 27 = .ok (.iaload, 1) := by decide +kernel
theorem dX0_enter_28 : decode cX0_enter 28 = .ok (.ifCond .ne 43, 3) := by decide +kernel
theorem dX0_enter_31 : decode cX0_enter 31 = .ok (.aload_n 0, 1) := by decide +kernel
theorem dX0_enter_32 : decode cX0_enter 32 = .ok (.getfield 15, 3) := by decide +kernel
theorem dX0_enter_35 : decode cX0_enter 35 = .ok (.iload 4, 2) := by decide +kernel
theorem dX0_enter_37 : decode cX0_enter 37 = .ok (.iload_n 3, 1) := by decide +kernel
theorem dX0_enter_38 : decode cX0_enter 38 = .ok (.iconst 1, 1) := by decide +kernel
theorem dX0_enter_39 : decode cX0_enter 39 = .ok (.iadd, 1) := by decide +kernel
theorem dX0_enter_40 : decode cX0_enter 40 = .ok (.iastore, 1) := by decide +kernel
theorem dX0_enter_41 : decode cX0_enter 41 = .ok (.aload_n 0, 1) := by decide +kernel
theorem dX0_enter_42 : decode cX0_enter 42 = .ok (.getfield 11, 3) := by decide +kernel
theorem dX0_enter_45 : decode cX0_enter 45 = .ok (.aload_n 0, 1) := by decide +kernel
theorem dX0_enter_46 : decode cX0_enter 46 = .ok (.getfield 18, 3) := by decide +kernel
theorem dX0_enter_49 : decode cX0_enter 49 = .ok (.aload_n 0, 1) := by decide +kernel
theorem dX0_enter_50 : decode cX0_enter 50 = .ok (.getfield 22, 3) := by decide +kernel
theorem dX0_enter_53 : decode cX0_enter 53 = .ok (.iadd, 1) := by decide +kernel
theorem dX0_enter_54 : decode cX0_enter 54 = .ok (.sipush 4095, 3) := by decide +kernel
theorem dX0_enter_57 : decode cX0_enter 57 = .ok (.iand, 1) := by decide +kernel
theorem dX0_enter_58 : decode cX0_enter 58 = .ok (.iload_n 3, 1) := by decide +kernel
theorem dX0_enter_59 : decode cX0_enter 59 = .ok (.iastore, 1) := by decide +kernel
theorem dX0_enter_60 : decode cX0_enter 60 = .ok (.aload_n 0, 1) := by decide +kernel
theorem dX0_enter_61 : decode cX0_enter 61 = .ok (.dup, 1) := by decide +kernel
theorem dX0_enter_62 : decode cX0_enter 62 = .ok (.getfield 22, 3) := by decide +kernel
theorem dX0_enter_65 : decode cX0_enter 65 = .ok (.iconst 1, 1) := by decide +kernel
theorem dX0_enter_66 : decode cX0_enter 66 = .ok (.iadd, 1) := by decide +kernel
theorem dX0_enter_67 : decode cX0_enter 67 = .ok (.putfield 22, 3) := by decide +kernel
theorem dX0_enter_70 : decode cX0_enter 70 = .ok (.return_, 1) := by decide +kernel
theorem dX0_enter_71 : decode cX0_enter 71 = .ok (.aload_n 1, 1) := by decide +kernel
theorem dX0_enter_72 : decode cX0_enter 72 = .ok (.iload_n 2, 1) := by decide +kernel
theorem dX0_enter_73 : decode cX0_enter 73 = .ok (.aload_n 0, 1) := by decide +kernel
theorem dX0_enter_74 : decode cX0_enter 74 = .ok (.getfield 15, 3) := by decide +kernel
theorem dX0_enter_77 : decode cX0_enter 77 = .ok (.iload 4, 2) := by decide +kernel
theorem dX0_enter_79 : decode cX0_enter 79 = .ok (.iaload, 1) := by decide +kernel
theorem dX0_enter_80 : decode cX0_enter 80 = .ok (.iconst 1, 1) := by decide +kernel
theorem dX0_enter_81 : decode cX0_enter 81 = .ok (.isub, 1) := by decide +kernel
theorem dX0_enter_82 : decode cX0_enter 82 = .ok (.iload_n 3, 1) := by decide +kernel
theorem dX0_enter_83 : decode cX0_enter 83 = .ok (.invokestatic 44, 3) := by decide +kernel
theorem dX0_enter_86 : decode cX0_enter 86 = .ok (.ifCond .eq 4, 3) := by decide +kernel
theorem dX0_enter_89 : decode cX0_enter 89 = .ok (.return_, 1) := by decide +kernel
theorem dX0_enter_90 : decode cX0_enter 90 = .ok (.iload 4, 2) := by decide +kernel
theorem dX0_enter_92 : decode cX0_enter 92 = .ok (.iconst 1, 1) := by decide +kernel
theorem dX0_enter_93 : decode cX0_enter 93 = .ok (.iadd, 1) := by decide +kernel
theorem dX0_enter_94 : decode cX0_enter 94 = .ok (.aload_n 0, 1) := by decide +kernel
theorem dX0_enter_95 : decode cX0_enter 95 = .ok (.getfield 25, 3) := by decide +kernel
theorem dX0_enter_98 : decode cX0_enter 98 = .ok (.iconst 1, 1) := by decide +kernel
theorem dX0_enter_99 : decode cX0_enter 99 = .ok (.isub, 1) := by decide +kernel
theorem dX0_enter_100 : decode cX0_enter 100 = .ok (.iand, 1) := by decide +kernel
theorem dX0_enter_101 : decode cX0_enter 101 = .ok (.istore 4, 2) := by decide +kernel
theorem dX0_enter_103 : decode cX0_enter 103 = .ok (.iinc 5 1, 3) := by decide +kernel
theorem dX0_enter_106 : decode cX0_enter 106 = .ok (.goto (-94), 3) := by decide +kernel
theorem dX0_enter_109 : decode cX0_enter 109 = .ok (.return_, 1) := by decide +kernel
set_option maxRecDepth 20000 in
theorem ggX0_seatOf_X0_wordsIn : GoodIn wsX0_seatOf wsX0_wordsIn := goodIn_r _ [6] (by decide +kernel) (by decide +kernel)
set_option maxRecDepth 20000 in
theorem gX0_seatOf_X0_wordsIn : GoodIn wsX0_seatOf (va_wsS RX0 52 yX0_wordsIn wsX0_wordsIn) := goodIn_app (goodIn_of _ (by decide +kernel)) ggX0_seatOf_X0_wordsIn
set_option maxRecDepth 20000 in
theorem ggX0_seatOf_X0_partWord : GoodIn wsX0_seatOf wsX0_partWord := goodIn_r _ [9] (by decide +kernel) (by decide +kernel)
set_option maxRecDepth 20000 in
theorem gX0_seatOf_X0_partWord : GoodIn wsX0_seatOf (va_wsS RX0 56 yX0_partWord wsX0_partWord) := goodIn_app (goodIn_of _ (by decide +kernel)) ggX0_seatOf_X0_partWord
theorem dX0_seatOf_0 : decode cX0_seatOf 0 = .ok (.lconst 0, 1) := by decide +kernel
theorem dX0_seatOf_1 : decode cX0_seatOf 1 = .ok (.lstore 4, 2) := by decide +kernel
theorem dX0_seatOf_3 : decode cX0_seatOf 3 = .ok (.iconst 0, 1) := by decide +kernel
theorem dX0_seatOf_4 : decode cX0_seatOf 4 = .ok (.istore 6, 2) := by decide +kernel
theorem dX0_seatOf_6 : decode cX0_seatOf 6 = .ok (.iload 6, 2) := by decide +kernel
theorem dX0_seatOf_8 : decode cX0_seatOf 8 = .ok (.iload_n 2, 1) := by decide +kernel
theorem dX0_seatOf_9 : decode cX0_seatOf 9 = .ok (.invokestatic 52, 3) := by decide +kernel
theorem dX0_seatOf_12 : decode cX0_seatOf 12 = .ok (.if_icmp .ge 40, 3) := by decide +kernel
theorem dX0_seatOf_15 : decode cX0_seatOf 15 = .ok (.lload 4, 2) := by decide +kernel
theorem dX0_seatOf_17 : decode cX0_seatOf 17 = .ok (.aload_n 1, 1) := by decide +kernel
theorem dX0_seatOf_18 : decode cX0_seatOf 18 = .ok (.iload_n 2, 1) := by decide +kernel
theorem dX0_seatOf_19 : decode cX0_seatOf 19 = .ok (.iload_n 3, 1) := by decide +kernel
theorem dX0_seatOf_20 : decode cX0_seatOf 20 = .ok (.iload 6, 2) := by decide +kernel
theorem dX0_seatOf_22 : decode cX0_seatOf 22 = .ok (.invokestatic 56, 3) := by decide +kernel
theorem dX0_seatOf_25 : decode cX0_seatOf 25 = .ok (.lxor, 1) := by decide +kernel
theorem dX0_seatOf_26 : decode cX0_seatOf 26 = .ok (.ldc2_w 60, 3) := by decide +kernel
theorem dX0_seatOf_29 : decode cX0_seatOf 29 = .ok (.lmul, 1) := by decide +kernel
theorem dX0_seatOf_30 : decode cX0_seatOf 30 = .ok (.lstore 4, 2) := by decide +kernel
theorem dX0_seatOf_32 : decode cX0_seatOf 32 = .ok (.lload 4, 2) := by decide +kernel
theorem dX0_seatOf_34 : decode cX0_seatOf 34 = .ok (.lload 4, 2) := by decide +kernel
theorem dX0_seatOf_36 : decode cX0_seatOf 36 = .ok (.bipush 32, 2) := by decide +kernel
theorem dX0_seatOf_38 : decode cX0_seatOf 38 = .ok (.lushr, 1) := by decide +kernel
theorem dX0_seatOf_39 : decode cX0_seatOf 39 = .ok (.lxor, 1) := by decide +kernel
theorem dX0_seatOf_40 : decode cX0_seatOf 40 = .ok (.ldc2_w 60, 3) := by decide +kernel
theorem dX0_seatOf_43 : decode cX0_seatOf 43 = .ok (.lmul, 1) := by decide +kernel
theorem dX0_seatOf_44 : decode cX0_seatOf 44 = .ok (.lstore 4, 2) := by decide +kernel
theorem dX0_seatOf_46 : decode cX0_seatOf 46 = .ok (.iinc 6 1, 3) := by decide +kernel
theorem dX0_seatOf_49 : decode cX0_seatOf 49 = .ok (.goto (-43), 3) := by decide +kernel
theorem dX0_seatOf_52 : decode cX0_seatOf 52 = .ok (.lload 4, 2) := by decide +kernel
theorem dX0_seatOf_54 : decode cX0_seatOf 54 = .ok (.bipush 40, 2) := by decide +kernel
theorem dX0_seatOf_56 : decode cX0_seatOf 56 = .ok (.lushr, 1) := by decide +kernel
theorem dX0_seatOf_57 : decode cX0_seatOf 57 = .ok (.l2i, 1) := by decide +kernel
theorem dX0_seatOf_58 : decode cX0_seatOf 58 = .ok (.aload_n 0, 1) := by decide +kernel
theorem dX0_seatOf_59 : decode cX0_seatOf 59 = .ok (.getfield 25, 3) := by decide +kernel
theorem dX0_seatOf_62 : decode cX0_seatOf 62 = .ok (.iconst 1, 1) := by decide +kernel
theorem dX0_seatOf_63 : decode cX0_seatOf 63 = .ok (.isub, 1) := by decide +kernel
theorem dX0_seatOf_64 : decode cX0_seatOf 64 = .ok (.iand, 1) := by decide +kernel
theorem dX0_seatOf_65 : decode cX0_seatOf 65 = .ok (.ireturn, 1) := by decide +kernel
set_option maxRecDepth 20000 in
theorem ggX0_samePart_X0_wordsIn : GoodIn wsX0_samePart wsX0_wordsIn := goodIn_r _ [4] (by decide +kernel) (by decide +kernel)
set_option maxRecDepth 20000 in
theorem gX0_samePart_X0_wordsIn : GoodIn wsX0_samePart (va_wsS RX0 52 yX0_wordsIn wsX0_wordsIn) := goodIn_app (goodIn_of _ (by decide +kernel)) ggX0_samePart_X0_wordsIn
set_option maxRecDepth 20000 in
theorem ggX0_samePart_X0_partWord : GoodIn wsX0_samePart wsX0_partWord := goodIn_r _ [7] (by decide +kernel) (by decide +kernel)
set_option maxRecDepth 20000 in
theorem gX0_samePart_X0_partWord : GoodIn wsX0_samePart (va_wsS RX0 56 yX0_partWord wsX0_partWord) := goodIn_app (goodIn_of _ (by decide +kernel)) ggX0_samePart_X0_partWord
theorem dX0_samePart_0 : decode cX0_samePart 0 = .ok (.iconst 0, 1) := by decide +kernel
theorem dX0_samePart_1 : decode cX0_samePart 1 = .ok (.istore 4, 2) := by decide +kernel
theorem dX0_samePart_3 : decode cX0_samePart 3 = .ok (.iload 4, 2) := by decide +kernel
theorem dX0_samePart_5 : decode cX0_samePart 5 = .ok (.iload_n 1, 1) := by decide +kernel
theorem dX0_samePart_6 : decode cX0_samePart 6 = .ok (.invokestatic 52, 3) := by decide +kernel
theorem dX0_samePart_9 : decode cX0_samePart 9 = .ok (.if_icmp .ge 31, 3) := by decide +kernel
theorem dX0_samePart_12 : decode cX0_samePart 12 = .ok (.aload_n 0, 1) := by decide +kernel
theorem dX0_samePart_13 : decode cX0_samePart 13 = .ok (.iload_n 1, 1) := by decide +kernel
theorem dX0_samePart_14 : decode cX0_samePart 14 = .ok (.iload_n 2, 1) := by decide +kernel
theorem dX0_samePart_15 : decode cX0_samePart 15 = .ok (.iload 4, 2) := by decide +kernel
theorem dX0_samePart_17 : decode cX0_samePart 17 = .ok (.invokestatic 56, 3) := by decide +kernel
theorem dX0_samePart_20 : decode cX0_samePart 20 = .ok (.aload_n 0, 1) := by decide +kernel
theorem dX0_samePart_21 : decode cX0_samePart 21 = .ok (.iload_n 1, 1) := by decide +kernel
theorem dX0_samePart_22 : decode cX0_samePart 22 = .ok (.iload_n 3, 1) := by decide +kernel
theorem dX0_samePart_23 : decode cX0_samePart 23 = .ok (.iload 4, 2) := by decide +kernel
theorem dX0_samePart_25 : decode cX0_samePart 25 = .ok (.invokestatic 56, 3) := by decide +kernel
theorem dX0_samePart_28 : decode cX0_samePart 28 = .ok (.lcmp, 1) := by decide +kernel
theorem dX0_samePart_29 : decode cX0_samePart 29 = .ok (.ifCond .eq 5, 3) := by decide +kernel
theorem dX0_samePart_32 : decode cX0_samePart 32 = .ok (.iconst 0, 1) := by decide +kernel
theorem dX0_samePart_33 : decode cX0_samePart 33 = .ok (.ireturn, 1) := by decide +kernel
theorem dX0_samePart_34 : decode cX0_samePart 34 = .ok (.iinc 4 1, 3) := by decide +kernel
theorem dX0_samePart_37 : decode cX0_samePart 37 = .ok (.goto (-34), 3) := by decide +kernel
theorem dX0_samePart_40 : decode cX0_samePart 40 = .ok (.iconst 1, 1) := by decide +kernel
theorem dX0_samePart_41 : decode cX0_samePart 41 = .ok (.ireturn, 1) := by decide +kernel
theorem dX0_wordsIn_0 : decode cX0_wordsIn 0 = .ok (.iload_n 0, 1) := by decide +kernel
theorem dX0_wordsIn_1 : decode cX0_wordsIn 1 = .ok (.iconst 4, 1) := by decide +kernel
theorem dX0_wordsIn_2 : decode cX0_wordsIn 2 = .ok (.if_icmp .ge 10, 3) := by decide +kernel
theorem dX0_wordsIn_5 : decode cX0_wordsIn 5 = .ok (.bipush 16, 2) := by decide +kernel
theorem dX0_wordsIn_7 : decode cX0_wordsIn 7 = .ok (.iload_n 0, 1) := by decide +kernel
theorem dX0_wordsIn_8 : decode cX0_wordsIn 8 = .ok (.ishr, 1) := by decide +kernel
theorem dX0_wordsIn_9 : decode cX0_wordsIn 9 = .ok (.goto 4, 3) := by decide +kernel
theorem dX0_wordsIn_12 : decode cX0_wordsIn 12 = .ok (.iconst 1, 1) := by decide +kernel
theorem dX0_wordsIn_13 : decode cX0_wordsIn 13 = .ok (.ireturn, 1) := by decide +kernel
theorem dX0_partWord_0 : decode cX0_partWord 0 = .ok (.sipush 1024, 3) := by decide +kernel
theorem dX0_partWord_3 : decode cX0_partWord 3 = .ok (.iload_n 1, 1) := by decide +kernel
theorem dX0_partWord_4 : decode cX0_partWord 4 = .ok (.ishr, 1) := by decide +kernel
theorem dX0_partWord_5 : decode cX0_partWord 5 = .ok (.istore 4, 2) := by decide +kernel
theorem dX0_partWord_7 : decode cX0_partWord 7 = .ok (.iload_n 2, 1) := by decide +kernel
theorem dX0_partWord_8 : decode cX0_partWord 8 = .ok (.iload 4, 2) := by decide +kernel
theorem dX0_partWord_10 : decode cX0_partWord 10 = .ok (.imul, 1) := by decide +kernel
theorem dX0_partWord_11 : decode cX0_partWord 11 = .ok (.istore 5, 2) := by decide +kernel
theorem dX0_partWord_13 : decode cX0_partWord 13 = .ok (.iload 5, 2) := by decide +kernel
theorem dX0_partWord_15 : decode cX0_partWord 15 = .ok (.sipush 1024, 3) := by decide +kernel
theorem dX0_partWord_18 : decode cX0_partWord 18 = .ok (.irem, 1) := by decide +kernel
theorem dX0_partWord_19 : decode cX0_partWord 19 = .ok (.istore 6, 2) := by decide +kernel
theorem dX0_partWord_21 : decode cX0_partWord 21 = .ok (.aload_n 0, 1) := by decide +kernel
theorem dX0_partWord_22 : decode cX0_partWord 22 = .ok (.iload 5, 2) := by decide +kernel
theorem dX0_partWord_24 : decode cX0_partWord 24 = .ok (.sipush 1024, 3) := by decide +kernel
theorem dX0_partWord_27 : decode cX0_partWord 27 = .ok (.idiv, 1) := by decide +kernel
theorem dX0_partWord_28 : decode cX0_partWord 28 = .ok (.aaload, 1) := by decide +kernel
theorem dX0_partWord_29 : decode cX0_partWord 29 = .ok (.iload 6, 2) := by decide +kernel
theorem dX0_partWord_31 : decode cX0_partWord 31 = .ok (.bipush 64, 2) := by decide +kernel
theorem dX0_partWord_33 : decode cX0_partWord 33 = .ok (.idiv, 1) := by decide +kernel
theorem dX0_partWord_34 : decode cX0_partWord 34 = .ok (.iload_n 3, 1) := by decide +kernel
theorem dX0_partWord_35 : decode cX0_partWord 35 = .ok (.iadd, 1) := by decide +kernel
theorem dX0_partWord_36 : decode cX0_partWord 36 = .ok (.laload, 1) := by decide +kernel
theorem dX0_partWord_37 : decode cX0_partWord 37 = .ok (.lstore 7, 2) := by decide +kernel
theorem dX0_partWord_39 : decode cX0_partWord 39 = .ok (.iload 4, 2) := by decide +kernel
theorem dX0_partWord_41 : decode cX0_partWord 41 = .ok (.bipush 64, 2) := by decide +kernel
theorem dX0_partWord_43 : decode cX0_partWord 43 = .ok (.if_icmp .lt 6, 3) := by decide +kernel
theorem dX0_partWord_46 : decode cX0_partWord 46 = .ok (.lload 7, 2) := by decide +kernel
theorem dX0_partWord_48 : decode cX0_partWord 48 = .ok (.lreturn, 1) := by decide +kernel
theorem dX0_partWord_49 : decode cX0_partWord 49 = .ok (.lload 7, 2) := by decide +kernel
theorem dX0_partWord_51 : decode cX0_partWord 51 = .ok (.iload 6, 2) := by decide +kernel
theorem dX0_partWord_53 : decode cX0_partWord 53 = .ok (.bipush 64, 2) := by decide +kernel
theorem dX0_partWord_55 : decode cX0_partWord 55 = .ok (.irem, 1) := by decide +kernel
theorem dX0_partWord_56 : decode cX0_partWord 56 = .ok (.lushr, 1) := by decide +kernel
theorem dX0_partWord_57 : decode cX0_partWord 57 = .ok (.lconst 1, 1) := by decide +kernel
theorem dX0_partWord_58 : decode cX0_partWord 58 = .ok (.iload 4, 2) := by decide +kernel
theorem dX0_partWord_60 : decode cX0_partWord 60 = .ok (.lshl, 1) := by decide +kernel
theorem dX0_partWord_61 : decode cX0_partWord 61 = .ok (.lconst 1, 1) := by decide +kernel
theorem dX0_partWord_62 : decode cX0_partWord 62 = .ok (.lsub, 1) := by decide +kernel
theorem dX0_partWord_63 : decode cX0_partWord 63 = .ok (.land, 1) := by decide +kernel
theorem dX0_partWord_64 : decode cX0_partWord 64 = .ok (.lreturn, 1) := by decide +kernel
set_option maxRecDepth 20000 in
theorem ggX1_init_X0_init : GoodIn wsX1_init wsX0_init := goodIn_r _ [17, 18, 2, 3, 19, 20, 21, 22, 23, 24, 31, 32, 33, 34, 35] (by decide +kernel) (by decide +kernel)
set_option maxRecDepth 20000 in
theorem gX1_init_X0_init : GoodIn wsX1_init (wsX0_init) := ggX1_init_X0_init
